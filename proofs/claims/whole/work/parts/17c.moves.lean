theorem cd_X9_readTried : yX9_readTried.cls = RX9 ∧ yX9_readTried.cls ≠ "java/lang/invoke/MethodHandle" ∧ yX9_readTried.cls ≠ "java/lang/invoke/VarHandle" ∧ (parseMethodDescriptor yX9_readTried.desc).map (fun d => d.parameters.length) = some 3 := by decide +kernel
abbrev rmX9_readTried : Room := { frames := 2, cells := 0, slots := 0, locals := 42 }
set_option maxHeartbeats 4000000 in
set_option maxRecDepth 100000 in
theorem c_X9_readTried (lL : Launch) (D : va_G) (cI cS : ClassId) (sz : Nat) (C : Co) (x0 : Nat) (g0 : Nat) (q0 : Nat) (e0 : Nat) (t0 : Nat) (r0 : Nat) (h0 : Nat) (i0 : Nat) (z0 : Nat) (y0 : Nat) (tr : Int32) (ft : Int32) (g1 : Nat) (g2 : Nat) (g3 : Nat) (g4 : Nat) (g5 : Nat) (s0 : Nat) (c0 : Nat) (len : Nat) (rl : Int32) (cf : Nat → Int32) (t1 : Nat) (t2 : Nat) (t3 : Nat) (tc : Int32) (uwf : Nat → Int32) (utf : Nat → Int32) (uvf : Nat → Int32) (i : Nat) (nn : Nat) (hC : okC C) (hin : i + nn * 3 ≤ 60) (hn8 : nn ≤ 8) : Met lL yX9_readTried wsX9_readTried rmX9_readTried (va_Pc [.ref x0, .ref s0, .int (nI i), .int (nI nn)] (kB D cI cS [(x0, .inr (8, [.ref g0, .ref q0, .ref e0, .ref t0, .ref r0, .ref h0, .ref i0, .ref z0, .ref y0, .int tr, .int ft])), (g0, .inr (1, [.int (nI (cSp C)), .int (nI (cLa C)), .int (nI (cAg C)), .ref g1, .ref g2, .ref g3, .ref g4, .ref g5])), (s0, .inr (5, [.ref c0, .int (nI len), .int rl])), (c0, .inl (cI, 60, .inl cf)), (t0, .inr (0, [.int tc, .ref t1, .ref t2, .ref t3])), (t1, .inl (cI, 8, .inl uwf)), (t2, .inl (cI, 8, .inl utf)), (t3, .inl (cI, 8, .inl uvf))] sz)) (kQi D (fun (r : Int32) (u : Nat × (Nat → Int32) × (Nat → Int32) × (Nat → Int32)) => r = trN C cf i nn ∧ (r = nI 0 → u.1 = nn ∧ ∀ m, m < nn → (u.2.1 m = cf (i + m * 3) ∧ inB (cf (i + m * 3)) (cLa C) = true) ∧ (u.2.2.1 m = cf (i + m * 3 + 1) ∧ inB (cf (i + m * 3 + 1)) 24 = true) ∧ u.2.2.2 m = cf (i + m * 3 + 2) ∧ inB (cf (i + m * 3 + 2)) (cSp C) = true)) (fun u : Nat × (Nat → Int32) × (Nat → Int32) × (Nat → Int32) => [(x0, .inr (8, [.ref g0, .ref q0, .ref e0, .ref t0, .ref r0, .ref h0, .ref i0, .ref z0, .ref y0, .int tr, .int ft])), (g0, .inr (1, [.int (nI (cSp C)), .int (nI (cLa C)), .int (nI (cAg C)), .ref g1, .ref g2, .ref g3, .ref g4, .ref g5])), (s0, .inr (5, [.ref c0, .int (nI len), .int rl])), (c0, .inl (cI, 60, .inl cf)), (t0, .inr (0, [.int (nI u.1), .ref t1, .ref t2, .ref t3])), (t1, .inl (cI, 8, .inl u.2.1)), (t2, .inl (cI, 8, .inl u.2.2.1)), (t3, .inl (cI, 8, .inl u.2.2.2))]) (va_A [(x0, .inr (8, [.ref g0, .ref q0, .ref e0, .ref t0, .ref r0, .ref h0, .ref i0, .ref z0, .ref y0, .int tr, .int ft])), (g0, .inr (1, [.int (nI (cSp C)), .int (nI (cLa C)), .int (nI (cAg C)), .ref g1, .ref g2, .ref g3, .ref g4, .ref g5])), (s0, .inr (5, [.ref c0, .int (nI len), .int rl])), (c0, .inl (cI, 60, .inl cf)), (t0, .inr (0, [.int tc, .ref t1, .ref t2, .ref t3])), (t1, .inl (cI, 8, .inl uwf)), (t2, .inl (cI, 8, .inl utf)), (t3, .inl (cI, 8, .inl uvf))] sz)) 0 0 (va_A [(x0, .inr (8, [.ref g0, .ref q0, .ref e0, .ref t0, .ref r0, .ref h0, .ref i0, .ref z0, .ref y0, .int tr, .int ft])), (g0, .inr (1, [.int (nI (cSp C)), .int (nI (cLa C)), .int (nI (cAg C)), .ref g1, .ref g2, .ref g3, .ref g4, .ref g5])), (s0, .inr (5, [.ref c0, .int (nI len), .int rl])), (c0, .inl (cI, 60, .inl cf)), (t0, .inr (0, [.int tc, .ref t1, .ref t2, .ref t3])), (t1, .inl (cI, 8, .inl uwf)), (t2, .inl (cI, 8, .inl utf)), (t3, .inl (cI, 8, .inl uvf))] sz) := by
  refine Met.ofW (cc := cX9_readTried) (maxL := 9) (ret := (some .int)) (by decide) rfl ?_
  intro pP eE sS mM args below meth cC s₁ B hml hv
  obtain ⟨rfl, hsz, hP, hK, hD0⟩ := hv
  have hx := B.exec
  have hb := B.bytes
  have hr := B.returns
  have hts := atoms_spec (ws := wsX9_readTried) B.pre
  have hown : sS.vm.findClass RX9 = some mM.cls := findClass_of_methodNamed B.named
  have hlocks := B.notSynchronized
  subst hsz
  have hD := hD0.self (sz := sS.heap.size)
  generalize hAe : va_A [(x0, .inr (8, [.ref g0, .ref q0, .ref e0, .ref t0, .ref r0, .ref h0, .ref i0, .ref z0, .ref y0, .int tr, .int ft])), (g0, .inr (1, [.int (nI (cSp C)), .int (nI (cLa C)), .int (nI (cAg C)), .ref g1, .ref g2, .ref g3, .ref g4, .ref g5])), (s0, .inr (5, [.ref c0, .int (nI len), .int rl])), (c0, .inl (cI, 60, .inl cf)), (t0, .inr (0, [.int tc, .ref t1, .ref t2, .ref t3])), (t1, .inl (cI, 8, .inl uwf)), (t2, .inl (cI, 8, .inl utf)), (t3, .inl (cI, 8, .inl uvf))] sS.heap.size = A at hD ⊢
  have hA : ∀ q : Nat, sS.heap.size ≤ q → A q := fun q h => by rw [← hAe]; exact Or.inr h
  have hS : va_S A sS.heap sS.heap [] := va_S.rf
  have hP : va_P D vwCl [(x0, .inr (8, [.ref g0, .ref q0, .ref e0, .ref t0, .ref r0, .ref h0, .ref i0, .ref z0, .ref y0, .int tr, .int ft])), (g0, .inr (1, [.int (nI (cSp C)), .int (nI (cLa C)), .int (nI (cAg C)), .ref g1, .ref g2, .ref g3, .ref g4, .ref g5])), (s0, .inr (5, [.ref c0, .int (nI len), .int rl])), (c0, .inl (cI, 60, .inl cf)), (t0, .inr (0, [.int tc, .ref t1, .ref t2, .ref t3])), (t1, .inl (cI, 8, .inl uwf)), (t2, .inl (cI, 8, .inl utf)), (t3, .inl (cI, 8, .inl uvf))] sS.heap := hP
  have hD : va_D A [(x0, .inr (8, [.ref g0, .ref q0, .ref e0, .ref t0, .ref r0, .ref h0, .ref i0, .ref z0, .ref y0, .int tr, .int ft])), (g0, .inr (1, [.int (nI (cSp C)), .int (nI (cLa C)), .int (nI (cAg C)), .ref g1, .ref g2, .ref g3, .ref g4, .ref g5])), (s0, .inr (5, [.ref c0, .int (nI len), .int rl])), (c0, .inl (cI, 60, .inl cf)), (t0, .inr (0, [.int tc, .ref t1, .ref t2, .ref t3])), (t1, .inl (cI, 8, .inl uwf)), (t2, .inl (cI, 8, .inl utf)), (t3, .inl (cI, 8, .inl uvf))] := hD
  have hf_14 := hts (.fieldLink RX9 14 "OldLamps" "ground" "LOldLamps$Ground;") (List.mem_of_getElem? (i := 4) rfl)
  have hf_28 := hts (.fieldLink RX9 28 "OldLamps" "tried" "LOldLamps$Entries;") (List.mem_of_getElem? (i := 1) rfl)
  have hf_103 := hts (.fieldLink RX9 103 "OldLamps$Entries" "count" "I") (List.mem_of_getElem? (i := 2) rfl)
  have hf_216 := hts (.fieldLink RX9 216 "OldLamps$Sheet" "cells" "[I") (List.mem_of_getElem? (i := 3) rfl)
  have hwX1 : ∀ w ∈ wsX10, w ∈ wsX9_readTried := fun _ h => List.mem_cons_of_mem _ (List.mem_append_left _ (List.mem_append_left _ (List.mem_append_right _ h)))
  have hwX6 : ∀ w ∈ wsX60, w ∈ wsX9_readTried := fun _ h => List.mem_cons_of_mem _ (List.mem_append_left _ (List.mem_append_right _ h))
  have hwX9 : ∀ w ∈ wsX90, w ∈ wsX9_readTried := fun _ h => List.mem_cons_of_mem _ (List.mem_append_left _ (List.mem_append_left _ (List.mem_append_left _ (List.mem_append_right _ h))))
  have hl := lv_entry ([.ref x0, .ref s0, .int (nI i), .int (nI nn)]) (n := 9) (Nat.le_of_ble_eq_true rfl)
  rw [lg_entry_eq]
  generalize (lg_sl ([.ref x0, .ref s0, .int (nI i), .int (nI nn)]) ++ List.replicate (9 - (lg_sl ([.ref x0, .ref s0, .int (nI i), .int (nI nn)])).length) Slot.unset).toArray = ls at hl ⊢
  have hl : lv_has ls 9 [(0, .ref x0), (1, .ref s0), (2, .int (nI i)), (3, .int (nI nn))] := hl
  obtain ⟨QQ, hQQ⟩ : ∃ QQ : State → Prop, QQ = MQ below (kQi D (fun (r : Int32) (u : Nat × (Nat → Int32) × (Nat → Int32) × (Nat → Int32)) => r = trN C cf i nn ∧ (r = nI 0 → u.1 = nn ∧ ∀ m, m < nn → (u.2.1 m = cf (i + m * 3) ∧ inB (cf (i + m * 3)) (cLa C) = true) ∧ (u.2.2.1 m = cf (i + m * 3 + 1) ∧ inB (cf (i + m * 3 + 1)) 24 = true) ∧ u.2.2.2 m = cf (i + m * 3 + 2) ∧ inB (cf (i + m * 3 + 2)) (cSp C) = true)) (fun u : Nat × (Nat → Int32) × (Nat → Int32) × (Nat → Int32) => [(x0, .inr (8, [.ref g0, .ref q0, .ref e0, .ref t0, .ref r0, .ref h0, .ref i0, .ref z0, .ref y0, .int tr, .int ft])), (g0, .inr (1, [.int (nI (cSp C)), .int (nI (cLa C)), .int (nI (cAg C)), .ref g1, .ref g2, .ref g3, .ref g4, .ref g5])), (s0, .inr (5, [.ref c0, .int (nI len), .int rl])), (c0, .inl (cI, 60, .inl cf)), (t0, .inr (0, [.int (nI u.1), .ref t1, .ref t2, .ref t3])), (t1, .inl (cI, 8, .inl u.2.1)), (t2, .inl (cI, 8, .inl u.2.2.1)), (t3, .inl (cI, 8, .inl u.2.2.2))]) A) ([.ref x0, .ref s0, .int (nI i), .int (nI nn)]).toArray sS 0 0 A := ⟨_, rfl⟩
  refine kk_QQ hQQ.symm ?_
  obtain ⟨hC1, hC2, hC3, hC4, hC5, hC6, hC7, hC8⟩ := id hC
  refine lv_aload_n hx hb dX9_readTried_0 rfl (lv_at hl 0 rfl) ?_
  refine va_get (D := D) (ci := 8) (v := .ref t0) (C := RX9) (T := TX9) (N := 11) hx hb hts hwX9 hown hK hP 0 rfl rfl 3 (by decide) hf_28 (fun _ h9 => h9) rfl dX9_readTried_1 ?_
  refine lv_iconst (v := nI 0) hx hb dX9_readTried_4 (by decide +kernel) ?_
  refine va_put (D := D) (ci := 0) (v := .int (nI 0)) (ty := .int) (C := RX1) (T := TX1) (N := 4) hx hb hts hwX1 tyX1 tyX1_ok nmX1 hown hK hP hD hS 4 rfl rfl 0 (by decide) hf_103 (fun _ h9 => h9) rfl (by decide +kernel) rfl rfl (Nat.le_of_ble_eq_true rfl) dX9_readTried_5 (fun H locs hP hD hS => ?_)
  have hP : va_P D vwCl [(x0, .inr (8, [.ref g0, .ref q0, .ref e0, .ref t0, .ref r0, .ref h0, .ref i0, .ref z0, .ref y0, .int tr, .int ft])), (g0, .inr (1, [.int (nI (cSp C)), .int (nI (cLa C)), .int (nI (cAg C)), .ref g1, .ref g2, .ref g3, .ref g4, .ref g5])), (s0, .inr (5, [.ref c0, .int (nI len), .int rl])), (c0, .inl (cI, 60, .inl cf)), (t0, .inr (0, [.int (nI 0), .ref t1, .ref t2, .ref t3])), (t1, .inl (cI, 8, .inl uwf)), (t2, .inl (cI, 8, .inl utf)), (t3, .inl (cI, 8, .inl uvf))] H := hP
  have hD : va_D A [(x0, .inr (8, [.ref g0, .ref q0, .ref e0, .ref t0, .ref r0, .ref h0, .ref i0, .ref z0, .ref y0, .int tr, .int ft])), (g0, .inr (1, [.int (nI (cSp C)), .int (nI (cLa C)), .int (nI (cAg C)), .ref g1, .ref g2, .ref g3, .ref g4, .ref g5])), (s0, .inr (5, [.ref c0, .int (nI len), .int rl])), (c0, .inl (cI, 60, .inl cf)), (t0, .inr (0, [.int (nI 0), .ref t1, .ref t2, .ref t3])), (t1, .inl (cI, 8, .inl uwf)), (t2, .inl (cI, 8, .inl utf)), (t3, .inl (cI, 8, .inl uvf))] := hD
  refine lv_iconst (v := nI 0) hx hb dX9_readTried_8 (by decide +kernel) ?_
  refine lv_istore (lv' := [(4, .int (nI 0)), (0, .ref x0), (1, .ref s0), (2, .int (nI i)), (3, .int (nI nn))]) hx hb dX9_readTried_9 hl (by decide) rfl (fun ls hl => ?_)
  have L_11 : ∀ (n_11 : Nat) (j : Nat) (uwX : Nat → Int32) (utX : Nat → Int32) (uvX : Nat → Int32), (j ≤ nn) → (∀ m, m < j → trC C cf i m = nI 0) → (∀ m, m < j → (uwX m = cf (i + m * 3) ∧ inB (cf (i + m * 3)) (cLa C) = true) ∧ (utX m = cf (i + m * 3 + 1) ∧ inB (cf (i + m * 3 + 1)) 24 = true) ∧ uvX m = cf (i + m * 3 + 2) ∧ inB (cf (i + m * 3 + 2)) (cSp C) = true) → nn + 1 ≤ j + n_11 → ∀ (H : Heap) (locs : List Loc), va_P D vwCl [(x0, .inr (8, [.ref g0, .ref q0, .ref e0, .ref t0, .ref r0, .ref h0, .ref i0, .ref z0, .ref y0, .int tr, .int ft])), (g0, .inr (1, [.int (nI (cSp C)), .int (nI (cLa C)), .int (nI (cAg C)), .ref g1, .ref g2, .ref g3, .ref g4, .ref g5])), (s0, .inr (5, [.ref c0, .int (nI len), .int rl])), (c0, .inl (cI, 60, .inl cf)), (t0, .inr (0, [.int (nI j), .ref t1, .ref t2, .ref t3])), (t1, .inl (cI, 8, .inl uwX)), (t2, .inl (cI, 8, .inl utX)), (t3, .inl (cI, 8, .inl uvX))] H → va_D A [(x0, .inr (8, [.ref g0, .ref q0, .ref e0, .ref t0, .ref r0, .ref h0, .ref i0, .ref z0, .ref y0, .int tr, .int ft])), (g0, .inr (1, [.int (nI (cSp C)), .int (nI (cLa C)), .int (nI (cAg C)), .ref g1, .ref g2, .ref g3, .ref g4, .ref g5])), (s0, .inr (5, [.ref c0, .int (nI len), .int rl])), (c0, .inl (cI, 60, .inl cf)), (t0, .inr (0, [.int (nI j), .ref t1, .ref t2, .ref t3])), (t1, .inl (cI, 8, .inl uwX)), (t2, .inl (cI, 8, .inl utX)), (t3, .inl (cI, 8, .inl uvX))] → va_S A sS.heap H locs → ∀ (ls : Array Slot), lv_has ls 9 [(4, .int (nI j)), (0, .ref x0), (1, .ref s0), (2, .int (nI i)), (3, .int (nI nn))] → W pP lL eE (headSpec wsX9_readTried rmX9_readTried).room sS mM ([.ref x0, .ref s0, .int (nI i), .int (nI nn)]).toArray below meth cC H locs 0 0 QQ (F0 mM 11 ls []) := by
    intro n_11
    induction n_11 with
    | zero =>
      intro j uwX utX uvX hj z1 z2 hn_11 H locs hP hD hS ls hl
      exact absurd hn_11 (by omega)
    | succ n_11 ih_11 =>
      intro j uwX utX uvX hj z1 z2 hn_11 H locs hP hD hS ls hl
      refine lv_iload hx hb dX9_readTried_11 (lv_at hl 0 rfl) ?_
      refine lv_iload_n hx hb dX9_readTried_13 rfl (lv_at hl 4 rfl) ?_
      refine kk_icmp_ge (tgt := 115) hx hb dX9_readTried_14 (by decide) (by omega) (by omega) (fun c_1 => ?_) (fun c_1 => ?_)
      · skip
        refine lv_iconst (v := nI 0) hx hb dX9_readTried_115 (by decide +kernel) ?_
        have hq : (nI 0) = trN C cf i nn ∧ ((nI 0) = nI 0 → j = nn ∧ ∀ m, m < nn → (uwX m = cf (i + m * 3) ∧ inB (cf (i + m * 3)) (cLa C) = true) ∧ (utX m = cf (i + m * 3 + 1) ∧ inB (cf (i + m * 3 + 1)) 24 = true) ∧ uvX m = cf (i + m * 3 + 2) ∧ inB (cf (i + m * 3 + 2)) (cSp C) = true) := by
          have e_j : j = nn := by omega
          subst e_j
          exact ⟨(trN_0 z1).symm, fun _ => ⟨rfl, z2⟩⟩
        refine kk_QQ hQQ ?_
        exact W.iret (v := nI 0) hx hb hr (fun t ht hW => ⟨⟨nI 0, (j, uwX, utX, uvX), rfl, hq, by show va_P D vwCl _ t.heap; rw [ht]; exact hP⟩, hS.F ht⟩) hS.2.2 dX9_readTried_116
      · skip
        refine lv_iload_n hx hb dX9_readTried_17 rfl (lv_at hl 3 rfl) ?_
        refine lv_iload hx hb dX9_readTried_18 (lv_at hl 0 rfl) ?_
        refine lv_iconst (v := nI 3) hx hb dX9_readTried_20 (by decide +kernel) ?_
        refine kk_imul hx hb dX9_readTried_21 ?_
        refine kk_iadd hx hb dX9_readTried_22 ?_
        refine lv_istore (lv' := [(5, .int (nI (i + (j * 3)))), (4, .int (nI j)), (0, .ref x0), (1, .ref s0), (2, .int (nI i)), (3, .int (nI nn))]) hx hb dX9_readTried_23 hl (by decide) rfl (fun ls hl => ?_)
        refine lv_aload_n hx hb dX9_readTried_25 rfl (lv_at hl 3 rfl) ?_
        refine va_get (D := D) (ci := 5) (v := .ref c0) (C := RX6) (T := TX6) (N := 3) hx hb hts hwX6 hown hK hP 2 rfl rfl 0 (by decide) hf_216 (fun _ h9 => h9) rfl dX9_readTried_26 ?_
        refine lv_iload hx hb dX9_readTried_29 (lv_at hl 0 rfl) ?_
        refine kk_iald hx hb hK hP 3 rfl rfl (i := i + (j * 3)) (by omega) (by decide) dX9_readTried_31 ?_
        refine lv_istore (lv' := [(6, .int (cf (i + (j * 3)))), (5, .int (nI (i + (j * 3)))), (4, .int (nI j)), (0, .ref x0), (1, .ref s0), (2, .int (nI i)), (3, .int (nI nn))]) hx hb dX9_readTried_32 hl (by decide) rfl (fun ls hl => ?_)
        refine lv_aload_n hx hb dX9_readTried_34 rfl (lv_at hl 4 rfl) ?_
        refine va_get (D := D) (ci := 5) (v := .ref c0) (C := RX6) (T := TX6) (N := 3) hx hb hts hwX6 hown hK hP 2 rfl rfl 0 (by decide) hf_216 (fun _ h9 => h9) rfl dX9_readTried_35 ?_
        refine lv_iload hx hb dX9_readTried_38 (lv_at hl 1 rfl) ?_
        refine lv_iconst (v := nI 1) hx hb dX9_readTried_40 (by decide +kernel) ?_
        refine kk_iadd hx hb dX9_readTried_41 ?_
        refine kk_iald hx hb hK hP 3 rfl rfl (i := (i + (j * 3)) + 1) (by omega) (by decide) dX9_readTried_42 ?_
        refine lv_istore (lv' := [(7, .int (cf ((i + (j * 3)) + 1))), (6, .int (cf (i + (j * 3)))), (5, .int (nI (i + (j * 3)))), (4, .int (nI j)), (0, .ref x0), (1, .ref s0), (2, .int (nI i)), (3, .int (nI nn))]) hx hb dX9_readTried_43 hl (by decide) rfl (fun ls hl => ?_)
        refine lv_aload_n hx hb dX9_readTried_45 rfl (lv_at hl 5 rfl) ?_
        refine va_get (D := D) (ci := 5) (v := .ref c0) (C := RX6) (T := TX6) (N := 3) hx hb hts hwX6 hown hK hP 2 rfl rfl 0 (by decide) hf_216 (fun _ h9 => h9) rfl dX9_readTried_46 ?_
        refine lv_iload hx hb dX9_readTried_49 (lv_at hl 2 rfl) ?_
        refine lv_iconst (v := nI 2) hx hb dX9_readTried_51 (by decide +kernel) ?_
        refine kk_iadd hx hb dX9_readTried_52 ?_
        refine kk_iald hx hb hK hP 3 rfl rfl (i := (i + (j * 3)) + 2) (by omega) (by decide) dX9_readTried_53 ?_
        refine lv_istore (lv' := [(8, .int (cf ((i + (j * 3)) + 2))), (7, .int (cf ((i + (j * 3)) + 1))), (6, .int (cf (i + (j * 3)))), (5, .int (nI (i + (j * 3)))), (4, .int (nI j)), (0, .ref x0), (1, .ref s0), (2, .int (nI i)), (3, .int (nI nn))]) hx hb dX9_readTried_54 hl (by decide) rfl (fun ls hl => ?_)
        refine lv_aload_n hx hb dX9_readTried_56 rfl (lv_at hl 5 rfl) ?_
        refine va_get (D := D) (ci := 8) (v := .ref g0) (C := RX9) (T := TX9) (N := 11) hx hb hts hwX9 hown hK hP 0 rfl rfl 0 (by decide) hf_14 (fun _ h9 => h9) rfl dX9_readTried_57 ?_
        refine lv_iload hx hb dX9_readTried_60 (lv_at hl 2 rfl) ?_
        have o_2 : (cLa C) ≤ 4 := by omega
        refine vp_callSi (W.runV (As := [.int (cf (i + (j * 3)))]) (rest := []) ⟨hx, hb, hml, hown, hts⟩ (c_X2_hasLamp lL D cI cS g0 (cSp C) (cLa C) (.int (nI (cAg C))) (.ref g1) (.ref g2) (.ref g3) (.ref g4) (.ref g5) (cf (i + (j * 3))) o_2) (cwV 1 hts gX9_readTried_X2_hasLamp rfl rfl rfl cd_X2_hasLamp ⟨Nat.le_of_ble_eq_true rfl, Nat.le_of_ble_eq_true rfl⟩) ⟨kBp_blind, va_recv hK hP (ci := 1) (q0 := 1) rfl rfl, fun U hU hW => ⟨rfl, by rw [hU]; exact hP.sub [1] rfl, va_K.moved hW.alike hK⟩⟩ rfl rfl hl.1 rfl (lv_room (Nat.le_of_ble_eq_true rfl)) dX9_readTried_62 ⟨Nat.le_of_ble_eq_true rfl, Nat.le_of_ble_eq_true rfl⟩) (fun r_3 hw_3 => ?_)
        obtain rfl : r_3 = kb (inB (cf (i + (j * 3))) (cLa C)) := hw_3
        -- if (inB (cf (i + (j * 3))) (cLa C))
        refine kk_ifb_ne (tgt := 70) hx hb dX9_readTried_65 (by decide) (fun hb_4 => ?_) (fun hb_4 => ?_)
        · skip
          refine lv_iload hx hb dX9_readTried_70 (lv_at hl 1 rfl) ?_
          refine vp_callSi (W.runS (As := [.int (cf ((i + (j * 3)) + 1))]) (rest := []) ⟨hx, hb, hml, hown, hts⟩ (c_X9_isWatch lL D cI cS (cf ((i + (j * 3)) + 1))) (va_cwS 1 hts gX9_readTried_X9_isWatch rfl rfl rfl cd_X9_isWatch ⟨Nat.le_of_ble_eq_true rfl, Nat.le_of_ble_eq_true rfl⟩) ⟨kBp_blind, fun U hU hW => ⟨rfl, by rw [hU]; exact hP.sub [] rfl, va_K.moved hW.alike hK⟩⟩ rfl rfl hl.1 rfl (lv_room (Nat.le_of_ble_eq_true rfl)) dX9_readTried_72 ⟨Nat.le_of_ble_eq_true rfl, Nat.le_of_ble_eq_true rfl⟩) (fun r_5 hw_5 => ?_)
          obtain rfl : r_5 = kb (inB (cf ((i + (j * 3)) + 1)) 24) := hw_5
          -- if (inB (cf ((i + (j * 3)) + 1)) 24)
          refine kk_ifb_ne (tgt := 81) hx hb dX9_readTried_75 (by decide) (fun hb_6 => ?_) (fun hb_6 => ?_)
          · skip
            refine lv_aload_n hx hb dX9_readTried_81 rfl (lv_at hl 5 rfl) ?_
            refine va_get (D := D) (ci := 8) (v := .ref g0) (C := RX9) (T := TX9) (N := 11) hx hb hts hwX9 hown hK hP 0 rfl rfl 0 (by decide) hf_14 (fun _ h9 => h9) rfl dX9_readTried_82 ?_
            refine lv_iload hx hb dX9_readTried_85 (lv_at hl 0 rfl) ?_
            have o_7 : (cSp C) ≤ 4 := by omega
            refine vp_callSi (W.runV (As := [.int (cf ((i + (j * 3)) + 2))]) (rest := []) ⟨hx, hb, hml, hown, hts⟩ (c_X2_hasSpot lL D cI cS g0 (cSp C) (cLa C) (.int (nI (cAg C))) (.ref g1) (.ref g2) (.ref g3) (.ref g4) (.ref g5) (cf ((i + (j * 3)) + 2)) o_7) (cwV 1 hts gX9_readTried_X2_hasSpot rfl rfl rfl cd_X2_hasSpot ⟨Nat.le_of_ble_eq_true rfl, Nat.le_of_ble_eq_true rfl⟩) ⟨kBp_blind, va_recv hK hP (ci := 1) (q0 := 1) rfl rfl, fun U hU hW => ⟨rfl, by rw [hU]; exact hP.sub [1] rfl, va_K.moved hW.alike hK⟩⟩ rfl rfl hl.1 rfl (lv_room (Nat.le_of_ble_eq_true rfl)) dX9_readTried_87 ⟨Nat.le_of_ble_eq_true rfl, Nat.le_of_ble_eq_true rfl⟩) (fun r_8 hw_8 => ?_)
            obtain rfl : r_8 = kb (inB (cf ((i + (j * 3)) + 2)) (cSp C)) := hw_8
            -- if (inB (cf ((i + (j * 3)) + 2)) (cSp C))
            refine kk_ifb_ne (tgt := 95) hx hb dX9_readTried_90 (by decide) (fun hb_9 => ?_) (fun hb_9 => ?_)
            · skip
              refine lv_aload_n hx hb dX9_readTried_95 rfl (lv_at hl 5 rfl) ?_
              refine va_get (D := D) (ci := 8) (v := .ref t0) (C := RX9) (T := TX9) (N := 11) hx hb hts hwX9 hown hK hP 0 rfl rfl 3 (by decide) hf_28 (fun _ h9 => h9) rfl dX9_readTried_96 ?_
              refine lv_iload hx hb dX9_readTried_99 (lv_at hl 2 rfl) ?_
              refine lv_iload hx hb dX9_readTried_101 (lv_at hl 1 rfl) ?_
              refine lv_iload hx hb dX9_readTried_103 (lv_at hl 0 rfl) ?_
              have o_10 : j ≤ 8 := by omega
              have hF := va_free (wc := [(t0, .inr (0, [.int (nI j), .ref t1, .ref t2, .ref t3])), (t1, .inl (cI, 8, .inl uwX)), (t2, .inl (cI, 8, .inl utX)), (t3, .inl (cI, 8, .inl uvX))]) hD hS hA [4, 5, 6, 7] rfl
              refine va_calli (va_runV (As := [.int (cf (i + (j * 3))), .int (cf ((i + (j * 3)) + 1)), .int (cf ((i + (j * 3)) + 2))]) (rest := []) ⟨hx, hb, hml, hown, hts⟩ (c_X1_append lL D cI cS _ t0 t1 t2 t3 j uwX utX uvX (cf (i + (j * 3))) (cf ((i + (j * 3)) + 1)) (cf ((i + (j * 3)) + 2)) o_10) (cwV 3 hts gX9_readTried_X1_append rfl rfl rfl cd_X1_append ⟨Nat.le_of_ble_eq_true rfl, Nat.le_of_ble_eq_true rfl⟩) ⟨kB_blind, va_recv hK hP (ci := 0) (q0 := 4) rfl rfl, fun U hU hW => ⟨rfl, by rw [hU], by rw [hU]; exact hP.sub [4, 5, 6, 7] rfl, va_K.moved hW.alike hK, (hD.sub [4, 5, 6, 7] (by decide) rfl).weaken (fun _ _ _ _ => trivial)⟩⟩ rfl rfl hl.1 rfl (lv_room (Nat.le_of_ble_eq_true rfl)) dX9_readTried_105 ⟨Nat.le_of_ble_eq_true rfl, Nat.le_of_ble_eq_true rfl⟩) hS (fun q _ h => hF q h) hF (fun r_11 u_11 t H1 locs ht hvm hw_11 hB hz1 hk1 hS => ?_)
              obtain ⟨dn_11, wg_11, tg_11, vg_11⟩ := u_11
              obtain ⟨hP, hD⟩ := kk_join2 (wc := [(t0, .inr (0, [.int (nI j), .ref t1, .ref t2, .ref t3])), (t1, .inl (cI, 8, .inl uwX)), (t2, .inl (cI, 8, .inl utX)), (t3, .inl (cI, 8, .inl uvX))]) (w1 := [(t0, .inr (0, [.int (nI dn_11), .ref t1, .ref t2, .ref t3])), (t1, .inl (cI, 8, .inl wg_11)), (t2, .inl (cI, 8, .inl tg_11)), (t3, .inl (cI, 8, .inl vg_11))]) (ws' := [(x0, .inr (8, [.ref g0, .ref q0, .ref e0, .ref t0, .ref r0, .ref h0, .ref i0, .ref z0, .ref y0, .int tr, .int ft])), (g0, .inr (1, [.int (nI (cSp C)), .int (nI (cLa C)), .int (nI (cAg C)), .ref g1, .ref g2, .ref g3, .ref g4, .ref g5])), (s0, .inr (5, [.ref c0, .int (nI len), .int rl])), (c0, .inl (cI, 60, .inl cf)), (t0, .inr (0, [.int (nI dn_11), .ref t1, .ref t2, .ref t3])), (t1, .inl (cI, 8, .inl wg_11)), (t2, .inl (cI, 8, .inl tg_11)), (t3, .inl (cI, 8, .inl vg_11))]) (wr := [(x0, .inr (8, [.ref g0, .ref q0, .ref e0, .ref t0, .ref r0, .ref h0, .ref i0, .ref z0, .ref y0, .int tr, .int ft])), (g0, .inr (1, [.int (nI (cSp C)), .int (nI (cLa C)), .int (nI (cAg C)), .ref g1, .ref g2, .ref g3, .ref g4, .ref g5])), (s0, .inr (5, [.ref c0, .int (nI len), .int rl])), (c0, .inl (cI, 60, .inl cf))]) (H1 := H1) hP hD [4, 5, 6, 7] [0, 1, 2, 3] rfl rfl rfl rfl 8 rfl (by decide) [x0, g0, s0, c0, t0, t1, t2, t3] rfl rfl hk1 (by rw [← ht]; exact hB)
              have hw_11 : (j = 8 ∧ r_11 = (-4) ∧ dn_11 = j ∧ wg_11 = uwX ∧ tg_11 = utX ∧ vg_11 = uvX) ∨ (j < 8 ∧ r_11 = nI j ∧ dn_11 = j + 1 ∧ wg_11 = upd uwX j (cf (i + (j * 3))) ∧ tg_11 = upd utX j (cf ((i + (j * 3)) + 1)) ∧ vg_11 = upd uvX j (cf ((i + (j * 3)) + 2))) := hw_11
              clear hF hB hk1 hz1 hvm
              clear ht
              generalize H1 = H at hP hS ⊢
              obtain ⟨dq0, dq1, dq2, dq3, dq4, dq5⟩ := hw_11.resolve_left (fun z => by omega)
              subst dq1 dq2 dq3 dq4 dq5
              refine lv_pop hx hb dX9_readTried_108 rfl ?_
              refine lv_iinc (v := nI (j + 1)) (lv' := [(4, .int (nI (j + 1))), (8, .int (cf ((i + (j * 3)) + 2))), (7, .int (cf ((i + (j * 3)) + 1))), (6, .int (cf (i + (j * 3)))), (5, .int (nI (i + (j * 3)))), (0, .ref x0), (1, .ref s0), (2, .int (nI i)), (3, .int (nI nn))]) hx hb dX9_readTried_109 hl (k := 4) rfl (nI_add j 1) (by decide) rfl (fun ls hl => ?_)
              refine lv_goto (tgt := 11) hx hb dX9_readTried_112 (by decide) ?_
              have o_12 : (j + 1) ≤ nn := by omega
              have o_13 : ∀ m, m < (j + 1) → trC C cf i m = nI 0 := by
                intro m h
                by_cases e : m = j
                · subst e; simp only [trC, hb_4, hb_6, hb_9, cond_true]
                · exact z1 m (by omega)
              have o_14 : ∀ m, m < (j + 1) → ((upd uwX j (cf (i + j * 3))) m = cf (i + m * 3) ∧ inB (cf (i + m * 3)) (cLa C) = true) ∧ ((upd utX j (cf (i + j * 3 + 1))) m = cf (i + m * 3 + 1) ∧ inB (cf (i + m * 3 + 1)) 24 = true) ∧ (upd uvX j (cf (i + j * 3 + 2))) m = cf (i + m * 3 + 2) ∧ inB (cf (i + m * 3 + 2)) (cSp C) = true := by
                intro m h
                by_cases e : m = j
                · subst e; exact ⟨⟨up_at _ _ _, hb_4⟩, ⟨up_at _ _ _, hb_6⟩, up_at _ _ _, hb_9⟩
                · rw [up_ne _ _ e, up_ne _ _ e, up_ne _ _ e]; exact z2 m (by omega)
              have o_15 : nn + 1 ≤ (j + 1) + n_11 := by omega
              exact ih_11 (j + 1) (upd uwX j (cf (i + j * 3))) (upd utX j (cf (i + j * 3 + 1))) (upd uvX j (cf (i + j * 3 + 2))) o_12 o_13 o_14 o_15 _ _ hP hD hS ls (lv_sub hl [0, 5, 6, 7, 8] rfl)
            · skip
              refine lv_iconst (v := (-1 : Int32)) hx hb dX9_readTried_93 (by decide +kernel) ?_
              have hq : (-1 : Int32) = trN C cf i nn ∧ ((-1 : Int32) = nI 0 → j = nn ∧ ∀ m, m < nn → (uwX m = cf (i + m * 3) ∧ inB (cf (i + m * 3)) (cLa C) = true) ∧ (utX m = cf (i + m * 3 + 1) ∧ inB (cf (i + m * 3 + 1)) 24 = true) ∧ uvX m = cf (i + m * 3 + 2) ∧ inB (cf (i + m * 3 + 2)) (cSp C) = true) := by refine ⟨(trN_f z1 (r := (-1)) (by simp only [trC, hb_4, hb_6, hb_9, cond_true, cond_false]) (by decide +kernel) (by omega)).symm, fun z => absurd z (by decide +kernel)⟩
              refine kk_QQ hQQ ?_
              exact W.iret (v := (-1 : Int32)) hx hb hr (fun t ht hW => ⟨⟨(-1 : Int32), (j, uwX, utX, uvX), rfl, hq, by show va_P D vwCl _ t.heap; rw [ht]; exact hP⟩, hS.F ht⟩) hS.2.2 dX9_readTried_94
          · skip
            refine lv_bipush (v := (-2 : Int32)) hx hb dX9_readTried_78 (by decide +kernel) ?_
            have hq : (-2 : Int32) = trN C cf i nn ∧ ((-2 : Int32) = nI 0 → j = nn ∧ ∀ m, m < nn → (uwX m = cf (i + m * 3) ∧ inB (cf (i + m * 3)) (cLa C) = true) ∧ (utX m = cf (i + m * 3 + 1) ∧ inB (cf (i + m * 3 + 1)) 24 = true) ∧ uvX m = cf (i + m * 3 + 2) ∧ inB (cf (i + m * 3 + 2)) (cSp C) = true) := by refine ⟨(trN_f z1 (r := (-2)) (by simp only [trC, hb_4, hb_6, cond_true, cond_false]) (by decide +kernel) (by omega)).symm, fun z => absurd z (by decide +kernel)⟩
            refine kk_QQ hQQ ?_
            exact W.iret (v := (-2 : Int32)) hx hb hr (fun t ht hW => ⟨⟨(-2 : Int32), (j, uwX, utX, uvX), rfl, hq, by show va_P D vwCl _ t.heap; rw [ht]; exact hP⟩, hS.F ht⟩) hS.2.2 dX9_readTried_80
        · skip
          refine lv_iconst (v := (-1 : Int32)) hx hb dX9_readTried_68 (by decide +kernel) ?_
          have hq : (-1 : Int32) = trN C cf i nn ∧ ((-1 : Int32) = nI 0 → j = nn ∧ ∀ m, m < nn → (uwX m = cf (i + m * 3) ∧ inB (cf (i + m * 3)) (cLa C) = true) ∧ (utX m = cf (i + m * 3 + 1) ∧ inB (cf (i + m * 3 + 1)) 24 = true) ∧ uvX m = cf (i + m * 3 + 2) ∧ inB (cf (i + m * 3 + 2)) (cSp C) = true) := by refine ⟨(trN_f z1 (r := (-1)) (by simp only [trC, hb_4, cond_true, cond_false]) (by decide +kernel) (by omega)).symm, fun z => absurd z (by decide +kernel)⟩
          refine kk_QQ hQQ ?_
          exact W.iret (v := (-1 : Int32)) hx hb hr (fun t ht hW => ⟨⟨(-1 : Int32), (j, uwX, utX, uvX), rfl, hq, by show va_P D vwCl _ t.heap; rw [ht]; exact hP⟩, hS.F ht⟩) hS.2.2 dX9_readTried_69
  have o_16 : 0 ≤ nn := by omega
  have o_17 : ∀ m, m < 0 → trC C cf i m = nI 0 := by intro m h; omega
  have o_18 : ∀ m, m < 0 → (uwf m = cf (i + m * 3) ∧ inB (cf (i + m * 3)) (cLa C) = true) ∧ (utf m = cf (i + m * 3 + 1) ∧ inB (cf (i + m * 3 + 1)) 24 = true) ∧ uvf m = cf (i + m * 3 + 2) ∧ inB (cf (i + m * 3 + 2)) (cSp C) = true := by intro m h; omega
  have o_19 : nn + 1 ≤ 0 + (nn + 1) := by omega
  exact L_11 (nn + 1) 0 uwf utf uvf o_16 o_17 o_18 o_19 _ _ hP hD hS ls (lv_sub hl [0, 1, 2, 3, 4] rfl)

abbrev rmX9_moves : Room := { frames := 4, cells := 0, slots := 0, locals := 114 }
set_option maxHeartbeats 4000000 in
set_option maxRecDepth 100000 in
theorem c_X9_moves (lL : Launch) (D : va_G) (cI cS : ClassId) (sz : Nat) (C : Co) (T : Mv) (E : Mv) (x0 : Nat) (g0 : Nat) (q0 : Nat) (e0 : Nat) (t0 : Nat) (r0 : Nat) (h0 : Nat) (i0 : Nat) (z0 : Nat) (y0 : Nat) (tr : Int32) (ft : Int32) (x1 : Int32) (x2 : Int32) (x3 : Int32) (x4 : Int32) (x5 : Int32) (x6 : Int32) (s0 : Nat) (c0 : Nat) (len : Nat) (rl : Int32) (cf : Nat → Int32) (ys : Nat → Option Nat) (hsel : ∀ j, x3 = nI j → j < 4 → ys j = some s0) (hlen : len ≤ 60) (g1 : Nat) (g2 : Nat) (g3 : Nat) (g4 : Nat) (g5 : Nat) (sk : Nat → Int32) (sh : Nat → Int32) (ki : Nat → Int32) (st : Nat → Int32) (cl : Nat → Int32) (h1 : Nat) (h2 : Nat) (h3 : Nat) (h4 : Nat) (h5 : Nat) (pA : Nat → Int32) (gA : Nat → Int32) (fA : Nat → Int32) (dA : Nat → Int32) (lA : Nat → Int32) (t1 : Nat) (t2 : Nat) (t3 : Nat) (tc : Int32) (uwf : Nat → Int32) (utf : Nat → Int32) (uvf : Nat → Int32) (hrC : repC C sk sh ki st cl) (hX : okX C T E) : Met lL yX9_moves wsX9_moves rmX9_moves (va_Pc [.ref x0, .int x1, .int x2, .int x3, .int x4, .int x5, .int x6] (kB D cI cS [(x0, .inr (8, [.ref g0, .ref q0, .ref e0, .ref t0, .ref r0, .ref h0, .ref i0, .ref z0, .ref y0, .int tr, .int ft])), (y0, .inl (cS, 4, .inr (.inr (.inr (.inr ys))))), (s0, .inr (5, [.ref c0, .int (nI len), .int rl])), (c0, .inl (cI, 60, .inl cf)), (g0, .inr (1, [.int (nI (cSp C)), .int (nI (cLa C)), .int (nI (cAg C)), .ref g1, .ref g2, .ref g3, .ref g4, .ref g5])), (g1, .inl (cI, 6, .inl sk)), (g2, .inl (cI, 4, .inl sh)), (g3, .inl (cI, 4, .inl ki)), (g4, .inl (cI, 4, .inl st)), (g5, .inl (cI, 4, .inl cl)), (t0, .inr (0, [.int tc, .ref t1, .ref t2, .ref t3])), (t1, .inl (cI, 8, .inl uwf)), (t2, .inl (cI, 8, .inl utf)), (t3, .inl (cI, 8, .inl uvf)), (h0, .inr (7, [.ref h1, .ref h2, .ref h3, .ref h4, .ref h5])), (h1, .inl (cI, 96, .inl pA)), (h2, .inl (cI, 96, .inl gA)), (h3, .inl (cI, 96, .inl fA)), (h4, .inl (cI, 96, .inl dA)), (h5, .inl (cI, 96, .inl lA))] sz)) (kQi D (fun (r : Int32) (u : Int32 × Int32 × (Nat → Int32) × (Nat → Int32) × (Nat → Int32) × (Nat → Int32) × (Nat → Int32) × (Nat → Int32) × (Nat → Int32) × (Nat → Int32)) => r = sp_moves C rl len cf x1 x2 x3 x4 x5 x6 ∧ u.1 = nf_moves C rl len x1 x2 x3 x4 x5 x6) (fun u : Int32 × Int32 × (Nat → Int32) × (Nat → Int32) × (Nat → Int32) × (Nat → Int32) × (Nat → Int32) × (Nat → Int32) × (Nat → Int32) × (Nat → Int32) => [(x0, .inr (8, [.ref g0, .ref q0, .ref e0, .ref t0, .ref r0, .ref h0, .ref i0, .ref z0, .ref y0, .int tr, .int u.1])), (y0, .inl (cS, 4, .inr (.inr (.inr (.inr ys))))), (s0, .inr (5, [.ref c0, .int (nI len), .int rl])), (c0, .inl (cI, 60, .inl cf)), (g0, .inr (1, [.int (nI (cSp C)), .int (nI (cLa C)), .int (nI (cAg C)), .ref g1, .ref g2, .ref g3, .ref g4, .ref g5])), (g1, .inl (cI, 6, .inl sk)), (g2, .inl (cI, 4, .inl sh)), (g3, .inl (cI, 4, .inl ki)), (g4, .inl (cI, 4, .inl st)), (g5, .inl (cI, 4, .inl cl)), (t0, .inr (0, [.int u.2.1, .ref t1, .ref t2, .ref t3])), (t1, .inl (cI, 8, .inl u.2.2.1)), (t2, .inl (cI, 8, .inl u.2.2.2.1)), (t3, .inl (cI, 8, .inl u.2.2.2.2.1)), (h0, .inr (7, [.ref h1, .ref h2, .ref h3, .ref h4, .ref h5])), (h1, .inl (cI, 96, .inl u.2.2.2.2.2.1)), (h2, .inl (cI, 96, .inl u.2.2.2.2.2.2.1)), (h3, .inl (cI, 96, .inl u.2.2.2.2.2.2.2.1)), (h4, .inl (cI, 96, .inl u.2.2.2.2.2.2.2.2.1)), (h5, .inl (cI, 96, .inl u.2.2.2.2.2.2.2.2.2))]) (va_A [(x0, .inr (8, [.ref g0, .ref q0, .ref e0, .ref t0, .ref r0, .ref h0, .ref i0, .ref z0, .ref y0, .int tr, .int ft])), (y0, .inl (cS, 4, .inr (.inr (.inr (.inr ys))))), (s0, .inr (5, [.ref c0, .int (nI len), .int rl])), (c0, .inl (cI, 60, .inl cf)), (g0, .inr (1, [.int (nI (cSp C)), .int (nI (cLa C)), .int (nI (cAg C)), .ref g1, .ref g2, .ref g3, .ref g4, .ref g5])), (g1, .inl (cI, 6, .inl sk)), (g2, .inl (cI, 4, .inl sh)), (g3, .inl (cI, 4, .inl ki)), (g4, .inl (cI, 4, .inl st)), (g5, .inl (cI, 4, .inl cl)), (t0, .inr (0, [.int tc, .ref t1, .ref t2, .ref t3])), (t1, .inl (cI, 8, .inl uwf)), (t2, .inl (cI, 8, .inl utf)), (t3, .inl (cI, 8, .inl uvf)), (h0, .inr (7, [.ref h1, .ref h2, .ref h3, .ref h4, .ref h5])), (h1, .inl (cI, 96, .inl pA)), (h2, .inl (cI, 96, .inl gA)), (h3, .inl (cI, 96, .inl fA)), (h4, .inl (cI, 96, .inl dA)), (h5, .inl (cI, 96, .inl lA))] sz)) 0 0 (va_A [(x0, .inr (8, [.ref g0, .ref q0, .ref e0, .ref t0, .ref r0, .ref h0, .ref i0, .ref z0, .ref y0, .int tr, .int ft])), (y0, .inl (cS, 4, .inr (.inr (.inr (.inr ys))))), (s0, .inr (5, [.ref c0, .int (nI len), .int rl])), (c0, .inl (cI, 60, .inl cf)), (g0, .inr (1, [.int (nI (cSp C)), .int (nI (cLa C)), .int (nI (cAg C)), .ref g1, .ref g2, .ref g3, .ref g4, .ref g5])), (g1, .inl (cI, 6, .inl sk)), (g2, .inl (cI, 4, .inl sh)), (g3, .inl (cI, 4, .inl ki)), (g4, .inl (cI, 4, .inl st)), (g5, .inl (cI, 4, .inl cl)), (t0, .inr (0, [.int tc, .ref t1, .ref t2, .ref t3])), (t1, .inl (cI, 8, .inl uwf)), (t2, .inl (cI, 8, .inl utf)), (t3, .inl (cI, 8, .inl uvf)), (h0, .inr (7, [.ref h1, .ref h2, .ref h3, .ref h4, .ref h5])), (h1, .inl (cI, 96, .inl pA)), (h2, .inl (cI, 96, .inl gA)), (h3, .inl (cI, 96, .inl fA)), (h4, .inl (cI, 96, .inl dA)), (h5, .inl (cI, 96, .inl lA))] sz) := by
  refine Met.ofW (cc := cX9_moves) (maxL := 9) (ret := (some .int)) (by decide) rfl ?_
  intro pP eE sS mM args below meth cC s₁ B hml hv
  obtain ⟨rfl, hsz, hP, hK, hD0⟩ := hv
  have hx := B.exec
  have hb := B.bytes
  have hr := B.returns
  have hts := atoms_spec (ws := wsX9_moves) B.pre
  have hown : sS.vm.findClass RX9 = some mM.cls := findClass_of_methodNamed B.named
  have hlocks := B.notSynchronized
  subst hsz
  have hD := hD0.self (sz := sS.heap.size)
  generalize hAe : va_A [(x0, .inr (8, [.ref g0, .ref q0, .ref e0, .ref t0, .ref r0, .ref h0, .ref i0, .ref z0, .ref y0, .int tr, .int ft])), (y0, .inl (cS, 4, .inr (.inr (.inr (.inr ys))))), (s0, .inr (5, [.ref c0, .int (nI len), .int rl])), (c0, .inl (cI, 60, .inl cf)), (g0, .inr (1, [.int (nI (cSp C)), .int (nI (cLa C)), .int (nI (cAg C)), .ref g1, .ref g2, .ref g3, .ref g4, .ref g5])), (g1, .inl (cI, 6, .inl sk)), (g2, .inl (cI, 4, .inl sh)), (g3, .inl (cI, 4, .inl ki)), (g4, .inl (cI, 4, .inl st)), (g5, .inl (cI, 4, .inl cl)), (t0, .inr (0, [.int tc, .ref t1, .ref t2, .ref t3])), (t1, .inl (cI, 8, .inl uwf)), (t2, .inl (cI, 8, .inl utf)), (t3, .inl (cI, 8, .inl uvf)), (h0, .inr (7, [.ref h1, .ref h2, .ref h3, .ref h4, .ref h5])), (h1, .inl (cI, 96, .inl pA)), (h2, .inl (cI, 96, .inl gA)), (h3, .inl (cI, 96, .inl fA)), (h4, .inl (cI, 96, .inl dA)), (h5, .inl (cI, 96, .inl lA))] sS.heap.size = A at hD ⊢
  have hA : ∀ q : Nat, sS.heap.size ≤ q → A q := fun q h => by rw [← hAe]; exact Or.inr h
  have hS : va_S A sS.heap sS.heap [] := va_S.rf
  have hP : va_P D vwCl [(x0, .inr (8, [.ref g0, .ref q0, .ref e0, .ref t0, .ref r0, .ref h0, .ref i0, .ref z0, .ref y0, .int tr, .int ft])), (y0, .inl (cS, 4, .inr (.inr (.inr (.inr ys))))), (s0, .inr (5, [.ref c0, .int (nI len), .int rl])), (c0, .inl (cI, 60, .inl cf)), (g0, .inr (1, [.int (nI (cSp C)), .int (nI (cLa C)), .int (nI (cAg C)), .ref g1, .ref g2, .ref g3, .ref g4, .ref g5])), (g1, .inl (cI, 6, .inl sk)), (g2, .inl (cI, 4, .inl sh)), (g3, .inl (cI, 4, .inl ki)), (g4, .inl (cI, 4, .inl st)), (g5, .inl (cI, 4, .inl cl)), (t0, .inr (0, [.int tc, .ref t1, .ref t2, .ref t3])), (t1, .inl (cI, 8, .inl uwf)), (t2, .inl (cI, 8, .inl utf)), (t3, .inl (cI, 8, .inl uvf)), (h0, .inr (7, [.ref h1, .ref h2, .ref h3, .ref h4, .ref h5])), (h1, .inl (cI, 96, .inl pA)), (h2, .inl (cI, 96, .inl gA)), (h3, .inl (cI, 96, .inl fA)), (h4, .inl (cI, 96, .inl dA)), (h5, .inl (cI, 96, .inl lA))] sS.heap := hP
  have hD : va_D A [(x0, .inr (8, [.ref g0, .ref q0, .ref e0, .ref t0, .ref r0, .ref h0, .ref i0, .ref z0, .ref y0, .int tr, .int ft])), (y0, .inl (cS, 4, .inr (.inr (.inr (.inr ys))))), (s0, .inr (5, [.ref c0, .int (nI len), .int rl])), (c0, .inl (cI, 60, .inl cf)), (g0, .inr (1, [.int (nI (cSp C)), .int (nI (cLa C)), .int (nI (cAg C)), .ref g1, .ref g2, .ref g3, .ref g4, .ref g5])), (g1, .inl (cI, 6, .inl sk)), (g2, .inl (cI, 4, .inl sh)), (g3, .inl (cI, 4, .inl ki)), (g4, .inl (cI, 4, .inl st)), (g5, .inl (cI, 4, .inl cl)), (t0, .inr (0, [.int tc, .ref t1, .ref t2, .ref t3])), (t1, .inl (cI, 8, .inl uwf)), (t2, .inl (cI, 8, .inl utf)), (t3, .inl (cI, 8, .inl uvf)), (h0, .inr (7, [.ref h1, .ref h2, .ref h3, .ref h4, .ref h5])), (h1, .inl (cI, 96, .inl pA)), (h2, .inl (cI, 96, .inl gA)), (h3, .inl (cI, 96, .inl fA)), (h4, .inl (cI, 96, .inl dA)), (h5, .inl (cI, 96, .inl lA))] := hD
  have hf_14 := hts (.fieldLink RX9 14 "OldLamps" "ground" "LOldLamps$Ground;") (List.mem_of_getElem? (i := 2) rfl)
  have hf_28 := hts (.fieldLink RX9 28 "OldLamps" "tried" "LOldLamps$Entries;") (List.mem_of_getElem? (i := 5) rfl)
  have hf_37 := hts (.fieldLink RX9 37 "OldLamps" "now" "LOldLamps$Watches;") (List.mem_of_getElem? (i := 4) rfl)
  have hf_53 := hts (.fieldLink RX9 53 "OldLamps" "sheets" "[LOldLamps$Sheet;") (List.mem_of_getElem? (i := 3) rfl)
  have hf_61 := hts (.fieldLink RX9 61 "OldLamps" "latestFault" "I") (List.mem_of_getElem? (i := 1) rfl)
  have hwX9 : ∀ w ∈ wsX90, w ∈ wsX9_moves := fun _ h => List.mem_cons_of_mem _ (List.mem_append_left _ (List.mem_append_left _ (List.mem_append_left _ (List.mem_append_left _ (List.mem_append_right _ h)))))
  have hl := lv_entry ([.ref x0, .int x1, .int x2, .int x3, .int x4, .int x5, .int x6]) (n := 9) (Nat.le_of_ble_eq_true rfl)
  rw [lg_entry_eq]
  generalize (lg_sl ([.ref x0, .int x1, .int x2, .int x3, .int x4, .int x5, .int x6]) ++ List.replicate (9 - (lg_sl ([.ref x0, .int x1, .int x2, .int x3, .int x4, .int x5, .int x6])).length) Slot.unset).toArray = ls at hl ⊢
  have hl : lv_has ls 9 [(0, .ref x0), (1, .int x1), (2, .int x2), (3, .int x3), (4, .int x4), (5, .int x5), (6, .int x6)] := hl
  obtain ⟨QQ, hQQ⟩ : ∃ QQ : State → Prop, QQ = MQ below (kQi D (fun (r : Int32) (u : Int32 × Int32 × (Nat → Int32) × (Nat → Int32) × (Nat → Int32) × (Nat → Int32) × (Nat → Int32) × (Nat → Int32) × (Nat → Int32) × (Nat → Int32)) => r = sp_moves C rl len cf x1 x2 x3 x4 x5 x6 ∧ u.1 = nf_moves C rl len x1 x2 x3 x4 x5 x6) (fun u : Int32 × Int32 × (Nat → Int32) × (Nat → Int32) × (Nat → Int32) × (Nat → Int32) × (Nat → Int32) × (Nat → Int32) × (Nat → Int32) × (Nat → Int32) => [(x0, .inr (8, [.ref g0, .ref q0, .ref e0, .ref t0, .ref r0, .ref h0, .ref i0, .ref z0, .ref y0, .int tr, .int u.1])), (y0, .inl (cS, 4, .inr (.inr (.inr (.inr ys))))), (s0, .inr (5, [.ref c0, .int (nI len), .int rl])), (c0, .inl (cI, 60, .inl cf)), (g0, .inr (1, [.int (nI (cSp C)), .int (nI (cLa C)), .int (nI (cAg C)), .ref g1, .ref g2, .ref g3, .ref g4, .ref g5])), (g1, .inl (cI, 6, .inl sk)), (g2, .inl (cI, 4, .inl sh)), (g3, .inl (cI, 4, .inl ki)), (g4, .inl (cI, 4, .inl st)), (g5, .inl (cI, 4, .inl cl)), (t0, .inr (0, [.int u.2.1, .ref t1, .ref t2, .ref t3])), (t1, .inl (cI, 8, .inl u.2.2.1)), (t2, .inl (cI, 8, .inl u.2.2.2.1)), (t3, .inl (cI, 8, .inl u.2.2.2.2.1)), (h0, .inr (7, [.ref h1, .ref h2, .ref h3, .ref h4, .ref h5])), (h1, .inl (cI, 96, .inl u.2.2.2.2.2.1)), (h2, .inl (cI, 96, .inl u.2.2.2.2.2.2.1)), (h3, .inl (cI, 96, .inl u.2.2.2.2.2.2.2.1)), (h4, .inl (cI, 96, .inl u.2.2.2.2.2.2.2.2.1)), (h5, .inl (cI, 96, .inl u.2.2.2.2.2.2.2.2.2))]) A) ([.ref x0, .int x1, .int x2, .int x3, .int x4, .int x5, .int x6]).toArray sS 0 0 A := ⟨_, rfl⟩
  refine kk_QQ hQQ.symm ?_
  obtain ⟨hX1, hX2, hX3, hX4⟩ := okX_le hX
  refine lv_aload_n hx hb dX9_moves_0 rfl (lv_at hl 0 rfl) ?_
  refine lv_iconst (v := nI 0) hx hb dX9_moves_1 (by decide +kernel) ?_
  refine va_put (D := D) (ci := 8) (v := .int (nI 0)) (ty := .int) (C := RX9) (T := TX9) (N := 11) hx hb hts hwX9 tyX9 tyX9_ok nmX9 hown hK hP hD hS 0 rfl rfl 10 (by decide) hf_61 (fun _ h9 => h9) rfl (by decide +kernel) rfl rfl (Nat.le_of_ble_eq_true rfl) dX9_moves_2 (fun H locs hP hD hS => ?_)
  have hP : va_P D vwCl [(x0, .inr (8, [.ref g0, .ref q0, .ref e0, .ref t0, .ref r0, .ref h0, .ref i0, .ref z0, .ref y0, .int tr, .int (nI 0)])), (y0, .inl (cS, 4, .inr (.inr (.inr (.inr ys))))), (s0, .inr (5, [.ref c0, .int (nI len), .int rl])), (c0, .inl (cI, 60, .inl cf)), (g0, .inr (1, [.int (nI (cSp C)), .int (nI (cLa C)), .int (nI (cAg C)), .ref g1, .ref g2, .ref g3, .ref g4, .ref g5])), (g1, .inl (cI, 6, .inl sk)), (g2, .inl (cI, 4, .inl sh)), (g3, .inl (cI, 4, .inl ki)), (g4, .inl (cI, 4, .inl st)), (g5, .inl (cI, 4, .inl cl)), (t0, .inr (0, [.int tc, .ref t1, .ref t2, .ref t3])), (t1, .inl (cI, 8, .inl uwf)), (t2, .inl (cI, 8, .inl utf)), (t3, .inl (cI, 8, .inl uvf)), (h0, .inr (7, [.ref h1, .ref h2, .ref h3, .ref h4, .ref h5])), (h1, .inl (cI, 96, .inl pA)), (h2, .inl (cI, 96, .inl gA)), (h3, .inl (cI, 96, .inl fA)), (h4, .inl (cI, 96, .inl dA)), (h5, .inl (cI, 96, .inl lA))] H := hP
  have hD : va_D A [(x0, .inr (8, [.ref g0, .ref q0, .ref e0, .ref t0, .ref r0, .ref h0, .ref i0, .ref z0, .ref y0, .int tr, .int (nI 0)])), (y0, .inl (cS, 4, .inr (.inr (.inr (.inr ys))))), (s0, .inr (5, [.ref c0, .int (nI len), .int rl])), (c0, .inl (cI, 60, .inl cf)), (g0, .inr (1, [.int (nI (cSp C)), .int (nI (cLa C)), .int (nI (cAg C)), .ref g1, .ref g2, .ref g3, .ref g4, .ref g5])), (g1, .inl (cI, 6, .inl sk)), (g2, .inl (cI, 4, .inl sh)), (g3, .inl (cI, 4, .inl ki)), (g4, .inl (cI, 4, .inl st)), (g5, .inl (cI, 4, .inl cl)), (t0, .inr (0, [.int tc, .ref t1, .ref t2, .ref t3])), (t1, .inl (cI, 8, .inl uwf)), (t2, .inl (cI, 8, .inl utf)), (t3, .inl (cI, 8, .inl uvf)), (h0, .inr (7, [.ref h1, .ref h2, .ref h3, .ref h4, .ref h5])), (h1, .inl (cI, 96, .inl pA)), (h2, .inl (cI, 96, .inl gA)), (h3, .inl (cI, 96, .inl fA)), (h4, .inl (cI, 96, .inl dA)), (h5, .inl (cI, 96, .inl lA))] := hD
  refine lv_aload_n hx hb dX9_moves_5 rfl (lv_at hl 0 rfl) ?_
  refine va_get (D := D) (ci := 8) (v := .ref g0) (C := RX9) (T := TX9) (N := 11) hx hb hts hwX9 hown hK hP 0 rfl rfl 0 (by decide) hf_14 (fun _ h9 => h9) rfl dX9_moves_6 ?_
  refine lv_iload_n hx hb dX9_moves_9 rfl (lv_at hl 1 rfl) ?_
  have o_1 : (cSp C) ≤ 4 := by omega
  refine vp_callSi (W.runV (As := [.int x1]) (rest := []) ⟨hx, hb, hml, hown, hts⟩ (c_X2_hasSpot lL D cI cS g0 (cSp C) (cLa C) (.int (nI (cAg C))) (.ref g1) (.ref g2) (.ref g3) (.ref g4) (.ref g5) x1 o_1) (cwV 1 hts gX9_moves_X2_hasSpot rfl rfl rfl cd_X2_hasSpot ⟨Nat.le_of_ble_eq_true rfl, Nat.le_of_ble_eq_true rfl⟩) ⟨kBp_blind, va_recv hK hP (ci := 1) (q0 := 4) rfl rfl, fun U hU hW => ⟨rfl, by rw [hU]; exact hP.sub [4] rfl, va_K.moved hW.alike hK⟩⟩ rfl rfl hl.1 rfl (lv_room (Nat.le_of_ble_eq_true rfl)) dX9_moves_10 ⟨Nat.le_of_ble_eq_true rfl, Nat.le_of_ble_eq_true rfl⟩) (fun r_2 hw_2 => ?_)
  obtain rfl : r_2 = kb (inB x1 (cSp C)) := hw_2
  -- if (inB x1 (cSp C))
  refine kk_ifb_ne (tgt := 18) hx hb dX9_moves_13 (by decide) (fun hb_3 => ?_) (fun hb_3 => ?_)
  · skip
    obtain ⟨x1N, hx1N, rfl⟩ := inB_t hb_3
    have t_x1 := nI_clamp (show x1N < 2 ^ 31 by omega)
    obtain ⟨hC, hM, hE⟩ := okX_sp hX hx1N
    refine lv_iload_n hx hb dX9_moves_18 rfl (lv_at hl 2 rfl) ?_
    refine vp_callSi (W.runS (As := [.int x2]) (rest := []) ⟨hx, hb, hml, hown, hts⟩ (c_X9_isWatch lL D cI cS x2) (va_cwS 1 hts gX9_moves_X9_isWatch rfl rfl rfl cd_X9_isWatch ⟨Nat.le_of_ble_eq_true rfl, Nat.le_of_ble_eq_true rfl⟩) ⟨kBp_blind, fun U hU hW => ⟨rfl, by rw [hU]; exact hP.sub [] rfl, va_K.moved hW.alike hK⟩⟩ rfl rfl hl.1 rfl (lv_room (Nat.le_of_ble_eq_true rfl)) dX9_moves_19 ⟨Nat.le_of_ble_eq_true rfl, Nat.le_of_ble_eq_true rfl⟩) (fun r_4 hw_4 => ?_)
    obtain rfl : r_4 = kb (inB x2 24) := hw_4
    -- if (inB x2 24)
    refine kk_ifb_ne (tgt := 28) hx hb dX9_moves_22 (by decide) (fun hb_5 => ?_) (fun hb_5 => ?_)
    · skip
      obtain ⟨x2N, hx2N, rfl⟩ := inB_t hb_5
      have t_x2 := nI_clamp (show x2N < 2 ^ 31 by omega)
      refine lv_iload_n hx hb dX9_moves_28 rfl (lv_at hl 3 rfl) ?_
      refine vp_callSi (W.runS (As := [.int x3]) (rest := []) ⟨hx, hb, hml, hown, hts⟩ (c_X9_isSheet lL D cI cS x3) (va_cwS 1 hts gX9_moves_X9_isSheet rfl rfl rfl cd_X9_isSheet ⟨Nat.le_of_ble_eq_true rfl, Nat.le_of_ble_eq_true rfl⟩) ⟨kBp_blind, fun U hU hW => ⟨rfl, by rw [hU]; exact hP.sub [] rfl, va_K.moved hW.alike hK⟩⟩ rfl rfl hl.1 rfl (lv_room (Nat.le_of_ble_eq_true rfl)) dX9_moves_29 ⟨Nat.le_of_ble_eq_true rfl, Nat.le_of_ble_eq_true rfl⟩) (fun r_6 hw_6 => ?_)
      obtain rfl : r_6 = kb (inB x3 4) := hw_6
      -- if (inB x3 4)
      refine kk_ifb_ne (tgt := 37) hx hb dX9_moves_32 (by decide) (fun hb_7 => ?_) (fun hb_7 => ?_)
      · skip
        obtain ⟨x3N, hx3N, rfl⟩ := inB_t hb_7
        have t_x3 := nI_clamp (show x3N < 2 ^ 31 by omega)
        refine lv_iload hx hb dX9_moves_37 (lv_at hl 4 rfl) ?_
        refine vp_callSi (W.runS (As := [.int x4]) (rest := []) ⟨hx, hb, hml, hown, hts⟩ (c_X9_isLane lL D cI cS x4) (va_cwS 1 hts gX9_moves_X9_isLane rfl rfl rfl cd_X9_isLane ⟨Nat.le_of_ble_eq_true rfl, Nat.le_of_ble_eq_true rfl⟩) ⟨kBp_blind, fun U hU hW => ⟨rfl, by rw [hU]; exact hP.sub [] rfl, va_K.moved hW.alike hK⟩⟩ rfl rfl hl.1 rfl (lv_room (Nat.le_of_ble_eq_true rfl)) dX9_moves_39 ⟨Nat.le_of_ble_eq_true rfl, Nat.le_of_ble_eq_true rfl⟩) (fun r_8 hw_8 => ?_)
        obtain rfl : r_8 = kb (inB x4 3) := hw_8
        -- if (inB x4 3)
        refine kk_ifb_eq (tgt := 56) hx hb dX9_moves_42 (by decide) (fun hb_9 => ?_) (fun hb_9 => ?_)
        · skip
          refine lv_bipush (v := (-2 : Int32)) hx hb dX9_moves_56 (by decide +kernel) ?_
          have hq : (-2 : Int32) = sp_moves C rl len cf (nI x1N) (nI x2N) (nI x3N) x4 x5 x6 ∧ (nI 0) = nf_moves C rl len (nI x1N) (nI x2N) (nI x3N) x4 x5 x6 := by
            refine ⟨?_, ?_⟩
            · simp only [sp_moves, hb_3, hb_5, hb_7, hb_9, t_x1, t_x2, t_x3, cond_true, cond_false]
            · simp only [nf_moves, hb_3, hb_5, hb_7, hb_9, t_x1, t_x2, t_x3, cond_true, cond_false]
          refine kk_QQ hQQ ?_
          exact W.iret (v := (-2 : Int32)) hx hb hr (fun t ht hW => ⟨⟨(-2 : Int32), (nI 0, tc, uwf, utf, uvf, pA, gA, fA, dA, lA), rfl, hq, by show va_P D vwCl _ t.heap; rw [ht]; exact hP⟩, hS.F ht⟩) hS.2.2 dX9_moves_58
        · skip
          obtain ⟨x4N, hx4N, rfl⟩ := inB_t hb_9
          have t_x4 := nI_clamp (show x4N < 2 ^ 31 by omega)
          refine lv_iload hx hb dX9_moves_45 (lv_at hl 6 rfl) ?_
          refine lv_iconst (v := nI 0) hx hb dX9_moves_47 (by decide +kernel) ?_
          refine lv_bipush (v := nI 8) hx hb dX9_moves_48 (by decide +kernel) ?_
          have o_10 : 0 < 2 ^ 31 := by omega
          have o_11 : 8 < 2 ^ 31 := by omega
          refine vp_callSi (W.runS (As := [.int x6, .int (nI 0), .int (nI 8)]) (rest := []) ⟨hx, hb, hml, hown, hts⟩ (c_X9_isWithin lL D cI cS x6 0 8 o_10 o_11) (va_cwS 3 hts gX9_moves_X9_isWithin rfl rfl rfl cd_X9_isWithin ⟨Nat.le_of_ble_eq_true rfl, Nat.le_of_ble_eq_true rfl⟩) ⟨kBp_blind, fun U hU hW => ⟨rfl, by rw [hU]; exact hP.sub [] rfl, va_K.moved hW.alike hK⟩⟩ rfl rfl hl.1 rfl (lv_room (Nat.le_of_ble_eq_true rfl)) dX9_moves_50 ⟨Nat.le_of_ble_eq_true rfl, Nat.le_of_ble_eq_true rfl⟩) (fun r_12 hw_12 => ?_)
          obtain rfl : r_12 = kb (wB x6 0 8) := hw_12
          -- if (wB x6 0 8)
          refine kk_ifb_ne (tgt := 59) hx hb dX9_moves_53 (by decide) (fun hb_13 => ?_) (fun hb_13 => ?_)
          · skip
            obtain ⟨x6N, hx6L, hx6N, rfl⟩ := wB_t hb_13
            have t_x6 := nI_clamp (show x6N < 2 ^ 31 by omega)
            refine lv_aload_n hx hb dX9_moves_59 rfl (lv_at hl 0 rfl) ?_
            refine va_get (D := D) (ci := 8) (v := .ref y0) (C := RX9) (T := TX9) (N := 11) hx hb hts hwX9 hown hK hP 0 rfl rfl 8 (by decide) hf_53 (fun _ h9 => h9) rfl dX9_moves_60 ?_
            refine lv_iload_n hx hb dX9_moves_63 rfl (lv_at hl 3 rfl) ?_
            refine kk_aldq hx hb hK hP 1 rfl rfl (i := x3N) (by omega) (by decide) (hsel _ rfl hx3N) dX9_moves_64 ?_
            refine lv_astore (lv' := [(7, .ref s0), (0, .ref x0), (1, .int (nI x1N)), (2, .int (nI x2N)), (3, .int (nI x3N)), (4, .int (nI x4N)), (5, .int x5), (6, .int (nI x6N))]) hx hb dX9_moves_65 hl (by decide) rfl (fun ls hl => ?_)
            refine lv_aload hx hb dX9_moves_67 (lv_at hl 0 rfl) ?_
            refine lv_iload hx hb dX9_moves_69 (lv_at hl 5 rfl) ?_
            refine vp_callSi (W.runV (As := [.int (nI x4N)]) (rest := []) ⟨hx, hb, hml, hown, hts⟩ (c_X6_isOfAnotherLane lL D cI cS s0 c0 len rl (nI x4N)) (cwV 1 hts gX9_moves_X6_isOfAnotherLane rfl rfl rfl cd_X6_isOfAnotherLane ⟨Nat.le_of_ble_eq_true rfl, Nat.le_of_ble_eq_true rfl⟩) ⟨kBp_blind, va_recv hK hP (ci := 5) (q0 := 2) rfl rfl, fun U hU hW => ⟨rfl, by rw [hU]; exact hP.sub [2] rfl, va_K.moved hW.alike hK⟩⟩ rfl rfl hl.1 rfl (lv_room (Nat.le_of_ble_eq_true rfl)) dX9_moves_71 ⟨Nat.le_of_ble_eq_true rfl, Nat.le_of_ble_eq_true rfl⟩) (fun r_14 hw_14 => ?_)
            obtain rfl : r_14 = kb (decide (rl ≠ (-1 : Int32) ∧ rl ≠ (nI x4N))) := hw_14
            -- if (decide (rl ≠ (-1 : Int32) ∧ rl ≠ (nI x4N)))
            refine kk_ifb_eq (tgt := 83) hx hb dX9_moves_74 (by decide) (fun hb_15 => ?_) (fun hb_15 => ?_)
            · skip
              refine lv_aload hx hb dX9_moves_83 (lv_at hl 0 rfl) ?_
              refine vp_callSi (W.runV (As := []) (rest := []) ⟨hx, hb, hml, hown, hts⟩ (c_X6_isNothing lL D cI cS s0 c0 len rl) (cwV 0 hts gX9_moves_X6_isNothing rfl rfl rfl cd_X6_isNothing ⟨Nat.le_of_ble_eq_true rfl, Nat.le_of_ble_eq_true rfl⟩) ⟨kBp_blind, va_recv hK hP (ci := 5) (q0 := 2) rfl rfl, fun U hU hW => ⟨rfl, by rw [hU]; exact hP.sub [2] rfl, va_K.moved hW.alike hK⟩⟩ rfl rfl hl.1 rfl (lv_room (Nat.le_of_ble_eq_true rfl)) dX9_moves_85 ⟨Nat.le_of_ble_eq_true rfl, Nat.le_of_ble_eq_true rfl⟩) (fun r_16 hw_16 => ?_)
              obtain rfl : r_16 = kb (decide (rl = (-1 : Int32))) := hw_16
              -- if (decide (rl = (-1 : Int32)))
              refine kk_ifb_eq (tgt := 97) hx hb dX9_moves_88 (by decide) (fun hb_17 => ?_) (fun hb_17 => ?_)
              · skip
                refine lv_aload hx hb dX9_moves_97 (lv_at hl 0 rfl) ?_
                refine lv_iload hx hb dX9_moves_99 (lv_at hl 6 rfl) ?_
                refine lv_iload hx hb dX9_moves_101 (lv_at hl 7 rfl) ?_
                refine lv_iconst (v := nI 3) hx hb dX9_moves_103 (by decide +kernel) ?_
                refine kk_imul hx hb dX9_moves_104 ?_
                have o_18 : len ≤ 60 := by omega
                refine vp_callSi (W.runV (As := [.int x5, .int (nI (x6N * 3))]) (rest := []) ⟨hx, hb, hml, hown, hts⟩ (c_X6_hasCells lL D cI cS s0 c0 len rl x5 (nI (x6N * 3)) o_18) (cwV 2 hts gX9_moves_X6_hasCells rfl rfl rfl cd_X6_hasCells ⟨Nat.le_of_ble_eq_true rfl, Nat.le_of_ble_eq_true rfl⟩) ⟨kBp_blind, va_recv hK hP (ci := 5) (q0 := 2) rfl rfl, fun U hU hW => ⟨rfl, by rw [hU]; exact hP.sub [2] rfl, va_K.moved hW.alike hK⟩⟩ rfl rfl hl.1 rfl (lv_room (Nat.le_of_ble_eq_true rfl)) dX9_moves_105 ⟨Nat.le_of_ble_eq_true rfl, Nat.le_of_ble_eq_true rfl⟩) (fun r_19 hw_19 => ?_)
                obtain rfl : r_19 = kb (hasC len x5 (nI (x6N * 3))) := hw_19
                -- if (hasC len x5 (nI (x6N * 3)))
                refine kk_ifb_ne (tgt := 117) hx hb dX9_moves_108 (by decide) (fun hb_20 => ?_) (fun hb_20 => ?_)
                · skip
                  obtain ⟨x5N, hx5N, rfl⟩ := hasC_n (by omega) (by omega) hb_20
                  have t_x5 := nI_clamp (show x5N < 2 ^ 31 by omega)
                  refine lv_aload_n hx hb dX9_moves_117 rfl (lv_at hl 1 rfl) ?_
                  refine lv_aload hx hb dX9_moves_118 (lv_at hl 0 rfl) ?_
                  refine lv_iload hx hb dX9_moves_120 (lv_at hl 6 rfl) ?_
                  refine lv_iload hx hb dX9_moves_122 (lv_at hl 7 rfl) ?_
                  have o_21 : okC C := by assumption
                  have o_22 : x5N + x6N * 3 ≤ 60 := by omega
                  have o_23 : x6N ≤ 8 := by omega
                  have hF := va_free (wc := [(x0, .inr (8, [.ref g0, .ref q0, .ref e0, .ref t0, .ref r0, .ref h0, .ref i0, .ref z0, .ref y0, .int tr, .int (nI 0)])), (g0, .inr (1, [.int (nI (cSp C)), .int (nI (cLa C)), .int (nI (cAg C)), .ref g1, .ref g2, .ref g3, .ref g4, .ref g5])), (s0, .inr (5, [.ref c0, .int (nI len), .int rl])), (c0, .inl (cI, 60, .inl cf)), (t0, .inr (0, [.int tc, .ref t1, .ref t2, .ref t3])), (t1, .inl (cI, 8, .inl uwf)), (t2, .inl (cI, 8, .inl utf)), (t3, .inl (cI, 8, .inl uvf))]) hD hS hA [0, 4, 2, 3, 10, 11, 12, 13] rfl
                  refine va_calli (va_runV (As := [.ref s0, .int (nI x5N), .int (nI x6N)]) (rest := []) ⟨hx, hb, hml, hown, hts⟩ (c_X9_readTried lL D cI cS _ C x0 g0 q0 e0 t0 r0 h0 i0 z0 y0 tr (nI 0) g1 g2 g3 g4 g5 s0 c0 len rl cf t1 t2 t3 tc uwf utf uvf x5N x6N o_21 o_22 o_23) (cwV 3 hts gX9_moves_X9_readTried rfl rfl rfl cd_X9_readTried ⟨Nat.le_of_ble_eq_true rfl, Nat.le_of_ble_eq_true rfl⟩) ⟨kB_blind, va_recv hK hP (ci := 8) (q0 := 0) rfl rfl, fun U hU hW => ⟨rfl, by rw [hU], by rw [hU]; exact hP.sub [0, 4, 2, 3, 10, 11, 12, 13] rfl, va_K.moved hW.alike hK, (hD.sub [0, 4, 2, 3, 10, 11, 12, 13] (by decide) rfl).weaken (fun _ _ _ _ => trivial)⟩⟩ rfl rfl hl.1 rfl (lv_room (Nat.le_of_ble_eq_true rfl)) dX9_moves_124 ⟨Nat.le_of_ble_eq_true rfl, Nat.le_of_ble_eq_true rfl⟩) hS (fun q _ h => hF q h) hF (fun r_24 u_24 t H1 locs ht hvm hw_24 hB hz1 hk1 hS => ?_)
                  obtain ⟨tn2_24, uwf2_24, utf2_24, uvf2_24⟩ := u_24
                  obtain ⟨hP, hD⟩ := kk_join2 (wc := [(x0, .inr (8, [.ref g0, .ref q0, .ref e0, .ref t0, .ref r0, .ref h0, .ref i0, .ref z0, .ref y0, .int tr, .int (nI 0)])), (g0, .inr (1, [.int (nI (cSp C)), .int (nI (cLa C)), .int (nI (cAg C)), .ref g1, .ref g2, .ref g3, .ref g4, .ref g5])), (s0, .inr (5, [.ref c0, .int (nI len), .int rl])), (c0, .inl (cI, 60, .inl cf)), (t0, .inr (0, [.int tc, .ref t1, .ref t2, .ref t3])), (t1, .inl (cI, 8, .inl uwf)), (t2, .inl (cI, 8, .inl utf)), (t3, .inl (cI, 8, .inl uvf))]) (w1 := [(x0, .inr (8, [.ref g0, .ref q0, .ref e0, .ref t0, .ref r0, .ref h0, .ref i0, .ref z0, .ref y0, .int tr, .int (nI 0)])), (g0, .inr (1, [.int (nI (cSp C)), .int (nI (cLa C)), .int (nI (cAg C)), .ref g1, .ref g2, .ref g3, .ref g4, .ref g5])), (s0, .inr (5, [.ref c0, .int (nI len), .int rl])), (c0, .inl (cI, 60, .inl cf)), (t0, .inr (0, [.int (nI tn2_24), .ref t1, .ref t2, .ref t3])), (t1, .inl (cI, 8, .inl uwf2_24)), (t2, .inl (cI, 8, .inl utf2_24)), (t3, .inl (cI, 8, .inl uvf2_24))]) (ws' := [(x0, .inr (8, [.ref g0, .ref q0, .ref e0, .ref t0, .ref r0, .ref h0, .ref i0, .ref z0, .ref y0, .int tr, .int (nI 0)])), (y0, .inl (cS, 4, .inr (.inr (.inr (.inr ys))))), (s0, .inr (5, [.ref c0, .int (nI len), .int rl])), (c0, .inl (cI, 60, .inl cf)), (g0, .inr (1, [.int (nI (cSp C)), .int (nI (cLa C)), .int (nI (cAg C)), .ref g1, .ref g2, .ref g3, .ref g4, .ref g5])), (g1, .inl (cI, 6, .inl sk)), (g2, .inl (cI, 4, .inl sh)), (g3, .inl (cI, 4, .inl ki)), (g4, .inl (cI, 4, .inl st)), (g5, .inl (cI, 4, .inl cl)), (t0, .inr (0, [.int (nI tn2_24), .ref t1, .ref t2, .ref t3])), (t1, .inl (cI, 8, .inl uwf2_24)), (t2, .inl (cI, 8, .inl utf2_24)), (t3, .inl (cI, 8, .inl uvf2_24)), (h0, .inr (7, [.ref h1, .ref h2, .ref h3, .ref h4, .ref h5])), (h1, .inl (cI, 96, .inl pA)), (h2, .inl (cI, 96, .inl gA)), (h3, .inl (cI, 96, .inl fA)), (h4, .inl (cI, 96, .inl dA)), (h5, .inl (cI, 96, .inl lA))]) (wr := [(y0, .inl (cS, 4, .inr (.inr (.inr (.inr ys))))), (g1, .inl (cI, 6, .inl sk)), (g2, .inl (cI, 4, .inl sh)), (g3, .inl (cI, 4, .inl ki)), (g4, .inl (cI, 4, .inl st)), (g5, .inl (cI, 4, .inl cl)), (h0, .inr (7, [.ref h1, .ref h2, .ref h3, .ref h4, .ref h5])), (h1, .inl (cI, 96, .inl pA)), (h2, .inl (cI, 96, .inl gA)), (h3, .inl (cI, 96, .inl fA)), (h4, .inl (cI, 96, .inl dA)), (h5, .inl (cI, 96, .inl lA))]) (H1 := H1) hP hD [0, 4, 2, 3, 10, 11, 12, 13] [1, 5, 6, 7, 8, 9, 14, 15, 16, 17, 18, 19] rfl rfl rfl rfl 20 rfl (by decide) [x0, y0, s0, c0, g0, g1, g2, g3, g4, g5, t0, t1, t2, t3, h0, h1, h2, h3, h4, h5] rfl rfl hk1 (by rw [← ht]; exact hB)
                  have hq_24 : r_24 = trN C cf x5N x6N ∧ (r_24 = nI 0 → tn2_24 = x6N ∧ ∀ m, m < x6N → (uwf2_24 m = cf (x5N + m * 3) ∧ inB (cf (x5N + m * 3)) (cLa C) = true) ∧ (utf2_24 m = cf (x5N + m * 3 + 1) ∧ inB (cf (x5N + m * 3 + 1)) 24 = true) ∧ uvf2_24 m = cf (x5N + m * 3 + 2) ∧ inB (cf (x5N + m * 3 + 2)) (cSp C) = true) := hw_24
                  clear hF hB hk1 hz1 hvm
                  clear ht
                  clear hw_24
                  generalize H1 = H at hP hS ⊢
                  obtain ⟨rfl, hw_24⟩ := hq_24
                  refine lv_istore (lv' := [(8, .int (trN C cf x5N x6N)), (7, .ref s0), (0, .ref x0), (1, .int (nI x1N)), (2, .int (nI x2N)), (3, .int (nI x3N)), (4, .int (nI x4N)), (5, .int (nI x5N)), (6, .int (nI x6N))]) hx hb dX9_moves_127 hl (by decide) rfl (fun ls hl => ?_)
                  refine lv_iload hx hb dX9_moves_129 (lv_at hl 0 rfl) ?_
                  refine lv_if_eq (tgt := 137) hx hb dX9_moves_131 (by decide) (fun c_25 => ?_) (fun c_25 => ?_)
                  · skip
                    have htr : trN C cf x5N x6N = nI 0 := c_25.trans nI_0.symm
                    obtain ⟨e1_24, e2_24⟩ := hw_24 htr
                    have e1_24 := e1_24.symm
                    subst e1_24
                    have hrS : repM (mvS cf x5N x6N) uwf2_24 utf2_24 uvf2_24 := fun m hm => ⟨(e2_24 m hm).1.1.trans (inB_tn (e2_24 m hm).1.2).1, (e2_24 m hm).2.1.1.trans (inB_tn (e2_24 m hm).2.1.2).1, (e2_24 m hm).2.2.1.trans (inB_tn (e2_24 m hm).2.2.2).1⟩
                    have hmS : okM C (mvS cf x5N x6N) := ⟨by show x6N ≤ 8; omega, fun m hm => ⟨(inB_tn (e2_24 m hm).1.2).2, (inB_tn (e2_24 m hm).2.1.2).2, (inB_tn (e2_24 m hm).2.2.2).2⟩⟩
                    refine lv_aload_n hx hb dX9_moves_137 rfl (lv_at hl 2 rfl) ?_
                    refine va_get (D := D) (ci := 8) (v := .ref h0) (C := RX9) (T := TX9) (N := 11) hx hb hts hwX9 hown hK hP 0 rfl rfl 5 (by decide) hf_37 (fun _ h9 => h9) rfl dX9_moves_138 ?_
                    refine lv_aload_n hx hb dX9_moves_141 rfl (lv_at hl 2 rfl) ?_
                    refine va_get (D := D) (ci := 8) (v := .ref g0) (C := RX9) (T := TX9) (N := 11) hx hb hts hwX9 hown hK hP 0 rfl rfl 0 (by decide) hf_14 (fun _ h9 => h9) rfl dX9_moves_142 ?_
                    refine lv_aload_n hx hb dX9_moves_145 rfl (lv_at hl 2 rfl) ?_
                    refine va_get (D := D) (ci := 8) (v := .ref t0) (C := RX9) (T := TX9) (N := 11) hx hb hts hwX9 hown hK hP 0 rfl rfl 3 (by decide) hf_28 (fun _ h9 => h9) rfl dX9_moves_146 ?_
                    -- differs: eo : mN (mvS cf x5N x6N) / x6N
                    -- differs: eo : mN (mvS cf x5N x6N) / x6N
                    -- differs: eo : mN (mvS cf x5N x6N) / x6N
                    have o_26 : okC C := by assumption
                    have o_27 : okM C (mvS cf x5N x6N) := by exact hmS
                    have o_28 : repC C sk sh ki st cl := by assumption
                    have o_29 : repM (mvS cf x5N x6N) uwf2_24 utf2_24 uvf2_24 := by exact hrS
                    have hF := va_free (wc := [(h0, .inr (7, [.ref h1, .ref h2, .ref h3, .ref h4, .ref h5])), (h1, .inl (cI, 96, .inl pA)), (h2, .inl (cI, 96, .inl gA)), (h3, .inl (cI, 96, .inl fA)), (h4, .inl (cI, 96, .inl dA)), (h5, .inl (cI, 96, .inl lA)), (g0, .inr (1, [.int (nI (cSp C)), .int (nI (cLa C)), .int (nI (cAg C)), .ref g1, .ref g2, .ref g3, .ref g4, .ref g5])), (g1, .inl (cI, 6, .inl sk)), (g2, .inl (cI, 4, .inl sh)), (g3, .inl (cI, 4, .inl ki)), (g4, .inl (cI, 4, .inl st)), (g5, .inl (cI, 4, .inl cl)), (t0, .inr (0, [.int (nI (mN (mvS cf x5N x6N))), .ref t1, .ref t2, .ref t3])), (t1, .inl (cI, 8, .inl uwf2_24)), (t2, .inl (cI, 8, .inl utf2_24)), (t3, .inl (cI, 8, .inl uvf2_24))]) hD hS hA [14, 15, 16, 17, 18, 19, 4, 5, 6, 7, 8, 9, 10, 11, 12, 13] rfl
                    refine va_callv (va_runV (As := [.ref g0, .ref t0]) (rest := []) ⟨hx, hb, hml, hown, hts⟩ (c_X8_reckon lL D cI cS _ C (mvS cf x5N x6N) h0 h1 h2 h3 h4 h5 g0 g1 g2 g3 g4 g5 t0 t1 t2 t3 uwf2_24 utf2_24 uvf2_24 pA gA fA dA lA sk sh ki st cl o_26 o_27 o_28 o_29) (cwV 2 hts gX9_moves_X8_reckon rfl rfl rfl cd_X8_reckon ⟨Nat.le_of_ble_eq_true rfl, Nat.le_of_ble_eq_true rfl⟩) ⟨kB_blind, va_recv hK hP (ci := 7) (q0 := 14) rfl rfl, fun U hU hW => ⟨rfl, by rw [hU], by rw [hU]; exact hP.sub [14, 15, 16, 17, 18, 19, 4, 5, 6, 7, 8, 9, 10, 11, 12, 13] rfl, va_K.moved hW.alike hK, (hD.sub [14, 15, 16, 17, 18, 19, 4, 5, 6, 7, 8, 9, 10, 11, 12, 13] (by decide) rfl).weaken (fun _ _ _ _ => trivial)⟩⟩ rfl rfl hl.1 rfl (lv_room (Nat.le_of_ble_eq_true rfl)) dX9_moves_149 ⟨Nat.le_of_ble_eq_true rfl, Nat.le_of_ble_eq_true rfl⟩) hS (fun q _ h => hF q h) hF (fun u_30 t H1 locs ht hvm hw_30 hB hz1 hk1 hS => ?_)
                    obtain ⟨pp_30, gg_30, ff_30, dd_30, ll_30⟩ := u_30
                    obtain ⟨hP, hD⟩ := kk_join2 (wc := [(h0, .inr (7, [.ref h1, .ref h2, .ref h3, .ref h4, .ref h5])), (h1, .inl (cI, 96, .inl pA)), (h2, .inl (cI, 96, .inl gA)), (h3, .inl (cI, 96, .inl fA)), (h4, .inl (cI, 96, .inl dA)), (h5, .inl (cI, 96, .inl lA)), (g0, .inr (1, [.int (nI (cSp C)), .int (nI (cLa C)), .int (nI (cAg C)), .ref g1, .ref g2, .ref g3, .ref g4, .ref g5])), (g1, .inl (cI, 6, .inl sk)), (g2, .inl (cI, 4, .inl sh)), (g3, .inl (cI, 4, .inl ki)), (g4, .inl (cI, 4, .inl st)), (g5, .inl (cI, 4, .inl cl)), (t0, .inr (0, [.int (nI (mN (mvS cf x5N x6N))), .ref t1, .ref t2, .ref t3])), (t1, .inl (cI, 8, .inl uwf2_24)), (t2, .inl (cI, 8, .inl utf2_24)), (t3, .inl (cI, 8, .inl uvf2_24))]) (w1 := [(h0, .inr (7, [.ref h1, .ref h2, .ref h3, .ref h4, .ref h5])), (h1, .inl (cI, 96, .inl pp_30)), (h2, .inl (cI, 96, .inl gg_30)), (h3, .inl (cI, 96, .inl ff_30)), (h4, .inl (cI, 96, .inl dd_30)), (h5, .inl (cI, 96, .inl ll_30)), (g0, .inr (1, [.int (nI (cSp C)), .int (nI (cLa C)), .int (nI (cAg C)), .ref g1, .ref g2, .ref g3, .ref g4, .ref g5])), (g1, .inl (cI, 6, .inl sk)), (g2, .inl (cI, 4, .inl sh)), (g3, .inl (cI, 4, .inl ki)), (g4, .inl (cI, 4, .inl st)), (g5, .inl (cI, 4, .inl cl)), (t0, .inr (0, [.int (nI (mN (mvS cf x5N x6N))), .ref t1, .ref t2, .ref t3])), (t1, .inl (cI, 8, .inl uwf2_24)), (t2, .inl (cI, 8, .inl utf2_24)), (t3, .inl (cI, 8, .inl uvf2_24))]) (ws' := [(x0, .inr (8, [.ref g0, .ref q0, .ref e0, .ref t0, .ref r0, .ref h0, .ref i0, .ref z0, .ref y0, .int tr, .int (nI 0)])), (y0, .inl (cS, 4, .inr (.inr (.inr (.inr ys))))), (s0, .inr (5, [.ref c0, .int (nI len), .int rl])), (c0, .inl (cI, 60, .inl cf)), (g0, .inr (1, [.int (nI (cSp C)), .int (nI (cLa C)), .int (nI (cAg C)), .ref g1, .ref g2, .ref g3, .ref g4, .ref g5])), (g1, .inl (cI, 6, .inl sk)), (g2, .inl (cI, 4, .inl sh)), (g3, .inl (cI, 4, .inl ki)), (g4, .inl (cI, 4, .inl st)), (g5, .inl (cI, 4, .inl cl)), (t0, .inr (0, [.int (nI x6N), .ref t1, .ref t2, .ref t3])), (t1, .inl (cI, 8, .inl uwf2_24)), (t2, .inl (cI, 8, .inl utf2_24)), (t3, .inl (cI, 8, .inl uvf2_24)), (h0, .inr (7, [.ref h1, .ref h2, .ref h3, .ref h4, .ref h5])), (h1, .inl (cI, 96, .inl pp_30)), (h2, .inl (cI, 96, .inl gg_30)), (h3, .inl (cI, 96, .inl ff_30)), (h4, .inl (cI, 96, .inl dd_30)), (h5, .inl (cI, 96, .inl ll_30))]) (wr := [(x0, .inr (8, [.ref g0, .ref q0, .ref e0, .ref t0, .ref r0, .ref h0, .ref i0, .ref z0, .ref y0, .int tr, .int (nI 0)])), (y0, .inl (cS, 4, .inr (.inr (.inr (.inr ys))))), (s0, .inr (5, [.ref c0, .int (nI len), .int rl])), (c0, .inl (cI, 60, .inl cf))]) (H1 := H1) hP hD [14, 15, 16, 17, 18, 19, 4, 5, 6, 7, 8, 9, 10, 11, 12, 13] [0, 1, 2, 3] rfl rfl rfl rfl 20 rfl (by decide) [x0, y0, s0, c0, g0, g1, g2, g3, g4, g5, t0, t1, t2, t3, h0, h1, h2, h3, h4, h5] rfl rfl hk1 (by rw [← ht]; exact hB)
                    have hw_30 : tP C (plc (mvS cf x5N x6N) (cSt C)) pp_30 0 24 ∧ tG C (plc (mvS cf x5N x6N) (cSt C)) gg_30 0 24 ∧ tF C (plc (mvS cf x5N x6N) (cSt C)) ff_30 0 24 ∧ tD C dd_30 0 24 ∧ tL C (plc (mvS cf x5N x6N) (cSt C)) ll_30 0 24 := hw_30
                    clear hF hB hk1 hz1 hvm
                    clear ht
                    generalize H1 = H at hP hS ⊢
                    obtain ⟨tP1, tG1, tF1, tD1, tL1⟩ := hw_30
                    refine lv_aload_n hx hb dX9_moves_152 rfl (lv_at hl 2 rfl) ?_
                    refine va_get (D := D) (ci := 8) (v := .ref h0) (C := RX9) (T := TX9) (N := 11) hx hb hts hwX9 hown hK hP 0 rfl rfl 5 (by decide) hf_37 (fun _ h9 => h9) rfl dX9_moves_153 ?_
                    refine lv_iload_n hx hb dX9_moves_156 rfl (lv_at hl 3 rfl) ?_
                    refine lv_iload_n hx hb dX9_moves_157 rfl (lv_at hl 4 rfl) ?_
                    have o_31 : x1N < 4 := by omega
                    have o_32 : x2N < 24 := by omega
                    refine vp_callSi (W.runV (As := [.int (nI x1N), .int (nI x2N)]) (rest := []) ⟨hx, hb, hml, hown, hts⟩ (c_X8_lightOf lL D cI cS h0 h1 h2 h3 h4 h5 ll_30 x1N x2N o_31 o_32) (cwV 2 hts gX9_moves_X8_lightOf rfl rfl rfl cd_X8_lightOf ⟨Nat.le_of_ble_eq_true rfl, Nat.le_of_ble_eq_true rfl⟩) ⟨kBp_blind, va_recv hK hP (ci := 7) (q0 := 14) rfl rfl, fun U hU hW => ⟨rfl, by rw [hU]; exact hP.sub [14, 19] rfl, va_K.moved hW.alike hK⟩⟩ rfl rfl hl.1 rfl (lv_room (Nat.le_of_ble_eq_true rfl)) dX9_moves_158 ⟨Nat.le_of_ble_eq_true rfl, Nat.le_of_ble_eq_true rfl⟩) (fun r_33 hw_33 => ?_)
                    obtain rfl : r_33 = ll_30 (x2N * 4 + x1N) := hw_33
                    refine kk_top (y := nI (Li C (plc (mvS cf x5N x6N) (cSt C)) x1N x2N)) (tL1 x2N (by omega) (by omega) x1N hx1N) ?_
                    have hq : (nI (Li C (plc (mvS cf x5N x6N) (cSt C)) x1N x2N)) = sp_moves C rl len cf (nI x1N) (nI x2N) (nI x3N) (nI x4N) (nI x5N) (nI x6N) ∧ (nI 0) = nf_moves C rl len (nI x1N) (nI x2N) (nI x3N) (nI x4N) (nI x5N) (nI x6N) := by
                      refine ⟨?_, ?_⟩
                      · simp only [sp_moves, hb_3, hb_5, hb_7, hb_9, hb_13, hb_15, hb_17, hb_20, t_x1, t_x2, t_x3, t_x4, t_x6, t_x5, cond_true, cond_false, if_pos htr]
                      · simp only [nf_moves, hb_3, hb_5, hb_7, hb_9, hb_13, hb_15, hb_17, hb_20, t_x1, t_x2, t_x3, t_x4, t_x6, t_x5, cond_true, cond_false, if_pos htr]
                    refine kk_QQ hQQ ?_
                    exact W.iret (v := nI (Li C (plc (mvS cf x5N x6N) (cSt C)) x1N x2N)) hx hb hr (fun t ht hW => ⟨⟨nI (Li C (plc (mvS cf x5N x6N) (cSt C)) x1N x2N), (nI 0, nI x6N, uwf2_24, utf2_24, uvf2_24, pp_30, gg_30, ff_30, dd_30, ll_30), rfl, hq, by show va_P D vwCl _ t.heap; rw [ht]; exact hP⟩, hS.F ht⟩) hS.2.2 dX9_moves_161
                  · skip
                    have htn : ¬ trN C cf x5N x6N = nI 0 := fun z => c_25 (z.trans nI_0)
                    refine lv_iload hx hb dX9_moves_134 (lv_at hl 0 rfl) ?_
                    have hq : (trN C cf x5N x6N) = sp_moves C rl len cf (nI x1N) (nI x2N) (nI x3N) (nI x4N) (nI x5N) (nI x6N) ∧ (nI 0) = nf_moves C rl len (nI x1N) (nI x2N) (nI x3N) (nI x4N) (nI x5N) (nI x6N) := by
                      refine ⟨?_, ?_⟩
                      · simp only [sp_moves, hb_3, hb_5, hb_7, hb_9, hb_13, hb_15, hb_17, hb_20, t_x1, t_x2, t_x3, t_x4, t_x6, t_x5, cond_true, cond_false, if_neg htn]
                      · simp only [nf_moves, hb_3, hb_5, hb_7, hb_9, hb_13, hb_15, hb_17, hb_20, t_x1, t_x2, t_x3, t_x4, t_x6, t_x5, cond_true, cond_false, if_neg htn]
                    refine kk_QQ hQQ ?_
                    exact W.iret (v := trN C cf x5N x6N) hx hb hr (fun t ht hW => ⟨⟨trN C cf x5N x6N, (nI 0, nI tn2_24, uwf2_24, utf2_24, uvf2_24, pA, gA, fA, dA, lA), rfl, hq, by show va_P D vwCl _ t.heap; rw [ht]; exact hP⟩, hS.F ht⟩) hS.2.2 dX9_moves_136
                · skip
                  refine lv_aload_n hx hb dX9_moves_111 rfl (lv_at hl 1 rfl) ?_
                  refine lv_iconst (v := nI 3) hx hb dX9_moves_112 (by decide +kernel) ?_
                  have hF := va_free (wc := [(x0, .inr (8, [.ref g0, .ref q0, .ref e0, .ref t0, .ref r0, .ref h0, .ref i0, .ref z0, .ref y0, .int tr, .int (nI 0)]))]) hD hS hA [0] rfl
                  refine va_calli (va_runV (As := [.int (nI 3)]) (rest := []) ⟨hx, hb, hml, hown, hts⟩ (c_X9_faulted lL D cI cS _ x0 (.ref g0) (.ref q0) (.ref e0) (.ref t0) (.ref r0) (.ref h0) (.ref i0) (.ref z0) (.ref y0) tr (nI 0) 3) (cwV 1 hts gX9_moves_X9_faulted rfl rfl rfl cd_X9_faulted ⟨Nat.le_of_ble_eq_true rfl, Nat.le_of_ble_eq_true rfl⟩) ⟨kB_blind, va_recv hK hP (ci := 8) (q0 := 0) rfl rfl, fun U hU hW => ⟨rfl, by rw [hU], by rw [hU]; exact hP.sub [0] rfl, va_K.moved hW.alike hK, (hD.sub [0] (by decide) rfl).weaken (fun _ _ _ _ => trivial)⟩⟩ rfl rfl hl.1 rfl (lv_room (Nat.le_of_ble_eq_true rfl)) dX9_moves_113 ⟨Nat.le_of_ble_eq_true rfl, Nat.le_of_ble_eq_true rfl⟩) hS (fun q _ h => hF q h) hF (fun r_34 u_34 t H1 locs ht hvm hw_34 hB hz1 hk1 hS => ?_)
                  obtain ⟨hP, hD⟩ := kk_join2 (wc := [(x0, .inr (8, [.ref g0, .ref q0, .ref e0, .ref t0, .ref r0, .ref h0, .ref i0, .ref z0, .ref y0, .int tr, .int (nI 0)]))]) (w1 := [(x0, .inr (8, [.ref g0, .ref q0, .ref e0, .ref t0, .ref r0, .ref h0, .ref i0, .ref z0, .ref y0, .int tr, .int (nI 3)]))]) (ws' := [(x0, .inr (8, [.ref g0, .ref q0, .ref e0, .ref t0, .ref r0, .ref h0, .ref i0, .ref z0, .ref y0, .int tr, .int (nI 3)])), (y0, .inl (cS, 4, .inr (.inr (.inr (.inr ys))))), (s0, .inr (5, [.ref c0, .int (nI len), .int rl])), (c0, .inl (cI, 60, .inl cf)), (g0, .inr (1, [.int (nI (cSp C)), .int (nI (cLa C)), .int (nI (cAg C)), .ref g1, .ref g2, .ref g3, .ref g4, .ref g5])), (g1, .inl (cI, 6, .inl sk)), (g2, .inl (cI, 4, .inl sh)), (g3, .inl (cI, 4, .inl ki)), (g4, .inl (cI, 4, .inl st)), (g5, .inl (cI, 4, .inl cl)), (t0, .inr (0, [.int tc, .ref t1, .ref t2, .ref t3])), (t1, .inl (cI, 8, .inl uwf)), (t2, .inl (cI, 8, .inl utf)), (t3, .inl (cI, 8, .inl uvf)), (h0, .inr (7, [.ref h1, .ref h2, .ref h3, .ref h4, .ref h5])), (h1, .inl (cI, 96, .inl pA)), (h2, .inl (cI, 96, .inl gA)), (h3, .inl (cI, 96, .inl fA)), (h4, .inl (cI, 96, .inl dA)), (h5, .inl (cI, 96, .inl lA))]) (wr := [(y0, .inl (cS, 4, .inr (.inr (.inr (.inr ys))))), (s0, .inr (5, [.ref c0, .int (nI len), .int rl])), (c0, .inl (cI, 60, .inl cf)), (g0, .inr (1, [.int (nI (cSp C)), .int (nI (cLa C)), .int (nI (cAg C)), .ref g1, .ref g2, .ref g3, .ref g4, .ref g5])), (g1, .inl (cI, 6, .inl sk)), (g2, .inl (cI, 4, .inl sh)), (g3, .inl (cI, 4, .inl ki)), (g4, .inl (cI, 4, .inl st)), (g5, .inl (cI, 4, .inl cl)), (t0, .inr (0, [.int tc, .ref t1, .ref t2, .ref t3])), (t1, .inl (cI, 8, .inl uwf)), (t2, .inl (cI, 8, .inl utf)), (t3, .inl (cI, 8, .inl uvf)), (h0, .inr (7, [.ref h1, .ref h2, .ref h3, .ref h4, .ref h5])), (h1, .inl (cI, 96, .inl pA)), (h2, .inl (cI, 96, .inl gA)), (h3, .inl (cI, 96, .inl fA)), (h4, .inl (cI, 96, .inl dA)), (h5, .inl (cI, 96, .inl lA))]) (H1 := H1) hP hD [0] [1, 2, 3, 4, 5, 6, 7, 8, 9, 10, 11, 12, 13, 14, 15, 16, 17, 18, 19] rfl rfl rfl rfl 20 rfl (by decide) [x0, y0, s0, c0, g0, g1, g2, g3, g4, g5, t0, t1, t2, t3, h0, h1, h2, h3, h4, h5] rfl rfl hk1 (by rw [← ht]; exact hB)
                  have hw_34 : r_34 = (-10 : Int32) - nI 3 ∧ True := hw_34
                  clear hF hB hk1 hz1 hvm
                  clear ht
                  generalize H1 = H at hP hS ⊢
                  obtain ⟨rfl, hw_34⟩ := hw_34
                  have hq : ((-10 : Int32) - nI 3) = sp_moves C rl len cf (nI x1N) (nI x2N) (nI x3N) (nI x4N) x5 (nI x6N) ∧ (nI 3) = nf_moves C rl len (nI x1N) (nI x2N) (nI x3N) (nI x4N) x5 (nI x6N) := by
                    refine ⟨?_, ?_⟩
                    · simp only [sp_moves, hb_3, hb_5, hb_7, hb_9, hb_13, hb_15, hb_17, hb_20, t_x1, t_x2, t_x3, t_x4, t_x6, cond_true, cond_false]
                    · simp only [nf_moves, hb_3, hb_5, hb_7, hb_9, hb_13, hb_15, hb_17, hb_20, t_x1, t_x2, t_x3, t_x4, t_x6, cond_true, cond_false]
                  refine kk_QQ hQQ ?_
                  exact W.iret (v := (-10 : Int32) - nI 3) hx hb hr (fun t ht hW => ⟨⟨(-10 : Int32) - nI 3, (nI 3, tc, uwf, utf, uvf, pA, gA, fA, dA, lA), rfl, hq, by show va_P D vwCl _ t.heap; rw [ht]; exact hP⟩, hS.F ht⟩) hS.2.2 dX9_moves_116
              · skip
                refine lv_aload_n hx hb dX9_moves_91 rfl (lv_at hl 1 rfl) ?_
                refine lv_iconst (v := nI 1) hx hb dX9_moves_92 (by decide +kernel) ?_
                have hF := va_free (wc := [(x0, .inr (8, [.ref g0, .ref q0, .ref e0, .ref t0, .ref r0, .ref h0, .ref i0, .ref z0, .ref y0, .int tr, .int (nI 0)]))]) hD hS hA [0] rfl
                refine va_calli (va_runV (As := [.int (nI 1)]) (rest := []) ⟨hx, hb, hml, hown, hts⟩ (c_X9_faulted lL D cI cS _ x0 (.ref g0) (.ref q0) (.ref e0) (.ref t0) (.ref r0) (.ref h0) (.ref i0) (.ref z0) (.ref y0) tr (nI 0) 1) (cwV 1 hts gX9_moves_X9_faulted rfl rfl rfl cd_X9_faulted ⟨Nat.le_of_ble_eq_true rfl, Nat.le_of_ble_eq_true rfl⟩) ⟨kB_blind, va_recv hK hP (ci := 8) (q0 := 0) rfl rfl, fun U hU hW => ⟨rfl, by rw [hU], by rw [hU]; exact hP.sub [0] rfl, va_K.moved hW.alike hK, (hD.sub [0] (by decide) rfl).weaken (fun _ _ _ _ => trivial)⟩⟩ rfl rfl hl.1 rfl (lv_room (Nat.le_of_ble_eq_true rfl)) dX9_moves_93 ⟨Nat.le_of_ble_eq_true rfl, Nat.le_of_ble_eq_true rfl⟩) hS (fun q _ h => hF q h) hF (fun r_35 u_35 t H1 locs ht hvm hw_35 hB hz1 hk1 hS => ?_)
                obtain ⟨hP, hD⟩ := kk_join2 (wc := [(x0, .inr (8, [.ref g0, .ref q0, .ref e0, .ref t0, .ref r0, .ref h0, .ref i0, .ref z0, .ref y0, .int tr, .int (nI 0)]))]) (w1 := [(x0, .inr (8, [.ref g0, .ref q0, .ref e0, .ref t0, .ref r0, .ref h0, .ref i0, .ref z0, .ref y0, .int tr, .int (nI 1)]))]) (ws' := [(x0, .inr (8, [.ref g0, .ref q0, .ref e0, .ref t0, .ref r0, .ref h0, .ref i0, .ref z0, .ref y0, .int tr, .int (nI 1)])), (y0, .inl (cS, 4, .inr (.inr (.inr (.inr ys))))), (s0, .inr (5, [.ref c0, .int (nI len), .int rl])), (c0, .inl (cI, 60, .inl cf)), (g0, .inr (1, [.int (nI (cSp C)), .int (nI (cLa C)), .int (nI (cAg C)), .ref g1, .ref g2, .ref g3, .ref g4, .ref g5])), (g1, .inl (cI, 6, .inl sk)), (g2, .inl (cI, 4, .inl sh)), (g3, .inl (cI, 4, .inl ki)), (g4, .inl (cI, 4, .inl st)), (g5, .inl (cI, 4, .inl cl)), (t0, .inr (0, [.int tc, .ref t1, .ref t2, .ref t3])), (t1, .inl (cI, 8, .inl uwf)), (t2, .inl (cI, 8, .inl utf)), (t3, .inl (cI, 8, .inl uvf)), (h0, .inr (7, [.ref h1, .ref h2, .ref h3, .ref h4, .ref h5])), (h1, .inl (cI, 96, .inl pA)), (h2, .inl (cI, 96, .inl gA)), (h3, .inl (cI, 96, .inl fA)), (h4, .inl (cI, 96, .inl dA)), (h5, .inl (cI, 96, .inl lA))]) (wr := [(y0, .inl (cS, 4, .inr (.inr (.inr (.inr ys))))), (s0, .inr (5, [.ref c0, .int (nI len), .int rl])), (c0, .inl (cI, 60, .inl cf)), (g0, .inr (1, [.int (nI (cSp C)), .int (nI (cLa C)), .int (nI (cAg C)), .ref g1, .ref g2, .ref g3, .ref g4, .ref g5])), (g1, .inl (cI, 6, .inl sk)), (g2, .inl (cI, 4, .inl sh)), (g3, .inl (cI, 4, .inl ki)), (g4, .inl (cI, 4, .inl st)), (g5, .inl (cI, 4, .inl cl)), (t0, .inr (0, [.int tc, .ref t1, .ref t2, .ref t3])), (t1, .inl (cI, 8, .inl uwf)), (t2, .inl (cI, 8, .inl utf)), (t3, .inl (cI, 8, .inl uvf)), (h0, .inr (7, [.ref h1, .ref h2, .ref h3, .ref h4, .ref h5])), (h1, .inl (cI, 96, .inl pA)), (h2, .inl (cI, 96, .inl gA)), (h3, .inl (cI, 96, .inl fA)), (h4, .inl (cI, 96, .inl dA)), (h5, .inl (cI, 96, .inl lA))]) (H1 := H1) hP hD [0] [1, 2, 3, 4, 5, 6, 7, 8, 9, 10, 11, 12, 13, 14, 15, 16, 17, 18, 19] rfl rfl rfl rfl 20 rfl (by decide) [x0, y0, s0, c0, g0, g1, g2, g3, g4, g5, t0, t1, t2, t3, h0, h1, h2, h3, h4, h5] rfl rfl hk1 (by rw [← ht]; exact hB)
                have hw_35 : r_35 = (-10 : Int32) - nI 1 ∧ True := hw_35
                clear hF hB hk1 hz1 hvm
                clear ht
                generalize H1 = H at hP hS ⊢
                obtain ⟨rfl, hw_35⟩ := hw_35
                have hq : ((-10 : Int32) - nI 1) = sp_moves C rl len cf (nI x1N) (nI x2N) (nI x3N) (nI x4N) x5 (nI x6N) ∧ (nI 1) = nf_moves C rl len (nI x1N) (nI x2N) (nI x3N) (nI x4N) x5 (nI x6N) := by
                  refine ⟨?_, ?_⟩
                  · simp only [sp_moves, hb_3, hb_5, hb_7, hb_9, hb_13, hb_15, hb_17, t_x1, t_x2, t_x3, t_x4, t_x6, cond_true, cond_false]
                  · simp only [nf_moves, hb_3, hb_5, hb_7, hb_9, hb_13, hb_15, hb_17, t_x1, t_x2, t_x3, t_x4, t_x6, cond_true, cond_false]
                refine kk_QQ hQQ ?_
                exact W.iret (v := (-10 : Int32) - nI 1) hx hb hr (fun t ht hW => ⟨⟨(-10 : Int32) - nI 1, (nI 1, tc, uwf, utf, uvf, pA, gA, fA, dA, lA), rfl, hq, by show va_P D vwCl _ t.heap; rw [ht]; exact hP⟩, hS.F ht⟩) hS.2.2 dX9_moves_96
            · skip
              refine lv_aload_n hx hb dX9_moves_77 rfl (lv_at hl 1 rfl) ?_
              refine lv_iconst (v := nI 2) hx hb dX9_moves_78 (by decide +kernel) ?_
              have hF := va_free (wc := [(x0, .inr (8, [.ref g0, .ref q0, .ref e0, .ref t0, .ref r0, .ref h0, .ref i0, .ref z0, .ref y0, .int tr, .int (nI 0)]))]) hD hS hA [0] rfl
              refine va_calli (va_runV (As := [.int (nI 2)]) (rest := []) ⟨hx, hb, hml, hown, hts⟩ (c_X9_faulted lL D cI cS _ x0 (.ref g0) (.ref q0) (.ref e0) (.ref t0) (.ref r0) (.ref h0) (.ref i0) (.ref z0) (.ref y0) tr (nI 0) 2) (cwV 1 hts gX9_moves_X9_faulted rfl rfl rfl cd_X9_faulted ⟨Nat.le_of_ble_eq_true rfl, Nat.le_of_ble_eq_true rfl⟩) ⟨kB_blind, va_recv hK hP (ci := 8) (q0 := 0) rfl rfl, fun U hU hW => ⟨rfl, by rw [hU], by rw [hU]; exact hP.sub [0] rfl, va_K.moved hW.alike hK, (hD.sub [0] (by decide) rfl).weaken (fun _ _ _ _ => trivial)⟩⟩ rfl rfl hl.1 rfl (lv_room (Nat.le_of_ble_eq_true rfl)) dX9_moves_79 ⟨Nat.le_of_ble_eq_true rfl, Nat.le_of_ble_eq_true rfl⟩) hS (fun q _ h => hF q h) hF (fun r_36 u_36 t H1 locs ht hvm hw_36 hB hz1 hk1 hS => ?_)
              obtain ⟨hP, hD⟩ := kk_join2 (wc := [(x0, .inr (8, [.ref g0, .ref q0, .ref e0, .ref t0, .ref r0, .ref h0, .ref i0, .ref z0, .ref y0, .int tr, .int (nI 0)]))]) (w1 := [(x0, .inr (8, [.ref g0, .ref q0, .ref e0, .ref t0, .ref r0, .ref h0, .ref i0, .ref z0, .ref y0, .int tr, .int (nI 2)]))]) (ws' := [(x0, .inr (8, [.ref g0, .ref q0, .ref e0, .ref t0, .ref r0, .ref h0, .ref i0, .ref z0, .ref y0, .int tr, .int (nI 2)])), (y0, .inl (cS, 4, .inr (.inr (.inr (.inr ys))))), (s0, .inr (5, [.ref c0, .int (nI len), .int rl])), (c0, .inl (cI, 60, .inl cf)), (g0, .inr (1, [.int (nI (cSp C)), .int (nI (cLa C)), .int (nI (cAg C)), .ref g1, .ref g2, .ref g3, .ref g4, .ref g5])), (g1, .inl (cI, 6, .inl sk)), (g2, .inl (cI, 4, .inl sh)), (g3, .inl (cI, 4, .inl ki)), (g4, .inl (cI, 4, .inl st)), (g5, .inl (cI, 4, .inl cl)), (t0, .inr (0, [.int tc, .ref t1, .ref t2, .ref t3])), (t1, .inl (cI, 8, .inl uwf)), (t2, .inl (cI, 8, .inl utf)), (t3, .inl (cI, 8, .inl uvf)), (h0, .inr (7, [.ref h1, .ref h2, .ref h3, .ref h4, .ref h5])), (h1, .inl (cI, 96, .inl pA)), (h2, .inl (cI, 96, .inl gA)), (h3, .inl (cI, 96, .inl fA)), (h4, .inl (cI, 96, .inl dA)), (h5, .inl (cI, 96, .inl lA))]) (wr := [(y0, .inl (cS, 4, .inr (.inr (.inr (.inr ys))))), (s0, .inr (5, [.ref c0, .int (nI len), .int rl])), (c0, .inl (cI, 60, .inl cf)), (g0, .inr (1, [.int (nI (cSp C)), .int (nI (cLa C)), .int (nI (cAg C)), .ref g1, .ref g2, .ref g3, .ref g4, .ref g5])), (g1, .inl (cI, 6, .inl sk)), (g2, .inl (cI, 4, .inl sh)), (g3, .inl (cI, 4, .inl ki)), (g4, .inl (cI, 4, .inl st)), (g5, .inl (cI, 4, .inl cl)), (t0, .inr (0, [.int tc, .ref t1, .ref t2, .ref t3])), (t1, .inl (cI, 8, .inl uwf)), (t2, .inl (cI, 8, .inl utf)), (t3, .inl (cI, 8, .inl uvf)), (h0, .inr (7, [.ref h1, .ref h2, .ref h3, .ref h4, .ref h5])), (h1, .inl (cI, 96, .inl pA)), (h2, .inl (cI, 96, .inl gA)), (h3, .inl (cI, 96, .inl fA)), (h4, .inl (cI, 96, .inl dA)), (h5, .inl (cI, 96, .inl lA))]) (H1 := H1) hP hD [0] [1, 2, 3, 4, 5, 6, 7, 8, 9, 10, 11, 12, 13, 14, 15, 16, 17, 18, 19] rfl rfl rfl rfl 20 rfl (by decide) [x0, y0, s0, c0, g0, g1, g2, g3, g4, g5, t0, t1, t2, t3, h0, h1, h2, h3, h4, h5] rfl rfl hk1 (by rw [← ht]; exact hB)
              have hw_36 : r_36 = (-10 : Int32) - nI 2 ∧ True := hw_36
              clear hF hB hk1 hz1 hvm
              clear ht
              generalize H1 = H at hP hS ⊢
              obtain ⟨rfl, hw_36⟩ := hw_36
              have hq : ((-10 : Int32) - nI 2) = sp_moves C rl len cf (nI x1N) (nI x2N) (nI x3N) (nI x4N) x5 (nI x6N) ∧ (nI 2) = nf_moves C rl len (nI x1N) (nI x2N) (nI x3N) (nI x4N) x5 (nI x6N) := by
                refine ⟨?_, ?_⟩
                · simp only [sp_moves, hb_3, hb_5, hb_7, hb_9, hb_13, hb_15, t_x1, t_x2, t_x3, t_x4, t_x6, cond_true, cond_false]
                · simp only [nf_moves, hb_3, hb_5, hb_7, hb_9, hb_13, hb_15, t_x1, t_x2, t_x3, t_x4, t_x6, cond_true, cond_false]
              refine kk_QQ hQQ ?_
              exact W.iret (v := (-10 : Int32) - nI 2) hx hb hr (fun t ht hW => ⟨⟨(-10 : Int32) - nI 2, (nI 2, tc, uwf, utf, uvf, pA, gA, fA, dA, lA), rfl, hq, by show va_P D vwCl _ t.heap; rw [ht]; exact hP⟩, hS.F ht⟩) hS.2.2 dX9_moves_82
          · skip
            refine lv_bipush (v := (-2 : Int32)) hx hb dX9_moves_56 (by decide +kernel) ?_
            have hq : (-2 : Int32) = sp_moves C rl len cf (nI x1N) (nI x2N) (nI x3N) (nI x4N) x5 x6 ∧ (nI 0) = nf_moves C rl len (nI x1N) (nI x2N) (nI x3N) (nI x4N) x5 x6 := by
              refine ⟨?_, ?_⟩
              · simp only [sp_moves, hb_3, hb_5, hb_7, hb_9, hb_13, t_x1, t_x2, t_x3, t_x4, cond_true, cond_false]
              · simp only [nf_moves, hb_3, hb_5, hb_7, hb_9, hb_13, t_x1, t_x2, t_x3, t_x4, cond_true, cond_false]
            refine kk_QQ hQQ ?_
            exact W.iret (v := (-2 : Int32)) hx hb hr (fun t ht hW => ⟨⟨(-2 : Int32), (nI 0, tc, uwf, utf, uvf, pA, gA, fA, dA, lA), rfl, hq, by show va_P D vwCl _ t.heap; rw [ht]; exact hP⟩, hS.F ht⟩) hS.2.2 dX9_moves_58
      · skip
        refine lv_iconst (v := (-1 : Int32)) hx hb dX9_moves_35 (by decide +kernel) ?_
        have hq : (-1 : Int32) = sp_moves C rl len cf (nI x1N) (nI x2N) x3 x4 x5 x6 ∧ (nI 0) = nf_moves C rl len (nI x1N) (nI x2N) x3 x4 x5 x6 := by
          refine ⟨?_, ?_⟩
          · simp only [sp_moves, hb_3, hb_5, hb_7, t_x1, t_x2, cond_true, cond_false]
          · simp only [nf_moves, hb_3, hb_5, hb_7, t_x1, t_x2, cond_true, cond_false]
        refine kk_QQ hQQ ?_
        exact W.iret (v := (-1 : Int32)) hx hb hr (fun t ht hW => ⟨⟨(-1 : Int32), (nI 0, tc, uwf, utf, uvf, pA, gA, fA, dA, lA), rfl, hq, by show va_P D vwCl _ t.heap; rw [ht]; exact hP⟩, hS.F ht⟩) hS.2.2 dX9_moves_36
    · skip
      refine lv_bipush (v := (-2 : Int32)) hx hb dX9_moves_25 (by decide +kernel) ?_
      have hq : (-2 : Int32) = sp_moves C rl len cf (nI x1N) x2 x3 x4 x5 x6 ∧ (nI 0) = nf_moves C rl len (nI x1N) x2 x3 x4 x5 x6 := by
        refine ⟨?_, ?_⟩
        · simp only [sp_moves, hb_3, hb_5, t_x1, cond_true, cond_false]
        · simp only [nf_moves, hb_3, hb_5, t_x1, cond_true, cond_false]
      refine kk_QQ hQQ ?_
      exact W.iret (v := (-2 : Int32)) hx hb hr (fun t ht hW => ⟨⟨(-2 : Int32), (nI 0, tc, uwf, utf, uvf, pA, gA, fA, dA, lA), rfl, hq, by show va_P D vwCl _ t.heap; rw [ht]; exact hP⟩, hS.F ht⟩) hS.2.2 dX9_moves_27
  · skip
    refine lv_iconst (v := (-1 : Int32)) hx hb dX9_moves_16 (by decide +kernel) ?_
    have hq : (-1 : Int32) = sp_moves C rl len cf x1 x2 x3 x4 x5 x6 ∧ (nI 0) = nf_moves C rl len x1 x2 x3 x4 x5 x6 := by
      refine ⟨?_, ?_⟩
      · simp only [sp_moves, hb_3, cond_true, cond_false]
      · simp only [nf_moves, hb_3, cond_true, cond_false]
    refine kk_QQ hQQ ?_
    exact W.iret (v := (-1 : Int32)) hx hb hr (fun t ht hW => ⟨⟨(-1 : Int32), (nI 0, tc, uwf, utf, uvf, pA, gA, fA, dA, lA), rfl, hq, by show va_P D vwCl _ t.heap; rw [ht]; exact hP⟩, hS.F ht⟩) hS.2.2 dX9_moves_17

abbrev rmX9_copy_same : Room := { frames := 2, cells := 0, slots := 0, locals := 60 }
set_option maxHeartbeats 4000000 in
set_option maxRecDepth 100000 in
theorem c_X9_copy_same (lL : Launch) (D : va_G) (cI cS : ClassId) (sz : Nat) (C : Co) (T : Mv) (E : Mv) (x0 : Nat) (g0 : Nat) (q0 : Nat) (e0 : Nat) (t0 : Nat) (r0 : Nat) (h0 : Nat) (i0 : Nat) (z0 : Nat) (y0 : Nat) (tr : Int32) (ft : Int32) (x1 : Int32) (x2 : Int32) (x3 : Int32) (x4 : Int32) (x5 : Int32) (s0 : Nat) (c0 : Nat) (len : Nat) (rl : Int32) (cf : Nat → Int32) (ys : Nat → Option Nat) (hselx1 : ∀ j, x1 = nI j → j < 4 → ys j = some s0) (hselx3 : ∀ j, x3 = nI j → j < 4 → ys j = some s0) (hlen : len ≤ 60) (hX : okX C T E) : Met lL yX9_copy wsX9_copy rmX9_copy_same (va_Pc [.ref x0, .int x1, .int x2, .int x3, .int x4, .int x5] (kB D cI cS [(x0, .inr (8, [.ref g0, .ref q0, .ref e0, .ref t0, .ref r0, .ref h0, .ref i0, .ref z0, .ref y0, .int tr, .int ft])), (y0, .inl (cS, 4, .inr (.inr (.inr (.inr ys))))), (s0, .inr (5, [.ref c0, .int (nI len), .int rl])), (c0, .inl (cI, 60, .inl cf))] sz)) (kQi D (fun (r : Int32) (u : Int32 × (Nat → Int32)) => r = sp_copy rl len rl len x1 x2 x3 x4 x5 ∧ u.1 = nf_copy rl len rl len x1 x2 x3 x4 x5 ∧ u.2 = (bif ok_copy rl len rl len x1 x2 x3 x4 x5 then va_cpy cf cf (tn x2) (tn x4) (tn x5) else cf)) (fun u : Int32 × (Nat → Int32) => [(x0, .inr (8, [.ref g0, .ref q0, .ref e0, .ref t0, .ref r0, .ref h0, .ref i0, .ref z0, .ref y0, .int tr, .int u.1])), (y0, .inl (cS, 4, .inr (.inr (.inr (.inr ys))))), (s0, .inr (5, [.ref c0, .int (nI len), .int rl])), (c0, .inl (cI, 60, .inl u.2))]) (va_A [(x0, .inr (8, [.ref g0, .ref q0, .ref e0, .ref t0, .ref r0, .ref h0, .ref i0, .ref z0, .ref y0, .int tr, .int ft])), (y0, .inl (cS, 4, .inr (.inr (.inr (.inr ys))))), (s0, .inr (5, [.ref c0, .int (nI len), .int rl])), (c0, .inl (cI, 60, .inl cf))] sz)) 0 0 (va_A [(x0, .inr (8, [.ref g0, .ref q0, .ref e0, .ref t0, .ref r0, .ref h0, .ref i0, .ref z0, .ref y0, .int tr, .int ft])), (y0, .inl (cS, 4, .inr (.inr (.inr (.inr ys))))), (s0, .inr (5, [.ref c0, .int (nI len), .int rl])), (c0, .inl (cI, 60, .inl cf))] sz) := by
  refine Met.ofW (cc := cX9_copy) (maxL := 8) (ret := (some .int)) (by decide) rfl ?_
  intro pP eE sS mM args below meth cC s₁ B hml hv
  obtain ⟨rfl, hsz, hP, hK, hD0⟩ := hv
  have hx := B.exec
  have hb := B.bytes
  have hr := B.returns
  have hts := atoms_spec (ws := wsX9_copy) B.pre
  have hown : sS.vm.findClass RX9 = some mM.cls := findClass_of_methodNamed B.named
  have hlocks := B.notSynchronized
  subst hsz
  have hD := hD0.self (sz := sS.heap.size)
  generalize hAe : va_A [(x0, .inr (8, [.ref g0, .ref q0, .ref e0, .ref t0, .ref r0, .ref h0, .ref i0, .ref z0, .ref y0, .int tr, .int ft])), (y0, .inl (cS, 4, .inr (.inr (.inr (.inr ys))))), (s0, .inr (5, [.ref c0, .int (nI len), .int rl])), (c0, .inl (cI, 60, .inl cf))] sS.heap.size = A at hD ⊢
  have hA : ∀ q : Nat, sS.heap.size ≤ q → A q := fun q h => by rw [← hAe]; exact Or.inr h
  have hS : va_S A sS.heap sS.heap [] := va_S.rf
  have hP : va_P D vwCl [(x0, .inr (8, [.ref g0, .ref q0, .ref e0, .ref t0, .ref r0, .ref h0, .ref i0, .ref z0, .ref y0, .int tr, .int ft])), (y0, .inl (cS, 4, .inr (.inr (.inr (.inr ys))))), (s0, .inr (5, [.ref c0, .int (nI len), .int rl])), (c0, .inl (cI, 60, .inl cf))] sS.heap := hP
  have hD : va_D A [(x0, .inr (8, [.ref g0, .ref q0, .ref e0, .ref t0, .ref r0, .ref h0, .ref i0, .ref z0, .ref y0, .int tr, .int ft])), (y0, .inl (cS, 4, .inr (.inr (.inr (.inr ys))))), (s0, .inr (5, [.ref c0, .int (nI len), .int rl])), (c0, .inl (cI, 60, .inl cf))] := hD
  have hf_53 := hts (.fieldLink RX9 53 "OldLamps" "sheets" "[LOldLamps$Sheet;") (List.mem_of_getElem? (i := 2) rfl)
  have hf_61 := hts (.fieldLink RX9 61 "OldLamps" "latestFault" "I") (List.mem_of_getElem? (i := 1) rfl)
  have hf_216 := hts (.fieldLink RX9 216 "OldLamps$Sheet" "cells" "[I") (List.mem_of_getElem? (i := 4) rfl)
  have hf_226 := hts (.fieldLink RX9 226 "OldLamps$Sheet" "rowLane" "I") (List.mem_of_getElem? (i := 3) rfl)
  have hac1 := hts (.methodLink RX9 229 arraycopyName) (List.mem_of_getElem? (i := 5) rfl)
  have hac2 := hts (.native arraycopyName) (List.mem_of_getElem? (i := 6) rfl)
  have hac3 := hts (.static arraycopyName) (List.mem_of_getElem? (i := 7) rfl)
  have hac4 := hts (.initialized "java/lang/System") (List.mem_of_getElem? (i := 8) rfl)
  have hwX6 : ∀ w ∈ wsX60, w ∈ wsX9_copy := fun _ h => List.mem_cons_of_mem _ (List.mem_append_right _ h)
  have hwX9 : ∀ w ∈ wsX90, w ∈ wsX9_copy := fun _ h => List.mem_cons_of_mem _ (List.mem_append_left _ (List.mem_append_right _ h))
  have hl := lv_entry ([.ref x0, .int x1, .int x2, .int x3, .int x4, .int x5]) (n := 8) (Nat.le_of_ble_eq_true rfl)
  rw [lg_entry_eq]
  generalize (lg_sl ([.ref x0, .int x1, .int x2, .int x3, .int x4, .int x5]) ++ List.replicate (8 - (lg_sl ([.ref x0, .int x1, .int x2, .int x3, .int x4, .int x5])).length) Slot.unset).toArray = ls at hl ⊢
  have hl : lv_has ls 8 [(0, .ref x0), (1, .int x1), (2, .int x2), (3, .int x3), (4, .int x4), (5, .int x5)] := hl
  obtain ⟨QQ, hQQ⟩ : ∃ QQ : State → Prop, QQ = MQ below (kQi D (fun (r : Int32) (u : Int32 × (Nat → Int32)) => r = sp_copy rl len rl len x1 x2 x3 x4 x5 ∧ u.1 = nf_copy rl len rl len x1 x2 x3 x4 x5 ∧ u.2 = (bif ok_copy rl len rl len x1 x2 x3 x4 x5 then va_cpy cf cf (tn x2) (tn x4) (tn x5) else cf)) (fun u : Int32 × (Nat → Int32) => [(x0, .inr (8, [.ref g0, .ref q0, .ref e0, .ref t0, .ref r0, .ref h0, .ref i0, .ref z0, .ref y0, .int tr, .int u.1])), (y0, .inl (cS, 4, .inr (.inr (.inr (.inr ys))))), (s0, .inr (5, [.ref c0, .int (nI len), .int rl])), (c0, .inl (cI, 60, .inl u.2))]) A) ([.ref x0, .int x1, .int x2, .int x3, .int x4, .int x5]).toArray sS 0 0 A := ⟨_, rfl⟩
  refine kk_QQ hQQ.symm ?_
  obtain ⟨hX1, hX2, hX3, hX4⟩ := okX_le hX
  refine lv_aload_n hx hb dX9_copy_0 rfl (lv_at hl 0 rfl) ?_
  refine lv_iconst (v := nI 0) hx hb dX9_copy_1 (by decide +kernel) ?_
  refine va_put (D := D) (ci := 8) (v := .int (nI 0)) (ty := .int) (C := RX9) (T := TX9) (N := 11) hx hb hts hwX9 tyX9 tyX9_ok nmX9 hown hK hP hD hS 0 rfl rfl 10 (by decide) hf_61 (fun _ h9 => h9) rfl (by decide +kernel) rfl rfl (Nat.le_of_ble_eq_true rfl) dX9_copy_2 (fun H locs hP hD hS => ?_)
  have hP : va_P D vwCl [(x0, .inr (8, [.ref g0, .ref q0, .ref e0, .ref t0, .ref r0, .ref h0, .ref i0, .ref z0, .ref y0, .int tr, .int (nI 0)])), (y0, .inl (cS, 4, .inr (.inr (.inr (.inr ys))))), (s0, .inr (5, [.ref c0, .int (nI len), .int rl])), (c0, .inl (cI, 60, .inl cf))] H := hP
  have hD : va_D A [(x0, .inr (8, [.ref g0, .ref q0, .ref e0, .ref t0, .ref r0, .ref h0, .ref i0, .ref z0, .ref y0, .int tr, .int (nI 0)])), (y0, .inl (cS, 4, .inr (.inr (.inr (.inr ys))))), (s0, .inr (5, [.ref c0, .int (nI len), .int rl])), (c0, .inl (cI, 60, .inl cf))] := hD
  refine lv_iload_n hx hb dX9_copy_5 rfl (lv_at hl 1 rfl) ?_
  refine vp_callSi (W.runS (As := [.int x1]) (rest := []) ⟨hx, hb, hml, hown, hts⟩ (c_X9_isSheet lL D cI cS x1) (va_cwS 1 hts gX9_copy_X9_isSheet rfl rfl rfl cd_X9_isSheet ⟨Nat.le_of_ble_eq_true rfl, Nat.le_of_ble_eq_true rfl⟩) ⟨kBp_blind, fun U hU hW => ⟨rfl, by rw [hU]; exact hP.sub [] rfl, va_K.moved hW.alike hK⟩⟩ rfl rfl hl.1 rfl (lv_room (Nat.le_of_ble_eq_true rfl)) dX9_copy_6 ⟨Nat.le_of_ble_eq_true rfl, Nat.le_of_ble_eq_true rfl⟩) (fun r_1 hw_1 => ?_)
  obtain rfl : r_1 = kb (inB x1 4) := hw_1
  -- if (inB x1 4)
  refine kk_ifb_eq (tgt := 19) hx hb dX9_copy_9 (by decide) (fun hb_2 => ?_) (fun hb_2 => ?_)
  · skip
    refine lv_iconst (v := (-1 : Int32)) hx hb dX9_copy_19 (by decide +kernel) ?_
    have hq : (-1 : Int32) = sp_copy rl len rl len x1 x2 x3 x4 x5 ∧ (nI 0) = nf_copy rl len rl len x1 x2 x3 x4 x5 ∧ cf = (bif ok_copy rl len rl len x1 x2 x3 x4 x5 then va_cpy cf cf (tn x2) (tn x4) (tn x5) else cf) := by refine ⟨by simp only [sp_copy, hb_2, cond_true, cond_false], by simp only [nf_copy, hb_2, cond_true, cond_false], by simp only [ok_copy, hb_2, cond_true, cond_false]⟩
    refine kk_QQ hQQ ?_
    exact W.iret (v := (-1 : Int32)) hx hb hr (fun t ht hW => ⟨⟨(-1 : Int32), (nI 0, cf), rfl, hq, by show va_P D vwCl _ t.heap; rw [ht]; exact hP⟩, hS.F ht⟩) hS.2.2 dX9_copy_20
  · skip
    obtain ⟨x1N, hx1N, rfl⟩ := inB_t hb_2
    have t_x1 := nI_clamp (show x1N < 2 ^ 31 by omega)
    refine lv_iload_n hx hb dX9_copy_12 rfl (lv_at hl 3 rfl) ?_
    refine vp_callSi (W.runS (As := [.int x3]) (rest := []) ⟨hx, hb, hml, hown, hts⟩ (c_X9_isSheet lL D cI cS x3) (va_cwS 1 hts gX9_copy_X9_isSheet rfl rfl rfl cd_X9_isSheet ⟨Nat.le_of_ble_eq_true rfl, Nat.le_of_ble_eq_true rfl⟩) ⟨kBp_blind, fun U hU hW => ⟨rfl, by rw [hU]; exact hP.sub [] rfl, va_K.moved hW.alike hK⟩⟩ rfl rfl hl.1 rfl (lv_room (Nat.le_of_ble_eq_true rfl)) dX9_copy_13 ⟨Nat.le_of_ble_eq_true rfl, Nat.le_of_ble_eq_true rfl⟩) (fun r_3 hw_3 => ?_)
    obtain rfl : r_3 = kb (inB x3 4) := hw_3
    -- if (inB x3 4)
    refine kk_ifb_ne (tgt := 21) hx hb dX9_copy_16 (by decide) (fun hb_4 => ?_) (fun hb_4 => ?_)
    · skip
      obtain ⟨x3N, hx3N, rfl⟩ := inB_t hb_4
      have t_x3 := nI_clamp (show x3N < 2 ^ 31 by omega)
      refine lv_aload_n hx hb dX9_copy_21 rfl (lv_at hl 0 rfl) ?_
      refine va_get (D := D) (ci := 8) (v := .ref y0) (C := RX9) (T := TX9) (N := 11) hx hb hts hwX9 hown hK hP 0 rfl rfl 8 (by decide) hf_53 (fun _ h9 => h9) rfl dX9_copy_22 ?_
      refine lv_iload_n hx hb dX9_copy_25 rfl (lv_at hl 1 rfl) ?_
      refine kk_aldq hx hb hK hP 1 rfl rfl (i := x1N) (by omega) (by decide) (hselx1 _ rfl hx1N) dX9_copy_26 ?_
      refine lv_astore (lv' := [(6, .ref s0), (0, .ref x0), (1, .int (nI x1N)), (2, .int x2), (3, .int (nI x3N)), (4, .int x4), (5, .int x5)]) hx hb dX9_copy_27 hl (by decide) rfl (fun ls hl => ?_)
      refine lv_aload_n hx hb dX9_copy_29 rfl (lv_at hl 1 rfl) ?_
      refine va_get (D := D) (ci := 8) (v := .ref y0) (C := RX9) (T := TX9) (N := 11) hx hb hts hwX9 hown hK hP 0 rfl rfl 8 (by decide) hf_53 (fun _ h9 => h9) rfl dX9_copy_30 ?_
      refine lv_iload_n hx hb dX9_copy_33 rfl (lv_at hl 4 rfl) ?_
      refine kk_aldq hx hb hK hP 1 rfl rfl (i := x3N) (by omega) (by decide) (hselx3 _ rfl hx3N) dX9_copy_34 ?_
      refine lv_astore (lv' := [(7, .ref s0), (6, .ref s0), (0, .ref x0), (1, .int (nI x1N)), (2, .int x2), (3, .int (nI x3N)), (4, .int x4), (5, .int x5)]) hx hb dX9_copy_35 hl (by decide) rfl (fun ls hl => ?_)
      refine lv_aload hx hb dX9_copy_37 (lv_at hl 1 rfl) ?_
      refine vp_callSi (W.runV (As := []) (rest := []) ⟨hx, hb, hml, hown, hts⟩ (c_X6_isNothing lL D cI cS s0 c0 len rl) (cwV 0 hts gX9_copy_X6_isNothing rfl rfl rfl cd_X6_isNothing ⟨Nat.le_of_ble_eq_true rfl, Nat.le_of_ble_eq_true rfl⟩) ⟨kBp_blind, va_recv hK hP (ci := 5) (q0 := 2) rfl rfl, fun U hU hW => ⟨rfl, by rw [hU]; exact hP.sub [2] rfl, va_K.moved hW.alike hK⟩⟩ rfl rfl hl.1 rfl (lv_room (Nat.le_of_ble_eq_true rfl)) dX9_copy_39 ⟨Nat.le_of_ble_eq_true rfl, Nat.le_of_ble_eq_true rfl⟩) (fun r_5 hw_5 => ?_)
      obtain rfl : r_5 = kb (decide (rl = (-1 : Int32))) := hw_5
      -- if (decide (rl = (-1 : Int32)))
      refine kk_ifb_ne (tgt := 53) hx hb dX9_copy_42 (by decide) (fun hb_6 => ?_) (fun hb_6 => ?_)
      · skip
        refine lv_aload_n hx hb dX9_copy_53 rfl (lv_at hl 2 rfl) ?_
        refine lv_iconst (v := nI 1) hx hb dX9_copy_54 (by decide +kernel) ?_
        have hF := va_free (wc := [(x0, .inr (8, [.ref g0, .ref q0, .ref e0, .ref t0, .ref r0, .ref h0, .ref i0, .ref z0, .ref y0, .int tr, .int (nI 0)]))]) hD hS hA [0] rfl
        refine va_calli (va_runV (As := [.int (nI 1)]) (rest := []) ⟨hx, hb, hml, hown, hts⟩ (c_X9_faulted lL D cI cS _ x0 (.ref g0) (.ref q0) (.ref e0) (.ref t0) (.ref r0) (.ref h0) (.ref i0) (.ref z0) (.ref y0) tr (nI 0) 1) (cwV 1 hts gX9_copy_X9_faulted rfl rfl rfl cd_X9_faulted ⟨Nat.le_of_ble_eq_true rfl, Nat.le_of_ble_eq_true rfl⟩) ⟨kB_blind, va_recv hK hP (ci := 8) (q0 := 0) rfl rfl, fun U hU hW => ⟨rfl, by rw [hU], by rw [hU]; exact hP.sub [0] rfl, va_K.moved hW.alike hK, (hD.sub [0] (by decide) rfl).weaken (fun _ _ _ _ => trivial)⟩⟩ rfl rfl hl.1 rfl (lv_room (Nat.le_of_ble_eq_true rfl)) dX9_copy_55 ⟨Nat.le_of_ble_eq_true rfl, Nat.le_of_ble_eq_true rfl⟩) hS (fun q _ h => hF q h) hF (fun r_7 u_7 t H1 locs ht hvm hw_7 hB hz1 hk1 hS => ?_)
        obtain ⟨hP, hD⟩ := kk_join2 (wc := [(x0, .inr (8, [.ref g0, .ref q0, .ref e0, .ref t0, .ref r0, .ref h0, .ref i0, .ref z0, .ref y0, .int tr, .int (nI 0)]))]) (w1 := [(x0, .inr (8, [.ref g0, .ref q0, .ref e0, .ref t0, .ref r0, .ref h0, .ref i0, .ref z0, .ref y0, .int tr, .int (nI 1)]))]) (ws' := [(x0, .inr (8, [.ref g0, .ref q0, .ref e0, .ref t0, .ref r0, .ref h0, .ref i0, .ref z0, .ref y0, .int tr, .int (nI 1)])), (y0, .inl (cS, 4, .inr (.inr (.inr (.inr ys))))), (s0, .inr (5, [.ref c0, .int (nI len), .int rl])), (c0, .inl (cI, 60, .inl cf))]) (wr := [(y0, .inl (cS, 4, .inr (.inr (.inr (.inr ys))))), (s0, .inr (5, [.ref c0, .int (nI len), .int rl])), (c0, .inl (cI, 60, .inl cf))]) (H1 := H1) hP hD [0] [1, 2, 3] rfl rfl rfl rfl 4 rfl (by decide) [x0, y0, s0, c0] rfl rfl hk1 (by rw [← ht]; exact hB)
        have hw_7 : r_7 = (-10 : Int32) - nI 1 ∧ True := hw_7
        clear hF hB hk1 hz1 hvm
        clear ht
        generalize H1 = H at hP hS ⊢
        obtain ⟨rfl, hw_7⟩ := hw_7
        have hq : ((-10 : Int32) - nI 1) = sp_copy rl len rl len (nI x1N) x2 (nI x3N) x4 x5 ∧ (nI 1) = nf_copy rl len rl len (nI x1N) x2 (nI x3N) x4 x5 ∧ cf = (bif ok_copy rl len rl len (nI x1N) x2 (nI x3N) x4 x5 then va_cpy cf cf (tn x2) (tn x4) (tn x5) else cf) := by refine ⟨by simp only [sp_copy, hb_2, hb_4, hb_6, t_x1, t_x3, cond_true, cond_false], by simp only [nf_copy, hb_2, hb_4, hb_6, t_x1, t_x3, cond_true, cond_false], by simp only [ok_copy, hb_2, hb_4, hb_6, t_x1, t_x3, cond_true, cond_false]⟩
        refine kk_QQ hQQ ?_
        exact W.iret (v := (-10 : Int32) - nI 1) hx hb hr (fun t ht hW => ⟨⟨(-10 : Int32) - nI 1, (nI 1, cf), rfl, hq, by show va_P D vwCl _ t.heap; rw [ht]; exact hP⟩, hS.F ht⟩) hS.2.2 dX9_copy_58
      · skip
        refine lv_aload hx hb dX9_copy_45 (lv_at hl 0 rfl) ?_
        refine vp_callSi (W.runV (As := []) (rest := []) ⟨hx, hb, hml, hown, hts⟩ (c_X6_isNothing lL D cI cS s0 c0 len rl) (cwV 0 hts gX9_copy_X6_isNothing rfl rfl rfl cd_X6_isNothing ⟨Nat.le_of_ble_eq_true rfl, Nat.le_of_ble_eq_true rfl⟩) ⟨kBp_blind, va_recv hK hP (ci := 5) (q0 := 2) rfl rfl, fun U hU hW => ⟨rfl, by rw [hU]; exact hP.sub [2] rfl, va_K.moved hW.alike hK⟩⟩ rfl rfl hl.1 rfl (lv_room (Nat.le_of_ble_eq_true rfl)) dX9_copy_47 ⟨Nat.le_of_ble_eq_true rfl, Nat.le_of_ble_eq_true rfl⟩) (fun r_8 hw_8 => ?_)
        obtain rfl : r_8 = kb (decide (rl = (-1 : Int32))) := hw_8
        -- if (decide (rl = (-1 : Int32)))
        refine kk_ifb_eq (tgt := 59) hx hb dX9_copy_50 (by decide) (fun hb_9 => ?_) (fun hb_9 => ?_)
        · skip
          refine lv_aload hx hb dX9_copy_59 (lv_at hl 1 rfl) ?_
          refine lv_aload hx hb dX9_copy_61 (lv_at hl 0 rfl) ?_
          refine va_get (D := D) (ci := 5) (v := .int rl) (C := RX6) (T := TX6) (N := 3) hx hb hts hwX6 hown hK hP 2 rfl rfl 2 (by decide) hf_226 (fun _ h9 => h9) rfl dX9_copy_63 ?_
          refine vp_callSi (W.runV (As := [.int rl]) (rest := []) ⟨hx, hb, hml, hown, hts⟩ (c_X6_isOfAnotherLane lL D cI cS s0 c0 len rl rl) (cwV 1 hts gX9_copy_X6_isOfAnotherLane rfl rfl rfl cd_X6_isOfAnotherLane ⟨Nat.le_of_ble_eq_true rfl, Nat.le_of_ble_eq_true rfl⟩) ⟨kBp_blind, va_recv hK hP (ci := 5) (q0 := 2) rfl rfl, fun U hU hW => ⟨rfl, by rw [hU]; exact hP.sub [2] rfl, va_K.moved hW.alike hK⟩⟩ rfl rfl hl.1 rfl (lv_room (Nat.le_of_ble_eq_true rfl)) dX9_copy_66 ⟨Nat.le_of_ble_eq_true rfl, Nat.le_of_ble_eq_true rfl⟩) (fun r_10 hw_10 => ?_)
          obtain rfl : r_10 = kb (decide (rl ≠ (-1 : Int32) ∧ rl ≠ rl)) := hw_10
          -- if (decide (rl ≠ (-1 : Int32) ∧ rl ≠ rl))
          refine kk_ifb_eq (tgt := 78) hx hb dX9_copy_69 (by decide) (fun hb_11 => ?_) (fun hb_11 => ?_)
          · skip
            refine lv_aload hx hb dX9_copy_78 (lv_at hl 1 rfl) ?_
            refine lv_iload_n hx hb dX9_copy_80 rfl (lv_at hl 4 rfl) ?_
            refine lv_iload hx hb dX9_copy_81 (lv_at hl 7 rfl) ?_
            have o_12 : len ≤ 60 := by omega
            refine vp_callSi (W.runV (As := [.int x2, .int x5]) (rest := []) ⟨hx, hb, hml, hown, hts⟩ (c_X6_hasCells lL D cI cS s0 c0 len rl x2 x5 o_12) (cwV 2 hts gX9_copy_X6_hasCells rfl rfl rfl cd_X6_hasCells ⟨Nat.le_of_ble_eq_true rfl, Nat.le_of_ble_eq_true rfl⟩) ⟨kBp_blind, va_recv hK hP (ci := 5) (q0 := 2) rfl rfl, fun U hU hW => ⟨rfl, by rw [hU]; exact hP.sub [2] rfl, va_K.moved hW.alike hK⟩⟩ rfl rfl hl.1 rfl (lv_room (Nat.le_of_ble_eq_true rfl)) dX9_copy_83 ⟨Nat.le_of_ble_eq_true rfl, Nat.le_of_ble_eq_true rfl⟩) (fun r_13 hw_13 => ?_)
            obtain rfl : r_13 = kb (hasC len x2 x5) := hw_13
            -- if (hasC len x2 x5)
            refine kk_ifb_eq (tgt := 101) hx hb dX9_copy_86 (by decide) (fun hb_14 => ?_) (fun hb_14 => ?_)
            · skip
              refine lv_aload_n hx hb dX9_copy_101 rfl (lv_at hl 2 rfl) ?_
              refine lv_iconst (v := nI 3) hx hb dX9_copy_102 (by decide +kernel) ?_
              have hF := va_free (wc := [(x0, .inr (8, [.ref g0, .ref q0, .ref e0, .ref t0, .ref r0, .ref h0, .ref i0, .ref z0, .ref y0, .int tr, .int (nI 0)]))]) hD hS hA [0] rfl
              refine va_calli (va_runV (As := [.int (nI 3)]) (rest := []) ⟨hx, hb, hml, hown, hts⟩ (c_X9_faulted lL D cI cS _ x0 (.ref g0) (.ref q0) (.ref e0) (.ref t0) (.ref r0) (.ref h0) (.ref i0) (.ref z0) (.ref y0) tr (nI 0) 3) (cwV 1 hts gX9_copy_X9_faulted rfl rfl rfl cd_X9_faulted ⟨Nat.le_of_ble_eq_true rfl, Nat.le_of_ble_eq_true rfl⟩) ⟨kB_blind, va_recv hK hP (ci := 8) (q0 := 0) rfl rfl, fun U hU hW => ⟨rfl, by rw [hU], by rw [hU]; exact hP.sub [0] rfl, va_K.moved hW.alike hK, (hD.sub [0] (by decide) rfl).weaken (fun _ _ _ _ => trivial)⟩⟩ rfl rfl hl.1 rfl (lv_room (Nat.le_of_ble_eq_true rfl)) dX9_copy_103 ⟨Nat.le_of_ble_eq_true rfl, Nat.le_of_ble_eq_true rfl⟩) hS (fun q _ h => hF q h) hF (fun r_15 u_15 t H1 locs ht hvm hw_15 hB hz1 hk1 hS => ?_)
              obtain ⟨hP, hD⟩ := kk_join2 (wc := [(x0, .inr (8, [.ref g0, .ref q0, .ref e0, .ref t0, .ref r0, .ref h0, .ref i0, .ref z0, .ref y0, .int tr, .int (nI 0)]))]) (w1 := [(x0, .inr (8, [.ref g0, .ref q0, .ref e0, .ref t0, .ref r0, .ref h0, .ref i0, .ref z0, .ref y0, .int tr, .int (nI 3)]))]) (ws' := [(x0, .inr (8, [.ref g0, .ref q0, .ref e0, .ref t0, .ref r0, .ref h0, .ref i0, .ref z0, .ref y0, .int tr, .int (nI 3)])), (y0, .inl (cS, 4, .inr (.inr (.inr (.inr ys))))), (s0, .inr (5, [.ref c0, .int (nI len), .int rl])), (c0, .inl (cI, 60, .inl cf))]) (wr := [(y0, .inl (cS, 4, .inr (.inr (.inr (.inr ys))))), (s0, .inr (5, [.ref c0, .int (nI len), .int rl])), (c0, .inl (cI, 60, .inl cf))]) (H1 := H1) hP hD [0] [1, 2, 3] rfl rfl rfl rfl 4 rfl (by decide) [x0, y0, s0, c0] rfl rfl hk1 (by rw [← ht]; exact hB)
              have hw_15 : r_15 = (-10 : Int32) - nI 3 ∧ True := hw_15
              clear hF hB hk1 hz1 hvm
              clear ht
              generalize H1 = H at hP hS ⊢
              obtain ⟨rfl, hw_15⟩ := hw_15
              have hq : ((-10 : Int32) - nI 3) = sp_copy rl len rl len (nI x1N) x2 (nI x3N) x4 x5 ∧ (nI 3) = nf_copy rl len rl len (nI x1N) x2 (nI x3N) x4 x5 ∧ cf = (bif ok_copy rl len rl len (nI x1N) x2 (nI x3N) x4 x5 then va_cpy cf cf (tn x2) (tn x4) (tn x5) else cf) := by refine ⟨by simp only [sp_copy, hb_2, hb_4, hb_6, hb_9, hb_11, hb_14, t_x1, t_x3, cond_true, cond_false], by simp only [nf_copy, hb_2, hb_4, hb_6, hb_9, hb_11, hb_14, t_x1, t_x3, cond_true, cond_false], by simp only [ok_copy, hb_2, hb_4, hb_6, hb_9, hb_11, hb_14, t_x1, t_x3, cond_true, cond_false]⟩
              refine kk_QQ hQQ ?_
              exact W.iret (v := (-10 : Int32) - nI 3) hx hb hr (fun t ht hW => ⟨⟨(-10 : Int32) - nI 3, (nI 3, cf), rfl, hq, by show va_P D vwCl _ t.heap; rw [ht]; exact hP⟩, hS.F ht⟩) hS.2.2 dX9_copy_106
            · skip
              obtain ⟨x2N, x5N, hx2N, rfl, rfl⟩ := hasC_2 (by omega) hb_14
              have t_x2 := nI_clamp (show x2N < 2 ^ 31 by omega)
              have t_x5 := nI_clamp (show x5N < 2 ^ 31 by omega)
              refine lv_aload hx hb dX9_copy_89 (lv_at hl 0 rfl) ?_
              refine lv_iload hx hb dX9_copy_91 (lv_at hl 6 rfl) ?_
              refine lv_iload hx hb dX9_copy_93 (lv_at hl 7 rfl) ?_
              have o_16 : len ≤ 60 := by omega
              refine vp_callSi (W.runV (As := [.int x4, .int (nI x5N)]) (rest := []) ⟨hx, hb, hml, hown, hts⟩ (c_X6_hasCells lL D cI cS s0 c0 len rl x4 (nI x5N) o_16) (cwV 2 hts gX9_copy_X6_hasCells rfl rfl rfl cd_X6_hasCells ⟨Nat.le_of_ble_eq_true rfl, Nat.le_of_ble_eq_true rfl⟩) ⟨kBp_blind, va_recv hK hP (ci := 5) (q0 := 2) rfl rfl, fun U hU hW => ⟨rfl, by rw [hU]; exact hP.sub [2] rfl, va_K.moved hW.alike hK⟩⟩ rfl rfl hl.1 rfl (lv_room (Nat.le_of_ble_eq_true rfl)) dX9_copy_95 ⟨Nat.le_of_ble_eq_true rfl, Nat.le_of_ble_eq_true rfl⟩) (fun r_17 hw_17 => ?_)
              obtain rfl : r_17 = kb (hasC len x4 (nI x5N)) := hw_17
              -- if (hasC len x4 (nI x5N))
              refine kk_ifb_ne (tgt := 107) hx hb dX9_copy_98 (by decide) (fun hb_18 => ?_) (fun hb_18 => ?_)
              · skip
                obtain ⟨x4N, hx4N, rfl⟩ := hasC_n (by omega) (by omega) hb_18
                have t_x4 := nI_clamp (show x4N < 2 ^ 31 by omega)
                refine lv_aload hx hb dX9_copy_107 (lv_at hl 1 rfl) ?_
                refine va_get (D := D) (ci := 5) (v := .ref c0) (C := RX6) (T := TX6) (N := 3) hx hb hts hwX6 hown hK hP 2 rfl rfl 0 (by decide) hf_216 (fun _ h9 => h9) rfl dX9_copy_109 ?_
                refine lv_iload_n hx hb dX9_copy_112 rfl (lv_at hl 4 rfl) ?_
                refine lv_aload hx hb dX9_copy_113 (lv_at hl 0 rfl) ?_
                refine va_get (D := D) (ci := 5) (v := .ref c0) (C := RX6) (T := TX6) (N := 3) hx hb hts hwX6 hown hK hP 2 rfl rfl 0 (by decide) hf_216 (fun _ h9 => h9) rfl dX9_copy_115 ?_
                refine lv_iload hx hb dX9_copy_118 (lv_at hl 6 rfl) ?_
                refine lv_iload hx hb dX9_copy_120 (lv_at hl 7 rfl) ?_
                refine kk_copyi hx hb (hml.trans hl.1.symm) hown hac1 hac2 hac3 hac4 hK hP hD hS 3 3 rfl rfl rfl (by omega) (by omega) (by decide) (by decide) (Nat.le_of_ble_eq_true rfl) (Nat.le_of_ble_eq_true rfl) dX9_copy_122 (fun H locs hP hD hS => ?_)
                have hP : va_P D vwCl [(x0, .inr (8, [.ref g0, .ref q0, .ref e0, .ref t0, .ref r0, .ref h0, .ref i0, .ref z0, .ref y0, .int tr, .int (nI 0)])), (y0, .inl (cS, 4, .inr (.inr (.inr (.inr ys))))), (s0, .inr (5, [.ref c0, .int (nI len), .int rl])), (c0, .inl (cI, 60, .inl (va_cpy cf cf x2N x4N x5N)))] H := hP
                have hD : va_D A [(x0, .inr (8, [.ref g0, .ref q0, .ref e0, .ref t0, .ref r0, .ref h0, .ref i0, .ref z0, .ref y0, .int tr, .int (nI 0)])), (y0, .inl (cS, 4, .inr (.inr (.inr (.inr ys))))), (s0, .inr (5, [.ref c0, .int (nI len), .int rl])), (c0, .inl (cI, 60, .inl (va_cpy cf cf x2N x4N x5N)))] := hD
                refine lv_iload hx hb dX9_copy_125 (lv_at hl 7 rfl) ?_
                have hq : (nI x5N) = sp_copy rl len rl len (nI x1N) (nI x2N) (nI x3N) (nI x4N) (nI x5N) ∧ (nI 0) = nf_copy rl len rl len (nI x1N) (nI x2N) (nI x3N) (nI x4N) (nI x5N) ∧ (va_cpy cf cf x2N x4N x5N) = (bif ok_copy rl len rl len (nI x1N) (nI x2N) (nI x3N) (nI x4N) (nI x5N) then va_cpy cf cf (tn (nI x2N)) (tn (nI x4N)) (tn (nI x5N)) else cf) := by refine ⟨by simp only [sp_copy, hb_2, hb_4, hb_6, hb_9, hb_11, hb_14, hb_18, t_x1, t_x3, t_x2, t_x5, t_x4, cond_true, cond_false], by simp only [nf_copy, hb_2, hb_4, hb_6, hb_9, hb_11, hb_14, hb_18, t_x1, t_x3, t_x2, t_x5, t_x4, cond_true, cond_false], by simp only [ok_copy, hb_2, hb_4, hb_6, hb_9, hb_11, hb_14, hb_18, t_x1, t_x3, t_x2, t_x5, t_x4, cond_true, cond_false]⟩
                refine kk_QQ hQQ ?_
                exact W.iret (v := nI x5N) hx hb hr (fun t ht hW => ⟨⟨nI x5N, (nI 0, va_cpy cf cf x2N x4N x5N), rfl, hq, by show va_P D vwCl _ t.heap; rw [ht]; exact hP⟩, hS.F ht⟩) hS.2.2 dX9_copy_127
              · skip
                refine lv_aload_n hx hb dX9_copy_101 rfl (lv_at hl 2 rfl) ?_
                refine lv_iconst (v := nI 3) hx hb dX9_copy_102 (by decide +kernel) ?_
                have hF := va_free (wc := [(x0, .inr (8, [.ref g0, .ref q0, .ref e0, .ref t0, .ref r0, .ref h0, .ref i0, .ref z0, .ref y0, .int tr, .int (nI 0)]))]) hD hS hA [0] rfl
                refine va_calli (va_runV (As := [.int (nI 3)]) (rest := []) ⟨hx, hb, hml, hown, hts⟩ (c_X9_faulted lL D cI cS _ x0 (.ref g0) (.ref q0) (.ref e0) (.ref t0) (.ref r0) (.ref h0) (.ref i0) (.ref z0) (.ref y0) tr (nI 0) 3) (cwV 1 hts gX9_copy_X9_faulted rfl rfl rfl cd_X9_faulted ⟨Nat.le_of_ble_eq_true rfl, Nat.le_of_ble_eq_true rfl⟩) ⟨kB_blind, va_recv hK hP (ci := 8) (q0 := 0) rfl rfl, fun U hU hW => ⟨rfl, by rw [hU], by rw [hU]; exact hP.sub [0] rfl, va_K.moved hW.alike hK, (hD.sub [0] (by decide) rfl).weaken (fun _ _ _ _ => trivial)⟩⟩ rfl rfl hl.1 rfl (lv_room (Nat.le_of_ble_eq_true rfl)) dX9_copy_103 ⟨Nat.le_of_ble_eq_true rfl, Nat.le_of_ble_eq_true rfl⟩) hS (fun q _ h => hF q h) hF (fun r_19 u_19 t H1 locs ht hvm hw_19 hB hz1 hk1 hS => ?_)
                obtain ⟨hP, hD⟩ := kk_join2 (wc := [(x0, .inr (8, [.ref g0, .ref q0, .ref e0, .ref t0, .ref r0, .ref h0, .ref i0, .ref z0, .ref y0, .int tr, .int (nI 0)]))]) (w1 := [(x0, .inr (8, [.ref g0, .ref q0, .ref e0, .ref t0, .ref r0, .ref h0, .ref i0, .ref z0, .ref y0, .int tr, .int (nI 3)]))]) (ws' := [(x0, .inr (8, [.ref g0, .ref q0, .ref e0, .ref t0, .ref r0, .ref h0, .ref i0, .ref z0, .ref y0, .int tr, .int (nI 3)])), (y0, .inl (cS, 4, .inr (.inr (.inr (.inr ys))))), (s0, .inr (5, [.ref c0, .int (nI len), .int rl])), (c0, .inl (cI, 60, .inl cf))]) (wr := [(y0, .inl (cS, 4, .inr (.inr (.inr (.inr ys))))), (s0, .inr (5, [.ref c0, .int (nI len), .int rl])), (c0, .inl (cI, 60, .inl cf))]) (H1 := H1) hP hD [0] [1, 2, 3] rfl rfl rfl rfl 4 rfl (by decide) [x0, y0, s0, c0] rfl rfl hk1 (by rw [← ht]; exact hB)
                have hw_19 : r_19 = (-10 : Int32) - nI 3 ∧ True := hw_19
                clear hF hB hk1 hz1 hvm
                clear ht
                generalize H1 = H at hP hS ⊢
                obtain ⟨rfl, hw_19⟩ := hw_19
                have hq : ((-10 : Int32) - nI 3) = sp_copy rl len rl len (nI x1N) (nI x2N) (nI x3N) x4 (nI x5N) ∧ (nI 3) = nf_copy rl len rl len (nI x1N) (nI x2N) (nI x3N) x4 (nI x5N) ∧ cf = (bif ok_copy rl len rl len (nI x1N) (nI x2N) (nI x3N) x4 (nI x5N) then va_cpy cf cf (tn (nI x2N)) (tn x4) (tn (nI x5N)) else cf) := by refine ⟨by simp only [sp_copy, hb_2, hb_4, hb_6, hb_9, hb_11, hb_14, hb_18, t_x1, t_x3, t_x2, t_x5, cond_true, cond_false], by simp only [nf_copy, hb_2, hb_4, hb_6, hb_9, hb_11, hb_14, hb_18, t_x1, t_x3, t_x2, t_x5, cond_true, cond_false], by simp only [ok_copy, hb_2, hb_4, hb_6, hb_9, hb_11, hb_14, hb_18, t_x1, t_x3, t_x2, t_x5, cond_true, cond_false]⟩
                refine kk_QQ hQQ ?_
                exact W.iret (v := (-10 : Int32) - nI 3) hx hb hr (fun t ht hW => ⟨⟨(-10 : Int32) - nI 3, (nI 3, cf), rfl, hq, by show va_P D vwCl _ t.heap; rw [ht]; exact hP⟩, hS.F ht⟩) hS.2.2 dX9_copy_106
          · skip
            refine lv_aload_n hx hb dX9_copy_72 rfl (lv_at hl 2 rfl) ?_
            refine lv_iconst (v := nI 2) hx hb dX9_copy_73 (by decide +kernel) ?_
            have hF := va_free (wc := [(x0, .inr (8, [.ref g0, .ref q0, .ref e0, .ref t0, .ref r0, .ref h0, .ref i0, .ref z0, .ref y0, .int tr, .int (nI 0)]))]) hD hS hA [0] rfl
            refine va_calli (va_runV (As := [.int (nI 2)]) (rest := []) ⟨hx, hb, hml, hown, hts⟩ (c_X9_faulted lL D cI cS _ x0 (.ref g0) (.ref q0) (.ref e0) (.ref t0) (.ref r0) (.ref h0) (.ref i0) (.ref z0) (.ref y0) tr (nI 0) 2) (cwV 1 hts gX9_copy_X9_faulted rfl rfl rfl cd_X9_faulted ⟨Nat.le_of_ble_eq_true rfl, Nat.le_of_ble_eq_true rfl⟩) ⟨kB_blind, va_recv hK hP (ci := 8) (q0 := 0) rfl rfl, fun U hU hW => ⟨rfl, by rw [hU], by rw [hU]; exact hP.sub [0] rfl, va_K.moved hW.alike hK, (hD.sub [0] (by decide) rfl).weaken (fun _ _ _ _ => trivial)⟩⟩ rfl rfl hl.1 rfl (lv_room (Nat.le_of_ble_eq_true rfl)) dX9_copy_74 ⟨Nat.le_of_ble_eq_true rfl, Nat.le_of_ble_eq_true rfl⟩) hS (fun q _ h => hF q h) hF (fun r_20 u_20 t H1 locs ht hvm hw_20 hB hz1 hk1 hS => ?_)
            obtain ⟨hP, hD⟩ := kk_join2 (wc := [(x0, .inr (8, [.ref g0, .ref q0, .ref e0, .ref t0, .ref r0, .ref h0, .ref i0, .ref z0, .ref y0, .int tr, .int (nI 0)]))]) (w1 := [(x0, .inr (8, [.ref g0, .ref q0, .ref e0, .ref t0, .ref r0, .ref h0, .ref i0, .ref z0, .ref y0, .int tr, .int (nI 2)]))]) (ws' := [(x0, .inr (8, [.ref g0, .ref q0, .ref e0, .ref t0, .ref r0, .ref h0, .ref i0, .ref z0, .ref y0, .int tr, .int (nI 2)])), (y0, .inl (cS, 4, .inr (.inr (.inr (.inr ys))))), (s0, .inr (5, [.ref c0, .int (nI len), .int rl])), (c0, .inl (cI, 60, .inl cf))]) (wr := [(y0, .inl (cS, 4, .inr (.inr (.inr (.inr ys))))), (s0, .inr (5, [.ref c0, .int (nI len), .int rl])), (c0, .inl (cI, 60, .inl cf))]) (H1 := H1) hP hD [0] [1, 2, 3] rfl rfl rfl rfl 4 rfl (by decide) [x0, y0, s0, c0] rfl rfl hk1 (by rw [← ht]; exact hB)
            have hw_20 : r_20 = (-10 : Int32) - nI 2 ∧ True := hw_20
            clear hF hB hk1 hz1 hvm
            clear ht
            generalize H1 = H at hP hS ⊢
            obtain ⟨rfl, hw_20⟩ := hw_20
            have hq : ((-10 : Int32) - nI 2) = sp_copy rl len rl len (nI x1N) x2 (nI x3N) x4 x5 ∧ (nI 2) = nf_copy rl len rl len (nI x1N) x2 (nI x3N) x4 x5 ∧ cf = (bif ok_copy rl len rl len (nI x1N) x2 (nI x3N) x4 x5 then va_cpy cf cf (tn x2) (tn x4) (tn x5) else cf) := by refine ⟨by simp only [sp_copy, hb_2, hb_4, hb_6, hb_9, hb_11, t_x1, t_x3, cond_true, cond_false], by simp only [nf_copy, hb_2, hb_4, hb_6, hb_9, hb_11, t_x1, t_x3, cond_true, cond_false], by simp only [ok_copy, hb_2, hb_4, hb_6, hb_9, hb_11, t_x1, t_x3, cond_true, cond_false]⟩
            refine kk_QQ hQQ ?_
            exact W.iret (v := (-10 : Int32) - nI 2) hx hb hr (fun t ht hW => ⟨⟨(-10 : Int32) - nI 2, (nI 2, cf), rfl, hq, by show va_P D vwCl _ t.heap; rw [ht]; exact hP⟩, hS.F ht⟩) hS.2.2 dX9_copy_77
        · skip
          refine lv_aload_n hx hb dX9_copy_53 rfl (lv_at hl 2 rfl) ?_
          refine lv_iconst (v := nI 1) hx hb dX9_copy_54 (by decide +kernel) ?_
          have hF := va_free (wc := [(x0, .inr (8, [.ref g0, .ref q0, .ref e0, .ref t0, .ref r0, .ref h0, .ref i0, .ref z0, .ref y0, .int tr, .int (nI 0)]))]) hD hS hA [0] rfl
          refine va_calli (va_runV (As := [.int (nI 1)]) (rest := []) ⟨hx, hb, hml, hown, hts⟩ (c_X9_faulted lL D cI cS _ x0 (.ref g0) (.ref q0) (.ref e0) (.ref t0) (.ref r0) (.ref h0) (.ref i0) (.ref z0) (.ref y0) tr (nI 0) 1) (cwV 1 hts gX9_copy_X9_faulted rfl rfl rfl cd_X9_faulted ⟨Nat.le_of_ble_eq_true rfl, Nat.le_of_ble_eq_true rfl⟩) ⟨kB_blind, va_recv hK hP (ci := 8) (q0 := 0) rfl rfl, fun U hU hW => ⟨rfl, by rw [hU], by rw [hU]; exact hP.sub [0] rfl, va_K.moved hW.alike hK, (hD.sub [0] (by decide) rfl).weaken (fun _ _ _ _ => trivial)⟩⟩ rfl rfl hl.1 rfl (lv_room (Nat.le_of_ble_eq_true rfl)) dX9_copy_55 ⟨Nat.le_of_ble_eq_true rfl, Nat.le_of_ble_eq_true rfl⟩) hS (fun q _ h => hF q h) hF (fun r_21 u_21 t H1 locs ht hvm hw_21 hB hz1 hk1 hS => ?_)
          obtain ⟨hP, hD⟩ := kk_join2 (wc := [(x0, .inr (8, [.ref g0, .ref q0, .ref e0, .ref t0, .ref r0, .ref h0, .ref i0, .ref z0, .ref y0, .int tr, .int (nI 0)]))]) (w1 := [(x0, .inr (8, [.ref g0, .ref q0, .ref e0, .ref t0, .ref r0, .ref h0, .ref i0, .ref z0, .ref y0, .int tr, .int (nI 1)]))]) (ws' := [(x0, .inr (8, [.ref g0, .ref q0, .ref e0, .ref t0, .ref r0, .ref h0, .ref i0, .ref z0, .ref y0, .int tr, .int (nI 1)])), (y0, .inl (cS, 4, .inr (.inr (.inr (.inr ys))))), (s0, .inr (5, [.ref c0, .int (nI len), .int rl])), (c0, .inl (cI, 60, .inl cf))]) (wr := [(y0, .inl (cS, 4, .inr (.inr (.inr (.inr ys))))), (s0, .inr (5, [.ref c0, .int (nI len), .int rl])), (c0, .inl (cI, 60, .inl cf))]) (H1 := H1) hP hD [0] [1, 2, 3] rfl rfl rfl rfl 4 rfl (by decide) [x0, y0, s0, c0] rfl rfl hk1 (by rw [← ht]; exact hB)
          have hw_21 : r_21 = (-10 : Int32) - nI 1 ∧ True := hw_21
          clear hF hB hk1 hz1 hvm
          clear ht
          generalize H1 = H at hP hS ⊢
          obtain ⟨rfl, hw_21⟩ := hw_21
          have hq : ((-10 : Int32) - nI 1) = sp_copy rl len rl len (nI x1N) x2 (nI x3N) x4 x5 ∧ (nI 1) = nf_copy rl len rl len (nI x1N) x2 (nI x3N) x4 x5 ∧ cf = (bif ok_copy rl len rl len (nI x1N) x2 (nI x3N) x4 x5 then va_cpy cf cf (tn x2) (tn x4) (tn x5) else cf) := by exact absurd (hb_6.symm.trans hb_9) (by decide)
          refine kk_QQ hQQ ?_
          exact W.iret (v := (-10 : Int32) - nI 1) hx hb hr (fun t ht hW => ⟨⟨(-10 : Int32) - nI 1, (nI 1, cf), rfl, hq, by show va_P D vwCl _ t.heap; rw [ht]; exact hP⟩, hS.F ht⟩) hS.2.2 dX9_copy_58
    · skip
      refine lv_iconst (v := (-1 : Int32)) hx hb dX9_copy_19 (by decide +kernel) ?_
      have hq : (-1 : Int32) = sp_copy rl len rl len (nI x1N) x2 x3 x4 x5 ∧ (nI 0) = nf_copy rl len rl len (nI x1N) x2 x3 x4 x5 ∧ cf = (bif ok_copy rl len rl len (nI x1N) x2 x3 x4 x5 then va_cpy cf cf (tn x2) (tn x4) (tn x5) else cf) := by refine ⟨by simp only [sp_copy, hb_2, hb_4, t_x1, cond_true, cond_false], by simp only [nf_copy, hb_2, hb_4, t_x1, cond_true, cond_false], by simp only [ok_copy, hb_2, hb_4, t_x1, cond_true, cond_false]⟩
      refine kk_QQ hQQ ?_
      exact W.iret (v := (-1 : Int32)) hx hb hr (fun t ht hW => ⟨⟨(-1 : Int32), (nI 0, cf), rfl, hq, by show va_P D vwCl _ t.heap; rw [ht]; exact hP⟩, hS.F ht⟩) hS.2.2 dX9_copy_20

abbrev rmX9_copy_diff : Room := { frames := 2, cells := 0, slots := 0, locals := 60 }
set_option maxHeartbeats 4000000 in
set_option maxRecDepth 100000 in
theorem c_X9_copy_diff (lL : Launch) (D : va_G) (cI cS : ClassId) (sz : Nat) (C : Co) (T : Mv) (E : Mv) (x0 : Nat) (g0 : Nat) (q0 : Nat) (e0 : Nat) (t0 : Nat) (r0 : Nat) (h0 : Nat) (i0 : Nat) (z0 : Nat) (y0 : Nat) (tr : Int32) (ft : Int32) (x1 : Int32) (x2 : Int32) (x3 : Int32) (x4 : Int32) (x5 : Int32) (s0 : Nat) (c0 : Nat) (len : Nat) (rl : Int32) (cf : Nat → Int32) (p0 : Nat) (d0 : Nat) (lenb : Nat) (rb : Int32) (df : Nat → Int32) (ys : Nat → Option Nat) (hselx1 : ∀ j, x1 = nI j → j < 4 → ys j = some s0) (hselx3 : ∀ j, x3 = nI j → j < 4 → ys j = some p0) (hlen : len ≤ 60) (hlenb : lenb ≤ 60) (hX : okX C T E) : Met lL yX9_copy wsX9_copy rmX9_copy_diff (va_Pc [.ref x0, .int x1, .int x2, .int x3, .int x4, .int x5] (kB D cI cS [(x0, .inr (8, [.ref g0, .ref q0, .ref e0, .ref t0, .ref r0, .ref h0, .ref i0, .ref z0, .ref y0, .int tr, .int ft])), (y0, .inl (cS, 4, .inr (.inr (.inr (.inr ys))))), (s0, .inr (5, [.ref c0, .int (nI len), .int rl])), (c0, .inl (cI, 60, .inl cf)), (p0, .inr (5, [.ref d0, .int (nI lenb), .int rb])), (d0, .inl (cI, 60, .inl df))] sz)) (kQi D (fun (r : Int32) (u : Int32 × (Nat → Int32)) => r = sp_copy rl len rb lenb x1 x2 x3 x4 x5 ∧ u.1 = nf_copy rl len rb lenb x1 x2 x3 x4 x5 ∧ u.2 = (bif ok_copy rl len rb lenb x1 x2 x3 x4 x5 then va_cpy cf df (tn x2) (tn x4) (tn x5) else df)) (fun u : Int32 × (Nat → Int32) => [(x0, .inr (8, [.ref g0, .ref q0, .ref e0, .ref t0, .ref r0, .ref h0, .ref i0, .ref z0, .ref y0, .int tr, .int u.1])), (y0, .inl (cS, 4, .inr (.inr (.inr (.inr ys))))), (s0, .inr (5, [.ref c0, .int (nI len), .int rl])), (c0, .inl (cI, 60, .inl cf)), (p0, .inr (5, [.ref d0, .int (nI lenb), .int rb])), (d0, .inl (cI, 60, .inl u.2))]) (va_A [(x0, .inr (8, [.ref g0, .ref q0, .ref e0, .ref t0, .ref r0, .ref h0, .ref i0, .ref z0, .ref y0, .int tr, .int ft])), (y0, .inl (cS, 4, .inr (.inr (.inr (.inr ys))))), (s0, .inr (5, [.ref c0, .int (nI len), .int rl])), (c0, .inl (cI, 60, .inl cf)), (p0, .inr (5, [.ref d0, .int (nI lenb), .int rb])), (d0, .inl (cI, 60, .inl df))] sz)) 0 0 (va_A [(x0, .inr (8, [.ref g0, .ref q0, .ref e0, .ref t0, .ref r0, .ref h0, .ref i0, .ref z0, .ref y0, .int tr, .int ft])), (y0, .inl (cS, 4, .inr (.inr (.inr (.inr ys))))), (s0, .inr (5, [.ref c0, .int (nI len), .int rl])), (c0, .inl (cI, 60, .inl cf)), (p0, .inr (5, [.ref d0, .int (nI lenb), .int rb])), (d0, .inl (cI, 60, .inl df))] sz) := by
  refine Met.ofW (cc := cX9_copy) (maxL := 8) (ret := (some .int)) (by decide) rfl ?_
  intro pP eE sS mM args below meth cC s₁ B hml hv
  obtain ⟨rfl, hsz, hP, hK, hD0⟩ := hv
  have hx := B.exec
  have hb := B.bytes
  have hr := B.returns
  have hts := atoms_spec (ws := wsX9_copy) B.pre
  have hown : sS.vm.findClass RX9 = some mM.cls := findClass_of_methodNamed B.named
  have hlocks := B.notSynchronized
  subst hsz
  have hD := hD0.self (sz := sS.heap.size)
  generalize hAe : va_A [(x0, .inr (8, [.ref g0, .ref q0, .ref e0, .ref t0, .ref r0, .ref h0, .ref i0, .ref z0, .ref y0, .int tr, .int ft])), (y0, .inl (cS, 4, .inr (.inr (.inr (.inr ys))))), (s0, .inr (5, [.ref c0, .int (nI len), .int rl])), (c0, .inl (cI, 60, .inl cf)), (p0, .inr (5, [.ref d0, .int (nI lenb), .int rb])), (d0, .inl (cI, 60, .inl df))] sS.heap.size = A at hD ⊢
  have hA : ∀ q : Nat, sS.heap.size ≤ q → A q := fun q h => by rw [← hAe]; exact Or.inr h
  have hS : va_S A sS.heap sS.heap [] := va_S.rf
  have hP : va_P D vwCl [(x0, .inr (8, [.ref g0, .ref q0, .ref e0, .ref t0, .ref r0, .ref h0, .ref i0, .ref z0, .ref y0, .int tr, .int ft])), (y0, .inl (cS, 4, .inr (.inr (.inr (.inr ys))))), (s0, .inr (5, [.ref c0, .int (nI len), .int rl])), (c0, .inl (cI, 60, .inl cf)), (p0, .inr (5, [.ref d0, .int (nI lenb), .int rb])), (d0, .inl (cI, 60, .inl df))] sS.heap := hP
  have hD : va_D A [(x0, .inr (8, [.ref g0, .ref q0, .ref e0, .ref t0, .ref r0, .ref h0, .ref i0, .ref z0, .ref y0, .int tr, .int ft])), (y0, .inl (cS, 4, .inr (.inr (.inr (.inr ys))))), (s0, .inr (5, [.ref c0, .int (nI len), .int rl])), (c0, .inl (cI, 60, .inl cf)), (p0, .inr (5, [.ref d0, .int (nI lenb), .int rb])), (d0, .inl (cI, 60, .inl df))] := hD
  have hf_53 := hts (.fieldLink RX9 53 "OldLamps" "sheets" "[LOldLamps$Sheet;") (List.mem_of_getElem? (i := 2) rfl)
  have hf_61 := hts (.fieldLink RX9 61 "OldLamps" "latestFault" "I") (List.mem_of_getElem? (i := 1) rfl)
  have hf_216 := hts (.fieldLink RX9 216 "OldLamps$Sheet" "cells" "[I") (List.mem_of_getElem? (i := 4) rfl)
  have hf_226 := hts (.fieldLink RX9 226 "OldLamps$Sheet" "rowLane" "I") (List.mem_of_getElem? (i := 3) rfl)
  have hac1 := hts (.methodLink RX9 229 arraycopyName) (List.mem_of_getElem? (i := 5) rfl)
  have hac2 := hts (.native arraycopyName) (List.mem_of_getElem? (i := 6) rfl)
  have hac3 := hts (.static arraycopyName) (List.mem_of_getElem? (i := 7) rfl)
  have hac4 := hts (.initialized "java/lang/System") (List.mem_of_getElem? (i := 8) rfl)
  have hwX6 : ∀ w ∈ wsX60, w ∈ wsX9_copy := fun _ h => List.mem_cons_of_mem _ (List.mem_append_right _ h)
  have hwX9 : ∀ w ∈ wsX90, w ∈ wsX9_copy := fun _ h => List.mem_cons_of_mem _ (List.mem_append_left _ (List.mem_append_right _ h))
  have hl := lv_entry ([.ref x0, .int x1, .int x2, .int x3, .int x4, .int x5]) (n := 8) (Nat.le_of_ble_eq_true rfl)
  rw [lg_entry_eq]
  generalize (lg_sl ([.ref x0, .int x1, .int x2, .int x3, .int x4, .int x5]) ++ List.replicate (8 - (lg_sl ([.ref x0, .int x1, .int x2, .int x3, .int x4, .int x5])).length) Slot.unset).toArray = ls at hl ⊢
  have hl : lv_has ls 8 [(0, .ref x0), (1, .int x1), (2, .int x2), (3, .int x3), (4, .int x4), (5, .int x5)] := hl
  obtain ⟨QQ, hQQ⟩ : ∃ QQ : State → Prop, QQ = MQ below (kQi D (fun (r : Int32) (u : Int32 × (Nat → Int32)) => r = sp_copy rl len rb lenb x1 x2 x3 x4 x5 ∧ u.1 = nf_copy rl len rb lenb x1 x2 x3 x4 x5 ∧ u.2 = (bif ok_copy rl len rb lenb x1 x2 x3 x4 x5 then va_cpy cf df (tn x2) (tn x4) (tn x5) else df)) (fun u : Int32 × (Nat → Int32) => [(x0, .inr (8, [.ref g0, .ref q0, .ref e0, .ref t0, .ref r0, .ref h0, .ref i0, .ref z0, .ref y0, .int tr, .int u.1])), (y0, .inl (cS, 4, .inr (.inr (.inr (.inr ys))))), (s0, .inr (5, [.ref c0, .int (nI len), .int rl])), (c0, .inl (cI, 60, .inl cf)), (p0, .inr (5, [.ref d0, .int (nI lenb), .int rb])), (d0, .inl (cI, 60, .inl u.2))]) A) ([.ref x0, .int x1, .int x2, .int x3, .int x4, .int x5]).toArray sS 0 0 A := ⟨_, rfl⟩
  refine kk_QQ hQQ.symm ?_
  obtain ⟨hX1, hX2, hX3, hX4⟩ := okX_le hX
  refine lv_aload_n hx hb dX9_copy_0 rfl (lv_at hl 0 rfl) ?_
  refine lv_iconst (v := nI 0) hx hb dX9_copy_1 (by decide +kernel) ?_
  refine va_put (D := D) (ci := 8) (v := .int (nI 0)) (ty := .int) (C := RX9) (T := TX9) (N := 11) hx hb hts hwX9 tyX9 tyX9_ok nmX9 hown hK hP hD hS 0 rfl rfl 10 (by decide) hf_61 (fun _ h9 => h9) rfl (by decide +kernel) rfl rfl (Nat.le_of_ble_eq_true rfl) dX9_copy_2 (fun H locs hP hD hS => ?_)
  have hP : va_P D vwCl [(x0, .inr (8, [.ref g0, .ref q0, .ref e0, .ref t0, .ref r0, .ref h0, .ref i0, .ref z0, .ref y0, .int tr, .int (nI 0)])), (y0, .inl (cS, 4, .inr (.inr (.inr (.inr ys))))), (s0, .inr (5, [.ref c0, .int (nI len), .int rl])), (c0, .inl (cI, 60, .inl cf)), (p0, .inr (5, [.ref d0, .int (nI lenb), .int rb])), (d0, .inl (cI, 60, .inl df))] H := hP
  have hD : va_D A [(x0, .inr (8, [.ref g0, .ref q0, .ref e0, .ref t0, .ref r0, .ref h0, .ref i0, .ref z0, .ref y0, .int tr, .int (nI 0)])), (y0, .inl (cS, 4, .inr (.inr (.inr (.inr ys))))), (s0, .inr (5, [.ref c0, .int (nI len), .int rl])), (c0, .inl (cI, 60, .inl cf)), (p0, .inr (5, [.ref d0, .int (nI lenb), .int rb])), (d0, .inl (cI, 60, .inl df))] := hD
  refine lv_iload_n hx hb dX9_copy_5 rfl (lv_at hl 1 rfl) ?_
  refine vp_callSi (W.runS (As := [.int x1]) (rest := []) ⟨hx, hb, hml, hown, hts⟩ (c_X9_isSheet lL D cI cS x1) (va_cwS 1 hts gX9_copy_X9_isSheet rfl rfl rfl cd_X9_isSheet ⟨Nat.le_of_ble_eq_true rfl, Nat.le_of_ble_eq_true rfl⟩) ⟨kBp_blind, fun U hU hW => ⟨rfl, by rw [hU]; exact hP.sub [] rfl, va_K.moved hW.alike hK⟩⟩ rfl rfl hl.1 rfl (lv_room (Nat.le_of_ble_eq_true rfl)) dX9_copy_6 ⟨Nat.le_of_ble_eq_true rfl, Nat.le_of_ble_eq_true rfl⟩) (fun r_1 hw_1 => ?_)
  obtain rfl : r_1 = kb (inB x1 4) := hw_1
  -- if (inB x1 4)
  refine kk_ifb_eq (tgt := 19) hx hb dX9_copy_9 (by decide) (fun hb_2 => ?_) (fun hb_2 => ?_)
  · skip
    refine lv_iconst (v := (-1 : Int32)) hx hb dX9_copy_19 (by decide +kernel) ?_
    have hq : (-1 : Int32) = sp_copy rl len rb lenb x1 x2 x3 x4 x5 ∧ (nI 0) = nf_copy rl len rb lenb x1 x2 x3 x4 x5 ∧ df = (bif ok_copy rl len rb lenb x1 x2 x3 x4 x5 then va_cpy cf df (tn x2) (tn x4) (tn x5) else df) := by refine ⟨by simp only [sp_copy, hb_2, cond_true, cond_false], by simp only [nf_copy, hb_2, cond_true, cond_false], by simp only [ok_copy, hb_2, cond_true, cond_false]⟩
    refine kk_QQ hQQ ?_
    exact W.iret (v := (-1 : Int32)) hx hb hr (fun t ht hW => ⟨⟨(-1 : Int32), (nI 0, df), rfl, hq, by show va_P D vwCl _ t.heap; rw [ht]; exact hP⟩, hS.F ht⟩) hS.2.2 dX9_copy_20
  · skip
    obtain ⟨x1N, hx1N, rfl⟩ := inB_t hb_2
    have t_x1 := nI_clamp (show x1N < 2 ^ 31 by omega)
    refine lv_iload_n hx hb dX9_copy_12 rfl (lv_at hl 3 rfl) ?_
    refine vp_callSi (W.runS (As := [.int x3]) (rest := []) ⟨hx, hb, hml, hown, hts⟩ (c_X9_isSheet lL D cI cS x3) (va_cwS 1 hts gX9_copy_X9_isSheet rfl rfl rfl cd_X9_isSheet ⟨Nat.le_of_ble_eq_true rfl, Nat.le_of_ble_eq_true rfl⟩) ⟨kBp_blind, fun U hU hW => ⟨rfl, by rw [hU]; exact hP.sub [] rfl, va_K.moved hW.alike hK⟩⟩ rfl rfl hl.1 rfl (lv_room (Nat.le_of_ble_eq_true rfl)) dX9_copy_13 ⟨Nat.le_of_ble_eq_true rfl, Nat.le_of_ble_eq_true rfl⟩) (fun r_3 hw_3 => ?_)
    obtain rfl : r_3 = kb (inB x3 4) := hw_3
    -- if (inB x3 4)
    refine kk_ifb_ne (tgt := 21) hx hb dX9_copy_16 (by decide) (fun hb_4 => ?_) (fun hb_4 => ?_)
    · skip
      obtain ⟨x3N, hx3N, rfl⟩ := inB_t hb_4
      have t_x3 := nI_clamp (show x3N < 2 ^ 31 by omega)
      refine lv_aload_n hx hb dX9_copy_21 rfl (lv_at hl 0 rfl) ?_
      refine va_get (D := D) (ci := 8) (v := .ref y0) (C := RX9) (T := TX9) (N := 11) hx hb hts hwX9 hown hK hP 0 rfl rfl 8 (by decide) hf_53 (fun _ h9 => h9) rfl dX9_copy_22 ?_
      refine lv_iload_n hx hb dX9_copy_25 rfl (lv_at hl 1 rfl) ?_
      refine kk_aldq hx hb hK hP 1 rfl rfl (i := x1N) (by omega) (by decide) (hselx1 _ rfl hx1N) dX9_copy_26 ?_
      refine lv_astore (lv' := [(6, .ref s0), (0, .ref x0), (1, .int (nI x1N)), (2, .int x2), (3, .int (nI x3N)), (4, .int x4), (5, .int x5)]) hx hb dX9_copy_27 hl (by decide) rfl (fun ls hl => ?_)
      refine lv_aload_n hx hb dX9_copy_29 rfl (lv_at hl 1 rfl) ?_
      refine va_get (D := D) (ci := 8) (v := .ref y0) (C := RX9) (T := TX9) (N := 11) hx hb hts hwX9 hown hK hP 0 rfl rfl 8 (by decide) hf_53 (fun _ h9 => h9) rfl dX9_copy_30 ?_
      refine lv_iload_n hx hb dX9_copy_33 rfl (lv_at hl 4 rfl) ?_
      refine kk_aldq hx hb hK hP 1 rfl rfl (i := x3N) (by omega) (by decide) (hselx3 _ rfl hx3N) dX9_copy_34 ?_
      refine lv_astore (lv' := [(7, .ref p0), (6, .ref s0), (0, .ref x0), (1, .int (nI x1N)), (2, .int x2), (3, .int (nI x3N)), (4, .int x4), (5, .int x5)]) hx hb dX9_copy_35 hl (by decide) rfl (fun ls hl => ?_)
      refine lv_aload hx hb dX9_copy_37 (lv_at hl 1 rfl) ?_
      refine vp_callSi (W.runV (As := []) (rest := []) ⟨hx, hb, hml, hown, hts⟩ (c_X6_isNothing lL D cI cS s0 c0 len rl) (cwV 0 hts gX9_copy_X6_isNothing rfl rfl rfl cd_X6_isNothing ⟨Nat.le_of_ble_eq_true rfl, Nat.le_of_ble_eq_true rfl⟩) ⟨kBp_blind, va_recv hK hP (ci := 5) (q0 := 2) rfl rfl, fun U hU hW => ⟨rfl, by rw [hU]; exact hP.sub [2] rfl, va_K.moved hW.alike hK⟩⟩ rfl rfl hl.1 rfl (lv_room (Nat.le_of_ble_eq_true rfl)) dX9_copy_39 ⟨Nat.le_of_ble_eq_true rfl, Nat.le_of_ble_eq_true rfl⟩) (fun r_5 hw_5 => ?_)
      obtain rfl : r_5 = kb (decide (rl = (-1 : Int32))) := hw_5
      -- if (decide (rl = (-1 : Int32)))
      refine kk_ifb_ne (tgt := 53) hx hb dX9_copy_42 (by decide) (fun hb_6 => ?_) (fun hb_6 => ?_)
      · skip
        refine lv_aload_n hx hb dX9_copy_53 rfl (lv_at hl 2 rfl) ?_
        refine lv_iconst (v := nI 1) hx hb dX9_copy_54 (by decide +kernel) ?_
        have hF := va_free (wc := [(x0, .inr (8, [.ref g0, .ref q0, .ref e0, .ref t0, .ref r0, .ref h0, .ref i0, .ref z0, .ref y0, .int tr, .int (nI 0)]))]) hD hS hA [0] rfl
        refine va_calli (va_runV (As := [.int (nI 1)]) (rest := []) ⟨hx, hb, hml, hown, hts⟩ (c_X9_faulted lL D cI cS _ x0 (.ref g0) (.ref q0) (.ref e0) (.ref t0) (.ref r0) (.ref h0) (.ref i0) (.ref z0) (.ref y0) tr (nI 0) 1) (cwV 1 hts gX9_copy_X9_faulted rfl rfl rfl cd_X9_faulted ⟨Nat.le_of_ble_eq_true rfl, Nat.le_of_ble_eq_true rfl⟩) ⟨kB_blind, va_recv hK hP (ci := 8) (q0 := 0) rfl rfl, fun U hU hW => ⟨rfl, by rw [hU], by rw [hU]; exact hP.sub [0] rfl, va_K.moved hW.alike hK, (hD.sub [0] (by decide) rfl).weaken (fun _ _ _ _ => trivial)⟩⟩ rfl rfl hl.1 rfl (lv_room (Nat.le_of_ble_eq_true rfl)) dX9_copy_55 ⟨Nat.le_of_ble_eq_true rfl, Nat.le_of_ble_eq_true rfl⟩) hS (fun q _ h => hF q h) hF (fun r_7 u_7 t H1 locs ht hvm hw_7 hB hz1 hk1 hS => ?_)
        obtain ⟨hP, hD⟩ := kk_join2 (wc := [(x0, .inr (8, [.ref g0, .ref q0, .ref e0, .ref t0, .ref r0, .ref h0, .ref i0, .ref z0, .ref y0, .int tr, .int (nI 0)]))]) (w1 := [(x0, .inr (8, [.ref g0, .ref q0, .ref e0, .ref t0, .ref r0, .ref h0, .ref i0, .ref z0, .ref y0, .int tr, .int (nI 1)]))]) (ws' := [(x0, .inr (8, [.ref g0, .ref q0, .ref e0, .ref t0, .ref r0, .ref h0, .ref i0, .ref z0, .ref y0, .int tr, .int (nI 1)])), (y0, .inl (cS, 4, .inr (.inr (.inr (.inr ys))))), (s0, .inr (5, [.ref c0, .int (nI len), .int rl])), (c0, .inl (cI, 60, .inl cf)), (p0, .inr (5, [.ref d0, .int (nI lenb), .int rb])), (d0, .inl (cI, 60, .inl df))]) (wr := [(y0, .inl (cS, 4, .inr (.inr (.inr (.inr ys))))), (s0, .inr (5, [.ref c0, .int (nI len), .int rl])), (c0, .inl (cI, 60, .inl cf)), (p0, .inr (5, [.ref d0, .int (nI lenb), .int rb])), (d0, .inl (cI, 60, .inl df))]) (H1 := H1) hP hD [0] [1, 2, 3, 4, 5] rfl rfl rfl rfl 6 rfl (by decide) [x0, y0, s0, c0, p0, d0] rfl rfl hk1 (by rw [← ht]; exact hB)
        have hw_7 : r_7 = (-10 : Int32) - nI 1 ∧ True := hw_7
        clear hF hB hk1 hz1 hvm
        clear ht
        generalize H1 = H at hP hS ⊢
        obtain ⟨rfl, hw_7⟩ := hw_7
        have hq : ((-10 : Int32) - nI 1) = sp_copy rl len rb lenb (nI x1N) x2 (nI x3N) x4 x5 ∧ (nI 1) = nf_copy rl len rb lenb (nI x1N) x2 (nI x3N) x4 x5 ∧ df = (bif ok_copy rl len rb lenb (nI x1N) x2 (nI x3N) x4 x5 then va_cpy cf df (tn x2) (tn x4) (tn x5) else df) := by refine ⟨by simp only [sp_copy, hb_2, hb_4, hb_6, t_x1, t_x3, cond_true, cond_false], by simp only [nf_copy, hb_2, hb_4, hb_6, t_x1, t_x3, cond_true, cond_false], by simp only [ok_copy, hb_2, hb_4, hb_6, t_x1, t_x3, cond_true, cond_false]⟩
        refine kk_QQ hQQ ?_
        exact W.iret (v := (-10 : Int32) - nI 1) hx hb hr (fun t ht hW => ⟨⟨(-10 : Int32) - nI 1, (nI 1, df), rfl, hq, by show va_P D vwCl _ t.heap; rw [ht]; exact hP⟩, hS.F ht⟩) hS.2.2 dX9_copy_58
      · skip
        refine lv_aload hx hb dX9_copy_45 (lv_at hl 0 rfl) ?_
        refine vp_callSi (W.runV (As := []) (rest := []) ⟨hx, hb, hml, hown, hts⟩ (c_X6_isNothing lL D cI cS p0 d0 lenb rb) (cwV 0 hts gX9_copy_X6_isNothing rfl rfl rfl cd_X6_isNothing ⟨Nat.le_of_ble_eq_true rfl, Nat.le_of_ble_eq_true rfl⟩) ⟨kBp_blind, va_recv hK hP (ci := 5) (q0 := 4) rfl rfl, fun U hU hW => ⟨rfl, by rw [hU]; exact hP.sub [4] rfl, va_K.moved hW.alike hK⟩⟩ rfl rfl hl.1 rfl (lv_room (Nat.le_of_ble_eq_true rfl)) dX9_copy_47 ⟨Nat.le_of_ble_eq_true rfl, Nat.le_of_ble_eq_true rfl⟩) (fun r_8 hw_8 => ?_)
        obtain rfl : r_8 = kb (decide (rb = (-1 : Int32))) := hw_8
        -- if (decide (rb = (-1 : Int32)))
        refine kk_ifb_eq (tgt := 59) hx hb dX9_copy_50 (by decide) (fun hb_9 => ?_) (fun hb_9 => ?_)
        · skip
          refine lv_aload hx hb dX9_copy_59 (lv_at hl 1 rfl) ?_
          refine lv_aload hx hb dX9_copy_61 (lv_at hl 0 rfl) ?_
          refine va_get (D := D) (ci := 5) (v := .int rb) (C := RX6) (T := TX6) (N := 3) hx hb hts hwX6 hown hK hP 4 rfl rfl 2 (by decide) hf_226 (fun _ h9 => h9) rfl dX9_copy_63 ?_
          refine vp_callSi (W.runV (As := [.int rb]) (rest := []) ⟨hx, hb, hml, hown, hts⟩ (c_X6_isOfAnotherLane lL D cI cS s0 c0 len rl rb) (cwV 1 hts gX9_copy_X6_isOfAnotherLane rfl rfl rfl cd_X6_isOfAnotherLane ⟨Nat.le_of_ble_eq_true rfl, Nat.le_of_ble_eq_true rfl⟩) ⟨kBp_blind, va_recv hK hP (ci := 5) (q0 := 2) rfl rfl, fun U hU hW => ⟨rfl, by rw [hU]; exact hP.sub [2] rfl, va_K.moved hW.alike hK⟩⟩ rfl rfl hl.1 rfl (lv_room (Nat.le_of_ble_eq_true rfl)) dX9_copy_66 ⟨Nat.le_of_ble_eq_true rfl, Nat.le_of_ble_eq_true rfl⟩) (fun r_10 hw_10 => ?_)
          obtain rfl : r_10 = kb (decide (rl ≠ (-1 : Int32) ∧ rl ≠ rb)) := hw_10
          -- if (decide (rl ≠ (-1 : Int32) ∧ rl ≠ rb))
          refine kk_ifb_eq (tgt := 78) hx hb dX9_copy_69 (by decide) (fun hb_11 => ?_) (fun hb_11 => ?_)
          · skip
            refine lv_aload hx hb dX9_copy_78 (lv_at hl 1 rfl) ?_
            refine lv_iload_n hx hb dX9_copy_80 rfl (lv_at hl 4 rfl) ?_
            refine lv_iload hx hb dX9_copy_81 (lv_at hl 7 rfl) ?_
            have o_12 : len ≤ 60 := by omega
            refine vp_callSi (W.runV (As := [.int x2, .int x5]) (rest := []) ⟨hx, hb, hml, hown, hts⟩ (c_X6_hasCells lL D cI cS s0 c0 len rl x2 x5 o_12) (cwV 2 hts gX9_copy_X6_hasCells rfl rfl rfl cd_X6_hasCells ⟨Nat.le_of_ble_eq_true rfl, Nat.le_of_ble_eq_true rfl⟩) ⟨kBp_blind, va_recv hK hP (ci := 5) (q0 := 2) rfl rfl, fun U hU hW => ⟨rfl, by rw [hU]; exact hP.sub [2] rfl, va_K.moved hW.alike hK⟩⟩ rfl rfl hl.1 rfl (lv_room (Nat.le_of_ble_eq_true rfl)) dX9_copy_83 ⟨Nat.le_of_ble_eq_true rfl, Nat.le_of_ble_eq_true rfl⟩) (fun r_13 hw_13 => ?_)
            obtain rfl : r_13 = kb (hasC len x2 x5) := hw_13
            -- if (hasC len x2 x5)
            refine kk_ifb_eq (tgt := 101) hx hb dX9_copy_86 (by decide) (fun hb_14 => ?_) (fun hb_14 => ?_)
            · skip
              refine lv_aload_n hx hb dX9_copy_101 rfl (lv_at hl 2 rfl) ?_
              refine lv_iconst (v := nI 3) hx hb dX9_copy_102 (by decide +kernel) ?_
              have hF := va_free (wc := [(x0, .inr (8, [.ref g0, .ref q0, .ref e0, .ref t0, .ref r0, .ref h0, .ref i0, .ref z0, .ref y0, .int tr, .int (nI 0)]))]) hD hS hA [0] rfl
              refine va_calli (va_runV (As := [.int (nI 3)]) (rest := []) ⟨hx, hb, hml, hown, hts⟩ (c_X9_faulted lL D cI cS _ x0 (.ref g0) (.ref q0) (.ref e0) (.ref t0) (.ref r0) (.ref h0) (.ref i0) (.ref z0) (.ref y0) tr (nI 0) 3) (cwV 1 hts gX9_copy_X9_faulted rfl rfl rfl cd_X9_faulted ⟨Nat.le_of_ble_eq_true rfl, Nat.le_of_ble_eq_true rfl⟩) ⟨kB_blind, va_recv hK hP (ci := 8) (q0 := 0) rfl rfl, fun U hU hW => ⟨rfl, by rw [hU], by rw [hU]; exact hP.sub [0] rfl, va_K.moved hW.alike hK, (hD.sub [0] (by decide) rfl).weaken (fun _ _ _ _ => trivial)⟩⟩ rfl rfl hl.1 rfl (lv_room (Nat.le_of_ble_eq_true rfl)) dX9_copy_103 ⟨Nat.le_of_ble_eq_true rfl, Nat.le_of_ble_eq_true rfl⟩) hS (fun q _ h => hF q h) hF (fun r_15 u_15 t H1 locs ht hvm hw_15 hB hz1 hk1 hS => ?_)
              obtain ⟨hP, hD⟩ := kk_join2 (wc := [(x0, .inr (8, [.ref g0, .ref q0, .ref e0, .ref t0, .ref r0, .ref h0, .ref i0, .ref z0, .ref y0, .int tr, .int (nI 0)]))]) (w1 := [(x0, .inr (8, [.ref g0, .ref q0, .ref e0, .ref t0, .ref r0, .ref h0, .ref i0, .ref z0, .ref y0, .int tr, .int (nI 3)]))]) (ws' := [(x0, .inr (8, [.ref g0, .ref q0, .ref e0, .ref t0, .ref r0, .ref h0, .ref i0, .ref z0, .ref y0, .int tr, .int (nI 3)])), (y0, .inl (cS, 4, .inr (.inr (.inr (.inr ys))))), (s0, .inr (5, [.ref c0, .int (nI len), .int rl])), (c0, .inl (cI, 60, .inl cf)), (p0, .inr (5, [.ref d0, .int (nI lenb), .int rb])), (d0, .inl (cI, 60, .inl df))]) (wr := [(y0, .inl (cS, 4, .inr (.inr (.inr (.inr ys))))), (s0, .inr (5, [.ref c0, .int (nI len), .int rl])), (c0, .inl (cI, 60, .inl cf)), (p0, .inr (5, [.ref d0, .int (nI lenb), .int rb])), (d0, .inl (cI, 60, .inl df))]) (H1 := H1) hP hD [0] [1, 2, 3, 4, 5] rfl rfl rfl rfl 6 rfl (by decide) [x0, y0, s0, c0, p0, d0] rfl rfl hk1 (by rw [← ht]; exact hB)
              have hw_15 : r_15 = (-10 : Int32) - nI 3 ∧ True := hw_15
              clear hF hB hk1 hz1 hvm
              clear ht
              generalize H1 = H at hP hS ⊢
              obtain ⟨rfl, hw_15⟩ := hw_15
              have hq : ((-10 : Int32) - nI 3) = sp_copy rl len rb lenb (nI x1N) x2 (nI x3N) x4 x5 ∧ (nI 3) = nf_copy rl len rb lenb (nI x1N) x2 (nI x3N) x4 x5 ∧ df = (bif ok_copy rl len rb lenb (nI x1N) x2 (nI x3N) x4 x5 then va_cpy cf df (tn x2) (tn x4) (tn x5) else df) := by refine ⟨by simp only [sp_copy, hb_2, hb_4, hb_6, hb_9, hb_11, hb_14, t_x1, t_x3, cond_true, cond_false], by simp only [nf_copy, hb_2, hb_4, hb_6, hb_9, hb_11, hb_14, t_x1, t_x3, cond_true, cond_false], by simp only [ok_copy, hb_2, hb_4, hb_6, hb_9, hb_11, hb_14, t_x1, t_x3, cond_true, cond_false]⟩
              refine kk_QQ hQQ ?_
              exact W.iret (v := (-10 : Int32) - nI 3) hx hb hr (fun t ht hW => ⟨⟨(-10 : Int32) - nI 3, (nI 3, df), rfl, hq, by show va_P D vwCl _ t.heap; rw [ht]; exact hP⟩, hS.F ht⟩) hS.2.2 dX9_copy_106
            · skip
              obtain ⟨x2N, x5N, hx2N, rfl, rfl⟩ := hasC_2 (by omega) hb_14
              have t_x2 := nI_clamp (show x2N < 2 ^ 31 by omega)
              have t_x5 := nI_clamp (show x5N < 2 ^ 31 by omega)
              refine lv_aload hx hb dX9_copy_89 (lv_at hl 0 rfl) ?_
              refine lv_iload hx hb dX9_copy_91 (lv_at hl 6 rfl) ?_
              refine lv_iload hx hb dX9_copy_93 (lv_at hl 7 rfl) ?_
              have o_16 : lenb ≤ 60 := by omega
              refine vp_callSi (W.runV (As := [.int x4, .int (nI x5N)]) (rest := []) ⟨hx, hb, hml, hown, hts⟩ (c_X6_hasCells lL D cI cS p0 d0 lenb rb x4 (nI x5N) o_16) (cwV 2 hts gX9_copy_X6_hasCells rfl rfl rfl cd_X6_hasCells ⟨Nat.le_of_ble_eq_true rfl, Nat.le_of_ble_eq_true rfl⟩) ⟨kBp_blind, va_recv hK hP (ci := 5) (q0 := 4) rfl rfl, fun U hU hW => ⟨rfl, by rw [hU]; exact hP.sub [4] rfl, va_K.moved hW.alike hK⟩⟩ rfl rfl hl.1 rfl (lv_room (Nat.le_of_ble_eq_true rfl)) dX9_copy_95 ⟨Nat.le_of_ble_eq_true rfl, Nat.le_of_ble_eq_true rfl⟩) (fun r_17 hw_17 => ?_)
              obtain rfl : r_17 = kb (hasC lenb x4 (nI x5N)) := hw_17
              -- if (hasC lenb x4 (nI x5N))
              refine kk_ifb_ne (tgt := 107) hx hb dX9_copy_98 (by decide) (fun hb_18 => ?_) (fun hb_18 => ?_)
              · skip
                obtain ⟨x4N, hx4N, rfl⟩ := hasC_n (by omega) (by omega) hb_18
                have t_x4 := nI_clamp (show x4N < 2 ^ 31 by omega)
                refine lv_aload hx hb dX9_copy_107 (lv_at hl 1 rfl) ?_
                refine va_get (D := D) (ci := 5) (v := .ref c0) (C := RX6) (T := TX6) (N := 3) hx hb hts hwX6 hown hK hP 2 rfl rfl 0 (by decide) hf_216 (fun _ h9 => h9) rfl dX9_copy_109 ?_
                refine lv_iload_n hx hb dX9_copy_112 rfl (lv_at hl 4 rfl) ?_
                refine lv_aload hx hb dX9_copy_113 (lv_at hl 0 rfl) ?_
                refine va_get (D := D) (ci := 5) (v := .ref d0) (C := RX6) (T := TX6) (N := 3) hx hb hts hwX6 hown hK hP 4 rfl rfl 0 (by decide) hf_216 (fun _ h9 => h9) rfl dX9_copy_115 ?_
                refine lv_iload hx hb dX9_copy_118 (lv_at hl 6 rfl) ?_
                refine lv_iload hx hb dX9_copy_120 (lv_at hl 7 rfl) ?_
                refine kk_copyi hx hb (hml.trans hl.1.symm) hown hac1 hac2 hac3 hac4 hK hP hD hS 3 5 rfl rfl rfl (by omega) (by omega) (by decide) (by decide) (Nat.le_of_ble_eq_true rfl) (Nat.le_of_ble_eq_true rfl) dX9_copy_122 (fun H locs hP hD hS => ?_)
                have hP : va_P D vwCl [(x0, .inr (8, [.ref g0, .ref q0, .ref e0, .ref t0, .ref r0, .ref h0, .ref i0, .ref z0, .ref y0, .int tr, .int (nI 0)])), (y0, .inl (cS, 4, .inr (.inr (.inr (.inr ys))))), (s0, .inr (5, [.ref c0, .int (nI len), .int rl])), (c0, .inl (cI, 60, .inl cf)), (p0, .inr (5, [.ref d0, .int (nI lenb), .int rb])), (d0, .inl (cI, 60, .inl (va_cpy cf df x2N x4N x5N)))] H := hP
                have hD : va_D A [(x0, .inr (8, [.ref g0, .ref q0, .ref e0, .ref t0, .ref r0, .ref h0, .ref i0, .ref z0, .ref y0, .int tr, .int (nI 0)])), (y0, .inl (cS, 4, .inr (.inr (.inr (.inr ys))))), (s0, .inr (5, [.ref c0, .int (nI len), .int rl])), (c0, .inl (cI, 60, .inl cf)), (p0, .inr (5, [.ref d0, .int (nI lenb), .int rb])), (d0, .inl (cI, 60, .inl (va_cpy cf df x2N x4N x5N)))] := hD
                refine lv_iload hx hb dX9_copy_125 (lv_at hl 7 rfl) ?_
                have hq : (nI x5N) = sp_copy rl len rb lenb (nI x1N) (nI x2N) (nI x3N) (nI x4N) (nI x5N) ∧ (nI 0) = nf_copy rl len rb lenb (nI x1N) (nI x2N) (nI x3N) (nI x4N) (nI x5N) ∧ (va_cpy cf df x2N x4N x5N) = (bif ok_copy rl len rb lenb (nI x1N) (nI x2N) (nI x3N) (nI x4N) (nI x5N) then va_cpy cf df (tn (nI x2N)) (tn (nI x4N)) (tn (nI x5N)) else df) := by refine ⟨by simp only [sp_copy, hb_2, hb_4, hb_6, hb_9, hb_11, hb_14, hb_18, t_x1, t_x3, t_x2, t_x5, t_x4, cond_true, cond_false], by simp only [nf_copy, hb_2, hb_4, hb_6, hb_9, hb_11, hb_14, hb_18, t_x1, t_x3, t_x2, t_x5, t_x4, cond_true, cond_false], by simp only [ok_copy, hb_2, hb_4, hb_6, hb_9, hb_11, hb_14, hb_18, t_x1, t_x3, t_x2, t_x5, t_x4, cond_true, cond_false]⟩
                refine kk_QQ hQQ ?_
                exact W.iret (v := nI x5N) hx hb hr (fun t ht hW => ⟨⟨nI x5N, (nI 0, va_cpy cf df x2N x4N x5N), rfl, hq, by show va_P D vwCl _ t.heap; rw [ht]; exact hP⟩, hS.F ht⟩) hS.2.2 dX9_copy_127
              · skip
                refine lv_aload_n hx hb dX9_copy_101 rfl (lv_at hl 2 rfl) ?_
                refine lv_iconst (v := nI 3) hx hb dX9_copy_102 (by decide +kernel) ?_
                have hF := va_free (wc := [(x0, .inr (8, [.ref g0, .ref q0, .ref e0, .ref t0, .ref r0, .ref h0, .ref i0, .ref z0, .ref y0, .int tr, .int (nI 0)]))]) hD hS hA [0] rfl
                refine va_calli (va_runV (As := [.int (nI 3)]) (rest := []) ⟨hx, hb, hml, hown, hts⟩ (c_X9_faulted lL D cI cS _ x0 (.ref g0) (.ref q0) (.ref e0) (.ref t0) (.ref r0) (.ref h0) (.ref i0) (.ref z0) (.ref y0) tr (nI 0) 3) (cwV 1 hts gX9_copy_X9_faulted rfl rfl rfl cd_X9_faulted ⟨Nat.le_of_ble_eq_true rfl, Nat.le_of_ble_eq_true rfl⟩) ⟨kB_blind, va_recv hK hP (ci := 8) (q0 := 0) rfl rfl, fun U hU hW => ⟨rfl, by rw [hU], by rw [hU]; exact hP.sub [0] rfl, va_K.moved hW.alike hK, (hD.sub [0] (by decide) rfl).weaken (fun _ _ _ _ => trivial)⟩⟩ rfl rfl hl.1 rfl (lv_room (Nat.le_of_ble_eq_true rfl)) dX9_copy_103 ⟨Nat.le_of_ble_eq_true rfl, Nat.le_of_ble_eq_true rfl⟩) hS (fun q _ h => hF q h) hF (fun r_19 u_19 t H1 locs ht hvm hw_19 hB hz1 hk1 hS => ?_)
                obtain ⟨hP, hD⟩ := kk_join2 (wc := [(x0, .inr (8, [.ref g0, .ref q0, .ref e0, .ref t0, .ref r0, .ref h0, .ref i0, .ref z0, .ref y0, .int tr, .int (nI 0)]))]) (w1 := [(x0, .inr (8, [.ref g0, .ref q0, .ref e0, .ref t0, .ref r0, .ref h0, .ref i0, .ref z0, .ref y0, .int tr, .int (nI 3)]))]) (ws' := [(x0, .inr (8, [.ref g0, .ref q0, .ref e0, .ref t0, .ref r0, .ref h0, .ref i0, .ref z0, .ref y0, .int tr, .int (nI 3)])), (y0, .inl (cS, 4, .inr (.inr (.inr (.inr ys))))), (s0, .inr (5, [.ref c0, .int (nI len), .int rl])), (c0, .inl (cI, 60, .inl cf)), (p0, .inr (5, [.ref d0, .int (nI lenb), .int rb])), (d0, .inl (cI, 60, .inl df))]) (wr := [(y0, .inl (cS, 4, .inr (.inr (.inr (.inr ys))))), (s0, .inr (5, [.ref c0, .int (nI len), .int rl])), (c0, .inl (cI, 60, .inl cf)), (p0, .inr (5, [.ref d0, .int (nI lenb), .int rb])), (d0, .inl (cI, 60, .inl df))]) (H1 := H1) hP hD [0] [1, 2, 3, 4, 5] rfl rfl rfl rfl 6 rfl (by decide) [x0, y0, s0, c0, p0, d0] rfl rfl hk1 (by rw [← ht]; exact hB)
                have hw_19 : r_19 = (-10 : Int32) - nI 3 ∧ True := hw_19
                clear hF hB hk1 hz1 hvm
                clear ht
                generalize H1 = H at hP hS ⊢
                obtain ⟨rfl, hw_19⟩ := hw_19
                have hq : ((-10 : Int32) - nI 3) = sp_copy rl len rb lenb (nI x1N) (nI x2N) (nI x3N) x4 (nI x5N) ∧ (nI 3) = nf_copy rl len rb lenb (nI x1N) (nI x2N) (nI x3N) x4 (nI x5N) ∧ df = (bif ok_copy rl len rb lenb (nI x1N) (nI x2N) (nI x3N) x4 (nI x5N) then va_cpy cf df (tn (nI x2N)) (tn x4) (tn (nI x5N)) else df) := by refine ⟨by simp only [sp_copy, hb_2, hb_4, hb_6, hb_9, hb_11, hb_14, hb_18, t_x1, t_x3, t_x2, t_x5, cond_true, cond_false], by simp only [nf_copy, hb_2, hb_4, hb_6, hb_9, hb_11, hb_14, hb_18, t_x1, t_x3, t_x2, t_x5, cond_true, cond_false], by simp only [ok_copy, hb_2, hb_4, hb_6, hb_9, hb_11, hb_14, hb_18, t_x1, t_x3, t_x2, t_x5, cond_true, cond_false]⟩
                refine kk_QQ hQQ ?_
                exact W.iret (v := (-10 : Int32) - nI 3) hx hb hr (fun t ht hW => ⟨⟨(-10 : Int32) - nI 3, (nI 3, df), rfl, hq, by show va_P D vwCl _ t.heap; rw [ht]; exact hP⟩, hS.F ht⟩) hS.2.2 dX9_copy_106
          · skip
            refine lv_aload_n hx hb dX9_copy_72 rfl (lv_at hl 2 rfl) ?_
            refine lv_iconst (v := nI 2) hx hb dX9_copy_73 (by decide +kernel) ?_
            have hF := va_free (wc := [(x0, .inr (8, [.ref g0, .ref q0, .ref e0, .ref t0, .ref r0, .ref h0, .ref i0, .ref z0, .ref y0, .int tr, .int (nI 0)]))]) hD hS hA [0] rfl
            refine va_calli (va_runV (As := [.int (nI 2)]) (rest := []) ⟨hx, hb, hml, hown, hts⟩ (c_X9_faulted lL D cI cS _ x0 (.ref g0) (.ref q0) (.ref e0) (.ref t0) (.ref r0) (.ref h0) (.ref i0) (.ref z0) (.ref y0) tr (nI 0) 2) (cwV 1 hts gX9_copy_X9_faulted rfl rfl rfl cd_X9_faulted ⟨Nat.le_of_ble_eq_true rfl, Nat.le_of_ble_eq_true rfl⟩) ⟨kB_blind, va_recv hK hP (ci := 8) (q0 := 0) rfl rfl, fun U hU hW => ⟨rfl, by rw [hU], by rw [hU]; exact hP.sub [0] rfl, va_K.moved hW.alike hK, (hD.sub [0] (by decide) rfl).weaken (fun _ _ _ _ => trivial)⟩⟩ rfl rfl hl.1 rfl (lv_room (Nat.le_of_ble_eq_true rfl)) dX9_copy_74 ⟨Nat.le_of_ble_eq_true rfl, Nat.le_of_ble_eq_true rfl⟩) hS (fun q _ h => hF q h) hF (fun r_20 u_20 t H1 locs ht hvm hw_20 hB hz1 hk1 hS => ?_)
            obtain ⟨hP, hD⟩ := kk_join2 (wc := [(x0, .inr (8, [.ref g0, .ref q0, .ref e0, .ref t0, .ref r0, .ref h0, .ref i0, .ref z0, .ref y0, .int tr, .int (nI 0)]))]) (w1 := [(x0, .inr (8, [.ref g0, .ref q0, .ref e0, .ref t0, .ref r0, .ref h0, .ref i0, .ref z0, .ref y0, .int tr, .int (nI 2)]))]) (ws' := [(x0, .inr (8, [.ref g0, .ref q0, .ref e0, .ref t0, .ref r0, .ref h0, .ref i0, .ref z0, .ref y0, .int tr, .int (nI 2)])), (y0, .inl (cS, 4, .inr (.inr (.inr (.inr ys))))), (s0, .inr (5, [.ref c0, .int (nI len), .int rl])), (c0, .inl (cI, 60, .inl cf)), (p0, .inr (5, [.ref d0, .int (nI lenb), .int rb])), (d0, .inl (cI, 60, .inl df))]) (wr := [(y0, .inl (cS, 4, .inr (.inr (.inr (.inr ys))))), (s0, .inr (5, [.ref c0, .int (nI len), .int rl])), (c0, .inl (cI, 60, .inl cf)), (p0, .inr (5, [.ref d0, .int (nI lenb), .int rb])), (d0, .inl (cI, 60, .inl df))]) (H1 := H1) hP hD [0] [1, 2, 3, 4, 5] rfl rfl rfl rfl 6 rfl (by decide) [x0, y0, s0, c0, p0, d0] rfl rfl hk1 (by rw [← ht]; exact hB)
            have hw_20 : r_20 = (-10 : Int32) - nI 2 ∧ True := hw_20
            clear hF hB hk1 hz1 hvm
            clear ht
            generalize H1 = H at hP hS ⊢
            obtain ⟨rfl, hw_20⟩ := hw_20
            have hq : ((-10 : Int32) - nI 2) = sp_copy rl len rb lenb (nI x1N) x2 (nI x3N) x4 x5 ∧ (nI 2) = nf_copy rl len rb lenb (nI x1N) x2 (nI x3N) x4 x5 ∧ df = (bif ok_copy rl len rb lenb (nI x1N) x2 (nI x3N) x4 x5 then va_cpy cf df (tn x2) (tn x4) (tn x5) else df) := by refine ⟨by simp only [sp_copy, hb_2, hb_4, hb_6, hb_9, hb_11, t_x1, t_x3, cond_true, cond_false], by simp only [nf_copy, hb_2, hb_4, hb_6, hb_9, hb_11, t_x1, t_x3, cond_true, cond_false], by simp only [ok_copy, hb_2, hb_4, hb_6, hb_9, hb_11, t_x1, t_x3, cond_true, cond_false]⟩
            refine kk_QQ hQQ ?_
            exact W.iret (v := (-10 : Int32) - nI 2) hx hb hr (fun t ht hW => ⟨⟨(-10 : Int32) - nI 2, (nI 2, df), rfl, hq, by show va_P D vwCl _ t.heap; rw [ht]; exact hP⟩, hS.F ht⟩) hS.2.2 dX9_copy_77
        · skip
          refine lv_aload_n hx hb dX9_copy_53 rfl (lv_at hl 2 rfl) ?_
          refine lv_iconst (v := nI 1) hx hb dX9_copy_54 (by decide +kernel) ?_
          have hF := va_free (wc := [(x0, .inr (8, [.ref g0, .ref q0, .ref e0, .ref t0, .ref r0, .ref h0, .ref i0, .ref z0, .ref y0, .int tr, .int (nI 0)]))]) hD hS hA [0] rfl
          refine va_calli (va_runV (As := [.int (nI 1)]) (rest := []) ⟨hx, hb, hml, hown, hts⟩ (c_X9_faulted lL D cI cS _ x0 (.ref g0) (.ref q0) (.ref e0) (.ref t0) (.ref r0) (.ref h0) (.ref i0) (.ref z0) (.ref y0) tr (nI 0) 1) (cwV 1 hts gX9_copy_X9_faulted rfl rfl rfl cd_X9_faulted ⟨Nat.le_of_ble_eq_true rfl, Nat.le_of_ble_eq_true rfl⟩) ⟨kB_blind, va_recv hK hP (ci := 8) (q0 := 0) rfl rfl, fun U hU hW => ⟨rfl, by rw [hU], by rw [hU]; exact hP.sub [0] rfl, va_K.moved hW.alike hK, (hD.sub [0] (by decide) rfl).weaken (fun _ _ _ _ => trivial)⟩⟩ rfl rfl hl.1 rfl (lv_room (Nat.le_of_ble_eq_true rfl)) dX9_copy_55 ⟨Nat.le_of_ble_eq_true rfl, Nat.le_of_ble_eq_true rfl⟩) hS (fun q _ h => hF q h) hF (fun r_21 u_21 t H1 locs ht hvm hw_21 hB hz1 hk1 hS => ?_)
          obtain ⟨hP, hD⟩ := kk_join2 (wc := [(x0, .inr (8, [.ref g0, .ref q0, .ref e0, .ref t0, .ref r0, .ref h0, .ref i0, .ref z0, .ref y0, .int tr, .int (nI 0)]))]) (w1 := [(x0, .inr (8, [.ref g0, .ref q0, .ref e0, .ref t0, .ref r0, .ref h0, .ref i0, .ref z0, .ref y0, .int tr, .int (nI 1)]))]) (ws' := [(x0, .inr (8, [.ref g0, .ref q0, .ref e0, .ref t0, .ref r0, .ref h0, .ref i0, .ref z0, .ref y0, .int tr, .int (nI 1)])), (y0, .inl (cS, 4, .inr (.inr (.inr (.inr ys))))), (s0, .inr (5, [.ref c0, .int (nI len), .int rl])), (c0, .inl (cI, 60, .inl cf)), (p0, .inr (5, [.ref d0, .int (nI lenb), .int rb])), (d0, .inl (cI, 60, .inl df))]) (wr := [(y0, .inl (cS, 4, .inr (.inr (.inr (.inr ys))))), (s0, .inr (5, [.ref c0, .int (nI len), .int rl])), (c0, .inl (cI, 60, .inl cf)), (p0, .inr (5, [.ref d0, .int (nI lenb), .int rb])), (d0, .inl (cI, 60, .inl df))]) (H1 := H1) hP hD [0] [1, 2, 3, 4, 5] rfl rfl rfl rfl 6 rfl (by decide) [x0, y0, s0, c0, p0, d0] rfl rfl hk1 (by rw [← ht]; exact hB)
          have hw_21 : r_21 = (-10 : Int32) - nI 1 ∧ True := hw_21
          clear hF hB hk1 hz1 hvm
          clear ht
          generalize H1 = H at hP hS ⊢
          obtain ⟨rfl, hw_21⟩ := hw_21
          have hq : ((-10 : Int32) - nI 1) = sp_copy rl len rb lenb (nI x1N) x2 (nI x3N) x4 x5 ∧ (nI 1) = nf_copy rl len rb lenb (nI x1N) x2 (nI x3N) x4 x5 ∧ df = (bif ok_copy rl len rb lenb (nI x1N) x2 (nI x3N) x4 x5 then va_cpy cf df (tn x2) (tn x4) (tn x5) else df) := by refine ⟨by simp only [sp_copy, hb_2, hb_4, hb_6, hb_9, t_x1, t_x3, cond_true, cond_false], by simp only [nf_copy, hb_2, hb_4, hb_6, hb_9, t_x1, t_x3, cond_true, cond_false], by simp only [ok_copy, hb_2, hb_4, hb_6, hb_9, t_x1, t_x3, cond_true, cond_false]⟩
          refine kk_QQ hQQ ?_
          exact W.iret (v := (-10 : Int32) - nI 1) hx hb hr (fun t ht hW => ⟨⟨(-10 : Int32) - nI 1, (nI 1, df), rfl, hq, by show va_P D vwCl _ t.heap; rw [ht]; exact hP⟩, hS.F ht⟩) hS.2.2 dX9_copy_58
    · skip
      refine lv_iconst (v := (-1 : Int32)) hx hb dX9_copy_19 (by decide +kernel) ?_
      have hq : (-1 : Int32) = sp_copy rl len rb lenb (nI x1N) x2 x3 x4 x5 ∧ (nI 0) = nf_copy rl len rb lenb (nI x1N) x2 x3 x4 x5 ∧ df = (bif ok_copy rl len rb lenb (nI x1N) x2 x3 x4 x5 then va_cpy cf df (tn x2) (tn x4) (tn x5) else df) := by refine ⟨by simp only [sp_copy, hb_2, hb_4, t_x1, cond_true, cond_false], by simp only [nf_copy, hb_2, hb_4, t_x1, cond_true, cond_false], by simp only [ok_copy, hb_2, hb_4, t_x1, cond_true, cond_false]⟩
      refine kk_QQ hQQ ?_
      exact W.iret (v := (-1 : Int32)) hx hb hr (fun t ht hW => ⟨⟨(-1 : Int32), (nI 0, df), rfl, hq, by show va_P D vwCl _ t.heap; rw [ht]; exact hP⟩, hS.F ht⟩) hS.2.2 dX9_copy_20
