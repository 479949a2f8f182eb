theorem cd_X9_faulted : yX9_faulted.cls = RX9 ∧ yX9_faulted.cls ≠ "java/lang/invoke/MethodHandle" ∧ yX9_faulted.cls ≠ "java/lang/invoke/VarHandle" ∧ (parseMethodDescriptor yX9_faulted.desc).map (fun d => d.parameters.length) = some 1 := by decide +kernel
theorem cd_X9_seeAsFeast : yX9_seeAsFeast.cls = RX9 ∧ yX9_seeAsFeast.cls ≠ "java/lang/invoke/MethodHandle" ∧ yX9_seeAsFeast.cls ≠ "java/lang/invoke/VarHandle" ∧ (parseMethodDescriptor yX9_seeAsFeast.desc).map (fun d => d.parameters.length) = some 0 := by decide +kernel
theorem cd_X9_seeAsLent : yX9_seeAsLent.cls = RX9 ∧ yX9_seeAsLent.cls ≠ "java/lang/invoke/MethodHandle" ∧ yX9_seeAsLent.cls ≠ "java/lang/invoke/VarHandle" ∧ (parseMethodDescriptor yX9_seeAsLent.desc).map (fun d => d.parameters.length) = some 1 := by decide +kernel
theorem cd_X9_tellAsFeast : yX9_tellAsFeast.cls = RX9 ∧ yX9_tellAsFeast.cls ≠ "java/lang/invoke/MethodHandle" ∧ yX9_tellAsFeast.cls ≠ "java/lang/invoke/VarHandle" ∧ (parseMethodDescriptor yX9_tellAsFeast.desc).map (fun d => d.parameters.length) = some 1 := by decide +kernel
abbrev rmX9_tell : Room := { frames := 4, cells := 0, slots := 0, locals := 85 }
set_option maxHeartbeats 4000000 in
set_option maxRecDepth 100000 in
theorem c_X9_tell (lL : Launch) (D : va_G) (cI cS : ClassId) (sz : Nat) (C : Co) (T : Mv) (E : Mv) (x0 : Nat) (g0 : Nat) (q0 : Nat) (e0 : Nat) (t0 : Nat) (r0 : Nat) (h0 : Nat) (i0 : Nat) (z0 : Nat) (y0 : Nat) (tr : Int32) (ft : Int32) (x1 : Int32) (g1 : Nat) (g2 : Nat) (g3 : Nat) (g4 : Nat) (g5 : Nat) (ki : Nat → Int32) (st : Nat → Int32) (hrk : ∀ k, k < cLa C → ki k = nI (cKi C k)) (hrs : ∀ k, k < cLa C → st k = nI (cSt C k)) (hX : okX C T E) : Met lL yX9_tell wsX9_tell rmX9_tell (va_Pc [.ref x0, .int x1] (kB D cI cS [(x0, .inr (8, [.ref g0, .ref q0, .ref e0, .ref t0, .ref r0, .ref h0, .ref i0, .ref z0, .ref y0, .int tr, .int ft])), (g0, .inr (1, [.int (nI (cSp C)), .int (nI (cLa C)), .int (nI (cAg C)), .ref g1, .ref g2, .ref g3, .ref g4, .ref g5])), (g3, .inl (cI, 4, .inl ki)), (g4, .inl (cI, 4, .inl st))] sz)) (kQi D (fun (r : Int32) (u : Int32) => r = sp_tell C x1 ∧ u = nx_tell C x1 tr) (fun u : Int32 => [(x0, .inr (8, [.ref g0, .ref q0, .ref e0, .ref t0, .ref r0, .ref h0, .ref i0, .ref z0, .ref y0, .int u, .int ft])), (g0, .inr (1, [.int (nI (cSp C)), .int (nI (cLa C)), .int (nI (cAg C)), .ref g1, .ref g2, .ref g3, .ref g4, .ref g5])), (g3, .inl (cI, 4, .inl ki)), (g4, .inl (cI, 4, .inl st))]) (va_A [(x0, .inr (8, [.ref g0, .ref q0, .ref e0, .ref t0, .ref r0, .ref h0, .ref i0, .ref z0, .ref y0, .int tr, .int ft])), (g0, .inr (1, [.int (nI (cSp C)), .int (nI (cLa C)), .int (nI (cAg C)), .ref g1, .ref g2, .ref g3, .ref g4, .ref g5])), (g3, .inl (cI, 4, .inl ki)), (g4, .inl (cI, 4, .inl st))] sz)) 0 0 (va_A [(x0, .inr (8, [.ref g0, .ref q0, .ref e0, .ref t0, .ref r0, .ref h0, .ref i0, .ref z0, .ref y0, .int tr, .int ft])), (g0, .inr (1, [.int (nI (cSp C)), .int (nI (cLa C)), .int (nI (cAg C)), .ref g1, .ref g2, .ref g3, .ref g4, .ref g5])), (g3, .inl (cI, 4, .inl ki)), (g4, .inl (cI, 4, .inl st))] sz) := by
  refine Met.ofW (cc := cX9_tell) (maxL := 3) (ret := (some .int)) (by decide) rfl ?_
  intro pP eE sS mM args below meth cC s₁ B hml hv
  obtain ⟨rfl, hsz, hP, hK, hD0⟩ := hv
  have hx := B.exec
  have hb := B.bytes
  have hr := B.returns
  have hts := atoms_spec (ws := wsX9_tell) B.pre
  have hown : sS.vm.findClass RX9 = some mM.cls := findClass_of_methodNamed B.named
  have hlocks := B.notSynchronized
  subst hsz
  have hD := hD0.self (sz := sS.heap.size)
  generalize hAe : va_A [(x0, .inr (8, [.ref g0, .ref q0, .ref e0, .ref t0, .ref r0, .ref h0, .ref i0, .ref z0, .ref y0, .int tr, .int ft])), (g0, .inr (1, [.int (nI (cSp C)), .int (nI (cLa C)), .int (nI (cAg C)), .ref g1, .ref g2, .ref g3, .ref g4, .ref g5])), (g3, .inl (cI, 4, .inl ki)), (g4, .inl (cI, 4, .inl st))] sS.heap.size = A at hD ⊢
  have hA : ∀ q : Nat, sS.heap.size ≤ q → A q := fun q h => by rw [← hAe]; exact Or.inr h
  have hS : va_S A sS.heap sS.heap [] := va_S.rf
  have hP : va_P D vwCl [(x0, .inr (8, [.ref g0, .ref q0, .ref e0, .ref t0, .ref r0, .ref h0, .ref i0, .ref z0, .ref y0, .int tr, .int ft])), (g0, .inr (1, [.int (nI (cSp C)), .int (nI (cLa C)), .int (nI (cAg C)), .ref g1, .ref g2, .ref g3, .ref g4, .ref g5])), (g3, .inl (cI, 4, .inl ki)), (g4, .inl (cI, 4, .inl st))] sS.heap := hP
  have hD : va_D A [(x0, .inr (8, [.ref g0, .ref q0, .ref e0, .ref t0, .ref r0, .ref h0, .ref i0, .ref z0, .ref y0, .int tr, .int ft])), (g0, .inr (1, [.int (nI (cSp C)), .int (nI (cLa C)), .int (nI (cAg C)), .ref g1, .ref g2, .ref g3, .ref g4, .ref g5])), (g3, .inl (cI, 4, .inl ki)), (g4, .inl (cI, 4, .inl st))] := hD
  have hf_14 := hts (.fieldLink RX9 14 "OldLamps" "ground" "LOldLamps$Ground;") (List.mem_of_getElem? (i := 1) rfl)
  have hf_129 := hts (.fieldLink RX9 129 "OldLamps$Ground" "lampKinds" "[I") (List.mem_of_getElem? (i := 2) rfl)
  have hwX2 : ∀ w ∈ wsX20, w ∈ wsX9_tell := fun _ h => List.mem_cons_of_mem _ (List.mem_append_right _ h)
  have hwX9 : ∀ w ∈ wsX90, w ∈ wsX9_tell := fun _ h => List.mem_cons_of_mem _ (List.mem_append_left _ (List.mem_append_right _ h))
  have hl := lv_entry ([.ref x0, .int x1]) (n := 3) (Nat.le_of_ble_eq_true rfl)
  rw [lg_entry_eq]
  generalize (lg_sl ([.ref x0, .int x1]) ++ List.replicate (3 - (lg_sl ([.ref x0, .int x1])).length) Slot.unset).toArray = ls at hl ⊢
  have hl : lv_has ls 3 [(0, .ref x0), (1, .int x1)] := hl
  obtain ⟨QQ, hQQ⟩ : ∃ QQ : State → Prop, QQ = MQ below (kQi D (fun (r : Int32) (u : Int32) => r = sp_tell C x1 ∧ u = nx_tell C x1 tr) (fun u : Int32 => [(x0, .inr (8, [.ref g0, .ref q0, .ref e0, .ref t0, .ref r0, .ref h0, .ref i0, .ref z0, .ref y0, .int u, .int ft])), (g0, .inr (1, [.int (nI (cSp C)), .int (nI (cLa C)), .int (nI (cAg C)), .ref g1, .ref g2, .ref g3, .ref g4, .ref g5])), (g3, .inl (cI, 4, .inl ki)), (g4, .inl (cI, 4, .inl st))]) A) ([.ref x0, .int x1]).toArray sS 0 0 A := ⟨_, rfl⟩
  refine kk_QQ hQQ.symm ?_
  obtain ⟨hX1, hX2, hX3, hX4⟩ := okX_le hX
  refine lv_aload_n hx hb dX9_tell_0 rfl (lv_at hl 0 rfl) ?_
  refine va_get (D := D) (ci := 8) (v := .ref g0) (C := RX9) (T := TX9) (N := 11) hx hb hts hwX9 hown hK hP 0 rfl rfl 0 (by decide) hf_14 (fun _ h9 => h9) rfl dX9_tell_1 ?_
  refine lv_iload_n hx hb dX9_tell_4 rfl (lv_at hl 1 rfl) ?_
  have o_1 : (cLa C) ≤ 4 := by omega
  refine vp_callSi (W.runV (As := [.int x1]) (rest := []) ⟨hx, hb, hml, hown, hts⟩ (c_X2_hasLamp lL D cI cS g0 (cSp C) (cLa C) (.int (nI (cAg C))) (.ref g1) (.ref g2) (.ref g3) (.ref g4) (.ref g5) x1 o_1) (cwV 1 hts gX9_tell_X2_hasLamp rfl rfl rfl cd_X2_hasLamp ⟨Nat.le_of_ble_eq_true rfl, Nat.le_of_ble_eq_true rfl⟩) ⟨kBp_blind, va_recv hK hP (ci := 1) (q0 := 1) rfl rfl, fun U hU hW => ⟨rfl, by rw [hU]; exact hP.sub [1] rfl, va_K.moved hW.alike hK⟩⟩ rfl rfl hl.1 rfl (lv_room (Nat.le_of_ble_eq_true rfl)) dX9_tell_5 ⟨Nat.le_of_ble_eq_true rfl, Nat.le_of_ble_eq_true rfl⟩) (fun r_2 hw_2 => ?_)
  obtain rfl : r_2 = kb (inB x1 (cLa C)) := hw_2
  -- if (inB x1 (cLa C))
  refine kk_ifb_ne (tgt := 13) hx hb dX9_tell_8 (by decide) (fun hb_3 => ?_) (fun hb_3 => ?_)
  · skip
    obtain ⟨x1N, hx1N, rfl⟩ := inB_t hb_3
    have t_x1 := nI_clamp (show x1N < 2 ^ 31 by omega)
    refine lv_aload_n hx hb dX9_tell_13 rfl (lv_at hl 0 rfl) ?_
    refine va_get (D := D) (ci := 8) (v := .ref g0) (C := RX9) (T := TX9) (N := 11) hx hb hts hwX9 hown hK hP 0 rfl rfl 0 (by decide) hf_14 (fun _ h9 => h9) rfl dX9_tell_14 ?_
    refine va_get (D := D) (ci := 1) (v := .ref g3) (C := RX2) (T := TX2) (N := 8) hx hb hts hwX2 hown hK hP 1 rfl rfl 5 (by decide) hf_129 (fun _ h9 => h9) rfl dX9_tell_17 ?_
    refine lv_iload_n hx hb dX9_tell_20 rfl (lv_at hl 1 rfl) ?_
    refine kk_iald hx hb hK hP 2 rfl rfl (i := x1N) (by omega) (by decide) dX9_tell_21 ?_
    refine kk_top (y := nI (cKi C x1N)) (hrk x1N hx1N) ?_
    obtain ⟨hC, hM, hE⟩ := okX_la hX hx1N
    have hkk := (hC.2.2.2.2.2.1 x1N hx1N).1
    refine lv_istore_n (lv' := [(2, .int (nI (cKi C x1N))), (0, .ref x0), (1, .int (nI x1N))]) hx hb dX9_tell_22 rfl hl (by decide) rfl (fun ls hl => ?_)
    refine lv_iload_n hx hb dX9_tell_23 rfl (lv_at hl 0 rfl) ?_
    refine lv_iconst (v := nI 2) hx hb dX9_tell_24 (by decide +kernel) ?_
    refine kk_icmp_ne (tgt := 34) hx hb dX9_tell_25 (by decide) (by omega) (by omega) (fun c_4 => ?_) (fun c_4 => ?_)
    · skip
      refine lv_iload_n hx hb dX9_tell_34 rfl (lv_at hl 0 rfl) ?_
      refine lv_iconst (v := nI 1) hx hb dX9_tell_35 (by decide +kernel) ?_
      refine kk_icmp_ne (tgt := 47) hx hb dX9_tell_36 (by decide) (by omega) (by omega) (fun c_5 => ?_) (fun c_5 => ?_)
      · skip
        refine lv_aload_n hx hb dX9_tell_47 rfl (lv_at hl 1 rfl) ?_
        refine lv_iload_n hx hb dX9_tell_48 rfl (lv_at hl 2 rfl) ?_
        have o_6 : okC C := by assumption
        have o_7 : ∀ x1N, x1N < cLa C → st x1N = nI (cSt C x1N) := by assumption
        have o_8 : x1N < cLa C := by omega
        have hF := va_free (wc := [(x0, .inr (8, [.ref g0, .ref q0, .ref e0, .ref t0, .ref r0, .ref h0, .ref i0, .ref z0, .ref y0, .int tr, .int ft])), (g0, .inr (1, [.int (nI (cSp C)), .int (nI (cLa C)), .int (nI (cAg C)), .ref g1, .ref g2, .ref g3, .ref g4, .ref g5])), (g4, .inl (cI, 4, .inl st))]) hD hS hA [0, 1, 3] rfl
        refine va_calli (va_runV (As := [.int (nI x1N)]) (rest := []) ⟨hx, hb, hml, hown, hts⟩ (c_X9_tellAsLamp lL D cI cS _ x0 (.ref q0) (.ref e0) (.ref t0) (.ref r0) (.ref h0) (.ref i0) (.ref z0) (.ref y0) tr ft g0 g1 g2 g3 g4 g5 C st x1N o_6 o_7 o_8) (cwV 1 hts gX9_tell_X9_tellAsLamp rfl rfl rfl cd_X9_tellAsLamp ⟨Nat.le_of_ble_eq_true rfl, Nat.le_of_ble_eq_true rfl⟩) ⟨kB_blind, va_recv hK hP (ci := 8) (q0 := 0) rfl rfl, fun U hU hW => ⟨rfl, by rw [hU], by rw [hU]; exact hP.sub [0, 1, 3] rfl, va_K.moved hW.alike hK, (hD.sub [0, 1, 3] (by decide) rfl).weaken (fun _ _ _ _ => trivial)⟩⟩ rfl rfl hl.1 rfl (lv_room (Nat.le_of_ble_eq_true rfl)) dX9_tell_49 ⟨Nat.le_of_ble_eq_true rfl, Nat.le_of_ble_eq_true rfl⟩) hS (fun q _ h => hF q h) hF (fun r_9 u_9 t H1 locs ht hvm hw_9 hB hz1 hk1 hS => ?_)
        obtain ⟨hP, hD⟩ := kk_join2 (wc := [(x0, .inr (8, [.ref g0, .ref q0, .ref e0, .ref t0, .ref r0, .ref h0, .ref i0, .ref z0, .ref y0, .int tr, .int ft])), (g0, .inr (1, [.int (nI (cSp C)), .int (nI (cLa C)), .int (nI (cAg C)), .ref g1, .ref g2, .ref g3, .ref g4, .ref g5])), (g4, .inl (cI, 4, .inl st))]) (w1 := [(x0, .inr (8, [.ref g0, .ref q0, .ref e0, .ref t0, .ref r0, .ref h0, .ref i0, .ref z0, .ref y0, .int (trc tr 1), .int ft])), (g0, .inr (1, [.int (nI (cSp C)), .int (nI (cLa C)), .int (nI (cAg C)), .ref g1, .ref g2, .ref g3, .ref g4, .ref g5])), (g4, .inl (cI, 4, .inl st))]) (ws' := [(x0, .inr (8, [.ref g0, .ref q0, .ref e0, .ref t0, .ref r0, .ref h0, .ref i0, .ref z0, .ref y0, .int (trc tr 1), .int ft])), (g0, .inr (1, [.int (nI (cSp C)), .int (nI (cLa C)), .int (nI (cAg C)), .ref g1, .ref g2, .ref g3, .ref g4, .ref g5])), (g3, .inl (cI, 4, .inl ki)), (g4, .inl (cI, 4, .inl st))]) (wr := [(g3, .inl (cI, 4, .inl ki))]) (H1 := H1) hP hD [0, 1, 3] [2] rfl rfl rfl rfl 4 rfl (by decide) [x0, g0, g3, g4] rfl rfl hk1 (by rw [← ht]; exact hB)
        have hw_9 : r_9 = nI (cSt C x1N) ∧ True := hw_9
        clear hF hB hk1 hz1 hvm
        clear ht
        generalize H1 = H at hP hS ⊢
        obtain ⟨rfl, hw_9⟩ := hw_9
        have hq : (nI (cSt C x1N)) = sp_tell C (nI x1N) ∧ (trc tr 1) = nx_tell C (nI x1N) tr := by refine ⟨by simp only [sp_tell, hb_3, t_x1, cond_true, cond_false, c_4, c_5, (by decide : ¬ (1 : Nat) = 2), if_true, if_false, reduceIte], by simp only [nx_tell, hb_3, t_x1, cond_true, cond_false, c_4, c_5, (by decide : ¬ (1 : Nat) = 2), if_true, if_false, reduceIte]⟩
        refine kk_QQ hQQ ?_
        exact W.iret (v := nI (cSt C x1N)) hx hb hr (fun t ht hW => ⟨⟨nI (cSt C x1N), (trc tr 1), rfl, hq, by show va_P D vwCl _ t.heap; rw [ht]; exact hP⟩, hS.F ht⟩) hS.2.2 dX9_tell_52
      · skip
        refine lv_aload_n hx hb dX9_tell_39 rfl (lv_at hl 1 rfl) ?_
        refine lv_iload_n hx hb dX9_tell_40 rfl (lv_at hl 2 rfl) ?_
        have o_10 : okC C := by assumption
        have o_11 : ∀ x1N, x1N < cLa C → st x1N = nI (cSt C x1N) := by assumption
        have o_12 : x1N < cLa C := by omega
        have hF := va_free (wc := [(x0, .inr (8, [.ref g0, .ref q0, .ref e0, .ref t0, .ref r0, .ref h0, .ref i0, .ref z0, .ref y0, .int tr, .int ft])), (g0, .inr (1, [.int (nI (cSp C)), .int (nI (cLa C)), .int (nI (cAg C)), .ref g1, .ref g2, .ref g3, .ref g4, .ref g5])), (g4, .inl (cI, 4, .inl st))]) hD hS hA [0, 1, 3] rfl
        refine va_calli (va_runV (As := [.int (nI x1N)]) (rest := []) ⟨hx, hb, hml, hown, hts⟩ (c_X9_tellAsMirrored lL D cI cS _ x0 (.ref q0) (.ref e0) (.ref t0) (.ref r0) (.ref h0) (.ref i0) (.ref z0) (.ref y0) tr ft g0 g1 g2 g3 g4 g5 C st x1N o_10 o_11 o_12) (cwV 1 hts gX9_tell_X9_tellAsMirrored rfl rfl rfl cd_X9_tellAsMirrored ⟨Nat.le_of_ble_eq_true rfl, Nat.le_of_ble_eq_true rfl⟩) ⟨kB_blind, va_recv hK hP (ci := 8) (q0 := 0) rfl rfl, fun U hU hW => ⟨rfl, by rw [hU], by rw [hU]; exact hP.sub [0, 1, 3] rfl, va_K.moved hW.alike hK, (hD.sub [0, 1, 3] (by decide) rfl).weaken (fun _ _ _ _ => trivial)⟩⟩ rfl rfl hl.1 rfl (lv_room (Nat.le_of_ble_eq_true rfl)) dX9_tell_41 ⟨Nat.le_of_ble_eq_true rfl, Nat.le_of_ble_eq_true rfl⟩) hS (fun q _ h => hF q h) hF (fun r_13 u_13 t H1 locs ht hvm hw_13 hB hz1 hk1 hS => ?_)
        obtain ⟨hP, hD⟩ := kk_join2 (wc := [(x0, .inr (8, [.ref g0, .ref q0, .ref e0, .ref t0, .ref r0, .ref h0, .ref i0, .ref z0, .ref y0, .int tr, .int ft])), (g0, .inr (1, [.int (nI (cSp C)), .int (nI (cLa C)), .int (nI (cAg C)), .ref g1, .ref g2, .ref g3, .ref g4, .ref g5])), (g4, .inl (cI, 4, .inl st))]) (w1 := [(x0, .inr (8, [.ref g0, .ref q0, .ref e0, .ref t0, .ref r0, .ref h0, .ref i0, .ref z0, .ref y0, .int (trc (trc tr 2) 1), .int ft])), (g0, .inr (1, [.int (nI (cSp C)), .int (nI (cLa C)), .int (nI (cAg C)), .ref g1, .ref g2, .ref g3, .ref g4, .ref g5])), (g4, .inl (cI, 4, .inl st))]) (ws' := [(x0, .inr (8, [.ref g0, .ref q0, .ref e0, .ref t0, .ref r0, .ref h0, .ref i0, .ref z0, .ref y0, .int (trc (trc tr 2) 1), .int ft])), (g0, .inr (1, [.int (nI (cSp C)), .int (nI (cLa C)), .int (nI (cAg C)), .ref g1, .ref g2, .ref g3, .ref g4, .ref g5])), (g3, .inl (cI, 4, .inl ki)), (g4, .inl (cI, 4, .inl st))]) (wr := [(g3, .inl (cI, 4, .inl ki))]) (H1 := H1) hP hD [0, 1, 3] [2] rfl rfl rfl rfl 4 rfl (by decide) [x0, g0, g3, g4] rfl rfl hk1 (by rw [← ht]; exact hB)
        have hw_13 : r_13 = nI (cSt C x1N + 100) ∧ True := hw_13
        clear hF hB hk1 hz1 hvm
        clear ht
        generalize H1 = H at hP hS ⊢
        obtain ⟨rfl, hw_13⟩ := hw_13
        refine lv_goto (tgt := 52) hx hb dX9_tell_44 (by decide) ?_
        have hq : (nI (cSt C x1N + 100)) = sp_tell C (nI x1N) ∧ (trc (trc tr 2) 1) = nx_tell C (nI x1N) tr := by refine ⟨by simp only [sp_tell, hb_3, t_x1, cond_true, cond_false, c_4, c_5, (by decide : ¬ (1 : Nat) = 2), if_true, if_false, reduceIte], by simp only [nx_tell, hb_3, t_x1, cond_true, cond_false, c_4, c_5, (by decide : ¬ (1 : Nat) = 2), if_true, if_false, reduceIte]⟩
        refine kk_QQ hQQ ?_
        exact W.iret (v := nI (cSt C x1N + 100)) hx hb hr (fun t ht hW => ⟨⟨nI (cSt C x1N + 100), (trc (trc tr 2) 1), rfl, hq, by show va_P D vwCl _ t.heap; rw [ht]; exact hP⟩, hS.F ht⟩) hS.2.2 dX9_tell_52
    · skip
      refine lv_aload_n hx hb dX9_tell_28 rfl (lv_at hl 1 rfl) ?_
      refine lv_iload_n hx hb dX9_tell_29 rfl (lv_at hl 2 rfl) ?_
      have o_14 : okC C := by assumption
      have o_15 : ∀ x1N, x1N < cLa C → st x1N = nI (cSt C x1N) := by assumption
      have o_16 : x1N < cLa C := by omega
      have hF := va_free (wc := [(x0, .inr (8, [.ref g0, .ref q0, .ref e0, .ref t0, .ref r0, .ref h0, .ref i0, .ref z0, .ref y0, .int tr, .int ft])), (g0, .inr (1, [.int (nI (cSp C)), .int (nI (cLa C)), .int (nI (cAg C)), .ref g1, .ref g2, .ref g3, .ref g4, .ref g5])), (g4, .inl (cI, 4, .inl st))]) hD hS hA [0, 1, 3] rfl
      refine va_calli (va_runV (As := [.int (nI x1N)]) (rest := []) ⟨hx, hb, hml, hown, hts⟩ (c_X9_tellAsFeast lL D cI cS _ x0 (.ref q0) (.ref e0) (.ref t0) (.ref r0) (.ref h0) (.ref i0) (.ref z0) (.ref y0) tr ft g0 g1 g2 g3 g4 g5 C st x1N o_14 o_15 o_16) (cwV 1 hts gX9_tell_X9_tellAsFeast rfl rfl rfl cd_X9_tellAsFeast ⟨Nat.le_of_ble_eq_true rfl, Nat.le_of_ble_eq_true rfl⟩) ⟨kB_blind, va_recv hK hP (ci := 8) (q0 := 0) rfl rfl, fun U hU hW => ⟨rfl, by rw [hU], by rw [hU]; exact hP.sub [0, 1, 3] rfl, va_K.moved hW.alike hK, (hD.sub [0, 1, 3] (by decide) rfl).weaken (fun _ _ _ _ => trivial)⟩⟩ rfl rfl hl.1 rfl (lv_room (Nat.le_of_ble_eq_true rfl)) dX9_tell_30 ⟨Nat.le_of_ble_eq_true rfl, Nat.le_of_ble_eq_true rfl⟩) hS (fun q _ h => hF q h) hF (fun r_17 u_17 t H1 locs ht hvm hw_17 hB hz1 hk1 hS => ?_)
      obtain ⟨hP, hD⟩ := kk_join2 (wc := [(x0, .inr (8, [.ref g0, .ref q0, .ref e0, .ref t0, .ref r0, .ref h0, .ref i0, .ref z0, .ref y0, .int tr, .int ft])), (g0, .inr (1, [.int (nI (cSp C)), .int (nI (cLa C)), .int (nI (cAg C)), .ref g1, .ref g2, .ref g3, .ref g4, .ref g5])), (g4, .inl (cI, 4, .inl st))]) (w1 := [(x0, .inr (8, [.ref g0, .ref q0, .ref e0, .ref t0, .ref r0, .ref h0, .ref i0, .ref z0, .ref y0, .int (trc (trc (trc (trc tr 3) 2) 1) 1), .int ft])), (g0, .inr (1, [.int (nI (cSp C)), .int (nI (cLa C)), .int (nI (cAg C)), .ref g1, .ref g2, .ref g3, .ref g4, .ref g5])), (g4, .inl (cI, 4, .inl st))]) (ws' := [(x0, .inr (8, [.ref g0, .ref q0, .ref e0, .ref t0, .ref r0, .ref h0, .ref i0, .ref z0, .ref y0, .int (trc (trc (trc (trc tr 3) 2) 1) 1), .int ft])), (g0, .inr (1, [.int (nI (cSp C)), .int (nI (cLa C)), .int (nI (cAg C)), .ref g1, .ref g2, .ref g3, .ref g4, .ref g5])), (g3, .inl (cI, 4, .inl ki)), (g4, .inl (cI, 4, .inl st))]) (wr := [(g3, .inl (cI, 4, .inl ki))]) (H1 := H1) hP hD [0, 1, 3] [2] rfl rfl rfl rfl 4 rfl (by decide) [x0, g0, g3, g4] rfl rfl hk1 (by rw [← ht]; exact hB)
      have hw_17 : r_17 = nI (cSt C x1N + 100 + cSt C x1N) ∧ True := hw_17
      clear hF hB hk1 hz1 hvm
      clear ht
      generalize H1 = H at hP hS ⊢
      obtain ⟨rfl, hw_17⟩ := hw_17
      have hq : (nI (cSt C x1N + 100 + cSt C x1N)) = sp_tell C (nI x1N) ∧ (trc (trc (trc (trc tr 3) 2) 1) 1) = nx_tell C (nI x1N) tr := by refine ⟨by simp only [sp_tell, hb_3, t_x1, cond_true, cond_false, c_4, (by decide : ¬ (1 : Nat) = 2), if_true, if_false, reduceIte], by simp only [nx_tell, hb_3, t_x1, cond_true, cond_false, c_4, (by decide : ¬ (1 : Nat) = 2), if_true, if_false, reduceIte]⟩
      refine kk_QQ hQQ ?_
      exact W.iret (v := nI (cSt C x1N + 100 + cSt C x1N)) hx hb hr (fun t ht hW => ⟨⟨nI (cSt C x1N + 100 + cSt C x1N), (trc (trc (trc (trc tr 3) 2) 1) 1), rfl, hq, by show va_P D vwCl _ t.heap; rw [ht]; exact hP⟩, hS.F ht⟩) hS.2.2 dX9_tell_33
  · skip
    refine lv_iconst (v := (-1 : Int32)) hx hb dX9_tell_11 (by decide +kernel) ?_
    have hq : (-1 : Int32) = sp_tell C x1 ∧ tr = nx_tell C x1 tr := by refine ⟨by simp only [sp_tell, hb_3, cond_true, cond_false, (by decide : ¬ (1 : Nat) = 2), if_true, if_false, reduceIte], by simp only [nx_tell, hb_3, cond_true, cond_false, (by decide : ¬ (1 : Nat) = 2), if_true, if_false, reduceIte]⟩
    refine kk_QQ hQQ ?_
    exact W.iret (v := (-1 : Int32)) hx hb hr (fun t ht hW => ⟨⟨(-1 : Int32), tr, rfl, hq, by show va_P D vwCl _ t.heap; rw [ht]; exact hP⟩, hS.F ht⟩) hS.2.2 dX9_tell_12

abbrev rmX9_see : Room := { frames := 2, cells := 0, slots := 0, locals := 42 }
set_option maxHeartbeats 4000000 in
set_option maxRecDepth 100000 in
theorem c_X9_see (lL : Launch) (D : va_G) (cI cS : ClassId) (sz : Nat) (C : Co) (T : Mv) (E : Mv) (x0 : Nat) (g0 : Nat) (q0 : Nat) (e0 : Nat) (t0 : Nat) (r0 : Nat) (h0 : Nat) (i0 : Nat) (z0 : Nat) (y0 : Nat) (tr : Int32) (ft : Int32) (x1 : Int32) (g1 : Nat) (g2 : Nat) (g3 : Nat) (g4 : Nat) (g5 : Nat) (ki : Nat → Int32) (st : Nat → Int32) (hrk : ∀ k, k < cLa C → ki k = nI (cKi C k)) (hrs : ∀ k, k < cLa C → st k = nI (cSt C k)) (hX : okX C T E) : Met lL yX9_see wsX9_see rmX9_see (va_Pc [.ref x0, .int x1] (kB D cI cS [(x0, .inr (8, [.ref g0, .ref q0, .ref e0, .ref t0, .ref r0, .ref h0, .ref i0, .ref z0, .ref y0, .int tr, .int ft])), (g0, .inr (1, [.int (nI (cSp C)), .int (nI (cLa C)), .int (nI (cAg C)), .ref g1, .ref g2, .ref g3, .ref g4, .ref g5])), (g3, .inl (cI, 4, .inl ki)), (g4, .inl (cI, 4, .inl st))] sz)) (kQi D (fun (r : Int32) (u : Int32) => r = sp_see C x1 ∧ u = nx_see C x1 tr) (fun u : Int32 => [(x0, .inr (8, [.ref g0, .ref q0, .ref e0, .ref t0, .ref r0, .ref h0, .ref i0, .ref z0, .ref y0, .int u, .int ft])), (g0, .inr (1, [.int (nI (cSp C)), .int (nI (cLa C)), .int (nI (cAg C)), .ref g1, .ref g2, .ref g3, .ref g4, .ref g5])), (g3, .inl (cI, 4, .inl ki)), (g4, .inl (cI, 4, .inl st))]) (va_A [(x0, .inr (8, [.ref g0, .ref q0, .ref e0, .ref t0, .ref r0, .ref h0, .ref i0, .ref z0, .ref y0, .int tr, .int ft])), (g0, .inr (1, [.int (nI (cSp C)), .int (nI (cLa C)), .int (nI (cAg C)), .ref g1, .ref g2, .ref g3, .ref g4, .ref g5])), (g3, .inl (cI, 4, .inl ki)), (g4, .inl (cI, 4, .inl st))] sz)) 0 0 (va_A [(x0, .inr (8, [.ref g0, .ref q0, .ref e0, .ref t0, .ref r0, .ref h0, .ref i0, .ref z0, .ref y0, .int tr, .int ft])), (g0, .inr (1, [.int (nI (cSp C)), .int (nI (cLa C)), .int (nI (cAg C)), .ref g1, .ref g2, .ref g3, .ref g4, .ref g5])), (g3, .inl (cI, 4, .inl ki)), (g4, .inl (cI, 4, .inl st))] sz) := by
  refine Met.ofW (cc := cX9_see) (maxL := 2) (ret := (some .int)) (by decide) rfl ?_
  intro pP eE sS mM args below meth cC s₁ B hml hv
  obtain ⟨rfl, hsz, hP, hK, hD0⟩ := hv
  have hx := B.exec
  have hb := B.bytes
  have hr := B.returns
  have hts := atoms_spec (ws := wsX9_see) B.pre
  have hown : sS.vm.findClass RX9 = some mM.cls := findClass_of_methodNamed B.named
  have hlocks := B.notSynchronized
  subst hsz
  have hD := hD0.self (sz := sS.heap.size)
  generalize hAe : va_A [(x0, .inr (8, [.ref g0, .ref q0, .ref e0, .ref t0, .ref r0, .ref h0, .ref i0, .ref z0, .ref y0, .int tr, .int ft])), (g0, .inr (1, [.int (nI (cSp C)), .int (nI (cLa C)), .int (nI (cAg C)), .ref g1, .ref g2, .ref g3, .ref g4, .ref g5])), (g3, .inl (cI, 4, .inl ki)), (g4, .inl (cI, 4, .inl st))] sS.heap.size = A at hD ⊢
  have hA : ∀ q : Nat, sS.heap.size ≤ q → A q := fun q h => by rw [← hAe]; exact Or.inr h
  have hS : va_S A sS.heap sS.heap [] := va_S.rf
  have hP : va_P D vwCl [(x0, .inr (8, [.ref g0, .ref q0, .ref e0, .ref t0, .ref r0, .ref h0, .ref i0, .ref z0, .ref y0, .int tr, .int ft])), (g0, .inr (1, [.int (nI (cSp C)), .int (nI (cLa C)), .int (nI (cAg C)), .ref g1, .ref g2, .ref g3, .ref g4, .ref g5])), (g3, .inl (cI, 4, .inl ki)), (g4, .inl (cI, 4, .inl st))] sS.heap := hP
  have hD : va_D A [(x0, .inr (8, [.ref g0, .ref q0, .ref e0, .ref t0, .ref r0, .ref h0, .ref i0, .ref z0, .ref y0, .int tr, .int ft])), (g0, .inr (1, [.int (nI (cSp C)), .int (nI (cLa C)), .int (nI (cAg C)), .ref g1, .ref g2, .ref g3, .ref g4, .ref g5])), (g3, .inl (cI, 4, .inl ki)), (g4, .inl (cI, 4, .inl st))] := hD
  have hf_14 := hts (.fieldLink RX9 14 "OldLamps" "ground" "LOldLamps$Ground;") (List.mem_of_getElem? (i := 1) rfl)
  have hf_129 := hts (.fieldLink RX9 129 "OldLamps$Ground" "lampKinds" "[I") (List.mem_of_getElem? (i := 2) rfl)
  have hwX2 : ∀ w ∈ wsX20, w ∈ wsX9_see := fun _ h => List.mem_cons_of_mem _ (List.mem_append_right _ h)
  have hwX9 : ∀ w ∈ wsX90, w ∈ wsX9_see := fun _ h => List.mem_cons_of_mem _ (List.mem_append_left _ (List.mem_append_right _ h))
  have hl := lv_entry ([.ref x0, .int x1]) (n := 2) (Nat.le_of_ble_eq_true rfl)
  rw [lg_entry_eq]
  generalize (lg_sl ([.ref x0, .int x1]) ++ List.replicate (2 - (lg_sl ([.ref x0, .int x1])).length) Slot.unset).toArray = ls at hl ⊢
  have hl : lv_has ls 2 [(0, .ref x0), (1, .int x1)] := hl
  obtain ⟨QQ, hQQ⟩ : ∃ QQ : State → Prop, QQ = MQ below (kQi D (fun (r : Int32) (u : Int32) => r = sp_see C x1 ∧ u = nx_see C x1 tr) (fun u : Int32 => [(x0, .inr (8, [.ref g0, .ref q0, .ref e0, .ref t0, .ref r0, .ref h0, .ref i0, .ref z0, .ref y0, .int u, .int ft])), (g0, .inr (1, [.int (nI (cSp C)), .int (nI (cLa C)), .int (nI (cAg C)), .ref g1, .ref g2, .ref g3, .ref g4, .ref g5])), (g3, .inl (cI, 4, .inl ki)), (g4, .inl (cI, 4, .inl st))]) A) ([.ref x0, .int x1]).toArray sS 0 0 A := ⟨_, rfl⟩
  refine kk_QQ hQQ.symm ?_
  obtain ⟨hX1, hX2, hX3, hX4⟩ := okX_le hX
  refine lv_aload_n hx hb dX9_see_0 rfl (lv_at hl 0 rfl) ?_
  refine va_get (D := D) (ci := 8) (v := .ref g0) (C := RX9) (T := TX9) (N := 11) hx hb hts hwX9 hown hK hP 0 rfl rfl 0 (by decide) hf_14 (fun _ h9 => h9) rfl dX9_see_1 ?_
  refine lv_iload_n hx hb dX9_see_4 rfl (lv_at hl 1 rfl) ?_
  have o_1 : (cLa C) ≤ 4 := by omega
  refine vp_callSi (W.runV (As := [.int x1]) (rest := []) ⟨hx, hb, hml, hown, hts⟩ (c_X2_hasLamp lL D cI cS g0 (cSp C) (cLa C) (.int (nI (cAg C))) (.ref g1) (.ref g2) (.ref g3) (.ref g4) (.ref g5) x1 o_1) (cwV 1 hts gX9_see_X2_hasLamp rfl rfl rfl cd_X2_hasLamp ⟨Nat.le_of_ble_eq_true rfl, Nat.le_of_ble_eq_true rfl⟩) ⟨kBp_blind, va_recv hK hP (ci := 1) (q0 := 1) rfl rfl, fun U hU hW => ⟨rfl, by rw [hU]; exact hP.sub [1] rfl, va_K.moved hW.alike hK⟩⟩ rfl rfl hl.1 rfl (lv_room (Nat.le_of_ble_eq_true rfl)) dX9_see_5 ⟨Nat.le_of_ble_eq_true rfl, Nat.le_of_ble_eq_true rfl⟩) (fun r_2 hw_2 => ?_)
  obtain rfl : r_2 = kb (inB x1 (cLa C)) := hw_2
  -- if (inB x1 (cLa C))
  refine kk_ifb_ne (tgt := 13) hx hb dX9_see_8 (by decide) (fun hb_3 => ?_) (fun hb_3 => ?_)
  · skip
    obtain ⟨x1N, hx1N, rfl⟩ := inB_t hb_3
    have t_x1 := nI_clamp (show x1N < 2 ^ 31 by omega)
    refine lv_aload_n hx hb dX9_see_13 rfl (lv_at hl 0 rfl) ?_
    refine va_get (D := D) (ci := 8) (v := .ref g0) (C := RX9) (T := TX9) (N := 11) hx hb hts hwX9 hown hK hP 0 rfl rfl 0 (by decide) hf_14 (fun _ h9 => h9) rfl dX9_see_14 ?_
    refine va_get (D := D) (ci := 1) (v := .ref g3) (C := RX2) (T := TX2) (N := 8) hx hb hts hwX2 hown hK hP 1 rfl rfl 5 (by decide) hf_129 (fun _ h9 => h9) rfl dX9_see_17 ?_
    refine lv_iload_n hx hb dX9_see_20 rfl (lv_at hl 1 rfl) ?_
    refine kk_iald hx hb hK hP 2 rfl rfl (i := x1N) (by omega) (by decide) dX9_see_21 ?_
    refine kk_top (y := nI (cKi C x1N)) (hrk x1N hx1N) ?_
    obtain ⟨hC, hM, hE⟩ := okX_la hX hx1N
    have hkk := (hC.2.2.2.2.2.1 x1N hx1N).1
    refine lv_iconst (v := nI 2) hx hb dX9_see_22 (by decide +kernel) ?_
    refine kk_icmp_ne (tgt := 33) hx hb dX9_see_23 (by decide) (by omega) (by omega) (fun c_4 => ?_) (fun c_4 => ?_)
    · skip
      refine lv_aload_n hx hb dX9_see_33 rfl (lv_at hl 0 rfl) ?_
      refine lv_iload_n hx hb dX9_see_34 rfl (lv_at hl 1 rfl) ?_
      have hF := va_free (wc := [(x0, .inr (8, [.ref g0, .ref q0, .ref e0, .ref t0, .ref r0, .ref h0, .ref i0, .ref z0, .ref y0, .int tr, .int ft]))]) hD hS hA [0] rfl
      refine va_calli (va_runV (As := [.int (nI x1N)]) (rest := []) ⟨hx, hb, hml, hown, hts⟩ (c_X9_seeAsLent lL D cI cS _ x0 (.ref g0) (.ref q0) (.ref e0) (.ref t0) (.ref r0) (.ref h0) (.ref i0) (.ref z0) (.ref y0) tr ft x1N) (cwV 1 hts gX9_see_X9_seeAsLent rfl rfl rfl cd_X9_seeAsLent ⟨Nat.le_of_ble_eq_true rfl, Nat.le_of_ble_eq_true rfl⟩) ⟨kB_blind, va_recv hK hP (ci := 8) (q0 := 0) rfl rfl, fun U hU hW => ⟨rfl, by rw [hU], by rw [hU]; exact hP.sub [0] rfl, va_K.moved hW.alike hK, (hD.sub [0] (by decide) rfl).weaken (fun _ _ _ _ => trivial)⟩⟩ rfl rfl hl.1 rfl (lv_room (Nat.le_of_ble_eq_true rfl)) dX9_see_35 ⟨Nat.le_of_ble_eq_true rfl, Nat.le_of_ble_eq_true rfl⟩) hS (fun q _ h => hF q h) hF (fun r_5 u_5 t H1 locs ht hvm hw_5 hB hz1 hk1 hS => ?_)
      obtain ⟨hP, hD⟩ := kk_join2 (wc := [(x0, .inr (8, [.ref g0, .ref q0, .ref e0, .ref t0, .ref r0, .ref h0, .ref i0, .ref z0, .ref y0, .int tr, .int ft]))]) (w1 := [(x0, .inr (8, [.ref g0, .ref q0, .ref e0, .ref t0, .ref r0, .ref h0, .ref i0, .ref z0, .ref y0, .int (trc tr 4), .int ft]))]) (ws' := [(x0, .inr (8, [.ref g0, .ref q0, .ref e0, .ref t0, .ref r0, .ref h0, .ref i0, .ref z0, .ref y0, .int (trc tr 4), .int ft])), (g0, .inr (1, [.int (nI (cSp C)), .int (nI (cLa C)), .int (nI (cAg C)), .ref g1, .ref g2, .ref g3, .ref g4, .ref g5])), (g3, .inl (cI, 4, .inl ki)), (g4, .inl (cI, 4, .inl st))]) (wr := [(g0, .inr (1, [.int (nI (cSp C)), .int (nI (cLa C)), .int (nI (cAg C)), .ref g1, .ref g2, .ref g3, .ref g4, .ref g5])), (g3, .inl (cI, 4, .inl ki)), (g4, .inl (cI, 4, .inl st))]) (H1 := H1) hP hD [0] [1, 2, 3] rfl rfl rfl rfl 4 rfl (by decide) [x0, g0, g3, g4] rfl rfl hk1 (by rw [← ht]; exact hB)
      have hw_5 : r_5 = nI x1N ∧ True := hw_5
      clear hF hB hk1 hz1 hvm
      clear ht
      generalize H1 = H at hP hS ⊢
      obtain ⟨rfl, hw_5⟩ := hw_5
      have hq : (nI x1N) = sp_see C (nI x1N) ∧ (trc tr 4) = nx_see C (nI x1N) tr := by refine ⟨by simp only [sp_see, hb_3, t_x1, cond_true, cond_false, c_4, (by decide : ¬ (1 : Nat) = 2), if_true, if_false, reduceIte], by simp only [nx_see, hb_3, t_x1, cond_true, cond_false, c_4, (by decide : ¬ (1 : Nat) = 2), if_true, if_false, reduceIte]⟩
      refine kk_QQ hQQ ?_
      exact W.iret (v := nI x1N) hx hb hr (fun t ht hW => ⟨⟨nI x1N, (trc tr 4), rfl, hq, by show va_P D vwCl _ t.heap; rw [ht]; exact hP⟩, hS.F ht⟩) hS.2.2 dX9_see_38
    · skip
      refine lv_aload_n hx hb dX9_see_26 rfl (lv_at hl 0 rfl) ?_
      have hF := va_free (wc := [(x0, .inr (8, [.ref g0, .ref q0, .ref e0, .ref t0, .ref r0, .ref h0, .ref i0, .ref z0, .ref y0, .int tr, .int ft]))]) hD hS hA [0] rfl
      refine va_calli (va_runV (As := []) (rest := []) ⟨hx, hb, hml, hown, hts⟩ (c_X9_seeAsFeast lL D cI cS _ x0 (.ref g0) (.ref q0) (.ref e0) (.ref t0) (.ref r0) (.ref h0) (.ref i0) (.ref z0) (.ref y0) tr ft) (cwV 0 hts gX9_see_X9_seeAsFeast rfl rfl rfl cd_X9_seeAsFeast ⟨Nat.le_of_ble_eq_true rfl, Nat.le_of_ble_eq_true rfl⟩) ⟨kB_blind, va_recv hK hP (ci := 8) (q0 := 0) rfl rfl, fun U hU hW => ⟨rfl, by rw [hU], by rw [hU]; exact hP.sub [0] rfl, va_K.moved hW.alike hK, (hD.sub [0] (by decide) rfl).weaken (fun _ _ _ _ => trivial)⟩⟩ rfl rfl hl.1 rfl (lv_room (Nat.le_of_ble_eq_true rfl)) dX9_see_27 ⟨Nat.le_of_ble_eq_true rfl, Nat.le_of_ble_eq_true rfl⟩) hS (fun q _ h => hF q h) hF (fun r_6 u_6 t H1 locs ht hvm hw_6 hB hz1 hk1 hS => ?_)
      obtain ⟨hP, hD⟩ := kk_join2 (wc := [(x0, .inr (8, [.ref g0, .ref q0, .ref e0, .ref t0, .ref r0, .ref h0, .ref i0, .ref z0, .ref y0, .int tr, .int ft]))]) (w1 := [(x0, .inr (8, [.ref g0, .ref q0, .ref e0, .ref t0, .ref r0, .ref h0, .ref i0, .ref z0, .ref y0, .int (trc tr 5), .int ft]))]) (ws' := [(x0, .inr (8, [.ref g0, .ref q0, .ref e0, .ref t0, .ref r0, .ref h0, .ref i0, .ref z0, .ref y0, .int (trc tr 5), .int ft])), (g0, .inr (1, [.int (nI (cSp C)), .int (nI (cLa C)), .int (nI (cAg C)), .ref g1, .ref g2, .ref g3, .ref g4, .ref g5])), (g3, .inl (cI, 4, .inl ki)), (g4, .inl (cI, 4, .inl st))]) (wr := [(g0, .inr (1, [.int (nI (cSp C)), .int (nI (cLa C)), .int (nI (cAg C)), .ref g1, .ref g2, .ref g3, .ref g4, .ref g5])), (g3, .inl (cI, 4, .inl ki)), (g4, .inl (cI, 4, .inl st))]) (H1 := H1) hP hD [0] [1, 2, 3] rfl rfl rfl rfl 4 rfl (by decide) [x0, g0, g3, g4] rfl rfl hk1 (by rw [← ht]; exact hB)
      have hw_6 : r_6 = nI 60 ∧ True := hw_6
      clear hF hB hk1 hz1 hvm
      clear ht
      generalize H1 = H at hP hS ⊢
      obtain ⟨rfl, hw_6⟩ := hw_6
      refine lv_goto (tgt := 38) hx hb dX9_see_30 (by decide) ?_
      have hq : (nI 60) = sp_see C (nI x1N) ∧ (trc tr 5) = nx_see C (nI x1N) tr := by refine ⟨by simp only [sp_see, hb_3, t_x1, cond_true, cond_false, c_4, (by decide : ¬ (1 : Nat) = 2), if_true, if_false, reduceIte], by simp only [nx_see, hb_3, t_x1, cond_true, cond_false, c_4, (by decide : ¬ (1 : Nat) = 2), if_true, if_false, reduceIte]⟩
      refine kk_QQ hQQ ?_
      exact W.iret (v := nI 60) hx hb hr (fun t ht hW => ⟨⟨nI 60, (trc tr 5), rfl, hq, by show va_P D vwCl _ t.heap; rw [ht]; exact hP⟩, hS.F ht⟩) hS.2.2 dX9_see_38
  · skip
    refine lv_iconst (v := (-1 : Int32)) hx hb dX9_see_11 (by decide +kernel) ?_
    have hq : (-1 : Int32) = sp_see C x1 ∧ tr = nx_see C x1 tr := by refine ⟨by simp only [sp_see, hb_3, cond_true, cond_false, (by decide : ¬ (1 : Nat) = 2), if_true, if_false, reduceIte], by simp only [nx_see, hb_3, cond_true, cond_false, (by decide : ¬ (1 : Nat) = 2), if_true, if_false, reduceIte]⟩
    refine kk_QQ hQQ ?_
    exact W.iret (v := (-1 : Int32)) hx hb hr (fun t ht hW => ⟨⟨(-1 : Int32), tr, rfl, hq, by show va_P D vwCl _ t.heap; rw [ht]; exact hP⟩, hS.F ht⟩) hS.2.2 dX9_see_12

abbrev rmX9_as : Room := { frames := 1, cells := 0, slots := 0, locals := 22 }
set_option maxHeartbeats 4000000 in
set_option maxRecDepth 100000 in
theorem c_X9_as (lL : Launch) (D : va_G) (cI cS : ClassId) (sz : Nat) (C : Co) (T : Mv) (E : Mv) (x0 : Nat) (g0 : Nat) (q0 : Nat) (e0 : Nat) (t0 : Nat) (r0 : Nat) (h0 : Nat) (i0 : Nat) (z0 : Nat) (y0 : Nat) (tr : Int32) (ft : Int32) (x1 : Int32) (x2 : Int32) (g1 : Nat) (g2 : Nat) (g3 : Nat) (g4 : Nat) (g5 : Nat) (ki : Nat → Int32) (st : Nat → Int32) (hrk : ∀ k, k < cLa C → ki k = nI (cKi C k)) (hrs : ∀ k, k < cLa C → st k = nI (cSt C k)) (hX : okX C T E) : Met lL yX9_as wsX9_as rmX9_as (va_Pc [.ref x0, .int x1, .int x2] (kB D cI cS [(x0, .inr (8, [.ref g0, .ref q0, .ref e0, .ref t0, .ref r0, .ref h0, .ref i0, .ref z0, .ref y0, .int tr, .int ft])), (g0, .inr (1, [.int (nI (cSp C)), .int (nI (cLa C)), .int (nI (cAg C)), .ref g1, .ref g2, .ref g3, .ref g4, .ref g5])), (g3, .inl (cI, 4, .inl ki)), (g4, .inl (cI, 4, .inl st))] sz)) (kQi D (fun (r : Int32) (u : Int32) => r = sp_as C x1 x2 ∧ u = nx_as C x1 x2) (fun u : Int32 => [(x0, .inr (8, [.ref g0, .ref q0, .ref e0, .ref t0, .ref r0, .ref h0, .ref i0, .ref z0, .ref y0, .int tr, .int u])), (g0, .inr (1, [.int (nI (cSp C)), .int (nI (cLa C)), .int (nI (cAg C)), .ref g1, .ref g2, .ref g3, .ref g4, .ref g5])), (g3, .inl (cI, 4, .inl ki)), (g4, .inl (cI, 4, .inl st))]) (va_A [(x0, .inr (8, [.ref g0, .ref q0, .ref e0, .ref t0, .ref r0, .ref h0, .ref i0, .ref z0, .ref y0, .int tr, .int ft])), (g0, .inr (1, [.int (nI (cSp C)), .int (nI (cLa C)), .int (nI (cAg C)), .ref g1, .ref g2, .ref g3, .ref g4, .ref g5])), (g3, .inl (cI, 4, .inl ki)), (g4, .inl (cI, 4, .inl st))] sz)) 0 0 (va_A [(x0, .inr (8, [.ref g0, .ref q0, .ref e0, .ref t0, .ref r0, .ref h0, .ref i0, .ref z0, .ref y0, .int tr, .int ft])), (g0, .inr (1, [.int (nI (cSp C)), .int (nI (cLa C)), .int (nI (cAg C)), .ref g1, .ref g2, .ref g3, .ref g4, .ref g5])), (g3, .inl (cI, 4, .inl ki)), (g4, .inl (cI, 4, .inl st))] sz) := by
  refine Met.ofW (cc := cX9_as) (maxL := 3) (ret := (some .int)) (by decide) rfl ?_
  intro pP eE sS mM args below meth cC s₁ B hml hv
  obtain ⟨rfl, hsz, hP, hK, hD0⟩ := hv
  have hx := B.exec
  have hb := B.bytes
  have hr := B.returns
  have hts := atoms_spec (ws := wsX9_as) B.pre
  have hown : sS.vm.findClass RX9 = some mM.cls := findClass_of_methodNamed B.named
  have hlocks := B.notSynchronized
  subst hsz
  have hD := hD0.self (sz := sS.heap.size)
  generalize hAe : va_A [(x0, .inr (8, [.ref g0, .ref q0, .ref e0, .ref t0, .ref r0, .ref h0, .ref i0, .ref z0, .ref y0, .int tr, .int ft])), (g0, .inr (1, [.int (nI (cSp C)), .int (nI (cLa C)), .int (nI (cAg C)), .ref g1, .ref g2, .ref g3, .ref g4, .ref g5])), (g3, .inl (cI, 4, .inl ki)), (g4, .inl (cI, 4, .inl st))] sS.heap.size = A at hD ⊢
  have hA : ∀ q : Nat, sS.heap.size ≤ q → A q := fun q h => by rw [← hAe]; exact Or.inr h
  have hS : va_S A sS.heap sS.heap [] := va_S.rf
  have hP : va_P D vwCl [(x0, .inr (8, [.ref g0, .ref q0, .ref e0, .ref t0, .ref r0, .ref h0, .ref i0, .ref z0, .ref y0, .int tr, .int ft])), (g0, .inr (1, [.int (nI (cSp C)), .int (nI (cLa C)), .int (nI (cAg C)), .ref g1, .ref g2, .ref g3, .ref g4, .ref g5])), (g3, .inl (cI, 4, .inl ki)), (g4, .inl (cI, 4, .inl st))] sS.heap := hP
  have hD : va_D A [(x0, .inr (8, [.ref g0, .ref q0, .ref e0, .ref t0, .ref r0, .ref h0, .ref i0, .ref z0, .ref y0, .int tr, .int ft])), (g0, .inr (1, [.int (nI (cSp C)), .int (nI (cLa C)), .int (nI (cAg C)), .ref g1, .ref g2, .ref g3, .ref g4, .ref g5])), (g3, .inl (cI, 4, .inl ki)), (g4, .inl (cI, 4, .inl st))] := hD
  have hf_14 := hts (.fieldLink RX9 14 "OldLamps" "ground" "LOldLamps$Ground;") (List.mem_of_getElem? (i := 2) rfl)
  have hf_61 := hts (.fieldLink RX9 61 "OldLamps" "latestFault" "I") (List.mem_of_getElem? (i := 1) rfl)
  have hf_129 := hts (.fieldLink RX9 129 "OldLamps$Ground" "lampKinds" "[I") (List.mem_of_getElem? (i := 3) rfl)
  have hwX2 : ∀ w ∈ wsX20, w ∈ wsX9_as := fun _ h => List.mem_cons_of_mem _ (List.mem_append_right _ h)
  have hwX9 : ∀ w ∈ wsX90, w ∈ wsX9_as := fun _ h => List.mem_cons_of_mem _ (List.mem_append_left _ (List.mem_append_right _ h))
  have hl := lv_entry ([.ref x0, .int x1, .int x2]) (n := 3) (Nat.le_of_ble_eq_true rfl)
  rw [lg_entry_eq]
  generalize (lg_sl ([.ref x0, .int x1, .int x2]) ++ List.replicate (3 - (lg_sl ([.ref x0, .int x1, .int x2])).length) Slot.unset).toArray = ls at hl ⊢
  have hl : lv_has ls 3 [(0, .ref x0), (1, .int x1), (2, .int x2)] := hl
  obtain ⟨QQ, hQQ⟩ : ∃ QQ : State → Prop, QQ = MQ below (kQi D (fun (r : Int32) (u : Int32) => r = sp_as C x1 x2 ∧ u = nx_as C x1 x2) (fun u : Int32 => [(x0, .inr (8, [.ref g0, .ref q0, .ref e0, .ref t0, .ref r0, .ref h0, .ref i0, .ref z0, .ref y0, .int tr, .int u])), (g0, .inr (1, [.int (nI (cSp C)), .int (nI (cLa C)), .int (nI (cAg C)), .ref g1, .ref g2, .ref g3, .ref g4, .ref g5])), (g3, .inl (cI, 4, .inl ki)), (g4, .inl (cI, 4, .inl st))]) A) ([.ref x0, .int x1, .int x2]).toArray sS 0 0 A := ⟨_, rfl⟩
  refine kk_QQ hQQ.symm ?_
  obtain ⟨hX1, hX2, hX3, hX4⟩ := okX_le hX
  refine lv_aload_n hx hb dX9_as_0 rfl (lv_at hl 0 rfl) ?_
  refine lv_iconst (v := nI 0) hx hb dX9_as_1 (by decide +kernel) ?_
  refine va_put (D := D) (ci := 8) (v := .int (nI 0)) (ty := .int) (C := RX9) (T := TX9) (N := 11) hx hb hts hwX9 tyX9 tyX9_ok nmX9 hown hK hP hD hS 0 rfl rfl 10 (by decide) hf_61 (fun _ h9 => h9) rfl (by decide +kernel) rfl rfl (Nat.le_of_ble_eq_true rfl) dX9_as_2 (fun H locs hP hD hS => ?_)
  have hP : va_P D vwCl [(x0, .inr (8, [.ref g0, .ref q0, .ref e0, .ref t0, .ref r0, .ref h0, .ref i0, .ref z0, .ref y0, .int tr, .int (nI 0)])), (g0, .inr (1, [.int (nI (cSp C)), .int (nI (cLa C)), .int (nI (cAg C)), .ref g1, .ref g2, .ref g3, .ref g4, .ref g5])), (g3, .inl (cI, 4, .inl ki)), (g4, .inl (cI, 4, .inl st))] H := hP
  have hD : va_D A [(x0, .inr (8, [.ref g0, .ref q0, .ref e0, .ref t0, .ref r0, .ref h0, .ref i0, .ref z0, .ref y0, .int tr, .int (nI 0)])), (g0, .inr (1, [.int (nI (cSp C)), .int (nI (cLa C)), .int (nI (cAg C)), .ref g1, .ref g2, .ref g3, .ref g4, .ref g5])), (g3, .inl (cI, 4, .inl ki)), (g4, .inl (cI, 4, .inl st))] := hD
  refine lv_aload_n hx hb dX9_as_5 rfl (lv_at hl 0 rfl) ?_
  refine va_get (D := D) (ci := 8) (v := .ref g0) (C := RX9) (T := TX9) (N := 11) hx hb hts hwX9 hown hK hP 0 rfl rfl 0 (by decide) hf_14 (fun _ h9 => h9) rfl dX9_as_6 ?_
  refine lv_iload_n hx hb dX9_as_9 rfl (lv_at hl 1 rfl) ?_
  have o_1 : (cLa C) ≤ 4 := by omega
  refine vp_callSi (W.runV (As := [.int x1]) (rest := []) ⟨hx, hb, hml, hown, hts⟩ (c_X2_hasLamp lL D cI cS g0 (cSp C) (cLa C) (.int (nI (cAg C))) (.ref g1) (.ref g2) (.ref g3) (.ref g4) (.ref g5) x1 o_1) (cwV 1 hts gX9_as_X2_hasLamp rfl rfl rfl cd_X2_hasLamp ⟨Nat.le_of_ble_eq_true rfl, Nat.le_of_ble_eq_true rfl⟩) ⟨kBp_blind, va_recv hK hP (ci := 1) (q0 := 1) rfl rfl, fun U hU hW => ⟨rfl, by rw [hU]; exact hP.sub [1] rfl, va_K.moved hW.alike hK⟩⟩ rfl rfl hl.1 rfl (lv_room (Nat.le_of_ble_eq_true rfl)) dX9_as_10 ⟨Nat.le_of_ble_eq_true rfl, Nat.le_of_ble_eq_true rfl⟩) (fun r_2 hw_2 => ?_)
  obtain rfl : r_2 = kb (inB x1 (cLa C)) := hw_2
  -- if (inB x1 (cLa C))
  refine kk_ifb_ne (tgt := 18) hx hb dX9_as_13 (by decide) (fun hb_3 => ?_) (fun hb_3 => ?_)
  · skip
    obtain ⟨x1N, hx1N, rfl⟩ := inB_t hb_3
    have t_x1 := nI_clamp (show x1N < 2 ^ 31 by omega)
    refine lv_iload_n hx hb dX9_as_18 rfl (lv_at hl 2 rfl) ?_
    refine lv_iconst (v := nI 0) hx hb dX9_as_19 (by decide +kernel) ?_
    refine lv_iconst (v := nI 2) hx hb dX9_as_20 (by decide +kernel) ?_
    have o_4 : 0 < 2 ^ 31 := by omega
    have o_5 : 2 < 2 ^ 31 := by omega
    refine vp_callSi (W.runS (As := [.int x2, .int (nI 0), .int (nI 2)]) (rest := []) ⟨hx, hb, hml, hown, hts⟩ (c_X9_isWithin lL D cI cS x2 0 2 o_4 o_5) (va_cwS 3 hts gX9_as_X9_isWithin rfl rfl rfl cd_X9_isWithin ⟨Nat.le_of_ble_eq_true rfl, Nat.le_of_ble_eq_true rfl⟩) ⟨kBp_blind, fun U hU hW => ⟨rfl, by rw [hU]; exact hP.sub [] rfl, va_K.moved hW.alike hK⟩⟩ rfl rfl hl.1 rfl (lv_room (Nat.le_of_ble_eq_true rfl)) dX9_as_21 ⟨Nat.le_of_ble_eq_true rfl, Nat.le_of_ble_eq_true rfl⟩) (fun r_6 hw_6 => ?_)
    obtain rfl : r_6 = kb (wB x2 0 2) := hw_6
    -- if (wB x2 0 2)
    refine kk_ifb_ne (tgt := 30) hx hb dX9_as_24 (by decide) (fun hb_7 => ?_) (fun hb_7 => ?_)
    · skip
      obtain ⟨x2N, hx2L, hx2N, rfl⟩ := wB_t hb_7
      have t_x2 := nI_clamp (show x2N < 2 ^ 31 by omega)
      refine lv_iload_n hx hb dX9_as_30 rfl (lv_at hl 2 rfl) ?_
      refine lv_aload_n hx hb dX9_as_31 rfl (lv_at hl 0 rfl) ?_
      refine va_get (D := D) (ci := 8) (v := .ref g0) (C := RX9) (T := TX9) (N := 11) hx hb hts hwX9 hown hK hP 0 rfl rfl 0 (by decide) hf_14 (fun _ h9 => h9) rfl dX9_as_32 ?_
      refine va_get (D := D) (ci := 1) (v := .ref g3) (C := RX2) (T := TX2) (N := 8) hx hb hts hwX2 hown hK hP 1 rfl rfl 5 (by decide) hf_129 (fun _ h9 => h9) rfl dX9_as_35 ?_
      refine lv_iload_n hx hb dX9_as_38 rfl (lv_at hl 1 rfl) ?_
      refine kk_iald hx hb hK hP 2 rfl rfl (i := x1N) (by omega) (by decide) dX9_as_39 ?_
      refine kk_top (y := nI (cKi C x1N)) (hrk x1N hx1N) ?_
      obtain ⟨hC, hM, hE⟩ := okX_la hX hx1N
      have hkk := (hC.2.2.2.2.2.1 x1N hx1N).1
      refine kk_icmp_le (tgt := 49) hx hb dX9_as_40 (by decide) (by omega) (by omega) (fun c_8 => ?_) (fun c_8 => ?_)
      · skip
        refine lv_iconst (v := nI 1) hx hb dX9_as_49 (by decide +kernel) ?_
        have hq : (nI 1) = sp_as C (nI x1N) (nI x2N) ∧ (nI 0) = nx_as C (nI x1N) (nI x2N) := by refine ⟨by simp only [sp_as, hb_3, hb_7, t_x1, t_x2, cond_true, cond_false, c_8, (by decide : ¬ (1 : Nat) = 2), if_pos (show x2N ≤ cKi C x1N by omega), if_false, reduceIte], by simp only [nx_as, hb_3, hb_7, t_x1, t_x2, cond_true, cond_false, c_8, (by decide : ¬ (1 : Nat) = 2), if_pos (show x2N ≤ cKi C x1N by omega), if_false, reduceIte]⟩
        refine kk_QQ hQQ ?_
        exact W.iret (v := nI 1) hx hb hr (fun t ht hW => ⟨⟨nI 1, (nI 0), rfl, hq, by show va_P D vwCl _ t.heap; rw [ht]; exact hP⟩, hS.F ht⟩) hS.2.2 dX9_as_50
      · skip
        refine lv_aload_n hx hb dX9_as_43 rfl (lv_at hl 0 rfl) ?_
        refine lv_iconst (v := nI 2) hx hb dX9_as_44 (by decide +kernel) ?_
        have hF := va_free (wc := [(x0, .inr (8, [.ref g0, .ref q0, .ref e0, .ref t0, .ref r0, .ref h0, .ref i0, .ref z0, .ref y0, .int tr, .int (nI 0)]))]) hD hS hA [0] rfl
        refine va_calli (va_runV (As := [.int (nI 2)]) (rest := []) ⟨hx, hb, hml, hown, hts⟩ (c_X9_faulted lL D cI cS _ x0 (.ref g0) (.ref q0) (.ref e0) (.ref t0) (.ref r0) (.ref h0) (.ref i0) (.ref z0) (.ref y0) tr (nI 0) 2) (cwV 1 hts gX9_as_X9_faulted rfl rfl rfl cd_X9_faulted ⟨Nat.le_of_ble_eq_true rfl, Nat.le_of_ble_eq_true rfl⟩) ⟨kB_blind, va_recv hK hP (ci := 8) (q0 := 0) rfl rfl, fun U hU hW => ⟨rfl, by rw [hU], by rw [hU]; exact hP.sub [0] rfl, va_K.moved hW.alike hK, (hD.sub [0] (by decide) rfl).weaken (fun _ _ _ _ => trivial)⟩⟩ rfl rfl hl.1 rfl (lv_room (Nat.le_of_ble_eq_true rfl)) dX9_as_45 ⟨Nat.le_of_ble_eq_true rfl, Nat.le_of_ble_eq_true rfl⟩) hS (fun q _ h => hF q h) hF (fun r_9 u_9 t H1 locs ht hvm hw_9 hB hz1 hk1 hS => ?_)
        obtain ⟨hP, hD⟩ := kk_join2 (wc := [(x0, .inr (8, [.ref g0, .ref q0, .ref e0, .ref t0, .ref r0, .ref h0, .ref i0, .ref z0, .ref y0, .int tr, .int (nI 0)]))]) (w1 := [(x0, .inr (8, [.ref g0, .ref q0, .ref e0, .ref t0, .ref r0, .ref h0, .ref i0, .ref z0, .ref y0, .int tr, .int (nI 2)]))]) (ws' := [(x0, .inr (8, [.ref g0, .ref q0, .ref e0, .ref t0, .ref r0, .ref h0, .ref i0, .ref z0, .ref y0, .int tr, .int (nI 2)])), (g0, .inr (1, [.int (nI (cSp C)), .int (nI (cLa C)), .int (nI (cAg C)), .ref g1, .ref g2, .ref g3, .ref g4, .ref g5])), (g3, .inl (cI, 4, .inl ki)), (g4, .inl (cI, 4, .inl st))]) (wr := [(g0, .inr (1, [.int (nI (cSp C)), .int (nI (cLa C)), .int (nI (cAg C)), .ref g1, .ref g2, .ref g3, .ref g4, .ref g5])), (g3, .inl (cI, 4, .inl ki)), (g4, .inl (cI, 4, .inl st))]) (H1 := H1) hP hD [0] [1, 2, 3] rfl rfl rfl rfl 4 rfl (by decide) [x0, g0, g3, g4] rfl rfl hk1 (by rw [← ht]; exact hB)
        have hw_9 : r_9 = (-10 : Int32) - nI 2 ∧ True := hw_9
        clear hF hB hk1 hz1 hvm
        clear ht
        generalize H1 = H at hP hS ⊢
        obtain ⟨rfl, hw_9⟩ := hw_9
        have hq : ((-10 : Int32) - nI 2) = sp_as C (nI x1N) (nI x2N) ∧ (nI 2) = nx_as C (nI x1N) (nI x2N) := by refine ⟨by simp only [sp_as, hb_3, hb_7, t_x1, t_x2, cond_true, cond_false, c_8, (by decide : ¬ (1 : Nat) = 2), if_neg (show ¬ x2N ≤ cKi C x1N by omega), if_false, reduceIte], by simp only [nx_as, hb_3, hb_7, t_x1, t_x2, cond_true, cond_false, c_8, (by decide : ¬ (1 : Nat) = 2), if_neg (show ¬ x2N ≤ cKi C x1N by omega), if_false, reduceIte]⟩
        refine kk_QQ hQQ ?_
        exact W.iret (v := (-10 : Int32) - nI 2) hx hb hr (fun t ht hW => ⟨⟨(-10 : Int32) - nI 2, (nI 2), rfl, hq, by show va_P D vwCl _ t.heap; rw [ht]; exact hP⟩, hS.F ht⟩) hS.2.2 dX9_as_48
    · skip
      refine lv_bipush (v := (-2 : Int32)) hx hb dX9_as_27 (by decide +kernel) ?_
      have hq : (-2 : Int32) = sp_as C (nI x1N) x2 ∧ (nI 0) = nx_as C (nI x1N) x2 := by refine ⟨by simp only [sp_as, hb_3, hb_7, t_x1, cond_true, cond_false, (by decide : ¬ (1 : Nat) = 2), if_true, if_false, reduceIte], by simp only [nx_as, hb_3, hb_7, t_x1, cond_true, cond_false, (by decide : ¬ (1 : Nat) = 2), if_true, if_false, reduceIte]⟩
      refine kk_QQ hQQ ?_
      exact W.iret (v := (-2 : Int32)) hx hb hr (fun t ht hW => ⟨⟨(-2 : Int32), (nI 0), rfl, hq, by show va_P D vwCl _ t.heap; rw [ht]; exact hP⟩, hS.F ht⟩) hS.2.2 dX9_as_29
  · skip
    refine lv_iconst (v := (-1 : Int32)) hx hb dX9_as_16 (by decide +kernel) ?_
    have hq : (-1 : Int32) = sp_as C x1 x2 ∧ (nI 0) = nx_as C x1 x2 := by refine ⟨by simp only [sp_as, hb_3, cond_true, cond_false, (by decide : ¬ (1 : Nat) = 2), if_true, if_false, reduceIte], by simp only [nx_as, hb_3, cond_true, cond_false, (by decide : ¬ (1 : Nat) = 2), if_true, if_false, reduceIte]⟩
    refine kk_QQ hQQ ?_
    exact W.iret (v := (-1 : Int32)) hx hb hr (fun t ht hW => ⟨⟨(-1 : Int32), (nI 0), rfl, hq, by show va_P D vwCl _ t.heap; rw [ht]; exact hP⟩, hS.F ht⟩) hS.2.2 dX9_as_17
