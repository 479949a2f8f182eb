theorem cd_X1_append : yX1_append.cls = RX1 ∧ yX1_append.cls ≠ "java/lang/invoke/MethodHandle" ∧ yX1_append.cls ≠ "java/lang/invoke/VarHandle" ∧ (parseMethodDescriptor yX1_append.desc).map (fun d => d.parameters.length) = some 3 := by decide +kernel
theorem cd_X1_takeBack : yX1_takeBack.cls = RX1 ∧ yX1_takeBack.cls ≠ "java/lang/invoke/MethodHandle" ∧ yX1_takeBack.cls ≠ "java/lang/invoke/VarHandle" ∧ (parseMethodDescriptor yX1_takeBack.desc).map (fun d => d.parameters.length) = some 1 := by decide +kernel
theorem cd_X2_hasLamp : yX2_hasLamp.cls = RX2 ∧ yX2_hasLamp.cls ≠ "java/lang/invoke/MethodHandle" ∧ yX2_hasLamp.cls ≠ "java/lang/invoke/VarHandle" ∧ (parseMethodDescriptor yX2_hasLamp.desc).map (fun d => d.parameters.length) = some 1 := by decide +kernel
theorem cd_X2_hasSpot : yX2_hasSpot.cls = RX2 ∧ yX2_hasSpot.cls ≠ "java/lang/invoke/MethodHandle" ∧ yX2_hasSpot.cls ≠ "java/lang/invoke/VarHandle" ∧ (parseMethodDescriptor yX2_hasSpot.desc).map (fun d => d.parameters.length) = some 1 := by decide +kernel
theorem cd_X2_isThere : yX2_isThere.cls = RX2 ∧ yX2_isThere.cls ≠ "java/lang/invoke/MethodHandle" ∧ yX2_isThere.cls ≠ "java/lang/invoke/VarHandle" ∧ (parseMethodDescriptor yX2_isThere.desc).map (fun d => d.parameters.length) = some 0 := by decide +kernel
theorem cd_X9_isDay : yX9_isDay.cls ≠ "java/lang/invoke/MethodHandle" ∧ yX9_isDay.cls ≠ "java/lang/invoke/VarHandle" ∧ (parseMethodDescriptor yX9_isDay.desc).map (fun d => d.parameters.length) = some 1 := by decide +kernel
theorem cd_X9_isWatch : yX9_isWatch.cls ≠ "java/lang/invoke/MethodHandle" ∧ yX9_isWatch.cls ≠ "java/lang/invoke/VarHandle" ∧ (parseMethodDescriptor yX9_isWatch.desc).map (fun d => d.parameters.length) = some 1 := by decide +kernel
abbrev rmX9_sky : Room := { frames := 1, cells := 0, slots := 0, locals := 22 }
set_option maxHeartbeats 4000000 in
set_option maxRecDepth 100000 in
theorem c_X9_sky (lL : Launch) (D : va_G) (cI cS : ClassId) (C : Co) (T : Mv) (E : Mv) (x0 : Nat) (g0 : Nat) (q0 : Nat) (e0 : Nat) (t0 : Nat) (r0 : Nat) (h0 : Nat) (i0 : Nat) (z0 : Nat) (y0 : Nat) (tr : Int32) (ft : Int32) (x1 : Int32) (g1 : Nat) (g2 : Nat) (g3 : Nat) (g4 : Nat) (g5 : Nat) (sk : Nat → Int32) (hrs : ∀ w, w < 6 → sk w = nI (cSk C w)) (hX : okX C T E) : Met lL yX9_sky wsX9_sky rmX9_sky (va_Pc [.ref x0, .int x1] (kBp D cI cS [(x0, .inr (8, [.ref g0, .ref q0, .ref e0, .ref t0, .ref r0, .ref h0, .ref i0, .ref z0, .ref y0, .int tr, .int ft])), (g0, .inr (1, [.int (nI (cSp C)), .int (nI (cLa C)), .int (nI (cAg C)), .ref g1, .ref g2, .ref g3, .ref g4, .ref g5])), (g1, .inl (cI, 6, .inl sk))])) (vp_Si (fun r : Int32 => r = sp_sky C x1)) 0 0 (fun _ => False) := by
  refine Met.ofW (cc := cX9_sky) (maxL := 2) (ret := (some .int)) (by decide) rfl ?_
  intro pP eE sS mM args below meth cC s₁ B hml hv
  obtain ⟨rfl, hP, hK⟩ := hv
  have hx := B.exec
  have hb := B.bytes
  have hr := B.returns
  have hts := atoms_spec (ws := wsX9_sky) B.pre
  have hown : sS.vm.findClass RX9 = some mM.cls := findClass_of_methodNamed B.named
  have hlocks := B.notSynchronized
  have hP : va_P D vwCl [(x0, .inr (8, [.ref g0, .ref q0, .ref e0, .ref t0, .ref r0, .ref h0, .ref i0, .ref z0, .ref y0, .int tr, .int ft])), (g0, .inr (1, [.int (nI (cSp C)), .int (nI (cLa C)), .int (nI (cAg C)), .ref g1, .ref g2, .ref g3, .ref g4, .ref g5])), (g1, .inl (cI, 6, .inl sk))] sS.heap := hP
  have hf_14 := hts (.fieldLink RX9 14 "OldLamps" "ground" "LOldLamps$Ground;") (List.mem_of_getElem? (i := 1) rfl)
  have hf_116 := hts (.fieldLink RX9 116 "OldLamps$Ground" "skies" "[I") (List.mem_of_getElem? (i := 2) rfl)
  have hwX2 : ∀ w ∈ wsX20, w ∈ wsX9_sky := fun _ h => List.mem_cons_of_mem _ (List.mem_append_right _ h)
  have hwX9 : ∀ w ∈ wsX90, w ∈ wsX9_sky := fun _ h => List.mem_cons_of_mem _ (List.mem_append_left _ (List.mem_append_right _ h))
  have hl := lv_entry ([.ref x0, .int x1]) (n := 2) (Nat.le_of_ble_eq_true rfl)
  rw [lg_entry_eq]
  generalize (lg_sl ([.ref x0, .int x1]) ++ List.replicate (2 - (lg_sl ([.ref x0, .int x1])).length) Slot.unset).toArray = ls at hl ⊢
  have hl : lv_has ls 2 [(0, .ref x0), (1, .int x1)] := hl
  obtain ⟨QQ, hQQ⟩ : ∃ QQ : State → Prop, QQ = MQ below (vp_Si (fun r : Int32 => r = sp_sky C x1)) ([.ref x0, .int x1]).toArray sS 0 0 (fun _ => False) := ⟨_, rfl⟩
  refine kk_QQ hQQ.symm ?_
  obtain ⟨hX1, hX2, hX3, hX4⟩ := okX_le hX
  refine lv_iload_n hx hb dX9_sky_0 rfl (lv_at hl 1 rfl) ?_
  refine lv_iconst (v := nI 0) hx hb dX9_sky_1 (by decide +kernel) ?_
  refine lv_iconst (v := nI 5) hx hb dX9_sky_2 (by decide +kernel) ?_
  have o_1 : 0 < 2 ^ 31 := by omega
  have o_2 : 5 < 2 ^ 31 := by omega
  refine vp_callSi (W.runS (As := [.int x1, .int (nI 0), .int (nI 5)]) (rest := []) ⟨hx, hb, hml, hown, hts⟩ (c_X9_isWithin lL D cI cS x1 0 5 o_1 o_2) (va_cwS 3 hts gX9_sky_X9_isWithin rfl rfl rfl cd_X9_isWithin ⟨Nat.le_of_ble_eq_true rfl, Nat.le_of_ble_eq_true rfl⟩) ⟨kBp_blind, fun U hU hW => ⟨rfl, by rw [hU]; exact hP.sub [] rfl, va_K.moved hW.alike hK⟩⟩ rfl rfl hl.1 rfl (lv_room (Nat.le_of_ble_eq_true rfl)) dX9_sky_3 ⟨Nat.le_of_ble_eq_true rfl, Nat.le_of_ble_eq_true rfl⟩) (fun r_3 hw_3 => ?_)
  obtain rfl : r_3 = kb (wB x1 0 5) := hw_3
  -- if (wB x1 0 5)
  refine kk_ifb_ne (tgt := 12) hx hb dX9_sky_6 (by decide) (fun hb_4 => ?_) (fun hb_4 => ?_)
  · skip
    obtain ⟨x1N, hx1L, hx1N, rfl⟩ := wB_t hb_4
    have t_x1 := nI_clamp (show x1N < 2 ^ 31 by omega)
    refine lv_aload_n hx hb dX9_sky_12 rfl (lv_at hl 0 rfl) ?_
    refine va_get (D := D) (ci := 8) (v := .ref g0) (C := RX9) (T := TX9) (N := 11) hx hb hts hwX9 hown hK hP 0 rfl rfl 0 (by decide) hf_14 (fun _ h9 => h9) rfl dX9_sky_13 ?_
    have o_5 : (cLa C) ≤ 4 := by omega
    refine vp_callSi (W.runV (As := []) (rest := []) ⟨hx, hb, hml, hown, hts⟩ (c_X2_isThere lL D cI cS g0 (cSp C) (cLa C) (.int (nI (cAg C))) (.ref g1) (.ref g2) (.ref g3) (.ref g4) (.ref g5) o_5) (cwV 0 hts gX9_sky_X2_isThere rfl rfl rfl cd_X2_isThere ⟨Nat.le_of_ble_eq_true rfl, Nat.le_of_ble_eq_true rfl⟩) ⟨kBp_blind, va_recv hK hP (ci := 1) (q0 := 1) rfl rfl, fun U hU hW => ⟨rfl, by rw [hU]; exact hP.sub [1] rfl, va_K.moved hW.alike hK⟩⟩ rfl rfl hl.1 rfl (lv_room (Nat.le_of_ble_eq_true rfl)) dX9_sky_16 ⟨Nat.le_of_ble_eq_true rfl, Nat.le_of_ble_eq_true rfl⟩) (fun r_6 hw_6 => ?_)
    obtain rfl : r_6 = kb (decide (0 < (cLa C))) := hw_6
    -- if (decide (0 < (cLa C)))
    refine kk_ifb_ne (tgt := 25) hx hb dX9_sky_19 (by decide) (fun hb_7 => ?_) (fun hb_7 => ?_)
    · skip
      refine lv_aload_n hx hb dX9_sky_25 rfl (lv_at hl 0 rfl) ?_
      refine va_get (D := D) (ci := 8) (v := .ref g0) (C := RX9) (T := TX9) (N := 11) hx hb hts hwX9 hown hK hP 0 rfl rfl 0 (by decide) hf_14 (fun _ h9 => h9) rfl dX9_sky_26 ?_
      refine va_get (D := D) (ci := 1) (v := .ref g1) (C := RX2) (T := TX2) (N := 8) hx hb hts hwX2 hown hK hP 1 rfl rfl 3 (by decide) hf_116 (fun _ h9 => h9) rfl dX9_sky_29 ?_
      refine lv_iload_n hx hb dX9_sky_32 rfl (lv_at hl 1 rfl) ?_
      refine kk_iald hx hb hK hP 2 rfl rfl (i := x1N) (by omega) (by decide) dX9_sky_33 ?_
      refine kk_top (y := nI (cSk C x1N)) (hrs _ (by omega)) ?_
      have hq : nI (cSk C x1N) = sp_sky C (nI x1N) := by simp only [sp_sky, isC, hb_4, hb_7, t_x1, cond_true, cond_false]
      refine kk_QQ hQQ ?_
      exact W.iret (v := nI (cSk C x1N)) hx hb hr (fun t ht hW => ⟨nI (cSk C x1N), rfl, hq, ht⟩) (fun q h => by cases h) dX9_sky_34
    · skip
      refine lv_bipush (v := (-3 : Int32)) hx hb dX9_sky_22 (by decide +kernel) ?_
      have hq : (-3 : Int32) = sp_sky C (nI x1N) := by simp only [sp_sky, isC, hb_4, hb_7, t_x1, cond_true, cond_false]
      refine kk_QQ hQQ ?_
      exact W.iret (v := (-3 : Int32)) hx hb hr (fun t ht hW => ⟨(-3 : Int32), rfl, hq, ht⟩) (fun q h => by cases h) dX9_sky_24
  · skip
    refine lv_bipush (v := (-2 : Int32)) hx hb dX9_sky_9 (by decide +kernel) ?_
    have hq : (-2 : Int32) = sp_sky C x1 := by simp only [sp_sky, isC, hb_4, cond_true, cond_false]
    refine kk_QQ hQQ ?_
    exact W.iret (v := (-2 : Int32)) hx hb hr (fun t ht hW => ⟨(-2 : Int32), rfl, hq, ht⟩) (fun q h => by cases h) dX9_sky_11

abbrev rmX9_shade : Room := { frames := 1, cells := 0, slots := 0, locals := 21 }
set_option maxHeartbeats 4000000 in
set_option maxRecDepth 100000 in
theorem c_X9_shade (lL : Launch) (D : va_G) (cI cS : ClassId) (C : Co) (T : Mv) (E : Mv) (x0 : Nat) (g0 : Nat) (q0 : Nat) (e0 : Nat) (t0 : Nat) (r0 : Nat) (h0 : Nat) (i0 : Nat) (z0 : Nat) (y0 : Nat) (tr : Int32) (ft : Int32) (x1 : Int32) (g1 : Nat) (g2 : Nat) (g3 : Nat) (g4 : Nat) (g5 : Nat) (sh : Nat → Int32) (hrs : ∀ s, s < cSp C → sh s = nI (cSh C s)) (hX : okX C T E) : Met lL yX9_shade wsX9_shade rmX9_shade (va_Pc [.ref x0, .int x1] (kBp D cI cS [(x0, .inr (8, [.ref g0, .ref q0, .ref e0, .ref t0, .ref r0, .ref h0, .ref i0, .ref z0, .ref y0, .int tr, .int ft])), (g0, .inr (1, [.int (nI (cSp C)), .int (nI (cLa C)), .int (nI (cAg C)), .ref g1, .ref g2, .ref g3, .ref g4, .ref g5])), (g2, .inl (cI, 4, .inl sh))])) (vp_Si (fun r : Int32 => r = sp_shade C x1)) 0 0 (fun _ => False) := by
  refine Met.ofW (cc := cX9_shade) (maxL := 2) (ret := (some .int)) (by decide) rfl ?_
  intro pP eE sS mM args below meth cC s₁ B hml hv
  obtain ⟨rfl, hP, hK⟩ := hv
  have hx := B.exec
  have hb := B.bytes
  have hr := B.returns
  have hts := atoms_spec (ws := wsX9_shade) B.pre
  have hown : sS.vm.findClass RX9 = some mM.cls := findClass_of_methodNamed B.named
  have hlocks := B.notSynchronized
  have hP : va_P D vwCl [(x0, .inr (8, [.ref g0, .ref q0, .ref e0, .ref t0, .ref r0, .ref h0, .ref i0, .ref z0, .ref y0, .int tr, .int ft])), (g0, .inr (1, [.int (nI (cSp C)), .int (nI (cLa C)), .int (nI (cAg C)), .ref g1, .ref g2, .ref g3, .ref g4, .ref g5])), (g2, .inl (cI, 4, .inl sh))] sS.heap := hP
  have hf_14 := hts (.fieldLink RX9 14 "OldLamps" "ground" "LOldLamps$Ground;") (List.mem_of_getElem? (i := 1) rfl)
  have hf_123 := hts (.fieldLink RX9 123 "OldLamps$Ground" "shades" "[I") (List.mem_of_getElem? (i := 2) rfl)
  have hwX2 : ∀ w ∈ wsX20, w ∈ wsX9_shade := fun _ h => List.mem_cons_of_mem _ (List.mem_append_right _ h)
  have hwX9 : ∀ w ∈ wsX90, w ∈ wsX9_shade := fun _ h => List.mem_cons_of_mem _ (List.mem_append_left _ (List.mem_append_right _ h))
  have hl := lv_entry ([.ref x0, .int x1]) (n := 2) (Nat.le_of_ble_eq_true rfl)
  rw [lg_entry_eq]
  generalize (lg_sl ([.ref x0, .int x1]) ++ List.replicate (2 - (lg_sl ([.ref x0, .int x1])).length) Slot.unset).toArray = ls at hl ⊢
  have hl : lv_has ls 2 [(0, .ref x0), (1, .int x1)] := hl
  obtain ⟨QQ, hQQ⟩ : ∃ QQ : State → Prop, QQ = MQ below (vp_Si (fun r : Int32 => r = sp_shade C x1)) ([.ref x0, .int x1]).toArray sS 0 0 (fun _ => False) := ⟨_, rfl⟩
  refine kk_QQ hQQ.symm ?_
  obtain ⟨hX1, hX2, hX3, hX4⟩ := okX_le hX
  refine lv_aload_n hx hb dX9_shade_0 rfl (lv_at hl 0 rfl) ?_
  refine va_get (D := D) (ci := 8) (v := .ref g0) (C := RX9) (T := TX9) (N := 11) hx hb hts hwX9 hown hK hP 0 rfl rfl 0 (by decide) hf_14 (fun _ h9 => h9) rfl dX9_shade_1 ?_
  refine lv_iload_n hx hb dX9_shade_4 rfl (lv_at hl 1 rfl) ?_
  have o_1 : (cSp C) ≤ 4 := by omega
  refine vp_callSi (W.runV (As := [.int x1]) (rest := []) ⟨hx, hb, hml, hown, hts⟩ (c_X2_hasSpot lL D cI cS g0 (cSp C) (cLa C) (.int (nI (cAg C))) (.ref g1) (.ref g2) (.ref g3) (.ref g4) (.ref g5) x1 o_1) (cwV 1 hts gX9_shade_X2_hasSpot rfl rfl rfl cd_X2_hasSpot ⟨Nat.le_of_ble_eq_true rfl, Nat.le_of_ble_eq_true rfl⟩) ⟨kBp_blind, va_recv hK hP (ci := 1) (q0 := 1) rfl rfl, fun U hU hW => ⟨rfl, by rw [hU]; exact hP.sub [1] rfl, va_K.moved hW.alike hK⟩⟩ rfl rfl hl.1 rfl (lv_room (Nat.le_of_ble_eq_true rfl)) dX9_shade_5 ⟨Nat.le_of_ble_eq_true rfl, Nat.le_of_ble_eq_true rfl⟩) (fun r_2 hw_2 => ?_)
  obtain rfl : r_2 = kb (inB x1 (cSp C)) := hw_2
  -- if (inB x1 (cSp C))
  refine kk_ifb_ne (tgt := 13) hx hb dX9_shade_8 (by decide) (fun hb_3 => ?_) (fun hb_3 => ?_)
  · skip
    obtain ⟨x1N, hx1N, rfl⟩ := inB_t hb_3
    have t_x1 := nI_clamp (show x1N < 2 ^ 31 by omega)
    refine lv_aload_n hx hb dX9_shade_13 rfl (lv_at hl 0 rfl) ?_
    refine va_get (D := D) (ci := 8) (v := .ref g0) (C := RX9) (T := TX9) (N := 11) hx hb hts hwX9 hown hK hP 0 rfl rfl 0 (by decide) hf_14 (fun _ h9 => h9) rfl dX9_shade_14 ?_
    refine va_get (D := D) (ci := 1) (v := .ref g2) (C := RX2) (T := TX2) (N := 8) hx hb hts hwX2 hown hK hP 1 rfl rfl 4 (by decide) hf_123 (fun _ h9 => h9) rfl dX9_shade_17 ?_
    refine lv_iload_n hx hb dX9_shade_20 rfl (lv_at hl 1 rfl) ?_
    refine kk_iald hx hb hK hP 2 rfl rfl (i := x1N) (by omega) (by decide) dX9_shade_21 ?_
    refine kk_top (y := nI (cSh C x1N)) (hrs _ hx1N) ?_
    have hq : nI (cSh C x1N) = sp_shade C (nI x1N) := by simp only [sp_shade, hb_3, t_x1, cond_true, cond_false]
    refine kk_QQ hQQ ?_
    exact W.iret (v := nI (cSh C x1N)) hx hb hr (fun t ht hW => ⟨nI (cSh C x1N), rfl, hq, ht⟩) (fun q h => by cases h) dX9_shade_22
  · skip
    refine lv_iconst (v := (-1 : Int32)) hx hb dX9_shade_11 (by decide +kernel) ?_
    have hq : (-1 : Int32) = sp_shade C x1 := by simp only [sp_shade, hb_3, cond_true, cond_false]
    refine kk_QQ hQQ ?_
    exact W.iret (v := (-1 : Int32)) hx hb hr (fun t ht hW => ⟨(-1 : Int32), rfl, hq, ht⟩) (fun q h => by cases h) dX9_shade_12

abbrev rmX9_ofLamp : Room := { frames := 1, cells := 0, slots := 0, locals := 22 }
set_option maxHeartbeats 4000000 in
set_option maxRecDepth 100000 in
theorem c_X9_ofLamp (lL : Launch) (D : va_G) (cI cS : ClassId) (C : Co) (T : Mv) (E : Mv) (x0 : Nat) (g0 : Nat) (q0 : Nat) (e0 : Nat) (t0 : Nat) (r0 : Nat) (h0 : Nat) (i0 : Nat) (z0 : Nat) (y0 : Nat) (tr : Int32) (ft : Int32) (x1 : Int32) (x2 : Int32) (g1 : Nat) (g2 : Nat) (g3 : Nat) (g4 : Nat) (g5 : Nat) (ki : Nat → Int32) (st : Nat → Int32) (hrk : ∀ k, k < cLa C → ki k = nI (cKi C k)) (hrs : ∀ k, k < cLa C → st k = nI (cSt C k)) (hX : okX C T E) : Met lL yX9_ofLamp wsX9_ofLamp rmX9_ofLamp (va_Pc [.ref x0, .int x1, .int x2] (kBp D cI cS [(x0, .inr (8, [.ref g0, .ref q0, .ref e0, .ref t0, .ref r0, .ref h0, .ref i0, .ref z0, .ref y0, .int tr, .int ft])), (g0, .inr (1, [.int (nI (cSp C)), .int (nI (cLa C)), .int (nI (cAg C)), .ref g1, .ref g2, .ref g3, .ref g4, .ref g5])), (g3, .inl (cI, 4, .inl ki)), (g4, .inl (cI, 4, .inl st))])) (vp_Si (fun r : Int32 => r = sp_ofLamp C x1 x2)) 0 0 (fun _ => False) := by
  refine Met.ofW (cc := cX9_ofLamp) (maxL := 3) (ret := (some .int)) (by decide) rfl ?_
  intro pP eE sS mM args below meth cC s₁ B hml hv
  obtain ⟨rfl, hP, hK⟩ := hv
  have hx := B.exec
  have hb := B.bytes
  have hr := B.returns
  have hts := atoms_spec (ws := wsX9_ofLamp) B.pre
  have hown : sS.vm.findClass RX9 = some mM.cls := findClass_of_methodNamed B.named
  have hlocks := B.notSynchronized
  have hP : va_P D vwCl [(x0, .inr (8, [.ref g0, .ref q0, .ref e0, .ref t0, .ref r0, .ref h0, .ref i0, .ref z0, .ref y0, .int tr, .int ft])), (g0, .inr (1, [.int (nI (cSp C)), .int (nI (cLa C)), .int (nI (cAg C)), .ref g1, .ref g2, .ref g3, .ref g4, .ref g5])), (g3, .inl (cI, 4, .inl ki)), (g4, .inl (cI, 4, .inl st))] sS.heap := hP
  have hf_14 := hts (.fieldLink RX9 14 "OldLamps" "ground" "LOldLamps$Ground;") (List.mem_of_getElem? (i := 1) rfl)
  have hf_129 := hts (.fieldLink RX9 129 "OldLamps$Ground" "lampKinds" "[I") (List.mem_of_getElem? (i := 2) rfl)
  have hf_132 := hts (.fieldLink RX9 132 "OldLamps$Ground" "firstSpots" "[I") (List.mem_of_getElem? (i := 3) rfl)
  have hwX2 : ∀ w ∈ wsX20, w ∈ wsX9_ofLamp := fun _ h => List.mem_cons_of_mem _ (List.mem_append_right _ h)
  have hwX9 : ∀ w ∈ wsX90, w ∈ wsX9_ofLamp := fun _ h => List.mem_cons_of_mem _ (List.mem_append_left _ (List.mem_append_right _ h))
  have hl := lv_entry ([.ref x0, .int x1, .int x2]) (n := 3) (Nat.le_of_ble_eq_true rfl)
  rw [lg_entry_eq]
  generalize (lg_sl ([.ref x0, .int x1, .int x2]) ++ List.replicate (3 - (lg_sl ([.ref x0, .int x1, .int x2])).length) Slot.unset).toArray = ls at hl ⊢
  have hl : lv_has ls 3 [(0, .ref x0), (1, .int x1), (2, .int x2)] := hl
  obtain ⟨QQ, hQQ⟩ : ∃ QQ : State → Prop, QQ = MQ below (vp_Si (fun r : Int32 => r = sp_ofLamp C x1 x2)) ([.ref x0, .int x1, .int x2]).toArray sS 0 0 (fun _ => False) := ⟨_, rfl⟩
  refine kk_QQ hQQ.symm ?_
  obtain ⟨hX1, hX2, hX3, hX4⟩ := okX_le hX
  refine lv_aload_n hx hb dX9_ofLamp_0 rfl (lv_at hl 0 rfl) ?_
  refine va_get (D := D) (ci := 8) (v := .ref g0) (C := RX9) (T := TX9) (N := 11) hx hb hts hwX9 hown hK hP 0 rfl rfl 0 (by decide) hf_14 (fun _ h9 => h9) rfl dX9_ofLamp_1 ?_
  refine lv_iload_n hx hb dX9_ofLamp_4 rfl (lv_at hl 1 rfl) ?_
  have o_1 : (cLa C) ≤ 4 := by omega
  refine vp_callSi (W.runV (As := [.int x1]) (rest := []) ⟨hx, hb, hml, hown, hts⟩ (c_X2_hasLamp lL D cI cS g0 (cSp C) (cLa C) (.int (nI (cAg C))) (.ref g1) (.ref g2) (.ref g3) (.ref g4) (.ref g5) x1 o_1) (cwV 1 hts gX9_ofLamp_X2_hasLamp rfl rfl rfl cd_X2_hasLamp ⟨Nat.le_of_ble_eq_true rfl, Nat.le_of_ble_eq_true rfl⟩) ⟨kBp_blind, va_recv hK hP (ci := 1) (q0 := 1) rfl rfl, fun U hU hW => ⟨rfl, by rw [hU]; exact hP.sub [1] rfl, va_K.moved hW.alike hK⟩⟩ rfl rfl hl.1 rfl (lv_room (Nat.le_of_ble_eq_true rfl)) dX9_ofLamp_5 ⟨Nat.le_of_ble_eq_true rfl, Nat.le_of_ble_eq_true rfl⟩) (fun r_2 hw_2 => ?_)
  obtain rfl : r_2 = kb (inB x1 (cLa C)) := hw_2
  -- if (inB x1 (cLa C))
  refine kk_ifb_ne (tgt := 13) hx hb dX9_ofLamp_8 (by decide) (fun hb_3 => ?_) (fun hb_3 => ?_)
  · skip
    obtain ⟨x1N, hx1N, rfl⟩ := inB_t hb_3
    have t_x1 := nI_clamp (show x1N < 2 ^ 31 by omega)
    refine lv_iload_n hx hb dX9_ofLamp_13 rfl (lv_at hl 2 rfl) ?_
    refine lv_iconst (v := nI 0) hx hb dX9_ofLamp_14 (by decide +kernel) ?_
    refine lv_iconst (v := nI 1) hx hb dX9_ofLamp_15 (by decide +kernel) ?_
    have o_4 : 0 < 2 ^ 31 := by omega
    have o_5 : 1 < 2 ^ 31 := by omega
    refine vp_callSi (W.runS (As := [.int x2, .int (nI 0), .int (nI 1)]) (rest := []) ⟨hx, hb, hml, hown, hts⟩ (c_X9_isWithin lL D cI cS x2 0 1 o_4 o_5) (va_cwS 3 hts gX9_ofLamp_X9_isWithin rfl rfl rfl cd_X9_isWithin ⟨Nat.le_of_ble_eq_true rfl, Nat.le_of_ble_eq_true rfl⟩) ⟨kBp_blind, fun U hU hW => ⟨rfl, by rw [hU]; exact hP.sub [] rfl, va_K.moved hW.alike hK⟩⟩ rfl rfl hl.1 rfl (lv_room (Nat.le_of_ble_eq_true rfl)) dX9_ofLamp_16 ⟨Nat.le_of_ble_eq_true rfl, Nat.le_of_ble_eq_true rfl⟩) (fun r_6 hw_6 => ?_)
    obtain rfl : r_6 = kb (wB x2 0 1) := hw_6
    -- if (wB x2 0 1)
    refine kk_ifb_ne (tgt := 25) hx hb dX9_ofLamp_19 (by decide) (fun hb_7 => ?_) (fun hb_7 => ?_)
    · skip
      obtain ⟨x2N, hx2L, hx2N, rfl⟩ := wB_t hb_7
      have t_x2 := nI_clamp (show x2N < 2 ^ 31 by omega)
      refine lv_iload_n hx hb dX9_ofLamp_25 rfl (lv_at hl 2 rfl) ?_
      refine kk_if_ne (tgt := 41) hx hb dX9_ofLamp_26 (by decide) (by omega) (fun c_8 => ?_) (fun c_8 => ?_)
      · skip
        refine lv_aload_n hx hb dX9_ofLamp_41 rfl (lv_at hl 0 rfl) ?_
        refine va_get (D := D) (ci := 8) (v := .ref g0) (C := RX9) (T := TX9) (N := 11) hx hb hts hwX9 hown hK hP 0 rfl rfl 0 (by decide) hf_14 (fun _ h9 => h9) rfl dX9_ofLamp_42 ?_
        refine va_get (D := D) (ci := 1) (v := .ref g4) (C := RX2) (T := TX2) (N := 8) hx hb hts hwX2 hown hK hP 1 rfl rfl 6 (by decide) hf_132 (fun _ h9 => h9) rfl dX9_ofLamp_45 ?_
        refine lv_iload_n hx hb dX9_ofLamp_48 rfl (lv_at hl 1 rfl) ?_
        refine kk_iald hx hb hK hP 3 rfl rfl (i := x1N) (by omega) (by decide) dX9_ofLamp_49 ?_
        have hq : st x1N = sp_ofLamp C (nI x1N) (nI x2N) := by
          simp only [sp_ofLamp, hb_3, hb_7, t_x1, t_x2, cond_true, cond_false]
          first | (rw [if_pos (by omega)]; exact hrk _ hx1N) | (rw [if_neg (by omega)]; exact hrs _ hx1N)
        refine kk_QQ hQQ ?_
        exact W.iret (v := st x1N) hx hb hr (fun t ht hW => ⟨st x1N, rfl, hq, ht⟩) (fun q h => by cases h) dX9_ofLamp_50
      · skip
        refine lv_aload_n hx hb dX9_ofLamp_29 rfl (lv_at hl 0 rfl) ?_
        refine va_get (D := D) (ci := 8) (v := .ref g0) (C := RX9) (T := TX9) (N := 11) hx hb hts hwX9 hown hK hP 0 rfl rfl 0 (by decide) hf_14 (fun _ h9 => h9) rfl dX9_ofLamp_30 ?_
        refine va_get (D := D) (ci := 1) (v := .ref g3) (C := RX2) (T := TX2) (N := 8) hx hb hts hwX2 hown hK hP 1 rfl rfl 5 (by decide) hf_129 (fun _ h9 => h9) rfl dX9_ofLamp_33 ?_
        refine lv_iload_n hx hb dX9_ofLamp_36 rfl (lv_at hl 1 rfl) ?_
        refine kk_iald hx hb hK hP 2 rfl rfl (i := x1N) (by omega) (by decide) dX9_ofLamp_37 ?_
        refine lv_goto (tgt := 50) hx hb dX9_ofLamp_38 (by decide) ?_
        have hq : ki x1N = sp_ofLamp C (nI x1N) (nI x2N) := by
          simp only [sp_ofLamp, hb_3, hb_7, t_x1, t_x2, cond_true, cond_false]
          first | (rw [if_pos (by omega)]; exact hrk _ hx1N) | (rw [if_neg (by omega)]; exact hrs _ hx1N)
        refine kk_QQ hQQ ?_
        exact W.iret (v := ki x1N) hx hb hr (fun t ht hW => ⟨ki x1N, rfl, hq, ht⟩) (fun q h => by cases h) dX9_ofLamp_50
    · skip
      refine lv_bipush (v := (-2 : Int32)) hx hb dX9_ofLamp_22 (by decide +kernel) ?_
      have hq : (-2 : Int32) = sp_ofLamp C (nI x1N) x2 := by simp only [sp_ofLamp, hb_3, hb_7, t_x1, cond_true, cond_false]
      refine kk_QQ hQQ ?_
      exact W.iret (v := (-2 : Int32)) hx hb hr (fun t ht hW => ⟨(-2 : Int32), rfl, hq, ht⟩) (fun q h => by cases h) dX9_ofLamp_24
  · skip
    refine lv_iconst (v := (-1 : Int32)) hx hb dX9_ofLamp_11 (by decide +kernel) ?_
    have hq : (-1 : Int32) = sp_ofLamp C x1 x2 := by simp only [sp_ofLamp, hb_3, cond_true, cond_false]
    refine kk_QQ hQQ ?_
    exact W.iret (v := (-1 : Int32)) hx hb hr (fun t ht hW => ⟨(-1 : Int32), rfl, hq, ht⟩) (fun q h => by cases h) dX9_ofLamp_12

abbrev rmX9_cloud : Room := { frames := 2, cells := 0, slots := 0, locals := 42 }
set_option maxHeartbeats 4000000 in
set_option maxRecDepth 100000 in
theorem c_X9_cloud (lL : Launch) (D : va_G) (cI cS : ClassId) (sz : Nat) (C : Co) (T : Mv) (E : Mv) (x0 : Nat) (g0 : Nat) (q0 : Nat) (e0 : Nat) (t0 : Nat) (r0 : Nat) (h0 : Nat) (i0 : Nat) (z0 : Nat) (y0 : Nat) (tr : Int32) (ft : Int32) (x1 : Int32) (x2 : Int32) (g1 : Nat) (g2 : Nat) (g3 : Nat) (g4 : Nat) (g5 : Nat) (sk : Nat → Int32) (sh : Nat → Int32) (ki : Nat → Int32) (st : Nat → Int32) (cl : Nat → Int32) (hrC : repC C sk sh ki st cl) (hX : okX C T E) : Met lL yX9_cloud wsX9_cloud rmX9_cloud (va_Pc [.ref x0, .int x1, .int x2] (kB D cI cS [(x0, .inr (8, [.ref g0, .ref q0, .ref e0, .ref t0, .ref r0, .ref h0, .ref i0, .ref z0, .ref y0, .int tr, .int ft])), (g0, .inr (1, [.int (nI (cSp C)), .int (nI (cLa C)), .int (nI (cAg C)), .ref g1, .ref g2, .ref g3, .ref g4, .ref g5])), (g5, .inl (cI, 4, .inl cl))] sz)) (kQi D (fun (r : Int32) (u : Co × (Nat → Int32)) => r = sp_cloud C x1 x2 ∧ u.1 = nx_cloud C x1 x2 ∧ repC u.1 sk sh ki st u.2) (fun u : Co × (Nat → Int32) => [(x0, .inr (8, [.ref g0, .ref q0, .ref e0, .ref t0, .ref r0, .ref h0, .ref i0, .ref z0, .ref y0, .int tr, .int ft])), (g0, .inr (1, [.int (nI (cSp u.1)), .int (nI (cLa u.1)), .int (nI (cAg u.1)), .ref g1, .ref g2, .ref g3, .ref g4, .ref g5])), (g5, .inl (cI, 4, .inl u.2))]) (va_A [(x0, .inr (8, [.ref g0, .ref q0, .ref e0, .ref t0, .ref r0, .ref h0, .ref i0, .ref z0, .ref y0, .int tr, .int ft])), (g0, .inr (1, [.int (nI (cSp C)), .int (nI (cLa C)), .int (nI (cAg C)), .ref g1, .ref g2, .ref g3, .ref g4, .ref g5])), (g5, .inl (cI, 4, .inl cl))] sz)) 0 0 (va_A [(x0, .inr (8, [.ref g0, .ref q0, .ref e0, .ref t0, .ref r0, .ref h0, .ref i0, .ref z0, .ref y0, .int tr, .int ft])), (g0, .inr (1, [.int (nI (cSp C)), .int (nI (cLa C)), .int (nI (cAg C)), .ref g1, .ref g2, .ref g3, .ref g4, .ref g5])), (g5, .inl (cI, 4, .inl cl))] sz) := by
  refine Met.ofW (cc := cX9_cloud) (maxL := 4) (ret := (some .int)) (by decide) rfl ?_
  intro pP eE sS mM args below meth cC s₁ B hml hv
  obtain ⟨rfl, hsz, hP, hK, hD0⟩ := hv
  have hx := B.exec
  have hb := B.bytes
  have hr := B.returns
  have hts := atoms_spec (ws := wsX9_cloud) B.pre
  have hown : sS.vm.findClass RX9 = some mM.cls := findClass_of_methodNamed B.named
  have hlocks := B.notSynchronized
  subst hsz
  have hD := hD0.self (sz := sS.heap.size)
  generalize hAe : va_A [(x0, .inr (8, [.ref g0, .ref q0, .ref e0, .ref t0, .ref r0, .ref h0, .ref i0, .ref z0, .ref y0, .int tr, .int ft])), (g0, .inr (1, [.int (nI (cSp C)), .int (nI (cLa C)), .int (nI (cAg C)), .ref g1, .ref g2, .ref g3, .ref g4, .ref g5])), (g5, .inl (cI, 4, .inl cl))] sS.heap.size = A at hD ⊢
  have hA : ∀ q : Nat, sS.heap.size ≤ q → A q := fun q h => by rw [← hAe]; exact Or.inr h
  have hS : va_S A sS.heap sS.heap [] := va_S.rf
  have hP : va_P D vwCl [(x0, .inr (8, [.ref g0, .ref q0, .ref e0, .ref t0, .ref r0, .ref h0, .ref i0, .ref z0, .ref y0, .int tr, .int ft])), (g0, .inr (1, [.int (nI (cSp C)), .int (nI (cLa C)), .int (nI (cAg C)), .ref g1, .ref g2, .ref g3, .ref g4, .ref g5])), (g5, .inl (cI, 4, .inl cl))] sS.heap := hP
  have hD : va_D A [(x0, .inr (8, [.ref g0, .ref q0, .ref e0, .ref t0, .ref r0, .ref h0, .ref i0, .ref z0, .ref y0, .int tr, .int ft])), (g0, .inr (1, [.int (nI (cSp C)), .int (nI (cLa C)), .int (nI (cAg C)), .ref g1, .ref g2, .ref g3, .ref g4, .ref g5])), (g5, .inl (cI, 4, .inl cl))] := hD
  have hf_14 := hts (.fieldLink RX9 14 "OldLamps" "ground" "LOldLamps$Ground;") (List.mem_of_getElem? (i := 1) rfl)
  have hf_138 := hts (.fieldLink RX9 138 "OldLamps$Ground" "dayClouds" "[I") (List.mem_of_getElem? (i := 2) rfl)
  have hwX2 : ∀ w ∈ wsX20, w ∈ wsX9_cloud := fun _ h => List.mem_cons_of_mem _ (List.mem_append_right _ h)
  have hwX9 : ∀ w ∈ wsX90, w ∈ wsX9_cloud := fun _ h => List.mem_cons_of_mem _ (List.mem_append_left _ (List.mem_append_right _ h))
  have hl := lv_entry ([.ref x0, .int x1, .int x2]) (n := 4) (Nat.le_of_ble_eq_true rfl)
  rw [lg_entry_eq]
  generalize (lg_sl ([.ref x0, .int x1, .int x2]) ++ List.replicate (4 - (lg_sl ([.ref x0, .int x1, .int x2])).length) Slot.unset).toArray = ls at hl ⊢
  have hl : lv_has ls 4 [(0, .ref x0), (1, .int x1), (2, .int x2)] := hl
  obtain ⟨QQ, hQQ⟩ : ∃ QQ : State → Prop, QQ = MQ below (kQi D (fun (r : Int32) (u : Co × (Nat → Int32)) => r = sp_cloud C x1 x2 ∧ u.1 = nx_cloud C x1 x2 ∧ repC u.1 sk sh ki st u.2) (fun u : Co × (Nat → Int32) => [(x0, .inr (8, [.ref g0, .ref q0, .ref e0, .ref t0, .ref r0, .ref h0, .ref i0, .ref z0, .ref y0, .int tr, .int ft])), (g0, .inr (1, [.int (nI (cSp u.1)), .int (nI (cLa u.1)), .int (nI (cAg u.1)), .ref g1, .ref g2, .ref g3, .ref g4, .ref g5])), (g5, .inl (cI, 4, .inl u.2))]) A) ([.ref x0, .int x1, .int x2]).toArray sS 0 0 A := ⟨_, rfl⟩
  refine kk_QQ hQQ.symm ?_
  obtain ⟨hX1, hX2, hX3, hX4⟩ := okX_le hX
  refine lv_aload_n hx hb dX9_cloud_0 rfl (lv_at hl 0 rfl) ?_
  refine va_get (D := D) (ci := 8) (v := .ref g0) (C := RX9) (T := TX9) (N := 11) hx hb hts hwX9 hown hK hP 0 rfl rfl 0 (by decide) hf_14 (fun _ h9 => h9) rfl dX9_cloud_1 ?_
  have o_1 : (cLa C) ≤ 4 := by omega
  refine vp_callSi (W.runV (As := []) (rest := []) ⟨hx, hb, hml, hown, hts⟩ (c_X2_isThere lL D cI cS g0 (cSp C) (cLa C) (.int (nI (cAg C))) (.ref g1) (.ref g2) (.ref g3) (.ref g4) (.ref g5) o_1) (cwV 0 hts gX9_cloud_X2_isThere rfl rfl rfl cd_X2_isThere ⟨Nat.le_of_ble_eq_true rfl, Nat.le_of_ble_eq_true rfl⟩) ⟨kBp_blind, va_recv hK hP (ci := 1) (q0 := 1) rfl rfl, fun U hU hW => ⟨rfl, by rw [hU]; exact hP.sub [1] rfl, va_K.moved hW.alike hK⟩⟩ rfl rfl hl.1 rfl (lv_room (Nat.le_of_ble_eq_true rfl)) dX9_cloud_4 ⟨Nat.le_of_ble_eq_true rfl, Nat.le_of_ble_eq_true rfl⟩) (fun r_2 hw_2 => ?_)
  obtain rfl : r_2 = kb (decide (0 < (cLa C))) := hw_2
  -- if (decide (0 < (cLa C)))
  refine kk_ifb_ne (tgt := 13) hx hb dX9_cloud_7 (by decide) (fun hb_3 => ?_) (fun hb_3 => ?_)
  · skip
    refine lv_iload_n hx hb dX9_cloud_13 rfl (lv_at hl 1 rfl) ?_
    refine vp_callSi (W.runS (As := [.int x1]) (rest := []) ⟨hx, hb, hml, hown, hts⟩ (c_X9_isDay lL D cI cS x1) (va_cwS 1 hts gX9_cloud_X9_isDay rfl rfl rfl cd_X9_isDay ⟨Nat.le_of_ble_eq_true rfl, Nat.le_of_ble_eq_true rfl⟩) ⟨kBp_blind, fun U hU hW => ⟨rfl, by rw [hU]; exact hP.sub [] rfl, va_K.moved hW.alike hK⟩⟩ rfl rfl hl.1 rfl (lv_room (Nat.le_of_ble_eq_true rfl)) dX9_cloud_14 ⟨Nat.le_of_ble_eq_true rfl, Nat.le_of_ble_eq_true rfl⟩) (fun r_4 hw_4 => ?_)
    obtain rfl : r_4 = kb (inB x1 4) := hw_4
    -- if (inB x1 4)
    refine kk_ifb_eq (tgt := 30) hx hb dX9_cloud_17 (by decide) (fun hb_5 => ?_) (fun hb_5 => ?_)
    · skip
      refine lv_bipush (v := (-2 : Int32)) hx hb dX9_cloud_30 (by decide +kernel) ?_
      have hq : (-2 : Int32) = sp_cloud C x1 x2 ∧ C = nx_cloud C x1 x2 ∧ repC C sk sh ki st cl := by refine ⟨by simp only [sp_cloud, isC, hb_3, hb_5, cond_true, cond_false], by simp only [nx_cloud, isC, hb_3, hb_5, cond_true, cond_false], hrC⟩
      refine kk_QQ hQQ ?_
      exact W.iret (v := (-2 : Int32)) hx hb hr (fun t ht hW => ⟨⟨(-2 : Int32), (C, cl), rfl, hq, by show va_P D vwCl _ t.heap; rw [ht]; exact hP⟩, hS.F ht⟩) hS.2.2 dX9_cloud_32
    · skip
      obtain ⟨x1N, hx1N, rfl⟩ := inB_t hb_5
      have t_x1 := nI_clamp (show x1N < 2 ^ 31 by omega)
      refine lv_iload_n hx hb dX9_cloud_20 rfl (lv_at hl 2 rfl) ?_
      refine lv_iconst (v := nI 0) hx hb dX9_cloud_21 (by decide +kernel) ?_
      refine lv_bipush (v := nI 9) hx hb dX9_cloud_22 (by decide +kernel) ?_
      have o_6 : 0 < 2 ^ 31 := by omega
      have o_7 : 9 < 2 ^ 31 := by omega
      refine vp_callSi (W.runS (As := [.int x2, .int (nI 0), .int (nI 9)]) (rest := []) ⟨hx, hb, hml, hown, hts⟩ (c_X9_isWithin lL D cI cS x2 0 9 o_6 o_7) (va_cwS 3 hts gX9_cloud_X9_isWithin rfl rfl rfl cd_X9_isWithin ⟨Nat.le_of_ble_eq_true rfl, Nat.le_of_ble_eq_true rfl⟩) ⟨kBp_blind, fun U hU hW => ⟨rfl, by rw [hU]; exact hP.sub [] rfl, va_K.moved hW.alike hK⟩⟩ rfl rfl hl.1 rfl (lv_room (Nat.le_of_ble_eq_true rfl)) dX9_cloud_24 ⟨Nat.le_of_ble_eq_true rfl, Nat.le_of_ble_eq_true rfl⟩) (fun r_8 hw_8 => ?_)
      obtain rfl : r_8 = kb (wB x2 0 9) := hw_8
      -- if (wB x2 0 9)
      refine kk_ifb_ne (tgt := 33) hx hb dX9_cloud_27 (by decide) (fun hb_9 => ?_) (fun hb_9 => ?_)
      · skip
        obtain ⟨x2N, hx2L, hx2N, rfl⟩ := wB_t hb_9
        have t_x2 := nI_clamp (show x2N < 2 ^ 31 by omega)
        refine lv_aload_n hx hb dX9_cloud_33 rfl (lv_at hl 0 rfl) ?_
        refine va_get (D := D) (ci := 8) (v := .ref g0) (C := RX9) (T := TX9) (N := 11) hx hb hts hwX9 hown hK hP 0 rfl rfl 0 (by decide) hf_14 (fun _ h9 => h9) rfl dX9_cloud_34 ?_
        refine va_get (D := D) (ci := 1) (v := .ref g5) (C := RX2) (T := TX2) (N := 8) hx hb hts hwX2 hown hK hP 1 rfl rfl 7 (by decide) hf_138 (fun _ h9 => h9) rfl dX9_cloud_37 ?_
        refine lv_iload_n hx hb dX9_cloud_40 rfl (lv_at hl 1 rfl) ?_
        refine kk_iald hx hb hK hP 2 rfl rfl (i := x1N) (by omega) (by decide) dX9_cloud_41 ?_
        refine kk_top (y := nI (cCl C x1N)) (hrC.2.2.2.2 _ hx1N) ?_
        refine lv_istore_n (lv' := [(3, .int (nI (cCl C x1N))), (0, .ref x0), (1, .int (nI x1N)), (2, .int (nI x2N))]) hx hb dX9_cloud_42 rfl hl (by decide) rfl (fun ls hl => ?_)
        refine lv_aload_n hx hb dX9_cloud_43 rfl (lv_at hl 1 rfl) ?_
        refine va_get (D := D) (ci := 8) (v := .ref g0) (C := RX9) (T := TX9) (N := 11) hx hb hts hwX9 hown hK hP 0 rfl rfl 0 (by decide) hf_14 (fun _ h9 => h9) rfl dX9_cloud_44 ?_
        refine va_get (D := D) (ci := 1) (v := .ref g5) (C := RX2) (T := TX2) (N := 8) hx hb hts hwX2 hown hK hP 1 rfl rfl 7 (by decide) hf_138 (fun _ h9 => h9) rfl dX9_cloud_47 ?_
        refine lv_iload_n hx hb dX9_cloud_50 rfl (lv_at hl 2 rfl) ?_
        refine lv_iload_n hx hb dX9_cloud_51 rfl (lv_at hl 3 rfl) ?_
        refine kk_iast hx hb hK hP hD hS 2 rfl rfl (i := x1N) (by omega) (by decide) dX9_cloud_52 (fun H locs hP hD hS => ?_)
        have hP : va_P D vwCl [(x0, .inr (8, [.ref g0, .ref q0, .ref e0, .ref t0, .ref r0, .ref h0, .ref i0, .ref z0, .ref y0, .int tr, .int ft])), (g0, .inr (1, [.int (nI (cSp C)), .int (nI (cLa C)), .int (nI (cAg C)), .ref g1, .ref g2, .ref g3, .ref g4, .ref g5])), (g5, .inl (cI, 4, .inl (upd cl x1N (nI x2N))))] H := hP
        have hD : va_D A [(x0, .inr (8, [.ref g0, .ref q0, .ref e0, .ref t0, .ref r0, .ref h0, .ref i0, .ref z0, .ref y0, .int tr, .int ft])), (g0, .inr (1, [.int (nI (cSp C)), .int (nI (cLa C)), .int (nI (cAg C)), .ref g1, .ref g2, .ref g3, .ref g4, .ref g5])), (g5, .inl (cI, 4, .inl (upd cl x1N (nI x2N))))] := hD
        refine lv_iload_n hx hb dX9_cloud_53 rfl (lv_at hl 0 rfl) ?_
        have hq : (nI (cCl C x1N)) = sp_cloud C (nI x1N) (nI x2N) ∧ (cCld C x1N x2N) = nx_cloud C (nI x1N) (nI x2N) ∧ repC (cCld C x1N x2N) sk sh ki st (upd cl x1N (nI x2N)) := by refine ⟨by simp only [sp_cloud, isC, hb_3, hb_5, hb_9, t_x1, t_x2, cond_true, cond_false], by simp only [nx_cloud, isC, hb_3, hb_5, hb_9, t_x1, t_x2, cond_true, cond_false], repC_cld hrC⟩
        refine kk_QQ hQQ ?_
        exact W.iret (v := nI (cCl C x1N)) hx hb hr (fun t ht hW => ⟨⟨nI (cCl C x1N), (cCld C x1N x2N, upd cl x1N (nI x2N)), rfl, hq, by show va_P D vwCl _ t.heap; rw [ht]; exact hP⟩, hS.F ht⟩) hS.2.2 dX9_cloud_54
      · skip
        refine lv_bipush (v := (-2 : Int32)) hx hb dX9_cloud_30 (by decide +kernel) ?_
        have hq : (-2 : Int32) = sp_cloud C (nI x1N) x2 ∧ C = nx_cloud C (nI x1N) x2 ∧ repC C sk sh ki st cl := by refine ⟨by simp only [sp_cloud, isC, hb_3, hb_5, hb_9, t_x1, cond_true, cond_false], by simp only [nx_cloud, isC, hb_3, hb_5, hb_9, t_x1, cond_true, cond_false], hrC⟩
        refine kk_QQ hQQ ?_
        exact W.iret (v := (-2 : Int32)) hx hb hr (fun t ht hW => ⟨⟨(-2 : Int32), (C, cl), rfl, hq, by show va_P D vwCl _ t.heap; rw [ht]; exact hP⟩, hS.F ht⟩) hS.2.2 dX9_cloud_32
  · skip
    refine lv_bipush (v := (-3 : Int32)) hx hb dX9_cloud_10 (by decide +kernel) ?_
    have hq : (-3 : Int32) = sp_cloud C x1 x2 ∧ C = nx_cloud C x1 x2 ∧ repC C sk sh ki st cl := by refine ⟨by simp only [sp_cloud, isC, hb_3, cond_true, cond_false], by simp only [nx_cloud, isC, hb_3, cond_true, cond_false], hrC⟩
    refine kk_QQ hQQ ?_
    exact W.iret (v := (-3 : Int32)) hx hb hr (fun t ht hW => ⟨⟨(-3 : Int32), (C, cl), rfl, hq, by show va_P D vwCl _ t.heap; rw [ht]; exact hP⟩, hS.F ht⟩) hS.2.2 dX9_cloud_12

abbrev rmX9_age : Room := { frames := 1, cells := 0, slots := 0, locals := 22 }
set_option maxHeartbeats 4000000 in
set_option maxRecDepth 100000 in
theorem c_X9_age (lL : Launch) (D : va_G) (cI cS : ClassId) (sz : Nat) (C : Co) (T : Mv) (E : Mv) (x0 : Nat) (g0 : Nat) (q0 : Nat) (e0 : Nat) (t0 : Nat) (r0 : Nat) (h0 : Nat) (i0 : Nat) (z0 : Nat) (y0 : Nat) (tr : Int32) (ft : Int32) (x1 : Int32) (g1 : Nat) (g2 : Nat) (g3 : Nat) (g4 : Nat) (g5 : Nat) (hX : okX C T E) : Met lL yX9_age wsX9_age rmX9_age (va_Pc [.ref x0, .int x1] (kB D cI cS [(x0, .inr (8, [.ref g0, .ref q0, .ref e0, .ref t0, .ref r0, .ref h0, .ref i0, .ref z0, .ref y0, .int tr, .int ft])), (g0, .inr (1, [.int (nI (cSp C)), .int (nI (cLa C)), .int (nI (cAg C)), .ref g1, .ref g2, .ref g3, .ref g4, .ref g5]))] sz)) (kQi D (fun (r : Int32) (u : Co) => r = sp_age C x1 ∧ u = nx_age C x1) (fun u : Co => [(x0, .inr (8, [.ref g0, .ref q0, .ref e0, .ref t0, .ref r0, .ref h0, .ref i0, .ref z0, .ref y0, .int tr, .int ft])), (g0, .inr (1, [.int (nI (cSp u)), .int (nI (cLa u)), .int (nI (cAg u)), .ref g1, .ref g2, .ref g3, .ref g4, .ref g5]))]) (va_A [(x0, .inr (8, [.ref g0, .ref q0, .ref e0, .ref t0, .ref r0, .ref h0, .ref i0, .ref z0, .ref y0, .int tr, .int ft])), (g0, .inr (1, [.int (nI (cSp C)), .int (nI (cLa C)), .int (nI (cAg C)), .ref g1, .ref g2, .ref g3, .ref g4, .ref g5]))] sz)) 0 0 (va_A [(x0, .inr (8, [.ref g0, .ref q0, .ref e0, .ref t0, .ref r0, .ref h0, .ref i0, .ref z0, .ref y0, .int tr, .int ft])), (g0, .inr (1, [.int (nI (cSp C)), .int (nI (cLa C)), .int (nI (cAg C)), .ref g1, .ref g2, .ref g3, .ref g4, .ref g5]))] sz) := by
  refine Met.ofW (cc := cX9_age) (maxL := 3) (ret := (some .int)) (by decide) rfl ?_
  intro pP eE sS mM args below meth cC s₁ B hml hv
  obtain ⟨rfl, hsz, hP, hK, hD0⟩ := hv
  have hx := B.exec
  have hb := B.bytes
  have hr := B.returns
  have hts := atoms_spec (ws := wsX9_age) B.pre
  have hown : sS.vm.findClass RX9 = some mM.cls := findClass_of_methodNamed B.named
  have hlocks := B.notSynchronized
  subst hsz
  have hD := hD0.self (sz := sS.heap.size)
  generalize hAe : va_A [(x0, .inr (8, [.ref g0, .ref q0, .ref e0, .ref t0, .ref r0, .ref h0, .ref i0, .ref z0, .ref y0, .int tr, .int ft])), (g0, .inr (1, [.int (nI (cSp C)), .int (nI (cLa C)), .int (nI (cAg C)), .ref g1, .ref g2, .ref g3, .ref g4, .ref g5]))] sS.heap.size = A at hD ⊢
  have hA : ∀ q : Nat, sS.heap.size ≤ q → A q := fun q h => by rw [← hAe]; exact Or.inr h
  have hS : va_S A sS.heap sS.heap [] := va_S.rf
  have hP : va_P D vwCl [(x0, .inr (8, [.ref g0, .ref q0, .ref e0, .ref t0, .ref r0, .ref h0, .ref i0, .ref z0, .ref y0, .int tr, .int ft])), (g0, .inr (1, [.int (nI (cSp C)), .int (nI (cLa C)), .int (nI (cAg C)), .ref g1, .ref g2, .ref g3, .ref g4, .ref g5]))] sS.heap := hP
  have hD : va_D A [(x0, .inr (8, [.ref g0, .ref q0, .ref e0, .ref t0, .ref r0, .ref h0, .ref i0, .ref z0, .ref y0, .int tr, .int ft])), (g0, .inr (1, [.int (nI (cSp C)), .int (nI (cLa C)), .int (nI (cAg C)), .ref g1, .ref g2, .ref g3, .ref g4, .ref g5]))] := hD
  have hf_14 := hts (.fieldLink RX9 14 "OldLamps" "ground" "LOldLamps$Ground;") (List.mem_of_getElem? (i := 1) rfl)
  have hf_141 := hts (.fieldLink RX9 141 "OldLamps$Ground" "lightAge" "I") (List.mem_of_getElem? (i := 2) rfl)
  have hwX2 : ∀ w ∈ wsX20, w ∈ wsX9_age := fun _ h => List.mem_cons_of_mem _ (List.mem_append_right _ h)
  have hwX9 : ∀ w ∈ wsX90, w ∈ wsX9_age := fun _ h => List.mem_cons_of_mem _ (List.mem_append_left _ (List.mem_append_right _ h))
  have hl := lv_entry ([.ref x0, .int x1]) (n := 3) (Nat.le_of_ble_eq_true rfl)
  rw [lg_entry_eq]
  generalize (lg_sl ([.ref x0, .int x1]) ++ List.replicate (3 - (lg_sl ([.ref x0, .int x1])).length) Slot.unset).toArray = ls at hl ⊢
  have hl : lv_has ls 3 [(0, .ref x0), (1, .int x1)] := hl
  obtain ⟨QQ, hQQ⟩ : ∃ QQ : State → Prop, QQ = MQ below (kQi D (fun (r : Int32) (u : Co) => r = sp_age C x1 ∧ u = nx_age C x1) (fun u : Co => [(x0, .inr (8, [.ref g0, .ref q0, .ref e0, .ref t0, .ref r0, .ref h0, .ref i0, .ref z0, .ref y0, .int tr, .int ft])), (g0, .inr (1, [.int (nI (cSp u)), .int (nI (cLa u)), .int (nI (cAg u)), .ref g1, .ref g2, .ref g3, .ref g4, .ref g5]))]) A) ([.ref x0, .int x1]).toArray sS 0 0 A := ⟨_, rfl⟩
  refine kk_QQ hQQ.symm ?_
  obtain ⟨hX1, hX2, hX3, hX4⟩ := okX_le hX
  refine lv_iload_n hx hb dX9_age_0 rfl (lv_at hl 1 rfl) ?_
  refine lv_iconst (v := nI 1) hx hb dX9_age_1 (by decide +kernel) ?_
  refine lv_bipush (v := nI 12) hx hb dX9_age_2 (by decide +kernel) ?_
  have o_1 : 1 < 2 ^ 31 := by omega
  have o_2 : 12 < 2 ^ 31 := by omega
  refine vp_callSi (W.runS (As := [.int x1, .int (nI 1), .int (nI 12)]) (rest := []) ⟨hx, hb, hml, hown, hts⟩ (c_X9_isWithin lL D cI cS x1 1 12 o_1 o_2) (va_cwS 3 hts gX9_age_X9_isWithin rfl rfl rfl cd_X9_isWithin ⟨Nat.le_of_ble_eq_true rfl, Nat.le_of_ble_eq_true rfl⟩) ⟨kBp_blind, fun U hU hW => ⟨rfl, by rw [hU]; exact hP.sub [] rfl, va_K.moved hW.alike hK⟩⟩ rfl rfl hl.1 rfl (lv_room (Nat.le_of_ble_eq_true rfl)) dX9_age_4 ⟨Nat.le_of_ble_eq_true rfl, Nat.le_of_ble_eq_true rfl⟩) (fun r_3 hw_3 => ?_)
  obtain rfl : r_3 = kb (wB x1 1 12) := hw_3
  -- if (wB x1 1 12)
  refine kk_ifb_ne (tgt := 13) hx hb dX9_age_7 (by decide) (fun hb_4 => ?_) (fun hb_4 => ?_)
  · skip
    obtain ⟨x1N, hx1L, hx1N, rfl⟩ := wB_t hb_4
    have t_x1 := nI_clamp (show x1N < 2 ^ 31 by omega)
    refine lv_aload_n hx hb dX9_age_13 rfl (lv_at hl 0 rfl) ?_
    refine va_get (D := D) (ci := 8) (v := .ref g0) (C := RX9) (T := TX9) (N := 11) hx hb hts hwX9 hown hK hP 0 rfl rfl 0 (by decide) hf_14 (fun _ h9 => h9) rfl dX9_age_14 ?_
    have o_5 : (cLa C) ≤ 4 := by omega
    refine vp_callSi (W.runV (As := []) (rest := []) ⟨hx, hb, hml, hown, hts⟩ (c_X2_isThere lL D cI cS g0 (cSp C) (cLa C) (.int (nI (cAg C))) (.ref g1) (.ref g2) (.ref g3) (.ref g4) (.ref g5) o_5) (cwV 0 hts gX9_age_X2_isThere rfl rfl rfl cd_X2_isThere ⟨Nat.le_of_ble_eq_true rfl, Nat.le_of_ble_eq_true rfl⟩) ⟨kBp_blind, va_recv hK hP (ci := 1) (q0 := 1) rfl rfl, fun U hU hW => ⟨rfl, by rw [hU]; exact hP.sub [1] rfl, va_K.moved hW.alike hK⟩⟩ rfl rfl hl.1 rfl (lv_room (Nat.le_of_ble_eq_true rfl)) dX9_age_17 ⟨Nat.le_of_ble_eq_true rfl, Nat.le_of_ble_eq_true rfl⟩) (fun r_6 hw_6 => ?_)
    obtain rfl : r_6 = kb (decide (0 < (cLa C))) := hw_6
    -- if (decide (0 < (cLa C)))
    refine kk_ifb_ne (tgt := 26) hx hb dX9_age_20 (by decide) (fun hb_7 => ?_) (fun hb_7 => ?_)
    · skip
      refine lv_aload_n hx hb dX9_age_26 rfl (lv_at hl 0 rfl) ?_
      refine va_get (D := D) (ci := 8) (v := .ref g0) (C := RX9) (T := TX9) (N := 11) hx hb hts hwX9 hown hK hP 0 rfl rfl 0 (by decide) hf_14 (fun _ h9 => h9) rfl dX9_age_27 ?_
      refine va_get (D := D) (ci := 1) (v := .int (nI (cAg C))) (C := RX2) (T := TX2) (N := 8) hx hb hts hwX2 hown hK hP 1 rfl rfl 2 (by decide) hf_141 (fun _ h9 => h9) rfl dX9_age_30 ?_
      refine lv_istore_n (lv' := [(2, .int (nI (cAg C))), (0, .ref x0), (1, .int (nI x1N))]) hx hb dX9_age_33 rfl hl (by decide) rfl (fun ls hl => ?_)
      refine lv_aload_n hx hb dX9_age_34 rfl (lv_at hl 1 rfl) ?_
      refine va_get (D := D) (ci := 8) (v := .ref g0) (C := RX9) (T := TX9) (N := 11) hx hb hts hwX9 hown hK hP 0 rfl rfl 0 (by decide) hf_14 (fun _ h9 => h9) rfl dX9_age_35 ?_
      refine lv_iload_n hx hb dX9_age_38 rfl (lv_at hl 2 rfl) ?_
      refine va_put (D := D) (ci := 1) (v := .int (nI x1N)) (ty := .int) (C := RX2) (T := TX2) (N := 8) hx hb hts hwX2 tyX2 tyX2_ok nmX2 hown hK hP hD hS 1 rfl rfl 2 (by decide) hf_141 (fun _ h9 => h9) rfl (by decide +kernel) rfl rfl (Nat.le_of_ble_eq_true rfl) dX9_age_39 (fun H locs hP hD hS => ?_)
      have hP : va_P D vwCl [(x0, .inr (8, [.ref g0, .ref q0, .ref e0, .ref t0, .ref r0, .ref h0, .ref i0, .ref z0, .ref y0, .int tr, .int ft])), (g0, .inr (1, [.int (nI (cSp C)), .int (nI (cLa C)), .int (nI x1N), .ref g1, .ref g2, .ref g3, .ref g4, .ref g5]))] H := hP
      have hD : va_D A [(x0, .inr (8, [.ref g0, .ref q0, .ref e0, .ref t0, .ref r0, .ref h0, .ref i0, .ref z0, .ref y0, .int tr, .int ft])), (g0, .inr (1, [.int (nI (cSp C)), .int (nI (cLa C)), .int (nI x1N), .ref g1, .ref g2, .ref g3, .ref g4, .ref g5]))] := hD
      refine lv_iload_n hx hb dX9_age_42 rfl (lv_at hl 0 rfl) ?_
      have hq : (nI (cAg C)) = sp_age C (nI x1N) ∧ (cAge C x1N) = nx_age C (nI x1N) := by refine ⟨by simp only [sp_age, isC, hb_4, hb_7, t_x1, cond_true, cond_false], by simp only [nx_age, isC, hb_4, hb_7, t_x1, cond_true, cond_false]⟩
      refine kk_QQ hQQ ?_
      exact W.iret (v := nI (cAg C)) hx hb hr (fun t ht hW => ⟨⟨nI (cAg C), (cAge C x1N), rfl, hq, by show va_P D vwCl _ t.heap; rw [ht]; exact hP⟩, hS.F ht⟩) hS.2.2 dX9_age_43
    · skip
      refine lv_bipush (v := (-3 : Int32)) hx hb dX9_age_23 (by decide +kernel) ?_
      have hq : (-3 : Int32) = sp_age C (nI x1N) ∧ C = nx_age C (nI x1N) := by refine ⟨by simp only [sp_age, isC, hb_4, hb_7, t_x1, cond_true, cond_false], by simp only [nx_age, isC, hb_4, hb_7, t_x1, cond_true, cond_false]⟩
      refine kk_QQ hQQ ?_
      exact W.iret (v := (-3 : Int32)) hx hb hr (fun t ht hW => ⟨⟨(-3 : Int32), C, rfl, hq, by show va_P D vwCl _ t.heap; rw [ht]; exact hP⟩, hS.F ht⟩) hS.2.2 dX9_age_25
  · skip
    refine lv_bipush (v := (-2 : Int32)) hx hb dX9_age_10 (by decide +kernel) ?_
    have hq : (-2 : Int32) = sp_age C x1 ∧ C = nx_age C x1 := by refine ⟨by simp only [sp_age, isC, hb_4, cond_true, cond_false], by simp only [nx_age, isC, hb_4, cond_true, cond_false]⟩
    refine kk_QQ hQQ ?_
    exact W.iret (v := (-2 : Int32)) hx hb hr (fun t ht hW => ⟨⟨(-2 : Int32), C, rfl, hq, by show va_P D vwCl _ t.heap; rw [ht]; exact hP⟩, hS.F ht⟩) hS.2.2 dX9_age_12

abbrev rmX9_move : Room := { frames := 2, cells := 0, slots := 0, locals := 42 }
set_option maxHeartbeats 4000000 in
set_option maxRecDepth 100000 in
theorem c_X9_move (lL : Launch) (D : va_G) (cI cS : ClassId) (sz : Nat) (C : Co) (T : Mv) (E : Mv) (x0 : Nat) (g0 : Nat) (q0 : Nat) (e0 : Nat) (t0 : Nat) (r0 : Nat) (h0 : Nat) (i0 : Nat) (z0 : Nat) (y0 : Nat) (tr : Int32) (ft : Int32) (x1 : Int32) (x2 : Int32) (x3 : Int32) (g1 : Nat) (g2 : Nat) (g3 : Nat) (g4 : Nat) (g5 : Nat) (e1 : Nat) (e2 : Nat) (e3 : Nat) (wf : Nat → Int32) (tf : Nat → Int32) (vf : Nat → Int32) (hrM : repM T wf tf vf) (hX : okX C T E) : Met lL yX9_move wsX9_move rmX9_move (va_Pc [.ref x0, .int x1, .int x2, .int x3] (kB D cI cS [(x0, .inr (8, [.ref g0, .ref q0, .ref e0, .ref t0, .ref r0, .ref h0, .ref i0, .ref z0, .ref y0, .int tr, .int ft])), (g0, .inr (1, [.int (nI (cSp C)), .int (nI (cLa C)), .int (nI (cAg C)), .ref g1, .ref g2, .ref g3, .ref g4, .ref g5])), (e0, .inr (0, [.int (nI (mN T)), .ref e1, .ref e2, .ref e3])), (e1, .inl (cI, 8, .inl wf)), (e2, .inl (cI, 8, .inl tf)), (e3, .inl (cI, 8, .inl vf))] sz)) (kQi D (fun (r : Int32) (u : Mv × (Nat → Int32) × (Nat → Int32) × (Nat → Int32)) => r = sp_move C T x1 x2 x3 ∧ u.1 = nx_move C T x1 x2 x3 ∧ repM u.1 u.2.1 u.2.2.1 u.2.2.2) (fun u : Mv × (Nat → Int32) × (Nat → Int32) × (Nat → Int32) => [(x0, .inr (8, [.ref g0, .ref q0, .ref e0, .ref t0, .ref r0, .ref h0, .ref i0, .ref z0, .ref y0, .int tr, .int ft])), (g0, .inr (1, [.int (nI (cSp C)), .int (nI (cLa C)), .int (nI (cAg C)), .ref g1, .ref g2, .ref g3, .ref g4, .ref g5])), (e0, .inr (0, [.int (nI (mN u.1)), .ref e1, .ref e2, .ref e3])), (e1, .inl (cI, 8, .inl u.2.1)), (e2, .inl (cI, 8, .inl u.2.2.1)), (e3, .inl (cI, 8, .inl u.2.2.2))]) (va_A [(x0, .inr (8, [.ref g0, .ref q0, .ref e0, .ref t0, .ref r0, .ref h0, .ref i0, .ref z0, .ref y0, .int tr, .int ft])), (g0, .inr (1, [.int (nI (cSp C)), .int (nI (cLa C)), .int (nI (cAg C)), .ref g1, .ref g2, .ref g3, .ref g4, .ref g5])), (e0, .inr (0, [.int (nI (mN T)), .ref e1, .ref e2, .ref e3])), (e1, .inl (cI, 8, .inl wf)), (e2, .inl (cI, 8, .inl tf)), (e3, .inl (cI, 8, .inl vf))] sz)) 0 0 (va_A [(x0, .inr (8, [.ref g0, .ref q0, .ref e0, .ref t0, .ref r0, .ref h0, .ref i0, .ref z0, .ref y0, .int tr, .int ft])), (g0, .inr (1, [.int (nI (cSp C)), .int (nI (cLa C)), .int (nI (cAg C)), .ref g1, .ref g2, .ref g3, .ref g4, .ref g5])), (e0, .inr (0, [.int (nI (mN T)), .ref e1, .ref e2, .ref e3])), (e1, .inl (cI, 8, .inl wf)), (e2, .inl (cI, 8, .inl tf)), (e3, .inl (cI, 8, .inl vf))] sz) := by
  refine Met.ofW (cc := cX9_move) (maxL := 4) (ret := (some .int)) (by decide) rfl ?_
  intro pP eE sS mM args below meth cC s₁ B hml hv
  obtain ⟨rfl, hsz, hP, hK, hD0⟩ := hv
  have hx := B.exec
  have hb := B.bytes
  have hr := B.returns
  have hts := atoms_spec (ws := wsX9_move) B.pre
  have hown : sS.vm.findClass RX9 = some mM.cls := findClass_of_methodNamed B.named
  have hlocks := B.notSynchronized
  subst hsz
  have hD := hD0.self (sz := sS.heap.size)
  generalize hAe : va_A [(x0, .inr (8, [.ref g0, .ref q0, .ref e0, .ref t0, .ref r0, .ref h0, .ref i0, .ref z0, .ref y0, .int tr, .int ft])), (g0, .inr (1, [.int (nI (cSp C)), .int (nI (cLa C)), .int (nI (cAg C)), .ref g1, .ref g2, .ref g3, .ref g4, .ref g5])), (e0, .inr (0, [.int (nI (mN T)), .ref e1, .ref e2, .ref e3])), (e1, .inl (cI, 8, .inl wf)), (e2, .inl (cI, 8, .inl tf)), (e3, .inl (cI, 8, .inl vf))] sS.heap.size = A at hD ⊢
  have hA : ∀ q : Nat, sS.heap.size ≤ q → A q := fun q h => by rw [← hAe]; exact Or.inr h
  have hS : va_S A sS.heap sS.heap [] := va_S.rf
  have hP : va_P D vwCl [(x0, .inr (8, [.ref g0, .ref q0, .ref e0, .ref t0, .ref r0, .ref h0, .ref i0, .ref z0, .ref y0, .int tr, .int ft])), (g0, .inr (1, [.int (nI (cSp C)), .int (nI (cLa C)), .int (nI (cAg C)), .ref g1, .ref g2, .ref g3, .ref g4, .ref g5])), (e0, .inr (0, [.int (nI (mN T)), .ref e1, .ref e2, .ref e3])), (e1, .inl (cI, 8, .inl wf)), (e2, .inl (cI, 8, .inl tf)), (e3, .inl (cI, 8, .inl vf))] sS.heap := hP
  have hD : va_D A [(x0, .inr (8, [.ref g0, .ref q0, .ref e0, .ref t0, .ref r0, .ref h0, .ref i0, .ref z0, .ref y0, .int tr, .int ft])), (g0, .inr (1, [.int (nI (cSp C)), .int (nI (cLa C)), .int (nI (cAg C)), .ref g1, .ref g2, .ref g3, .ref g4, .ref g5])), (e0, .inr (0, [.int (nI (mN T)), .ref e1, .ref e2, .ref e3])), (e1, .inl (cI, 8, .inl wf)), (e2, .inl (cI, 8, .inl tf)), (e3, .inl (cI, 8, .inl vf))] := hD
  have hf_14 := hts (.fieldLink RX9 14 "OldLamps" "ground" "LOldLamps$Ground;") (List.mem_of_getElem? (i := 1) rfl)
  have hf_24 := hts (.fieldLink RX9 24 "OldLamps" "told" "LOldLamps$Entries;") (List.mem_of_getElem? (i := 2) rfl)
  have hwX9 : ∀ w ∈ wsX90, w ∈ wsX9_move := fun _ h => List.mem_cons_of_mem _ (List.mem_append_left _ (List.mem_append_left _ (List.mem_append_right _ h)))
  have hl := lv_entry ([.ref x0, .int x1, .int x2, .int x3]) (n := 4) (Nat.le_of_ble_eq_true rfl)
  rw [lg_entry_eq]
  generalize (lg_sl ([.ref x0, .int x1, .int x2, .int x3]) ++ List.replicate (4 - (lg_sl ([.ref x0, .int x1, .int x2, .int x3])).length) Slot.unset).toArray = ls at hl ⊢
  have hl : lv_has ls 4 [(0, .ref x0), (1, .int x1), (2, .int x2), (3, .int x3)] := hl
  obtain ⟨QQ, hQQ⟩ : ∃ QQ : State → Prop, QQ = MQ below (kQi D (fun (r : Int32) (u : Mv × (Nat → Int32) × (Nat → Int32) × (Nat → Int32)) => r = sp_move C T x1 x2 x3 ∧ u.1 = nx_move C T x1 x2 x3 ∧ repM u.1 u.2.1 u.2.2.1 u.2.2.2) (fun u : Mv × (Nat → Int32) × (Nat → Int32) × (Nat → Int32) => [(x0, .inr (8, [.ref g0, .ref q0, .ref e0, .ref t0, .ref r0, .ref h0, .ref i0, .ref z0, .ref y0, .int tr, .int ft])), (g0, .inr (1, [.int (nI (cSp C)), .int (nI (cLa C)), .int (nI (cAg C)), .ref g1, .ref g2, .ref g3, .ref g4, .ref g5])), (e0, .inr (0, [.int (nI (mN u.1)), .ref e1, .ref e2, .ref e3])), (e1, .inl (cI, 8, .inl u.2.1)), (e2, .inl (cI, 8, .inl u.2.2.1)), (e3, .inl (cI, 8, .inl u.2.2.2))]) A) ([.ref x0, .int x1, .int x2, .int x3]).toArray sS 0 0 A := ⟨_, rfl⟩
  refine kk_QQ hQQ.symm ?_
  obtain ⟨hX1, hX2, hX3, hX4⟩ := okX_le hX
  refine lv_aload_n hx hb dX9_move_0 rfl (lv_at hl 0 rfl) ?_
  refine va_get (D := D) (ci := 8) (v := .ref g0) (C := RX9) (T := TX9) (N := 11) hx hb hts hwX9 hown hK hP 0 rfl rfl 0 (by decide) hf_14 (fun _ h9 => h9) rfl dX9_move_1 ?_
  refine lv_iload_n hx hb dX9_move_4 rfl (lv_at hl 1 rfl) ?_
  have o_1 : (cLa C) ≤ 4 := by omega
  refine vp_callSi (W.runV (As := [.int x1]) (rest := []) ⟨hx, hb, hml, hown, hts⟩ (c_X2_hasLamp lL D cI cS g0 (cSp C) (cLa C) (.int (nI (cAg C))) (.ref g1) (.ref g2) (.ref g3) (.ref g4) (.ref g5) x1 o_1) (cwV 1 hts gX9_move_X2_hasLamp rfl rfl rfl cd_X2_hasLamp ⟨Nat.le_of_ble_eq_true rfl, Nat.le_of_ble_eq_true rfl⟩) ⟨kBp_blind, va_recv hK hP (ci := 1) (q0 := 1) rfl rfl, fun U hU hW => ⟨rfl, by rw [hU]; exact hP.sub [1] rfl, va_K.moved hW.alike hK⟩⟩ rfl rfl hl.1 rfl (lv_room (Nat.le_of_ble_eq_true rfl)) dX9_move_5 ⟨Nat.le_of_ble_eq_true rfl, Nat.le_of_ble_eq_true rfl⟩) (fun r_2 hw_2 => ?_)
  obtain rfl : r_2 = kb (inB x1 (cLa C)) := hw_2
  -- if (inB x1 (cLa C))
  refine kk_ifb_eq (tgt := 22) hx hb dX9_move_8 (by decide) (fun hb_3 => ?_) (fun hb_3 => ?_)
  · skip
    refine lv_iconst (v := (-1 : Int32)) hx hb dX9_move_22 (by decide +kernel) ?_
    have hq : (-1 : Int32) = sp_move C T x1 x2 x3 ∧ T = nx_move C T x1 x2 x3 ∧ repM T wf tf vf := by refine ⟨by simp only [sp_move, hb_3, cond_true, cond_false], by simp only [nx_move, hb_3, cond_true, cond_false], hrM⟩
    refine kk_QQ hQQ ?_
    exact W.iret (v := (-1 : Int32)) hx hb hr (fun t ht hW => ⟨⟨(-1 : Int32), (T, wf, tf, vf), rfl, hq, by show va_P D vwCl _ t.heap; rw [ht]; exact hP⟩, hS.F ht⟩) hS.2.2 dX9_move_23
  · skip
    obtain ⟨x1N, hx1N, rfl⟩ := inB_t hb_3
    have t_x1 := nI_clamp (show x1N < 2 ^ 31 by omega)
    refine lv_aload_n hx hb dX9_move_11 rfl (lv_at hl 0 rfl) ?_
    refine va_get (D := D) (ci := 8) (v := .ref g0) (C := RX9) (T := TX9) (N := 11) hx hb hts hwX9 hown hK hP 0 rfl rfl 0 (by decide) hf_14 (fun _ h9 => h9) rfl dX9_move_12 ?_
    refine lv_iload_n hx hb dX9_move_15 rfl (lv_at hl 3 rfl) ?_
    have o_4 : (cSp C) ≤ 4 := by omega
    refine vp_callSi (W.runV (As := [.int x3]) (rest := []) ⟨hx, hb, hml, hown, hts⟩ (c_X2_hasSpot lL D cI cS g0 (cSp C) (cLa C) (.int (nI (cAg C))) (.ref g1) (.ref g2) (.ref g3) (.ref g4) (.ref g5) x3 o_4) (cwV 1 hts gX9_move_X2_hasSpot rfl rfl rfl cd_X2_hasSpot ⟨Nat.le_of_ble_eq_true rfl, Nat.le_of_ble_eq_true rfl⟩) ⟨kBp_blind, va_recv hK hP (ci := 1) (q0 := 1) rfl rfl, fun U hU hW => ⟨rfl, by rw [hU]; exact hP.sub [1] rfl, va_K.moved hW.alike hK⟩⟩ rfl rfl hl.1 rfl (lv_room (Nat.le_of_ble_eq_true rfl)) dX9_move_16 ⟨Nat.le_of_ble_eq_true rfl, Nat.le_of_ble_eq_true rfl⟩) (fun r_5 hw_5 => ?_)
    obtain rfl : r_5 = kb (inB x3 (cSp C)) := hw_5
    -- if (inB x3 (cSp C))
    refine kk_ifb_ne (tgt := 24) hx hb dX9_move_19 (by decide) (fun hb_6 => ?_) (fun hb_6 => ?_)
    · skip
      obtain ⟨x3N, hx3N, rfl⟩ := inB_t hb_6
      have t_x3 := nI_clamp (show x3N < 2 ^ 31 by omega)
      refine lv_iload_n hx hb dX9_move_24 rfl (lv_at hl 2 rfl) ?_
      refine vp_callSi (W.runS (As := [.int x2]) (rest := []) ⟨hx, hb, hml, hown, hts⟩ (c_X9_isWatch lL D cI cS x2) (va_cwS 1 hts gX9_move_X9_isWatch rfl rfl rfl cd_X9_isWatch ⟨Nat.le_of_ble_eq_true rfl, Nat.le_of_ble_eq_true rfl⟩) ⟨kBp_blind, fun U hU hW => ⟨rfl, by rw [hU]; exact hP.sub [] rfl, va_K.moved hW.alike hK⟩⟩ rfl rfl hl.1 rfl (lv_room (Nat.le_of_ble_eq_true rfl)) dX9_move_25 ⟨Nat.le_of_ble_eq_true rfl, Nat.le_of_ble_eq_true rfl⟩) (fun r_7 hw_7 => ?_)
      obtain rfl : r_7 = kb (inB x2 24) := hw_7
      -- if (inB x2 24)
      refine kk_ifb_ne (tgt := 34) hx hb dX9_move_28 (by decide) (fun hb_8 => ?_) (fun hb_8 => ?_)
      · skip
        obtain ⟨x2N, hx2N, rfl⟩ := inB_t hb_8
        have t_x2 := nI_clamp (show x2N < 2 ^ 31 by omega)
        refine lv_aload_n hx hb dX9_move_34 rfl (lv_at hl 0 rfl) ?_
        refine va_get (D := D) (ci := 8) (v := .ref e0) (C := RX9) (T := TX9) (N := 11) hx hb hts hwX9 hown hK hP 0 rfl rfl 2 (by decide) hf_24 (fun _ h9 => h9) rfl dX9_move_35 ?_
        refine lv_iload_n hx hb dX9_move_38 rfl (lv_at hl 1 rfl) ?_
        refine lv_iload_n hx hb dX9_move_39 rfl (lv_at hl 2 rfl) ?_
        refine lv_iload_n hx hb dX9_move_40 rfl (lv_at hl 3 rfl) ?_
        have o_9 : (mN T) ≤ 8 := by exact hX3
        have hF := va_free (wc := [(e0, .inr (0, [.int (nI (mN T)), .ref e1, .ref e2, .ref e3])), (e1, .inl (cI, 8, .inl wf)), (e2, .inl (cI, 8, .inl tf)), (e3, .inl (cI, 8, .inl vf))]) hD hS hA [2, 3, 4, 5] rfl
        refine va_calli (va_runV (As := [.int (nI x1N), .int (nI x2N), .int (nI x3N)]) (rest := []) ⟨hx, hb, hml, hown, hts⟩ (c_X1_append lL D cI cS _ e0 e1 e2 e3 (mN T) wf tf vf (nI x1N) (nI x2N) (nI x3N) o_9) (cwV 3 hts gX9_move_X1_append rfl rfl rfl cd_X1_append ⟨Nat.le_of_ble_eq_true rfl, Nat.le_of_ble_eq_true rfl⟩) ⟨kB_blind, va_recv hK hP (ci := 0) (q0 := 2) rfl rfl, fun U hU hW => ⟨rfl, by rw [hU], by rw [hU]; exact hP.sub [2, 3, 4, 5] rfl, va_K.moved hW.alike hK, (hD.sub [2, 3, 4, 5] (by decide) rfl).weaken (fun _ _ _ _ => trivial)⟩⟩ rfl rfl hl.1 rfl (lv_room (Nat.le_of_ble_eq_true rfl)) dX9_move_41 ⟨Nat.le_of_ble_eq_true rfl, Nat.le_of_ble_eq_true rfl⟩) hS (fun q _ h => hF q h) hF (fun r_10 u_10 t H1 locs ht hvm hw_10 hB hz1 hk1 hS => ?_)
        obtain ⟨dn_10, wg_10, tg_10, vg_10⟩ := u_10
        obtain ⟨hP, hD⟩ := kk_join2 (wc := [(e0, .inr (0, [.int (nI (mN T)), .ref e1, .ref e2, .ref e3])), (e1, .inl (cI, 8, .inl wf)), (e2, .inl (cI, 8, .inl tf)), (e3, .inl (cI, 8, .inl vf))]) (w1 := [(e0, .inr (0, [.int (nI dn_10), .ref e1, .ref e2, .ref e3])), (e1, .inl (cI, 8, .inl wg_10)), (e2, .inl (cI, 8, .inl tg_10)), (e3, .inl (cI, 8, .inl vg_10))]) (ws' := [(x0, .inr (8, [.ref g0, .ref q0, .ref e0, .ref t0, .ref r0, .ref h0, .ref i0, .ref z0, .ref y0, .int tr, .int ft])), (g0, .inr (1, [.int (nI (cSp C)), .int (nI (cLa C)), .int (nI (cAg C)), .ref g1, .ref g2, .ref g3, .ref g4, .ref g5])), (e0, .inr (0, [.int (nI dn_10), .ref e1, .ref e2, .ref e3])), (e1, .inl (cI, 8, .inl wg_10)), (e2, .inl (cI, 8, .inl tg_10)), (e3, .inl (cI, 8, .inl vg_10))]) (wr := [(x0, .inr (8, [.ref g0, .ref q0, .ref e0, .ref t0, .ref r0, .ref h0, .ref i0, .ref z0, .ref y0, .int tr, .int ft])), (g0, .inr (1, [.int (nI (cSp C)), .int (nI (cLa C)), .int (nI (cAg C)), .ref g1, .ref g2, .ref g3, .ref g4, .ref g5]))]) (H1 := H1) hP hD [2, 3, 4, 5] [0, 1] rfl rfl rfl rfl 6 rfl (by decide) [x0, g0, e0, e1, e2, e3] rfl rfl hk1 (by rw [← ht]; exact hB)
        have hw_10 : ((mN T) = 8 ∧ r_10 = (-4) ∧ dn_10 = (mN T) ∧ wg_10 = wf ∧ tg_10 = tf ∧ vg_10 = vf) ∨ ((mN T) < 8 ∧ r_10 = nI (mN T) ∧ dn_10 = (mN T) + 1 ∧ wg_10 = upd wf (mN T) (nI x1N) ∧ tg_10 = upd tf (mN T) (nI x2N) ∧ vg_10 = upd vf (mN T) (nI x3N)) := hw_10
        clear hF hB hk1 hz1 hvm
        clear ht
        generalize H1 = H at hP hS ⊢
        rcases hw_10 with ⟨d1, q1, q2, q3, q4, q5⟩ | ⟨d1, q1, q2, q3, q4, q5⟩
        · skip
          have q3 := q3.symm
          have q4 := q4.symm
          have q5 := q5.symm
          subst q1 q2 q3 q4 q5
          have hq : (-4 : Int32) = sp_move C T (nI x1N) (nI x2N) (nI x3N) ∧ T = nx_move C T (nI x1N) (nI x2N) (nI x3N) ∧ repM T wf tf vf := by refine ⟨by simp only [sp_move, hb_3, hb_6, hb_8, t_x1, t_x3, t_x2, cond_true, cond_false, if_pos d1], by simp only [nx_move, hb_3, hb_6, hb_8, t_x1, t_x3, t_x2, cond_true, cond_false, if_pos d1], hrM⟩
          refine kk_QQ hQQ ?_
          exact W.iret (v := (-4 : Int32)) hx hb hr (fun t ht hW => ⟨⟨(-4 : Int32), (T, wf, tf, vf), rfl, hq, by show va_P D vwCl _ t.heap; rw [ht]; exact hP⟩, hS.F ht⟩) hS.2.2 dX9_move_44
        · skip
          subst q1 q2 q3 q4 q5
          have hq : (nI (mN T)) = sp_move C T (nI x1N) (nI x2N) (nI x3N) ∧ (mApp T x1N x2N x3N) = nx_move C T (nI x1N) (nI x2N) (nI x3N) ∧ repM (mApp T x1N x2N x3N) (upd wf (mN T) (nI x1N)) (upd tf (mN T) (nI x2N)) (upd vf (mN T) (nI x3N)) := by refine ⟨by simp only [sp_move, hb_3, hb_6, hb_8, t_x1, t_x3, t_x2, cond_true, cond_false, if_neg (show ¬ mN T = 8 by omega)], by simp only [nx_move, hb_3, hb_6, hb_8, t_x1, t_x3, t_x2, cond_true, cond_false, if_neg (show ¬ mN T = 8 by omega)], repM_app hrM⟩
          refine kk_QQ hQQ ?_
          exact W.iret (v := nI (mN T)) hx hb hr (fun t ht hW => ⟨⟨nI (mN T), (mApp T x1N x2N x3N, upd wf (mN T) (nI x1N), upd tf (mN T) (nI x2N), upd vf (mN T) (nI x3N)), rfl, hq, by show va_P D vwCl _ t.heap; rw [ht]; exact hP⟩, hS.F ht⟩) hS.2.2 dX9_move_44
      · skip
        refine lv_bipush (v := (-2 : Int32)) hx hb dX9_move_31 (by decide +kernel) ?_
        have hq : (-2 : Int32) = sp_move C T (nI x1N) x2 (nI x3N) ∧ T = nx_move C T (nI x1N) x2 (nI x3N) ∧ repM T wf tf vf := by refine ⟨by simp only [sp_move, hb_3, hb_6, hb_8, t_x1, t_x3, cond_true, cond_false], by simp only [nx_move, hb_3, hb_6, hb_8, t_x1, t_x3, cond_true, cond_false], hrM⟩
        refine kk_QQ hQQ ?_
        exact W.iret (v := (-2 : Int32)) hx hb hr (fun t ht hW => ⟨⟨(-2 : Int32), (T, wf, tf, vf), rfl, hq, by show va_P D vwCl _ t.heap; rw [ht]; exact hP⟩, hS.F ht⟩) hS.2.2 dX9_move_33
    · skip
      refine lv_iconst (v := (-1 : Int32)) hx hb dX9_move_22 (by decide +kernel) ?_
      have hq : (-1 : Int32) = sp_move C T (nI x1N) x2 x3 ∧ T = nx_move C T (nI x1N) x2 x3 ∧ repM T wf tf vf := by refine ⟨by simp only [sp_move, hb_3, hb_6, t_x1, cond_true, cond_false], by simp only [nx_move, hb_3, hb_6, t_x1, cond_true, cond_false], hrM⟩
      refine kk_QQ hQQ ?_
      exact W.iret (v := (-1 : Int32)) hx hb hr (fun t ht hW => ⟨⟨(-1 : Int32), (T, wf, tf, vf), rfl, hq, by show va_P D vwCl _ t.heap; rw [ht]; exact hP⟩, hS.F ht⟩) hS.2.2 dX9_move_23

abbrev rmX9_undo : Room := { frames := 1, cells := 0, slots := 0, locals := 21 }
set_option maxHeartbeats 4000000 in
set_option maxRecDepth 100000 in
theorem c_X9_undo (lL : Launch) (D : va_G) (cI cS : ClassId) (sz : Nat) (C : Co) (T : Mv) (E : Mv) (x0 : Nat) (g0 : Nat) (q0 : Nat) (e0 : Nat) (t0 : Nat) (r0 : Nat) (h0 : Nat) (i0 : Nat) (z0 : Nat) (y0 : Nat) (tr : Int32) (ft : Int32) (x1 : Int32) (e1 : Nat) (e2 : Nat) (e3 : Nat) (hX : okX C T E) : Met lL yX9_undo wsX9_undo rmX9_undo (va_Pc [.ref x0, .int x1] (kB D cI cS [(x0, .inr (8, [.ref g0, .ref q0, .ref e0, .ref t0, .ref r0, .ref h0, .ref i0, .ref z0, .ref y0, .int tr, .int ft])), (e0, .inr (0, [.int (nI (mN T)), .ref e1, .ref e2, .ref e3]))] sz)) (kQi D (fun (r : Int32) (u : Mv) => r = sp_undo T x1 ∧ u = nx_undo T x1) (fun u : Mv => [(x0, .inr (8, [.ref g0, .ref q0, .ref e0, .ref t0, .ref r0, .ref h0, .ref i0, .ref z0, .ref y0, .int tr, .int ft])), (e0, .inr (0, [.int (nI (mN u)), .ref e1, .ref e2, .ref e3]))]) (va_A [(x0, .inr (8, [.ref g0, .ref q0, .ref e0, .ref t0, .ref r0, .ref h0, .ref i0, .ref z0, .ref y0, .int tr, .int ft])), (e0, .inr (0, [.int (nI (mN T)), .ref e1, .ref e2, .ref e3]))] sz)) 0 0 (va_A [(x0, .inr (8, [.ref g0, .ref q0, .ref e0, .ref t0, .ref r0, .ref h0, .ref i0, .ref z0, .ref y0, .int tr, .int ft])), (e0, .inr (0, [.int (nI (mN T)), .ref e1, .ref e2, .ref e3]))] sz) := by
  refine Met.ofW (cc := cX9_undo) (maxL := 2) (ret := (some .int)) (by decide) rfl ?_
  intro pP eE sS mM args below meth cC s₁ B hml hv
  obtain ⟨rfl, hsz, hP, hK, hD0⟩ := hv
  have hx := B.exec
  have hb := B.bytes
  have hr := B.returns
  have hts := atoms_spec (ws := wsX9_undo) B.pre
  have hown : sS.vm.findClass RX9 = some mM.cls := findClass_of_methodNamed B.named
  have hlocks := B.notSynchronized
  subst hsz
  have hD := hD0.self (sz := sS.heap.size)
  generalize hAe : va_A [(x0, .inr (8, [.ref g0, .ref q0, .ref e0, .ref t0, .ref r0, .ref h0, .ref i0, .ref z0, .ref y0, .int tr, .int ft])), (e0, .inr (0, [.int (nI (mN T)), .ref e1, .ref e2, .ref e3]))] sS.heap.size = A at hD ⊢
  have hA : ∀ q : Nat, sS.heap.size ≤ q → A q := fun q h => by rw [← hAe]; exact Or.inr h
  have hS : va_S A sS.heap sS.heap [] := va_S.rf
  have hP : va_P D vwCl [(x0, .inr (8, [.ref g0, .ref q0, .ref e0, .ref t0, .ref r0, .ref h0, .ref i0, .ref z0, .ref y0, .int tr, .int ft])), (e0, .inr (0, [.int (nI (mN T)), .ref e1, .ref e2, .ref e3]))] sS.heap := hP
  have hD : va_D A [(x0, .inr (8, [.ref g0, .ref q0, .ref e0, .ref t0, .ref r0, .ref h0, .ref i0, .ref z0, .ref y0, .int tr, .int ft])), (e0, .inr (0, [.int (nI (mN T)), .ref e1, .ref e2, .ref e3]))] := hD
  have hf_24 := hts (.fieldLink RX9 24 "OldLamps" "told" "LOldLamps$Entries;") (List.mem_of_getElem? (i := 1) rfl)
  have hwX9 : ∀ w ∈ wsX90, w ∈ wsX9_undo := fun _ h => List.mem_cons_of_mem _ (List.mem_append_left _ (List.mem_append_right _ h))
  have hl := lv_entry ([.ref x0, .int x1]) (n := 2) (Nat.le_of_ble_eq_true rfl)
  rw [lg_entry_eq]
  generalize (lg_sl ([.ref x0, .int x1]) ++ List.replicate (2 - (lg_sl ([.ref x0, .int x1])).length) Slot.unset).toArray = ls at hl ⊢
  have hl : lv_has ls 2 [(0, .ref x0), (1, .int x1)] := hl
  obtain ⟨QQ, hQQ⟩ : ∃ QQ : State → Prop, QQ = MQ below (kQi D (fun (r : Int32) (u : Mv) => r = sp_undo T x1 ∧ u = nx_undo T x1) (fun u : Mv => [(x0, .inr (8, [.ref g0, .ref q0, .ref e0, .ref t0, .ref r0, .ref h0, .ref i0, .ref z0, .ref y0, .int tr, .int ft])), (e0, .inr (0, [.int (nI (mN u)), .ref e1, .ref e2, .ref e3]))]) A) ([.ref x0, .int x1]).toArray sS 0 0 A := ⟨_, rfl⟩
  refine kk_QQ hQQ.symm ?_
  obtain ⟨hX1, hX2, hX3, hX4⟩ := okX_le hX
  refine lv_aload_n hx hb dX9_undo_0 rfl (lv_at hl 0 rfl) ?_
  refine va_get (D := D) (ci := 8) (v := .ref e0) (C := RX9) (T := TX9) (N := 11) hx hb hts hwX9 hown hK hP 0 rfl rfl 2 (by decide) hf_24 (fun _ h9 => h9) rfl dX9_undo_1 ?_
  refine lv_iload_n hx hb dX9_undo_4 rfl (lv_at hl 1 rfl) ?_
  have o_1 : (mN T) ≤ 8 := by omega
  have hF := va_free (wc := [(e0, .inr (0, [.int (nI (mN T)), .ref e1, .ref e2, .ref e3]))]) hD hS hA [1] rfl
  refine va_calli (va_runV (As := [.int x1]) (rest := []) ⟨hx, hb, hml, hown, hts⟩ (c_X1_takeBack lL D cI cS _ e0 (mN T) (.ref e1) (.ref e2) (.ref e3) x1 o_1) (cwV 1 hts gX9_undo_X1_takeBack rfl rfl rfl cd_X1_takeBack ⟨Nat.le_of_ble_eq_true rfl, Nat.le_of_ble_eq_true rfl⟩) ⟨kB_blind, va_recv hK hP (ci := 0) (q0 := 1) rfl rfl, fun U hU hW => ⟨rfl, by rw [hU], by rw [hU]; exact hP.sub [1] rfl, va_K.moved hW.alike hK, (hD.sub [1] (by decide) rfl).weaken (fun _ _ _ _ => trivial)⟩⟩ rfl rfl hl.1 rfl (lv_room (Nat.le_of_ble_eq_true rfl)) dX9_undo_5 ⟨Nat.le_of_ble_eq_true rfl, Nat.le_of_ble_eq_true rfl⟩) hS (fun q _ h => hF q h) hF (fun r_2 u_2 t H1 locs ht hvm hw_2 hB hz1 hk1 hS => ?_)
  obtain ⟨hP, hD⟩ := kk_join2 (wc := [(e0, .inr (0, [.int (nI (mN T)), .ref e1, .ref e2, .ref e3]))]) (w1 := [(e0, .inr (0, [.int (nI u_2), .ref e1, .ref e2, .ref e3]))]) (ws' := [(x0, .inr (8, [.ref g0, .ref q0, .ref e0, .ref t0, .ref r0, .ref h0, .ref i0, .ref z0, .ref y0, .int tr, .int ft])), (e0, .inr (0, [.int (nI u_2), .ref e1, .ref e2, .ref e3]))]) (wr := [(x0, .inr (8, [.ref g0, .ref q0, .ref e0, .ref t0, .ref r0, .ref h0, .ref i0, .ref z0, .ref y0, .int tr, .int ft]))]) (H1 := H1) hP hD [1] [0] rfl rfl rfl rfl 2 rfl (by decide) [x0, e0] rfl rfl hk1 (by rw [← ht]; exact hB)
  have hw_2 : (inB x1 ((mN T) + 1) = false ∧ r_2 = (-2) ∧ u_2 = (mN T)) ∨ (∃ k, k ≤ (mN T) ∧ x1 = nI k ∧ r_2 = nI ((mN T) - k) ∧ u_2 = (mN T) - k) := hw_2
  clear hF hB hk1 hz1 hvm
  clear ht
  generalize H1 = H at hP hS ⊢
  rcases hw_2 with ⟨hn, rfl, rfl⟩ | ⟨kN, hk, rfl, rfl, rfl⟩
  · skip
    have hq : (-2 : Int32) = sp_undo T x1 ∧ T = nx_undo T x1 := by
      refine ⟨?_, ?_⟩
      · simp only [sp_undo, hn, cond_false]
      · simp only [nx_undo, hn, cond_false]
    refine kk_QQ hQQ ?_
    exact W.iret (v := (-2 : Int32)) hx hb hr (fun t ht hW => ⟨⟨(-2 : Int32), T, rfl, hq, by show va_P D vwCl _ t.heap; rw [ht]; exact hP⟩, hS.F ht⟩) hS.2.2 dX9_undo_8
  · skip
    have tk := nI_clamp (show kN < 2 ^ 31 by omega)
    have hn : inB (nI kN) (mN T + 1) = true := by rw [inB_n (by omega)]; exact decide_eq_true (by omega)
    have hq : (nI (mN T - kN)) = sp_undo T (nI kN) ∧ (mCut T kN) = nx_undo T (nI kN) := by
      refine ⟨?_, ?_⟩
      · simp only [sp_undo, hn, cond_true, tk]
      · simp only [nx_undo, hn, cond_true, tk]
    refine kk_QQ hQQ ?_
    exact W.iret (v := nI (mN T - kN)) hx hb hr (fun t ht hW => ⟨⟨nI (mN T - kN), (mCut T kN), rfl, hq, by show va_P D vwCl _ t.heap; rw [ht]; exact hP⟩, hS.F ht⟩) hS.2.2 dX9_undo_8

abbrev rmX9_back : Room := { frames := 1, cells := 0, slots := 0, locals := 21 }
set_option maxHeartbeats 4000000 in
set_option maxRecDepth 100000 in
theorem c_X9_back (lL : Launch) (D : va_G) (cI cS : ClassId) (sz : Nat) (C : Co) (T : Mv) (E : Mv) (x0 : Nat) (g0 : Nat) (q0 : Nat) (e0 : Nat) (t0 : Nat) (r0 : Nat) (h0 : Nat) (i0 : Nat) (z0 : Nat) (y0 : Nat) (tr : Int32) (ft : Int32) (x1 : Int32) (r1 : Nat) (r2 : Nat) (r3 : Nat) (hX : okX C T E) : Met lL yX9_back wsX9_back rmX9_back (va_Pc [.ref x0, .int x1] (kB D cI cS [(x0, .inr (8, [.ref g0, .ref q0, .ref e0, .ref t0, .ref r0, .ref h0, .ref i0, .ref z0, .ref y0, .int tr, .int ft])), (r0, .inr (0, [.int (nI (mN E)), .ref r1, .ref r2, .ref r3]))] sz)) (kQi D (fun (r : Int32) (u : Mv) => r = sp_undo E x1 ∧ u = nx_undo E x1) (fun u : Mv => [(x0, .inr (8, [.ref g0, .ref q0, .ref e0, .ref t0, .ref r0, .ref h0, .ref i0, .ref z0, .ref y0, .int tr, .int ft])), (r0, .inr (0, [.int (nI (mN u)), .ref r1, .ref r2, .ref r3]))]) (va_A [(x0, .inr (8, [.ref g0, .ref q0, .ref e0, .ref t0, .ref r0, .ref h0, .ref i0, .ref z0, .ref y0, .int tr, .int ft])), (r0, .inr (0, [.int (nI (mN E)), .ref r1, .ref r2, .ref r3]))] sz)) 0 0 (va_A [(x0, .inr (8, [.ref g0, .ref q0, .ref e0, .ref t0, .ref r0, .ref h0, .ref i0, .ref z0, .ref y0, .int tr, .int ft])), (r0, .inr (0, [.int (nI (mN E)), .ref r1, .ref r2, .ref r3]))] sz) := by
  refine Met.ofW (cc := cX9_back) (maxL := 2) (ret := (some .int)) (by decide) rfl ?_
  intro pP eE sS mM args below meth cC s₁ B hml hv
  obtain ⟨rfl, hsz, hP, hK, hD0⟩ := hv
  have hx := B.exec
  have hb := B.bytes
  have hr := B.returns
  have hts := atoms_spec (ws := wsX9_back) B.pre
  have hown : sS.vm.findClass RX9 = some mM.cls := findClass_of_methodNamed B.named
  have hlocks := B.notSynchronized
  subst hsz
  have hD := hD0.self (sz := sS.heap.size)
  generalize hAe : va_A [(x0, .inr (8, [.ref g0, .ref q0, .ref e0, .ref t0, .ref r0, .ref h0, .ref i0, .ref z0, .ref y0, .int tr, .int ft])), (r0, .inr (0, [.int (nI (mN E)), .ref r1, .ref r2, .ref r3]))] sS.heap.size = A at hD ⊢
  have hA : ∀ q : Nat, sS.heap.size ≤ q → A q := fun q h => by rw [← hAe]; exact Or.inr h
  have hS : va_S A sS.heap sS.heap [] := va_S.rf
  have hP : va_P D vwCl [(x0, .inr (8, [.ref g0, .ref q0, .ref e0, .ref t0, .ref r0, .ref h0, .ref i0, .ref z0, .ref y0, .int tr, .int ft])), (r0, .inr (0, [.int (nI (mN E)), .ref r1, .ref r2, .ref r3]))] sS.heap := hP
  have hD : va_D A [(x0, .inr (8, [.ref g0, .ref q0, .ref e0, .ref t0, .ref r0, .ref h0, .ref i0, .ref z0, .ref y0, .int tr, .int ft])), (r0, .inr (0, [.int (nI (mN E)), .ref r1, .ref r2, .ref r3]))] := hD
  have hf_31 := hts (.fieldLink RX9 31 "OldLamps" "readings" "LOldLamps$Entries;") (List.mem_of_getElem? (i := 1) rfl)
  have hwX9 : ∀ w ∈ wsX90, w ∈ wsX9_back := fun _ h => List.mem_cons_of_mem _ (List.mem_append_left _ (List.mem_append_right _ h))
  have hl := lv_entry ([.ref x0, .int x1]) (n := 2) (Nat.le_of_ble_eq_true rfl)
  rw [lg_entry_eq]
  generalize (lg_sl ([.ref x0, .int x1]) ++ List.replicate (2 - (lg_sl ([.ref x0, .int x1])).length) Slot.unset).toArray = ls at hl ⊢
  have hl : lv_has ls 2 [(0, .ref x0), (1, .int x1)] := hl
  obtain ⟨QQ, hQQ⟩ : ∃ QQ : State → Prop, QQ = MQ below (kQi D (fun (r : Int32) (u : Mv) => r = sp_undo E x1 ∧ u = nx_undo E x1) (fun u : Mv => [(x0, .inr (8, [.ref g0, .ref q0, .ref e0, .ref t0, .ref r0, .ref h0, .ref i0, .ref z0, .ref y0, .int tr, .int ft])), (r0, .inr (0, [.int (nI (mN u)), .ref r1, .ref r2, .ref r3]))]) A) ([.ref x0, .int x1]).toArray sS 0 0 A := ⟨_, rfl⟩
  refine kk_QQ hQQ.symm ?_
  obtain ⟨hX1, hX2, hX3, hX4⟩ := okX_le hX
  refine lv_aload_n hx hb dX9_back_0 rfl (lv_at hl 0 rfl) ?_
  refine va_get (D := D) (ci := 8) (v := .ref r0) (C := RX9) (T := TX9) (N := 11) hx hb hts hwX9 hown hK hP 0 rfl rfl 4 (by decide) hf_31 (fun _ h9 => h9) rfl dX9_back_1 ?_
  refine lv_iload_n hx hb dX9_back_4 rfl (lv_at hl 1 rfl) ?_
  have o_1 : (mN E) ≤ 8 := by omega
  have hF := va_free (wc := [(r0, .inr (0, [.int (nI (mN E)), .ref r1, .ref r2, .ref r3]))]) hD hS hA [1] rfl
  refine va_calli (va_runV (As := [.int x1]) (rest := []) ⟨hx, hb, hml, hown, hts⟩ (c_X1_takeBack lL D cI cS _ r0 (mN E) (.ref r1) (.ref r2) (.ref r3) x1 o_1) (cwV 1 hts gX9_back_X1_takeBack rfl rfl rfl cd_X1_takeBack ⟨Nat.le_of_ble_eq_true rfl, Nat.le_of_ble_eq_true rfl⟩) ⟨kB_blind, va_recv hK hP (ci := 0) (q0 := 1) rfl rfl, fun U hU hW => ⟨rfl, by rw [hU], by rw [hU]; exact hP.sub [1] rfl, va_K.moved hW.alike hK, (hD.sub [1] (by decide) rfl).weaken (fun _ _ _ _ => trivial)⟩⟩ rfl rfl hl.1 rfl (lv_room (Nat.le_of_ble_eq_true rfl)) dX9_back_5 ⟨Nat.le_of_ble_eq_true rfl, Nat.le_of_ble_eq_true rfl⟩) hS (fun q _ h => hF q h) hF (fun r_2 u_2 t H1 locs ht hvm hw_2 hB hz1 hk1 hS => ?_)
  obtain ⟨hP, hD⟩ := kk_join2 (wc := [(r0, .inr (0, [.int (nI (mN E)), .ref r1, .ref r2, .ref r3]))]) (w1 := [(r0, .inr (0, [.int (nI u_2), .ref r1, .ref r2, .ref r3]))]) (ws' := [(x0, .inr (8, [.ref g0, .ref q0, .ref e0, .ref t0, .ref r0, .ref h0, .ref i0, .ref z0, .ref y0, .int tr, .int ft])), (r0, .inr (0, [.int (nI u_2), .ref r1, .ref r2, .ref r3]))]) (wr := [(x0, .inr (8, [.ref g0, .ref q0, .ref e0, .ref t0, .ref r0, .ref h0, .ref i0, .ref z0, .ref y0, .int tr, .int ft]))]) (H1 := H1) hP hD [1] [0] rfl rfl rfl rfl 2 rfl (by decide) [x0, r0] rfl rfl hk1 (by rw [← ht]; exact hB)
  have hw_2 : (inB x1 ((mN E) + 1) = false ∧ r_2 = (-2) ∧ u_2 = (mN E)) ∨ (∃ k, k ≤ (mN E) ∧ x1 = nI k ∧ r_2 = nI ((mN E) - k) ∧ u_2 = (mN E) - k) := hw_2
  clear hF hB hk1 hz1 hvm
  clear ht
  generalize H1 = H at hP hS ⊢
  rcases hw_2 with ⟨hn, rfl, rfl⟩ | ⟨kN, hk, rfl, rfl, rfl⟩
  · skip
    have hq : (-2 : Int32) = sp_undo E x1 ∧ E = nx_undo E x1 := by
      refine ⟨?_, ?_⟩
      · simp only [sp_undo, hn, cond_false]
      · simp only [nx_undo, hn, cond_false]
    refine kk_QQ hQQ ?_
    exact W.iret (v := (-2 : Int32)) hx hb hr (fun t ht hW => ⟨⟨(-2 : Int32), E, rfl, hq, by show va_P D vwCl _ t.heap; rw [ht]; exact hP⟩, hS.F ht⟩) hS.2.2 dX9_back_8
  · skip
    have tk := nI_clamp (show kN < 2 ^ 31 by omega)
    have hn : inB (nI kN) (mN E + 1) = true := by rw [inB_n (by omega)]; exact decide_eq_true (by omega)
    have hq : (nI (mN E - kN)) = sp_undo E (nI kN) ∧ (mCut E kN) = nx_undo E (nI kN) := by
      refine ⟨?_, ?_⟩
      · simp only [sp_undo, hn, cond_true, tk]
      · simp only [nx_undo, hn, cond_true, tk]
    refine kk_QQ hQQ ?_
    exact W.iret (v := nI (mN E - kN)) hx hb hr (fun t ht hW => ⟨⟨nI (mN E - kN), (mCut E kN), rfl, hq, by show va_P D vwCl _ t.heap; rw [ht]; exact hP⟩, hS.F ht⟩) hS.2.2 dX9_back_8

abbrev rmX9_reading : Room := { frames := 2, cells := 0, slots := 0, locals := 42 }
set_option maxHeartbeats 4000000 in
set_option maxRecDepth 100000 in
theorem c_X9_reading (lL : Launch) (D : va_G) (cI cS : ClassId) (sz : Nat) (C : Co) (T : Mv) (E : Mv) (x0 : Nat) (g0 : Nat) (q0 : Nat) (e0 : Nat) (t0 : Nat) (r0 : Nat) (h0 : Nat) (i0 : Nat) (z0 : Nat) (y0 : Nat) (tr : Int32) (ft : Int32) (x1 : Int32) (x2 : Int32) (x3 : Int32) (g1 : Nat) (g2 : Nat) (g3 : Nat) (g4 : Nat) (g5 : Nat) (r1 : Nat) (r2 : Nat) (r3 : Nat) (wf : Nat → Int32) (tf : Nat → Int32) (vf : Nat → Int32) (hrM : repM E wf tf vf) (hX : okX C T E) : Met lL yX9_reading wsX9_reading rmX9_reading (va_Pc [.ref x0, .int x1, .int x2, .int x3] (kB D cI cS [(x0, .inr (8, [.ref g0, .ref q0, .ref e0, .ref t0, .ref r0, .ref h0, .ref i0, .ref z0, .ref y0, .int tr, .int ft])), (g0, .inr (1, [.int (nI (cSp C)), .int (nI (cLa C)), .int (nI (cAg C)), .ref g1, .ref g2, .ref g3, .ref g4, .ref g5])), (r0, .inr (0, [.int (nI (mN E)), .ref r1, .ref r2, .ref r3])), (r1, .inl (cI, 8, .inl wf)), (r2, .inl (cI, 8, .inl tf)), (r3, .inl (cI, 8, .inl vf))] sz)) (kQi D (fun (r : Int32) (u : Mv × (Nat → Int32) × (Nat → Int32) × (Nat → Int32)) => r = sp_reading C E x1 x2 x3 ∧ u.1 = nx_reading C E x1 x2 x3 ∧ repM u.1 u.2.1 u.2.2.1 u.2.2.2) (fun u : Mv × (Nat → Int32) × (Nat → Int32) × (Nat → Int32) => [(x0, .inr (8, [.ref g0, .ref q0, .ref e0, .ref t0, .ref r0, .ref h0, .ref i0, .ref z0, .ref y0, .int tr, .int ft])), (g0, .inr (1, [.int (nI (cSp C)), .int (nI (cLa C)), .int (nI (cAg C)), .ref g1, .ref g2, .ref g3, .ref g4, .ref g5])), (r0, .inr (0, [.int (nI (mN u.1)), .ref r1, .ref r2, .ref r3])), (r1, .inl (cI, 8, .inl u.2.1)), (r2, .inl (cI, 8, .inl u.2.2.1)), (r3, .inl (cI, 8, .inl u.2.2.2))]) (va_A [(x0, .inr (8, [.ref g0, .ref q0, .ref e0, .ref t0, .ref r0, .ref h0, .ref i0, .ref z0, .ref y0, .int tr, .int ft])), (g0, .inr (1, [.int (nI (cSp C)), .int (nI (cLa C)), .int (nI (cAg C)), .ref g1, .ref g2, .ref g3, .ref g4, .ref g5])), (r0, .inr (0, [.int (nI (mN E)), .ref r1, .ref r2, .ref r3])), (r1, .inl (cI, 8, .inl wf)), (r2, .inl (cI, 8, .inl tf)), (r3, .inl (cI, 8, .inl vf))] sz)) 0 0 (va_A [(x0, .inr (8, [.ref g0, .ref q0, .ref e0, .ref t0, .ref r0, .ref h0, .ref i0, .ref z0, .ref y0, .int tr, .int ft])), (g0, .inr (1, [.int (nI (cSp C)), .int (nI (cLa C)), .int (nI (cAg C)), .ref g1, .ref g2, .ref g3, .ref g4, .ref g5])), (r0, .inr (0, [.int (nI (mN E)), .ref r1, .ref r2, .ref r3])), (r1, .inl (cI, 8, .inl wf)), (r2, .inl (cI, 8, .inl tf)), (r3, .inl (cI, 8, .inl vf))] sz) := by
  refine Met.ofW (cc := cX9_reading) (maxL := 4) (ret := (some .int)) (by decide) rfl ?_
  intro pP eE sS mM args below meth cC s₁ B hml hv
  obtain ⟨rfl, hsz, hP, hK, hD0⟩ := hv
  have hx := B.exec
  have hb := B.bytes
  have hr := B.returns
  have hts := atoms_spec (ws := wsX9_reading) B.pre
  have hown : sS.vm.findClass RX9 = some mM.cls := findClass_of_methodNamed B.named
  have hlocks := B.notSynchronized
  subst hsz
  have hD := hD0.self (sz := sS.heap.size)
  generalize hAe : va_A [(x0, .inr (8, [.ref g0, .ref q0, .ref e0, .ref t0, .ref r0, .ref h0, .ref i0, .ref z0, .ref y0, .int tr, .int ft])), (g0, .inr (1, [.int (nI (cSp C)), .int (nI (cLa C)), .int (nI (cAg C)), .ref g1, .ref g2, .ref g3, .ref g4, .ref g5])), (r0, .inr (0, [.int (nI (mN E)), .ref r1, .ref r2, .ref r3])), (r1, .inl (cI, 8, .inl wf)), (r2, .inl (cI, 8, .inl tf)), (r3, .inl (cI, 8, .inl vf))] sS.heap.size = A at hD ⊢
  have hA : ∀ q : Nat, sS.heap.size ≤ q → A q := fun q h => by rw [← hAe]; exact Or.inr h
  have hS : va_S A sS.heap sS.heap [] := va_S.rf
  have hP : va_P D vwCl [(x0, .inr (8, [.ref g0, .ref q0, .ref e0, .ref t0, .ref r0, .ref h0, .ref i0, .ref z0, .ref y0, .int tr, .int ft])), (g0, .inr (1, [.int (nI (cSp C)), .int (nI (cLa C)), .int (nI (cAg C)), .ref g1, .ref g2, .ref g3, .ref g4, .ref g5])), (r0, .inr (0, [.int (nI (mN E)), .ref r1, .ref r2, .ref r3])), (r1, .inl (cI, 8, .inl wf)), (r2, .inl (cI, 8, .inl tf)), (r3, .inl (cI, 8, .inl vf))] sS.heap := hP
  have hD : va_D A [(x0, .inr (8, [.ref g0, .ref q0, .ref e0, .ref t0, .ref r0, .ref h0, .ref i0, .ref z0, .ref y0, .int tr, .int ft])), (g0, .inr (1, [.int (nI (cSp C)), .int (nI (cLa C)), .int (nI (cAg C)), .ref g1, .ref g2, .ref g3, .ref g4, .ref g5])), (r0, .inr (0, [.int (nI (mN E)), .ref r1, .ref r2, .ref r3])), (r1, .inl (cI, 8, .inl wf)), (r2, .inl (cI, 8, .inl tf)), (r3, .inl (cI, 8, .inl vf))] := hD
  have hf_14 := hts (.fieldLink RX9 14 "OldLamps" "ground" "LOldLamps$Ground;") (List.mem_of_getElem? (i := 1) rfl)
  have hf_31 := hts (.fieldLink RX9 31 "OldLamps" "readings" "LOldLamps$Entries;") (List.mem_of_getElem? (i := 2) rfl)
  have hwX9 : ∀ w ∈ wsX90, w ∈ wsX9_reading := fun _ h => List.mem_cons_of_mem _ (List.mem_append_left _ (List.mem_append_left _ (List.mem_append_right _ h)))
  have hl := lv_entry ([.ref x0, .int x1, .int x2, .int x3]) (n := 4) (Nat.le_of_ble_eq_true rfl)
  rw [lg_entry_eq]
  generalize (lg_sl ([.ref x0, .int x1, .int x2, .int x3]) ++ List.replicate (4 - (lg_sl ([.ref x0, .int x1, .int x2, .int x3])).length) Slot.unset).toArray = ls at hl ⊢
  have hl : lv_has ls 4 [(0, .ref x0), (1, .int x1), (2, .int x2), (3, .int x3)] := hl
  obtain ⟨QQ, hQQ⟩ : ∃ QQ : State → Prop, QQ = MQ below (kQi D (fun (r : Int32) (u : Mv × (Nat → Int32) × (Nat → Int32) × (Nat → Int32)) => r = sp_reading C E x1 x2 x3 ∧ u.1 = nx_reading C E x1 x2 x3 ∧ repM u.1 u.2.1 u.2.2.1 u.2.2.2) (fun u : Mv × (Nat → Int32) × (Nat → Int32) × (Nat → Int32) => [(x0, .inr (8, [.ref g0, .ref q0, .ref e0, .ref t0, .ref r0, .ref h0, .ref i0, .ref z0, .ref y0, .int tr, .int ft])), (g0, .inr (1, [.int (nI (cSp C)), .int (nI (cLa C)), .int (nI (cAg C)), .ref g1, .ref g2, .ref g3, .ref g4, .ref g5])), (r0, .inr (0, [.int (nI (mN u.1)), .ref r1, .ref r2, .ref r3])), (r1, .inl (cI, 8, .inl u.2.1)), (r2, .inl (cI, 8, .inl u.2.2.1)), (r3, .inl (cI, 8, .inl u.2.2.2))]) A) ([.ref x0, .int x1, .int x2, .int x3]).toArray sS 0 0 A := ⟨_, rfl⟩
  refine kk_QQ hQQ.symm ?_
  obtain ⟨hX1, hX2, hX3, hX4⟩ := okX_le hX
  refine lv_aload_n hx hb dX9_reading_0 rfl (lv_at hl 0 rfl) ?_
  refine va_get (D := D) (ci := 8) (v := .ref g0) (C := RX9) (T := TX9) (N := 11) hx hb hts hwX9 hown hK hP 0 rfl rfl 0 (by decide) hf_14 (fun _ h9 => h9) rfl dX9_reading_1 ?_
  refine lv_iload_n hx hb dX9_reading_4 rfl (lv_at hl 1 rfl) ?_
  have o_1 : (cSp C) ≤ 4 := by omega
  refine vp_callSi (W.runV (As := [.int x1]) (rest := []) ⟨hx, hb, hml, hown, hts⟩ (c_X2_hasSpot lL D cI cS g0 (cSp C) (cLa C) (.int (nI (cAg C))) (.ref g1) (.ref g2) (.ref g3) (.ref g4) (.ref g5) x1 o_1) (cwV 1 hts gX9_reading_X2_hasSpot rfl rfl rfl cd_X2_hasSpot ⟨Nat.le_of_ble_eq_true rfl, Nat.le_of_ble_eq_true rfl⟩) ⟨kBp_blind, va_recv hK hP (ci := 1) (q0 := 1) rfl rfl, fun U hU hW => ⟨rfl, by rw [hU]; exact hP.sub [1] rfl, va_K.moved hW.alike hK⟩⟩ rfl rfl hl.1 rfl (lv_room (Nat.le_of_ble_eq_true rfl)) dX9_reading_5 ⟨Nat.le_of_ble_eq_true rfl, Nat.le_of_ble_eq_true rfl⟩) (fun r_2 hw_2 => ?_)
  obtain rfl : r_2 = kb (inB x1 (cSp C)) := hw_2
  -- if (inB x1 (cSp C))
  refine kk_ifb_ne (tgt := 13) hx hb dX9_reading_8 (by decide) (fun hb_3 => ?_) (fun hb_3 => ?_)
  · skip
    obtain ⟨x1N, hx1N, rfl⟩ := inB_t hb_3
    have t_x1 := nI_clamp (show x1N < 2 ^ 31 by omega)
    refine lv_iload_n hx hb dX9_reading_13 rfl (lv_at hl 2 rfl) ?_
    refine vp_callSi (W.runS (As := [.int x2]) (rest := []) ⟨hx, hb, hml, hown, hts⟩ (c_X9_isWatch lL D cI cS x2) (va_cwS 1 hts gX9_reading_X9_isWatch rfl rfl rfl cd_X9_isWatch ⟨Nat.le_of_ble_eq_true rfl, Nat.le_of_ble_eq_true rfl⟩) ⟨kBp_blind, fun U hU hW => ⟨rfl, by rw [hU]; exact hP.sub [] rfl, va_K.moved hW.alike hK⟩⟩ rfl rfl hl.1 rfl (lv_room (Nat.le_of_ble_eq_true rfl)) dX9_reading_14 ⟨Nat.le_of_ble_eq_true rfl, Nat.le_of_ble_eq_true rfl⟩) (fun r_4 hw_4 => ?_)
    obtain rfl : r_4 = kb (inB x2 24) := hw_4
    -- if (inB x2 24)
    refine kk_ifb_eq (tgt := 31) hx hb dX9_reading_17 (by decide) (fun hb_5 => ?_) (fun hb_5 => ?_)
    · skip
      refine lv_bipush (v := (-2 : Int32)) hx hb dX9_reading_31 (by decide +kernel) ?_
      have hq : (-2 : Int32) = sp_reading C E (nI x1N) x2 x3 ∧ E = nx_reading C E (nI x1N) x2 x3 ∧ repM E wf tf vf := by refine ⟨by simp only [sp_reading, hb_3, hb_5, t_x1, cond_true, cond_false], by simp only [nx_reading, hb_3, hb_5, t_x1, cond_true, cond_false], hrM⟩
      refine kk_QQ hQQ ?_
      exact W.iret (v := (-2 : Int32)) hx hb hr (fun t ht hW => ⟨⟨(-2 : Int32), (E, wf, tf, vf), rfl, hq, by show va_P D vwCl _ t.heap; rw [ht]; exact hP⟩, hS.F ht⟩) hS.2.2 dX9_reading_33
    · skip
      obtain ⟨x2N, hx2N, rfl⟩ := inB_t hb_5
      have t_x2 := nI_clamp (show x2N < 2 ^ 31 by omega)
      refine lv_iload_n hx hb dX9_reading_20 rfl (lv_at hl 3 rfl) ?_
      refine lv_iconst (v := nI 0) hx hb dX9_reading_21 (by decide +kernel) ?_
      refine lv_sipush (v := nI 999) hx hb dX9_reading_22 (by decide +kernel) ?_
      have o_6 : 0 < 2 ^ 31 := by omega
      have o_7 : 999 < 2 ^ 31 := by omega
      refine vp_callSi (W.runS (As := [.int x3, .int (nI 0), .int (nI 999)]) (rest := []) ⟨hx, hb, hml, hown, hts⟩ (c_X9_isWithin lL D cI cS x3 0 999 o_6 o_7) (va_cwS 3 hts gX9_reading_X9_isWithin rfl rfl rfl cd_X9_isWithin ⟨Nat.le_of_ble_eq_true rfl, Nat.le_of_ble_eq_true rfl⟩) ⟨kBp_blind, fun U hU hW => ⟨rfl, by rw [hU]; exact hP.sub [] rfl, va_K.moved hW.alike hK⟩⟩ rfl rfl hl.1 rfl (lv_room (Nat.le_of_ble_eq_true rfl)) dX9_reading_25 ⟨Nat.le_of_ble_eq_true rfl, Nat.le_of_ble_eq_true rfl⟩) (fun r_8 hw_8 => ?_)
      obtain rfl : r_8 = kb (wB x3 0 999) := hw_8
      -- if (wB x3 0 999)
      refine kk_ifb_ne (tgt := 34) hx hb dX9_reading_28 (by decide) (fun hb_9 => ?_) (fun hb_9 => ?_)
      · skip
        obtain ⟨x3N, hx3L, hx3N, rfl⟩ := wB_t hb_9
        have t_x3 := nI_clamp (show x3N < 2 ^ 31 by omega)
        refine lv_aload_n hx hb dX9_reading_34 rfl (lv_at hl 0 rfl) ?_
        refine va_get (D := D) (ci := 8) (v := .ref r0) (C := RX9) (T := TX9) (N := 11) hx hb hts hwX9 hown hK hP 0 rfl rfl 4 (by decide) hf_31 (fun _ h9 => h9) rfl dX9_reading_35 ?_
        refine lv_iload_n hx hb dX9_reading_38 rfl (lv_at hl 1 rfl) ?_
        refine lv_iload_n hx hb dX9_reading_39 rfl (lv_at hl 2 rfl) ?_
        refine lv_iload_n hx hb dX9_reading_40 rfl (lv_at hl 3 rfl) ?_
        have o_10 : (mN E) ≤ 8 := by exact hX4
        have hF := va_free (wc := [(r0, .inr (0, [.int (nI (mN E)), .ref r1, .ref r2, .ref r3])), (r1, .inl (cI, 8, .inl wf)), (r2, .inl (cI, 8, .inl tf)), (r3, .inl (cI, 8, .inl vf))]) hD hS hA [2, 3, 4, 5] rfl
        refine va_calli (va_runV (As := [.int (nI x1N), .int (nI x2N), .int (nI x3N)]) (rest := []) ⟨hx, hb, hml, hown, hts⟩ (c_X1_append lL D cI cS _ r0 r1 r2 r3 (mN E) wf tf vf (nI x1N) (nI x2N) (nI x3N) o_10) (cwV 3 hts gX9_reading_X1_append rfl rfl rfl cd_X1_append ⟨Nat.le_of_ble_eq_true rfl, Nat.le_of_ble_eq_true rfl⟩) ⟨kB_blind, va_recv hK hP (ci := 0) (q0 := 2) rfl rfl, fun U hU hW => ⟨rfl, by rw [hU], by rw [hU]; exact hP.sub [2, 3, 4, 5] rfl, va_K.moved hW.alike hK, (hD.sub [2, 3, 4, 5] (by decide) rfl).weaken (fun _ _ _ _ => trivial)⟩⟩ rfl rfl hl.1 rfl (lv_room (Nat.le_of_ble_eq_true rfl)) dX9_reading_41 ⟨Nat.le_of_ble_eq_true rfl, Nat.le_of_ble_eq_true rfl⟩) hS (fun q _ h => hF q h) hF (fun r_11 u_11 t H1 locs ht hvm hw_11 hB hz1 hk1 hS => ?_)
        obtain ⟨dn_11, wg_11, tg_11, vg_11⟩ := u_11
        obtain ⟨hP, hD⟩ := kk_join2 (wc := [(r0, .inr (0, [.int (nI (mN E)), .ref r1, .ref r2, .ref r3])), (r1, .inl (cI, 8, .inl wf)), (r2, .inl (cI, 8, .inl tf)), (r3, .inl (cI, 8, .inl vf))]) (w1 := [(r0, .inr (0, [.int (nI dn_11), .ref r1, .ref r2, .ref r3])), (r1, .inl (cI, 8, .inl wg_11)), (r2, .inl (cI, 8, .inl tg_11)), (r3, .inl (cI, 8, .inl vg_11))]) (ws' := [(x0, .inr (8, [.ref g0, .ref q0, .ref e0, .ref t0, .ref r0, .ref h0, .ref i0, .ref z0, .ref y0, .int tr, .int ft])), (g0, .inr (1, [.int (nI (cSp C)), .int (nI (cLa C)), .int (nI (cAg C)), .ref g1, .ref g2, .ref g3, .ref g4, .ref g5])), (r0, .inr (0, [.int (nI dn_11), .ref r1, .ref r2, .ref r3])), (r1, .inl (cI, 8, .inl wg_11)), (r2, .inl (cI, 8, .inl tg_11)), (r3, .inl (cI, 8, .inl vg_11))]) (wr := [(x0, .inr (8, [.ref g0, .ref q0, .ref e0, .ref t0, .ref r0, .ref h0, .ref i0, .ref z0, .ref y0, .int tr, .int ft])), (g0, .inr (1, [.int (nI (cSp C)), .int (nI (cLa C)), .int (nI (cAg C)), .ref g1, .ref g2, .ref g3, .ref g4, .ref g5]))]) (H1 := H1) hP hD [2, 3, 4, 5] [0, 1] rfl rfl rfl rfl 6 rfl (by decide) [x0, g0, r0, r1, r2, r3] rfl rfl hk1 (by rw [← ht]; exact hB)
        have hw_11 : ((mN E) = 8 ∧ r_11 = (-4) ∧ dn_11 = (mN E) ∧ wg_11 = wf ∧ tg_11 = tf ∧ vg_11 = vf) ∨ ((mN E) < 8 ∧ r_11 = nI (mN E) ∧ dn_11 = (mN E) + 1 ∧ wg_11 = upd wf (mN E) (nI x1N) ∧ tg_11 = upd tf (mN E) (nI x2N) ∧ vg_11 = upd vf (mN E) (nI x3N)) := hw_11
        clear hF hB hk1 hz1 hvm
        clear ht
        generalize H1 = H at hP hS ⊢
        rcases hw_11 with ⟨d1, q1, q2, q3, q4, q5⟩ | ⟨d1, q1, q2, q3, q4, q5⟩
        · skip
          have q3 := q3.symm
          have q4 := q4.symm
          have q5 := q5.symm
          subst q1 q2 q3 q4 q5
          have hq : (-4 : Int32) = sp_reading C E (nI x1N) (nI x2N) (nI x3N) ∧ E = nx_reading C E (nI x1N) (nI x2N) (nI x3N) ∧ repM E wf tf vf := by refine ⟨by simp only [sp_reading, hb_3, hb_5, hb_9, t_x1, t_x2, t_x3, cond_true, cond_false, if_pos d1], by simp only [nx_reading, hb_3, hb_5, hb_9, t_x1, t_x2, t_x3, cond_true, cond_false, if_pos d1], hrM⟩
          refine kk_QQ hQQ ?_
          exact W.iret (v := (-4 : Int32)) hx hb hr (fun t ht hW => ⟨⟨(-4 : Int32), (E, wf, tf, vf), rfl, hq, by show va_P D vwCl _ t.heap; rw [ht]; exact hP⟩, hS.F ht⟩) hS.2.2 dX9_reading_44
        · skip
          subst q1 q2 q3 q4 q5
          have hq : (nI (mN E)) = sp_reading C E (nI x1N) (nI x2N) (nI x3N) ∧ (mApp E x1N x2N x3N) = nx_reading C E (nI x1N) (nI x2N) (nI x3N) ∧ repM (mApp E x1N x2N x3N) (upd wf (mN E) (nI x1N)) (upd tf (mN E) (nI x2N)) (upd vf (mN E) (nI x3N)) := by refine ⟨by simp only [sp_reading, hb_3, hb_5, hb_9, t_x1, t_x2, t_x3, cond_true, cond_false, if_neg (show ¬ mN E = 8 by omega)], by simp only [nx_reading, hb_3, hb_5, hb_9, t_x1, t_x2, t_x3, cond_true, cond_false, if_neg (show ¬ mN E = 8 by omega)], repM_app hrM⟩
          refine kk_QQ hQQ ?_
          exact W.iret (v := nI (mN E)) hx hb hr (fun t ht hW => ⟨⟨nI (mN E), (mApp E x1N x2N x3N, upd wf (mN E) (nI x1N), upd tf (mN E) (nI x2N), upd vf (mN E) (nI x3N)), rfl, hq, by show va_P D vwCl _ t.heap; rw [ht]; exact hP⟩, hS.F ht⟩) hS.2.2 dX9_reading_44
      · skip
        refine lv_bipush (v := (-2 : Int32)) hx hb dX9_reading_31 (by decide +kernel) ?_
        have hq : (-2 : Int32) = sp_reading C E (nI x1N) (nI x2N) x3 ∧ E = nx_reading C E (nI x1N) (nI x2N) x3 ∧ repM E wf tf vf := by refine ⟨by simp only [sp_reading, hb_3, hb_5, hb_9, t_x1, t_x2, cond_true, cond_false], by simp only [nx_reading, hb_3, hb_5, hb_9, t_x1, t_x2, cond_true, cond_false], hrM⟩
        refine kk_QQ hQQ ?_
        exact W.iret (v := (-2 : Int32)) hx hb hr (fun t ht hW => ⟨⟨(-2 : Int32), (E, wf, tf, vf), rfl, hq, by show va_P D vwCl _ t.heap; rw [ht]; exact hP⟩, hS.F ht⟩) hS.2.2 dX9_reading_33
  · skip
    refine lv_iconst (v := (-1 : Int32)) hx hb dX9_reading_11 (by decide +kernel) ?_
    have hq : (-1 : Int32) = sp_reading C E x1 x2 x3 ∧ E = nx_reading C E x1 x2 x3 ∧ repM E wf tf vf := by refine ⟨by simp only [sp_reading, hb_3, cond_true, cond_false], by simp only [nx_reading, hb_3, cond_true, cond_false], hrM⟩
    refine kk_QQ hQQ ?_
    exact W.iret (v := (-1 : Int32)) hx hb hr (fun t ht hW => ⟨⟨(-1 : Int32), (E, wf, tf, vf), rfl, hq, by show va_P D vwCl _ t.heap; rw [ht]; exact hP⟩, hS.F ht⟩) hS.2.2 dX9_reading_12

abbrev rmX9_trace : Room := { frames := 0, cells := 0, slots := 0, locals := 0 }
set_option maxHeartbeats 4000000 in
set_option maxRecDepth 100000 in
theorem c_X9_trace (lL : Launch) (D : va_G) (cI cS : ClassId) (C : Co) (T : Mv) (E : Mv) (x0 : Nat) (g0 : Nat) (q0 : Nat) (e0 : Nat) (t0 : Nat) (r0 : Nat) (h0 : Nat) (i0 : Nat) (z0 : Nat) (y0 : Nat) (tr : Int32) (ft : Int32) (hX : okX C T E) : Met lL yX9_trace wsX9_trace rmX9_trace (va_Pc [.ref x0] (kBp D cI cS [(x0, .inr (8, [.ref g0, .ref q0, .ref e0, .ref t0, .ref r0, .ref h0, .ref i0, .ref z0, .ref y0, .int tr, .int ft]))])) (vp_Si (fun r : Int32 => r = tr)) 0 0 (fun _ => False) := by
  refine Met.ofW (cc := cX9_trace) (maxL := 1) (ret := (some .int)) (by decide) rfl ?_
  intro pP eE sS mM args below meth cC s₁ B hml hv
  obtain ⟨rfl, hP, hK⟩ := hv
  have hx := B.exec
  have hb := B.bytes
  have hr := B.returns
  have hts := atoms_spec (ws := wsX9_trace) B.pre
  have hown : sS.vm.findClass RX9 = some mM.cls := findClass_of_methodNamed B.named
  have hlocks := B.notSynchronized
  have hP : va_P D vwCl [(x0, .inr (8, [.ref g0, .ref q0, .ref e0, .ref t0, .ref r0, .ref h0, .ref i0, .ref z0, .ref y0, .int tr, .int ft]))] sS.heap := hP
  have hf_57 := hts (.fieldLink RX9 57 "OldLamps" "traced" "I") (List.mem_of_getElem? (i := 1) rfl)
  have hwX9 : ∀ w ∈ wsX90, w ∈ wsX9_trace := fun _ h => List.mem_cons_of_mem _ (List.mem_append_right _ h)
  have hl := lv_entry ([.ref x0]) (n := 1) (Nat.le_of_ble_eq_true rfl)
  rw [lg_entry_eq]
  generalize (lg_sl ([.ref x0]) ++ List.replicate (1 - (lg_sl ([.ref x0])).length) Slot.unset).toArray = ls at hl ⊢
  have hl : lv_has ls 1 [(0, .ref x0)] := hl
  obtain ⟨QQ, hQQ⟩ : ∃ QQ : State → Prop, QQ = MQ below (vp_Si (fun r : Int32 => r = tr)) ([.ref x0]).toArray sS 0 0 (fun _ => False) := ⟨_, rfl⟩
  refine kk_QQ hQQ.symm ?_
  refine lv_aload_n hx hb dX9_trace_0 rfl (lv_at hl 0 rfl) ?_
  refine va_get (D := D) (ci := 8) (v := .int tr) (C := RX9) (T := TX9) (N := 11) hx hb hts hwX9 hown hK hP 0 rfl rfl 9 (by decide) hf_57 (fun _ h9 => h9) rfl dX9_trace_1 ?_
  have hq : tr = tr := by rfl
  refine kk_QQ hQQ ?_
  exact W.iret (v := tr) hx hb hr (fun t ht hW => ⟨tr, rfl, hq, ht⟩) (fun q h => by cases h) dX9_trace_4

abbrev rmX9_fault : Room := { frames := 0, cells := 0, slots := 0, locals := 0 }
set_option maxHeartbeats 4000000 in
set_option maxRecDepth 100000 in
theorem c_X9_fault (lL : Launch) (D : va_G) (cI cS : ClassId) (C : Co) (T : Mv) (E : Mv) (x0 : Nat) (g0 : Nat) (q0 : Nat) (e0 : Nat) (t0 : Nat) (r0 : Nat) (h0 : Nat) (i0 : Nat) (z0 : Nat) (y0 : Nat) (tr : Int32) (ft : Int32) (hX : okX C T E) : Met lL yX9_fault wsX9_fault rmX9_fault (va_Pc [.ref x0] (kBp D cI cS [(x0, .inr (8, [.ref g0, .ref q0, .ref e0, .ref t0, .ref r0, .ref h0, .ref i0, .ref z0, .ref y0, .int tr, .int ft]))])) (vp_Si (fun r : Int32 => r = ft)) 0 0 (fun _ => False) := by
  refine Met.ofW (cc := cX9_fault) (maxL := 1) (ret := (some .int)) (by decide) rfl ?_
  intro pP eE sS mM args below meth cC s₁ B hml hv
  obtain ⟨rfl, hP, hK⟩ := hv
  have hx := B.exec
  have hb := B.bytes
  have hr := B.returns
  have hts := atoms_spec (ws := wsX9_fault) B.pre
  have hown : sS.vm.findClass RX9 = some mM.cls := findClass_of_methodNamed B.named
  have hlocks := B.notSynchronized
  have hP : va_P D vwCl [(x0, .inr (8, [.ref g0, .ref q0, .ref e0, .ref t0, .ref r0, .ref h0, .ref i0, .ref z0, .ref y0, .int tr, .int ft]))] sS.heap := hP
  have hf_61 := hts (.fieldLink RX9 61 "OldLamps" "latestFault" "I") (List.mem_of_getElem? (i := 1) rfl)
  have hwX9 : ∀ w ∈ wsX90, w ∈ wsX9_fault := fun _ h => List.mem_cons_of_mem _ (List.mem_append_right _ h)
  have hl := lv_entry ([.ref x0]) (n := 1) (Nat.le_of_ble_eq_true rfl)
  rw [lg_entry_eq]
  generalize (lg_sl ([.ref x0]) ++ List.replicate (1 - (lg_sl ([.ref x0])).length) Slot.unset).toArray = ls at hl ⊢
  have hl : lv_has ls 1 [(0, .ref x0)] := hl
  obtain ⟨QQ, hQQ⟩ : ∃ QQ : State → Prop, QQ = MQ below (vp_Si (fun r : Int32 => r = ft)) ([.ref x0]).toArray sS 0 0 (fun _ => False) := ⟨_, rfl⟩
  refine kk_QQ hQQ.symm ?_
  refine lv_aload_n hx hb dX9_fault_0 rfl (lv_at hl 0 rfl) ?_
  refine va_get (D := D) (ci := 8) (v := .int ft) (C := RX9) (T := TX9) (N := 11) hx hb hts hwX9 hown hK hP 0 rfl rfl 10 (by decide) hf_61 (fun _ h9 => h9) rfl dX9_fault_1 ?_
  have hq : ft = ft := by rfl
  refine kk_QQ hQQ ?_
  exact W.iret (v := ft) hx hb hr (fun t ht hW => ⟨ft, rfl, hq, ht⟩) (fun q h => by cases h) dX9_fault_4
