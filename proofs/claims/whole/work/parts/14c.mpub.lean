theorem ok9_of {C : Co} {M : Mv} (h : okM C M) : ok9 C M := ⟨Nat.le_trans h.1 (by decide), h.2⟩
theorem kdM_of {C : Co} {T E : Mv} {sk sh ki st cl : Nat → Int32} (hX : okX C T E) (h : repC C sk sh ki st cl) : kdM C 9 (-9) (cKi C) ki := by
  refine ⟨fun k hk => ⟨h.2.2.1 k hk, ?_, fun _ => rfl, fun z => ?_⟩, by decide +kernel⟩
  · rcases hX with h2 | ⟨-, -, -, h2, -⟩
    · omega
    · exact h2 k hk
  · have := (okX_le hX).2.1
    omega
theorem wB01 {x : Int32} (h0 : ¬ x = 0) (h1 : ¬ x = nI 1) : wB x 0 1 = false := by
  cases h : wB x 0 1 with
  | false => rfl
  | true =>
    obtain ⟨k, -, hk, e⟩ := wB_t h
    rcases (show k = 0 ∨ k = 1 by omega) with rfl | rfl
    · exact absurd e h0
    · exact absurd e h1

theorem cd_X10_failed : yX10_failed.cls = RX10 ∧ yX10_failed.cls ≠ "java/lang/invoke/MethodHandle" ∧ yX10_failed.cls ≠ "java/lang/invoke/VarHandle" ∧ (parseMethodDescriptor yX10_failed.desc).map (fun d => d.parameters.length) = some 1 := by decide +kernel
theorem cd_X10_isWatch : yX10_isWatch.cls ≠ "java/lang/invoke/MethodHandle" ∧ yX10_isWatch.cls ≠ "java/lang/invoke/VarHandle" ∧ (parseMethodDescriptor yX10_isWatch.desc).map (fun d => d.parameters.length) = some 1 := by decide +kernel
theorem cd_X10_layMove : yX10_layMove.cls = RX10 ∧ yX10_layMove.cls ≠ "java/lang/invoke/MethodHandle" ∧ yX10_layMove.cls ≠ "java/lang/invoke/VarHandle" ∧ (parseMethodDescriptor yX10_layMove.desc).map (fun d => d.parameters.length) = some 4 := by decide +kernel
theorem cd_X10_noLamp : yX10_noLamp.cls = RX10 ∧ yX10_noLamp.cls ≠ "java/lang/invoke/MethodHandle" ∧ yX10_noLamp.cls ≠ "java/lang/invoke/VarHandle" ∧ (parseMethodDescriptor yX10_noLamp.desc).map (fun d => d.parameters.length) = some 1 := by decide +kernel
theorem cd_X10_noSpot : yX10_noSpot.cls = RX10 ∧ yX10_noSpot.cls ≠ "java/lang/invoke/MethodHandle" ∧ yX10_noSpot.cls ≠ "java/lang/invoke/VarHandle" ∧ (parseMethodDescriptor yX10_noSpot.desc).map (fun d => d.parameters.length) = some 1 := by decide +kernel
theorem cd_X10_refused : yX10_refused.cls = RX10 ∧ yX10_refused.cls ≠ "java/lang/invoke/MethodHandle" ∧ yX10_refused.cls ≠ "java/lang/invoke/VarHandle" ∧ (parseMethodDescriptor yX10_refused.desc).map (fun d => d.parameters.length) = some 1 := by decide +kernel
theorem cd_X10_traced : yX10_traced.cls = RX10 ∧ yX10_traced.cls ≠ "java/lang/invoke/MethodHandle" ∧ yX10_traced.cls ≠ "java/lang/invoke/VarHandle" ∧ (parseMethodDescriptor yX10_traced.desc).map (fun d => d.parameters.length) = some 1 := by decide +kernel
abbrev rmX10_sky : Room := { frames := 1, cells := 0, slots := 0, locals := 25 }
set_option maxHeartbeats 4000000 in
set_option maxRecDepth 100000 in
theorem c_X10_sky (lL : Launch) (D : va_G) (cI cS : ClassId) (C : Co) (T : Mv) (E : Mv) (m0 : Nat) (a1 : Nat) (a3 : Nat) (a5 : Nat) (a6 : Nat) (a7 : Nat) (a13 : Nat) (a14 : Nat) (a15 : Nat) (a16 : Nat) (a18 : Nat) (a19 : Nat) (a20 : Nat) (a21 : Nat) (a22 : Nat) (a23 : Nat) (a24 : Nat) (a25 : Nat) (a27 : Nat) (a28 : Nat) (a29 : Nat) (a30 : Nat) (a31 : Nat) (a32 : Nat) (a33 : Nat) (a34 : Nat) (i0 : Int32) (i10 : Int32) (i11 : Int32) (i12 : Int32) (i35 : Int32) (sk : Nat → Int32) (x1 : Int32) (hX : okX C T E) (hrs : ∀ w, w < 6 → sk w = nI (cSk C w)) : Met lL yX10_sky wsX10_sky rmX10_sky (va_Pc [.ref m0, .int x1] (kBp D cI cS [(m0, .inr (9, [.int i0, .ref a1, .int (nI (cSp C)), .ref a3, .int (nI (cLa C)), .ref a5, .ref a6, .ref a7, .int (nI (cAg C)), .int (-9 : Int32), .int i10, .int i11, .int i12, .ref a13, .ref a14, .ref a15, .ref a16, .int (nI (mN T)), .ref a18, .ref a19, .ref a20, .ref a21, .ref a22, .ref a23, .ref a24, .ref a25, .int (nI (mN E)), .ref a27, .ref a28, .ref a29, .ref a30, .ref a31, .ref a32, .ref a33, .ref a34, .int i35])), (a1, .inl (cI, 6, .inl sk))])) (vp_Si (fun r : Int32 => r = sp_sky C x1)) 0 0 (fun _ => False) := by
  refine Met.ofW (cc := cX10_sky) (maxL := 2) (ret := (some .int)) (by decide) rfl ?_
  intro pP eE sS mM args below meth cC s₁ B hml hv
  obtain ⟨rfl, hP, hK⟩ := hv
  have hx := B.exec
  have hb := B.bytes
  have hr := B.returns
  have hts := atoms_spec (ws := wsX10_sky) B.pre
  have hown : sS.vm.findClass RX10 = some mM.cls := findClass_of_methodNamed B.named
  have hlocks := B.notSynchronized
  have hP : va_P D vwCl [(m0, .inr (9, [.int i0, .ref a1, .int (nI (cSp C)), .ref a3, .int (nI (cLa C)), .ref a5, .ref a6, .ref a7, .int (nI (cAg C)), .int (-9 : Int32), .int i10, .int i11, .int i12, .ref a13, .ref a14, .ref a15, .ref a16, .int (nI (mN T)), .ref a18, .ref a19, .ref a20, .ref a21, .ref a22, .ref a23, .ref a24, .ref a25, .int (nI (mN E)), .ref a27, .ref a28, .ref a29, .ref a30, .ref a31, .ref a32, .ref a33, .ref a34, .int i35])), (a1, .inl (cI, 6, .inl sk))] sS.heap := hP
  have hf_7 := hts (.fieldLink RX10 7 "OldLampsModel" "skyOf" "[I") (List.mem_of_getElem? (i := 3) rfl)
  have hf_105 := hts (.fieldLink RX10 105 "OldLampsModel" "lamps" "I") (List.mem_of_getElem? (i := 2) rfl)
  have hk_167 := hts (.constantLong RX10 167 (5)) (List.mem_of_getElem? (i := 1) rfl)
  have hwX10 : ∀ w ∈ wsX100, w ∈ wsX10_sky := fun _ h => List.mem_cons_of_mem _ (List.mem_append_right _ h)
  have hl := lv_entry ([.ref m0, .int x1]) (n := 2) (Nat.le_of_ble_eq_true rfl)
  rw [lg_entry_eq]
  generalize (lg_sl ([.ref m0, .int x1]) ++ List.replicate (2 - (lg_sl ([.ref m0, .int x1])).length) Slot.unset).toArray = ls at hl ⊢
  have hl : lv_has ls 2 [(0, .ref m0), (1, .int x1)] := hl
  obtain ⟨QQ, hQQ⟩ : ∃ QQ : State → Prop, QQ = MQ below (vp_Si (fun r : Int32 => r = sp_sky C x1)) ([.ref m0, .int x1]).toArray sS 0 0 (fun _ => False) := ⟨_, rfl⟩
  refine kk_QQ hQQ.symm ?_
  obtain ⟨hX1, hX2, hX3, hX4⟩ := okX_le hX
  refine lv_iload_n hx hb dX10_sky_0 rfl (lv_at hl 1 rfl) ?_
  refine lv_i2l (v := x1.toInt64) hx hb dX10_sky_1 rfl ?_
  refine lv_lconst (v := lN 0) hx hb dX10_sky_2 (by decide +kernel) ?_
  refine lv_ldc2 (v := (5 : Int64)) hx hb hown hk_167 dX10_sky_3 ?_
  refine kk_topl (y := lN 5) (by decide +kernel) ?_
  refine vp_callSi (W.runS (As := [.long x1.toInt64, .long (lN 0), .long (lN 5)]) (rest := []) ⟨hx, hb, hml, hown, hts⟩ (c_X10_in lL D cI cS x1.toInt64 (lN 0) (lN 5)) (va_cwS 3 hts gX10_sky_X10_in rfl rfl rfl cd_X10_in ⟨Nat.le_of_ble_eq_true rfl, Nat.le_of_ble_eq_true rfl⟩) ⟨kBp_blind, fun U hU hW => ⟨rfl, by rw [hU]; exact hP.sub [] rfl, va_K.moved hW.alike hK⟩⟩ rfl rfl hl.1 rfl (lv_room (Nat.le_of_ble_eq_true rfl)) dX10_sky_6 ⟨Nat.le_of_ble_eq_true rfl, Nat.le_of_ble_eq_true rfl⟩) (fun r_1 hw_1 => ?_)
  obtain rfl : r_1 = kb (inL x1.toInt64 (lN 0) (lN 5)) := hw_1
  refine kk_top (y := kb (wB x1 0 5)) (congrArg kb (inL_w x1 (by omega) (by omega))) ?_
  -- if wB x1 0 5
  refine kk_ifb_ne (tgt := 15) hx hb dX10_sky_9 (by decide) (fun hb_2 => ?_) (fun hb_2 => ?_)
  · skip
    obtain ⟨x1N, hx1L, hx1N, rfl⟩ := wB_t hb_2
    have t_x1 := nI_clamp (show x1N < 2 ^ 31 by omega)
    refine lv_aload_n hx hb dX10_sky_15 rfl (lv_at hl 0 rfl) ?_
    refine va_get (D := D) (ci := 9) (v := .int (nI (cLa C))) (C := RX10) (T := TX10) (N := 36) hx hb hts hwX10 hown hK hP 0 rfl rfl 4 (by decide) hf_105 (fun _ h9 => h9) rfl dX10_sky_16 ?_
    refine kk_if_ne (tgt := 27) hx hb dX10_sky_19 (by decide) (by omega) (fun c_3 => ?_) (fun c_3 => ?_)
    · skip
      have hI : isC C = true := decide_eq_true (by omega)
      refine lv_aload_n hx hb dX10_sky_27 rfl (lv_at hl 0 rfl) ?_
      refine va_get (D := D) (ci := 9) (v := .ref a1) (C := RX10) (T := TX10) (N := 36) hx hb hts hwX10 hown hK hP 0 rfl rfl 1 (by decide) hf_7 (fun _ h9 => h9) rfl dX10_sky_28 ?_
      refine lv_iload_n hx hb dX10_sky_31 rfl (lv_at hl 1 rfl) ?_
      refine kk_iald hx hb hK hP 1 rfl rfl (i := x1N) (by omega) (by decide) dX10_sky_32 ?_
      refine kk_top (y := nI (cSk C x1N)) (hrs _ (by omega)) ?_
      have hq : nI (cSk C x1N) = sp_sky C (nI x1N) := by simp only [sp_sky, hb_2, hI, t_x1, cond_true, cond_false]
      refine kk_QQ hQQ ?_
      exact W.iret (v := nI (cSk C x1N)) hx hb hr (fun t ht hW => ⟨nI (cSk C x1N), rfl, hq, ht⟩) (fun q h => by cases h) dX10_sky_33
    · skip
      have hI : isC C = false := decide_eq_false (by omega)
      refine lv_bipush (v := (-3 : Int32)) hx hb dX10_sky_22 (by decide +kernel) ?_
      refine lv_goto (tgt := 33) hx hb dX10_sky_24 (by decide) ?_
      have hq : (-3 : Int32) = sp_sky C (nI x1N) := by simp only [sp_sky, hb_2, hI, t_x1, cond_true, cond_false]
      refine kk_QQ hQQ ?_
      exact W.iret (v := (-3 : Int32)) hx hb hr (fun t ht hW => ⟨(-3 : Int32), rfl, hq, ht⟩) (fun q h => by cases h) dX10_sky_33
  · skip
    refine lv_bipush (v := (-2 : Int32)) hx hb dX10_sky_12 (by decide +kernel) ?_
    have hq : (-2 : Int32) = sp_sky C x1 := by simp only [sp_sky, hb_2, cond_true, cond_false]
    refine kk_QQ hQQ ?_
    exact W.iret (v := (-2 : Int32)) hx hb hr (fun t ht hW => ⟨(-2 : Int32), rfl, hq, ht⟩) (fun q h => by cases h) dX10_sky_14

abbrev rmX10_shade : Room := { frames := 2, cells := 0, slots := 0, locals := 46 }
set_option maxHeartbeats 4000000 in
set_option maxRecDepth 100000 in
theorem c_X10_shade (lL : Launch) (D : va_G) (cI cS : ClassId) (C : Co) (T : Mv) (E : Mv) (m0 : Nat) (a1 : Nat) (a3 : Nat) (a5 : Nat) (a6 : Nat) (a7 : Nat) (a13 : Nat) (a14 : Nat) (a15 : Nat) (a16 : Nat) (a18 : Nat) (a19 : Nat) (a20 : Nat) (a21 : Nat) (a22 : Nat) (a23 : Nat) (a24 : Nat) (a25 : Nat) (a27 : Nat) (a28 : Nat) (a29 : Nat) (a30 : Nat) (a31 : Nat) (a32 : Nat) (a33 : Nat) (a34 : Nat) (i0 : Int32) (i10 : Int32) (i11 : Int32) (i12 : Int32) (i35 : Int32) (sh : Nat → Int32) (x1 : Int32) (hX : okX C T E) (hrs : ∀ s, s < cSp C → sh s = nI (cSh C s)) : Met lL yX10_shade wsX10_shade rmX10_shade (va_Pc [.ref m0, .int x1] (kBp D cI cS [(m0, .inr (9, [.int i0, .ref a1, .int (nI (cSp C)), .ref a3, .int (nI (cLa C)), .ref a5, .ref a6, .ref a7, .int (nI (cAg C)), .int (-9 : Int32), .int i10, .int i11, .int i12, .ref a13, .ref a14, .ref a15, .ref a16, .int (nI (mN T)), .ref a18, .ref a19, .ref a20, .ref a21, .ref a22, .ref a23, .ref a24, .ref a25, .int (nI (mN E)), .ref a27, .ref a28, .ref a29, .ref a30, .ref a31, .ref a32, .ref a33, .ref a34, .int i35])), (a3, .inl (cI, 4, .inl sh))])) (vp_Si (fun r : Int32 => r = sp_shade C x1)) 0 0 (fun _ => False) := by
  refine Met.ofW (cc := cX10_shade) (maxL := 2) (ret := (some .int)) (by decide) rfl ?_
  intro pP eE sS mM args below meth cC s₁ B hml hv
  obtain ⟨rfl, hP, hK⟩ := hv
  have hx := B.exec
  have hb := B.bytes
  have hr := B.returns
  have hts := atoms_spec (ws := wsX10_shade) B.pre
  have hown : sS.vm.findClass RX10 = some mM.cls := findClass_of_methodNamed B.named
  have hlocks := B.notSynchronized
  have hP : va_P D vwCl [(m0, .inr (9, [.int i0, .ref a1, .int (nI (cSp C)), .ref a3, .int (nI (cLa C)), .ref a5, .ref a6, .ref a7, .int (nI (cAg C)), .int (-9 : Int32), .int i10, .int i11, .int i12, .ref a13, .ref a14, .ref a15, .ref a16, .int (nI (mN T)), .ref a18, .ref a19, .ref a20, .ref a21, .ref a22, .ref a23, .ref a24, .ref a25, .int (nI (mN E)), .ref a27, .ref a28, .ref a29, .ref a30, .ref a31, .ref a32, .ref a33, .ref a34, .int i35])), (a3, .inl (cI, 4, .inl sh))] sS.heap := hP
  have hf_13 := hts (.fieldLink RX10 13 "OldLampsModel" "shadeOf" "[I") (List.mem_of_getElem? (i := 1) rfl)
  have hwX10 : ∀ w ∈ wsX100, w ∈ wsX10_shade := fun _ h => List.mem_cons_of_mem _ (List.mem_append_right _ h)
  have hl := lv_entry ([.ref m0, .int x1]) (n := 2) (Nat.le_of_ble_eq_true rfl)
  rw [lg_entry_eq]
  generalize (lg_sl ([.ref m0, .int x1]) ++ List.replicate (2 - (lg_sl ([.ref m0, .int x1])).length) Slot.unset).toArray = ls at hl ⊢
  have hl : lv_has ls 2 [(0, .ref m0), (1, .int x1)] := hl
  obtain ⟨QQ, hQQ⟩ : ∃ QQ : State → Prop, QQ = MQ below (vp_Si (fun r : Int32 => r = sp_shade C x1)) ([.ref m0, .int x1]).toArray sS 0 0 (fun _ => False) := ⟨_, rfl⟩
  refine kk_QQ hQQ.symm ?_
  obtain ⟨hX1, hX2, hX3, hX4⟩ := okX_le hX
  refine lv_aload_n hx hb dX10_shade_0 rfl (lv_at hl 0 rfl) ?_
  refine lv_iload_n hx hb dX10_shade_1 rfl (lv_at hl 1 rfl) ?_
  have o_1 : (cSp C) ≤ 4 := by omega
  refine vp_callSi (W.runV (As := [.int x1]) (rest := []) ⟨hx, hb, hml, hown, hts⟩ (c_X10_noSpot lL D cI cS m0 a1 a3 a5 a6 a7 a13 a14 a15 a16 a18 a19 a20 a21 a22 a23 a24 a25 a27 a28 a29 a30 a31 a32 a33 a34 i0 (nI (cLa C)) (nI (cAg C)) (-9 : Int32) i10 i11 i12 (nI (mN T)) (nI (mN E)) i35 x1 (cSp C) o_1) (cwV 1 hts gX10_shade_X10_noSpot rfl rfl rfl cd_X10_noSpot ⟨Nat.le_of_ble_eq_true rfl, Nat.le_of_ble_eq_true rfl⟩) ⟨kBp_blind, va_recv hK hP (ci := 9) (q0 := 0) rfl rfl, fun U hU hW => ⟨rfl, by rw [hU]; exact hP.sub [0] rfl, va_K.moved hW.alike hK⟩⟩ rfl rfl hl.1 rfl (lv_room (Nat.le_of_ble_eq_true rfl)) dX10_shade_2 ⟨Nat.le_of_ble_eq_true rfl, Nat.le_of_ble_eq_true rfl⟩) (fun r_2 hw_2 => ?_)
  obtain rfl : r_2 = kb (!inB x1 (cSp C)) := hw_2
  refine kk_ifn_eq (tgt := 12) hx hb dX10_shade_5 (by decide) (fun hb_3 => ?_) (fun hb_3 => ?_)
  · skip
    obtain ⟨x1N, hx1N, rfl⟩ := inB_t hb_3
    have t_x1 := nI_clamp (show x1N < 2 ^ 31 by omega)
    refine lv_aload_n hx hb dX10_shade_12 rfl (lv_at hl 0 rfl) ?_
    refine va_get (D := D) (ci := 9) (v := .ref a3) (C := RX10) (T := TX10) (N := 36) hx hb hts hwX10 hown hK hP 0 rfl rfl 3 (by decide) hf_13 (fun _ h9 => h9) rfl dX10_shade_13 ?_
    refine lv_iload_n hx hb dX10_shade_16 rfl (lv_at hl 1 rfl) ?_
    refine kk_iald hx hb hK hP 1 rfl rfl (i := x1N) (by omega) (by decide) dX10_shade_17 ?_
    refine kk_top (y := nI (cSh C x1N)) (hrs _ hx1N) ?_
    have hq : nI (cSh C x1N) = sp_shade C (nI x1N) := by simp only [sp_shade, hb_3, t_x1, cond_true, cond_false]
    refine kk_QQ hQQ ?_
    exact W.iret (v := nI (cSh C x1N)) hx hb hr (fun t ht hW => ⟨nI (cSh C x1N), rfl, hq, ht⟩) (fun q h => by cases h) dX10_shade_18
  · skip
    refine lv_iconst (v := (-1 : Int32)) hx hb dX10_shade_8 (by decide +kernel) ?_
    refine lv_goto (tgt := 18) hx hb dX10_shade_9 (by decide) ?_
    have hq : (-1 : Int32) = sp_shade C x1 := by simp only [sp_shade, hb_3, cond_true, cond_false]
    refine kk_QQ hQQ ?_
    exact W.iret (v := (-1 : Int32)) hx hb hr (fun t ht hW => ⟨(-1 : Int32), rfl, hq, ht⟩) (fun q h => by cases h) dX10_shade_18

abbrev rmX10_ofLamp : Room := { frames := 2, cells := 0, slots := 0, locals := 46 }
set_option maxHeartbeats 4000000 in
set_option maxRecDepth 100000 in
theorem c_X10_ofLamp (lL : Launch) (D : va_G) (cI cS : ClassId) (C : Co) (T : Mv) (E : Mv) (m0 : Nat) (a1 : Nat) (a3 : Nat) (a5 : Nat) (a6 : Nat) (a7 : Nat) (a13 : Nat) (a14 : Nat) (a15 : Nat) (a16 : Nat) (a18 : Nat) (a19 : Nat) (a20 : Nat) (a21 : Nat) (a22 : Nat) (a23 : Nat) (a24 : Nat) (a25 : Nat) (a27 : Nat) (a28 : Nat) (a29 : Nat) (a30 : Nat) (a31 : Nat) (a32 : Nat) (a33 : Nat) (a34 : Nat) (i0 : Int32) (i10 : Int32) (i11 : Int32) (i12 : Int32) (i35 : Int32) (ki : Nat → Int32) (st : Nat → Int32) (x1 : Int32) (x2 : Int32) (hX : okX C T E) (hrk : ∀ k, k < cLa C → ki k = nI (cKi C k)) (hrs : ∀ k, k < cLa C → st k = nI (cSt C k)) : Met lL yX10_ofLamp wsX10_ofLamp rmX10_ofLamp (va_Pc [.ref m0, .int x1, .int x2] (kBp D cI cS [(m0, .inr (9, [.int i0, .ref a1, .int (nI (cSp C)), .ref a3, .int (nI (cLa C)), .ref a5, .ref a6, .ref a7, .int (nI (cAg C)), .int (-9 : Int32), .int i10, .int i11, .int i12, .ref a13, .ref a14, .ref a15, .ref a16, .int (nI (mN T)), .ref a18, .ref a19, .ref a20, .ref a21, .ref a22, .ref a23, .ref a24, .ref a25, .int (nI (mN E)), .ref a27, .ref a28, .ref a29, .ref a30, .ref a31, .ref a32, .ref a33, .ref a34, .int i35])), (a5, .inl (cI, 4, .inl ki)), (a6, .inl (cI, 4, .inl st))])) (vp_Si (fun r : Int32 => r = sp_ofLamp C x1 x2)) 0 0 (fun _ => False) := by
  refine Met.ofW (cc := cX10_ofLamp) (maxL := 3) (ret := (some .int)) (by decide) rfl ?_
  intro pP eE sS mM args below meth cC s₁ B hml hv
  obtain ⟨rfl, hP, hK⟩ := hv
  have hx := B.exec
  have hb := B.bytes
  have hr := B.returns
  have hts := atoms_spec (ws := wsX10_ofLamp) B.pre
  have hown : sS.vm.findClass RX10 = some mM.cls := findClass_of_methodNamed B.named
  have hlocks := B.notSynchronized
  have hP : va_P D vwCl [(m0, .inr (9, [.int i0, .ref a1, .int (nI (cSp C)), .ref a3, .int (nI (cLa C)), .ref a5, .ref a6, .ref a7, .int (nI (cAg C)), .int (-9 : Int32), .int i10, .int i11, .int i12, .ref a13, .ref a14, .ref a15, .ref a16, .int (nI (mN T)), .ref a18, .ref a19, .ref a20, .ref a21, .ref a22, .ref a23, .ref a24, .ref a25, .int (nI (mN E)), .ref a27, .ref a28, .ref a29, .ref a30, .ref a31, .ref a32, .ref a33, .ref a34, .int i35])), (a5, .inl (cI, 4, .inl ki)), (a6, .inl (cI, 4, .inl st))] sS.heap := hP
  have hf_16 := hts (.fieldLink RX10 16 "OldLampsModel" "kindOf" "[I") (List.mem_of_getElem? (i := 1) rfl)
  have hf_19 := hts (.fieldLink RX10 19 "OldLampsModel" "stoodAt" "[I") (List.mem_of_getElem? (i := 2) rfl)
  have hwX10 : ∀ w ∈ wsX100, w ∈ wsX10_ofLamp := fun _ h => List.mem_cons_of_mem _ (List.mem_append_right _ h)
  have hl := lv_entry ([.ref m0, .int x1, .int x2]) (n := 3) (Nat.le_of_ble_eq_true rfl)
  rw [lg_entry_eq]
  generalize (lg_sl ([.ref m0, .int x1, .int x2]) ++ List.replicate (3 - (lg_sl ([.ref m0, .int x1, .int x2])).length) Slot.unset).toArray = ls at hl ⊢
  have hl : lv_has ls 3 [(0, .ref m0), (1, .int x1), (2, .int x2)] := hl
  obtain ⟨QQ, hQQ⟩ : ∃ QQ : State → Prop, QQ = MQ below (vp_Si (fun r : Int32 => r = sp_ofLamp C x1 x2)) ([.ref m0, .int x1, .int x2]).toArray sS 0 0 (fun _ => False) := ⟨_, rfl⟩
  refine kk_QQ hQQ.symm ?_
  obtain ⟨hX1, hX2, hX3, hX4⟩ := okX_le hX
  refine lv_aload_n hx hb dX10_ofLamp_0 rfl (lv_at hl 0 rfl) ?_
  refine lv_iload_n hx hb dX10_ofLamp_1 rfl (lv_at hl 1 rfl) ?_
  have o_1 : (cLa C) ≤ 4 := by omega
  refine vp_callSi (W.runV (As := [.int x1]) (rest := []) ⟨hx, hb, hml, hown, hts⟩ (c_X10_noLamp lL D cI cS m0 a1 a3 a5 a6 a7 a13 a14 a15 a16 a18 a19 a20 a21 a22 a23 a24 a25 a27 a28 a29 a30 a31 a32 a33 a34 i0 (nI (cSp C)) (nI (cAg C)) (-9 : Int32) i10 i11 i12 (nI (mN T)) (nI (mN E)) i35 x1 (cLa C) o_1) (cwV 1 hts gX10_ofLamp_X10_noLamp rfl rfl rfl cd_X10_noLamp ⟨Nat.le_of_ble_eq_true rfl, Nat.le_of_ble_eq_true rfl⟩) ⟨kBp_blind, va_recv hK hP (ci := 9) (q0 := 0) rfl rfl, fun U hU hW => ⟨rfl, by rw [hU]; exact hP.sub [0] rfl, va_K.moved hW.alike hK⟩⟩ rfl rfl hl.1 rfl (lv_room (Nat.le_of_ble_eq_true rfl)) dX10_ofLamp_2 ⟨Nat.le_of_ble_eq_true rfl, Nat.le_of_ble_eq_true rfl⟩) (fun r_2 hw_2 => ?_)
  obtain rfl : r_2 = kb (!inB x1 (cLa C)) := hw_2
  refine kk_ifn_eq (tgt := 10) hx hb dX10_ofLamp_5 (by decide) (fun hb_3 => ?_) (fun hb_3 => ?_)
  · skip
    obtain ⟨x1N, hx1N, rfl⟩ := inB_t hb_3
    have t_x1 := nI_clamp (show x1N < 2 ^ 31 by omega)
    refine lv_iload_n hx hb dX10_ofLamp_10 rfl (lv_at hl 2 rfl) ?_
    refine lv_if_ne (tgt := 23) hx hb dX10_ofLamp_11 (by decide) (fun c_4 => ?_) (fun c_4 => ?_)
    · skip
      refine lv_iload_n hx hb dX10_ofLamp_23 rfl (lv_at hl 2 rfl) ?_
      refine lv_iconst (v := nI 1) hx hb dX10_ofLamp_24 (by decide +kernel) ?_
      refine lv_icmp_ne (tgt := 37) hx hb dX10_ofLamp_25 (by decide) (fun c_5 => ?_) (fun c_5 => ?_)
      · skip
        refine lv_bipush (v := (-2 : Int32)) hx hb dX10_ofLamp_37 (by decide +kernel) ?_
        have hq : (-2 : Int32) = sp_ofLamp C (nI x1N) x2 := by simp only [sp_ofLamp, hb_3, t_x1, cond_true, cond_false, wB01 c_4 c_5]
        refine kk_QQ hQQ ?_
        exact W.iret (v := (-2 : Int32)) hx hb hr (fun t ht hW => ⟨(-2 : Int32), rfl, hq, ht⟩) (fun q h => by cases h) dX10_ofLamp_39
      · skip
        refine lv_aload_n hx hb dX10_ofLamp_28 rfl (lv_at hl 0 rfl) ?_
        refine va_get (D := D) (ci := 9) (v := .ref a6) (C := RX10) (T := TX10) (N := 36) hx hb hts hwX10 hown hK hP 0 rfl rfl 6 (by decide) hf_19 (fun _ h9 => h9) rfl dX10_ofLamp_29 ?_
        refine lv_iload_n hx hb dX10_ofLamp_32 rfl (lv_at hl 1 rfl) ?_
        refine kk_iald hx hb hK hP 2 rfl rfl (i := x1N) (by omega) (by decide) dX10_ofLamp_33 ?_
        refine kk_top (y := nI (cSt C x1N)) (hrs _ hx1N) ?_
        refine lv_goto (tgt := 39) hx hb dX10_ofLamp_34 (by decide) ?_
        have hq : nI (cSt C x1N) = sp_ofLamp C (nI x1N) x2 := by
          subst c_5
          simp only [sp_ofLamp, hb_3, t_x1, cond_true, cond_false]
          rw [show wB (nI 1) 0 1 = true from by decide +kernel, cond_true, if_neg (by decide +kernel)]
        refine kk_QQ hQQ ?_
        exact W.iret (v := nI (cSt C x1N)) hx hb hr (fun t ht hW => ⟨nI (cSt C x1N), rfl, hq, ht⟩) (fun q h => by cases h) dX10_ofLamp_39
    · skip
      refine lv_aload_n hx hb dX10_ofLamp_14 rfl (lv_at hl 0 rfl) ?_
      refine va_get (D := D) (ci := 9) (v := .ref a5) (C := RX10) (T := TX10) (N := 36) hx hb hts hwX10 hown hK hP 0 rfl rfl 5 (by decide) hf_16 (fun _ h9 => h9) rfl dX10_ofLamp_15 ?_
      refine lv_iload_n hx hb dX10_ofLamp_18 rfl (lv_at hl 1 rfl) ?_
      refine kk_iald hx hb hK hP 1 rfl rfl (i := x1N) (by omega) (by decide) dX10_ofLamp_19 ?_
      refine kk_top (y := nI (cKi C x1N)) (hrk _ hx1N) ?_
      refine lv_goto (tgt := 39) hx hb dX10_ofLamp_20 (by decide) ?_
      have hq : nI (cKi C x1N) = sp_ofLamp C (nI x1N) x2 := by
        subst c_4
        simp only [sp_ofLamp, hb_3, t_x1, cond_true, cond_false]
        rw [show wB (0 : Int32) 0 1 = true from by decide +kernel, cond_true, if_pos (by decide +kernel)]
      refine kk_QQ hQQ ?_
      exact W.iret (v := nI (cKi C x1N)) hx hb hr (fun t ht hW => ⟨nI (cKi C x1N), rfl, hq, ht⟩) (fun q h => by cases h) dX10_ofLamp_39
  · skip
    refine lv_iconst (v := (-1 : Int32)) hx hb dX10_ofLamp_8 (by decide +kernel) ?_
    have hq : (-1 : Int32) = sp_ofLamp C x1 x2 := by simp only [sp_ofLamp, hb_3, cond_true, cond_false]
    refine kk_QQ hQQ ?_
    exact W.iret (v := (-1 : Int32)) hx hb hr (fun t ht hW => ⟨(-1 : Int32), rfl, hq, ht⟩) (fun q h => by cases h) dX10_ofLamp_9

abbrev rmX10_cloud : Room := { frames := 1, cells := 0, slots := 0, locals := 25 }
set_option maxHeartbeats 4000000 in
set_option maxRecDepth 100000 in
theorem c_X10_cloud (lL : Launch) (D : va_G) (cI cS : ClassId) (sz : Nat) (C : Co) (T : Mv) (E : Mv) (m0 : Nat) (a1 : Nat) (a3 : Nat) (a5 : Nat) (a6 : Nat) (a7 : Nat) (a13 : Nat) (a14 : Nat) (a15 : Nat) (a16 : Nat) (a18 : Nat) (a19 : Nat) (a20 : Nat) (a21 : Nat) (a22 : Nat) (a23 : Nat) (a24 : Nat) (a25 : Nat) (a27 : Nat) (a28 : Nat) (a29 : Nat) (a30 : Nat) (a31 : Nat) (a32 : Nat) (a33 : Nat) (a34 : Nat) (i0 : Int32) (i10 : Int32) (i11 : Int32) (i12 : Int32) (i35 : Int32) (sk : Nat → Int32) (sh : Nat → Int32) (ki : Nat → Int32) (st : Nat → Int32) (cl : Nat → Int32) (x1 : Int32) (x2 : Int32) (hX : okX C T E) (hrC : repC C sk sh ki st cl) : Met lL yX10_cloud wsX10_cloud rmX10_cloud (va_Pc [.ref m0, .int x1, .int x2] (kB D cI cS [(m0, .inr (9, [.int i0, .ref a1, .int (nI (cSp C)), .ref a3, .int (nI (cLa C)), .ref a5, .ref a6, .ref a7, .int (nI (cAg C)), .int (-9 : Int32), .int i10, .int i11, .int i12, .ref a13, .ref a14, .ref a15, .ref a16, .int (nI (mN T)), .ref a18, .ref a19, .ref a20, .ref a21, .ref a22, .ref a23, .ref a24, .ref a25, .int (nI (mN E)), .ref a27, .ref a28, .ref a29, .ref a30, .ref a31, .ref a32, .ref a33, .ref a34, .int i35])), (a1, .inl (cI, 6, .inl sk)), (a3, .inl (cI, 4, .inl sh)), (a5, .inl (cI, 4, .inl ki)), (a6, .inl (cI, 4, .inl st)), (a7, .inl (cI, 4, .inl cl))] sz)) (kQi D (fun (r : Int32) (u : Co × (Nat → Int32)) => r = sp_cloud C x1 x2 ∧ u.1 = nx_cloud C x1 x2 ∧ repC u.1 sk sh ki st u.2) (fun u : Co × (Nat → Int32) => [(m0, .inr (9, [.int i0, .ref a1, .int (nI (cSp u.1)), .ref a3, .int (nI (cLa u.1)), .ref a5, .ref a6, .ref a7, .int (nI (cAg u.1)), .int (-9 : Int32), .int i10, .int i11, .int i12, .ref a13, .ref a14, .ref a15, .ref a16, .int (nI (mN T)), .ref a18, .ref a19, .ref a20, .ref a21, .ref a22, .ref a23, .ref a24, .ref a25, .int (nI (mN E)), .ref a27, .ref a28, .ref a29, .ref a30, .ref a31, .ref a32, .ref a33, .ref a34, .int i35])), (a1, .inl (cI, 6, .inl sk)), (a3, .inl (cI, 4, .inl sh)), (a5, .inl (cI, 4, .inl ki)), (a6, .inl (cI, 4, .inl st)), (a7, .inl (cI, 4, .inl u.2))]) (va_A [(m0, .inr (9, [.int i0, .ref a1, .int (nI (cSp C)), .ref a3, .int (nI (cLa C)), .ref a5, .ref a6, .ref a7, .int (nI (cAg C)), .int (-9 : Int32), .int i10, .int i11, .int i12, .ref a13, .ref a14, .ref a15, .ref a16, .int (nI (mN T)), .ref a18, .ref a19, .ref a20, .ref a21, .ref a22, .ref a23, .ref a24, .ref a25, .int (nI (mN E)), .ref a27, .ref a28, .ref a29, .ref a30, .ref a31, .ref a32, .ref a33, .ref a34, .int i35])), (a1, .inl (cI, 6, .inl sk)), (a3, .inl (cI, 4, .inl sh)), (a5, .inl (cI, 4, .inl ki)), (a6, .inl (cI, 4, .inl st)), (a7, .inl (cI, 4, .inl cl))] sz)) 0 0 (va_A [(m0, .inr (9, [.int i0, .ref a1, .int (nI (cSp C)), .ref a3, .int (nI (cLa C)), .ref a5, .ref a6, .ref a7, .int (nI (cAg C)), .int (-9 : Int32), .int i10, .int i11, .int i12, .ref a13, .ref a14, .ref a15, .ref a16, .int (nI (mN T)), .ref a18, .ref a19, .ref a20, .ref a21, .ref a22, .ref a23, .ref a24, .ref a25, .int (nI (mN E)), .ref a27, .ref a28, .ref a29, .ref a30, .ref a31, .ref a32, .ref a33, .ref a34, .int i35])), (a1, .inl (cI, 6, .inl sk)), (a3, .inl (cI, 4, .inl sh)), (a5, .inl (cI, 4, .inl ki)), (a6, .inl (cI, 4, .inl st)), (a7, .inl (cI, 4, .inl cl))] sz) := by
  refine Met.ofW (cc := cX10_cloud) (maxL := 4) (ret := (some .int)) (by decide) rfl ?_
  intro pP eE sS mM args below meth cC s₁ B hml hv
  obtain ⟨rfl, hsz, hP, hK, hD0⟩ := hv
  have hx := B.exec
  have hb := B.bytes
  have hr := B.returns
  have hts := atoms_spec (ws := wsX10_cloud) B.pre
  have hown : sS.vm.findClass RX10 = some mM.cls := findClass_of_methodNamed B.named
  have hlocks := B.notSynchronized
  subst hsz
  have hD := hD0.self (sz := sS.heap.size)
  generalize hAe : va_A [(m0, .inr (9, [.int i0, .ref a1, .int (nI (cSp C)), .ref a3, .int (nI (cLa C)), .ref a5, .ref a6, .ref a7, .int (nI (cAg C)), .int (-9 : Int32), .int i10, .int i11, .int i12, .ref a13, .ref a14, .ref a15, .ref a16, .int (nI (mN T)), .ref a18, .ref a19, .ref a20, .ref a21, .ref a22, .ref a23, .ref a24, .ref a25, .int (nI (mN E)), .ref a27, .ref a28, .ref a29, .ref a30, .ref a31, .ref a32, .ref a33, .ref a34, .int i35])), (a1, .inl (cI, 6, .inl sk)), (a3, .inl (cI, 4, .inl sh)), (a5, .inl (cI, 4, .inl ki)), (a6, .inl (cI, 4, .inl st)), (a7, .inl (cI, 4, .inl cl))] sS.heap.size = A at hD ⊢
  have hA : ∀ q : Nat, sS.heap.size ≤ q → A q := fun q h => by rw [← hAe]; exact Or.inr h
  have hS : va_S A sS.heap sS.heap [] := va_S.rf
  have hP : va_P D vwCl [(m0, .inr (9, [.int i0, .ref a1, .int (nI (cSp C)), .ref a3, .int (nI (cLa C)), .ref a5, .ref a6, .ref a7, .int (nI (cAg C)), .int (-9 : Int32), .int i10, .int i11, .int i12, .ref a13, .ref a14, .ref a15, .ref a16, .int (nI (mN T)), .ref a18, .ref a19, .ref a20, .ref a21, .ref a22, .ref a23, .ref a24, .ref a25, .int (nI (mN E)), .ref a27, .ref a28, .ref a29, .ref a30, .ref a31, .ref a32, .ref a33, .ref a34, .int i35])), (a1, .inl (cI, 6, .inl sk)), (a3, .inl (cI, 4, .inl sh)), (a5, .inl (cI, 4, .inl ki)), (a6, .inl (cI, 4, .inl st)), (a7, .inl (cI, 4, .inl cl))] sS.heap := hP
  have hD : va_D A [(m0, .inr (9, [.int i0, .ref a1, .int (nI (cSp C)), .ref a3, .int (nI (cLa C)), .ref a5, .ref a6, .ref a7, .int (nI (cAg C)), .int (-9 : Int32), .int i10, .int i11, .int i12, .ref a13, .ref a14, .ref a15, .ref a16, .int (nI (mN T)), .ref a18, .ref a19, .ref a20, .ref a21, .ref a22, .ref a23, .ref a24, .ref a25, .int (nI (mN E)), .ref a27, .ref a28, .ref a29, .ref a30, .ref a31, .ref a32, .ref a33, .ref a34, .int i35])), (a1, .inl (cI, 6, .inl sk)), (a3, .inl (cI, 4, .inl sh)), (a5, .inl (cI, 4, .inl ki)), (a6, .inl (cI, 4, .inl st)), (a7, .inl (cI, 4, .inl cl))] := hD
  have hf_22 := hts (.fieldLink RX10 22 "OldLampsModel" "cloudOf" "[I") (List.mem_of_getElem? (i := 4) rfl)
  have hf_105 := hts (.fieldLink RX10 105 "OldLampsModel" "lamps" "I") (List.mem_of_getElem? (i := 1) rfl)
  have hk_175 := hts (.constantLong RX10 175 (3)) (List.mem_of_getElem? (i := 2) rfl)
  have hk_177 := hts (.constantLong RX10 177 (9)) (List.mem_of_getElem? (i := 3) rfl)
  have hwX10 : ∀ w ∈ wsX100, w ∈ wsX10_cloud := fun _ h => List.mem_cons_of_mem _ (List.mem_append_right _ h)
  have hl := lv_entry ([.ref m0, .int x1, .int x2]) (n := 4) (Nat.le_of_ble_eq_true rfl)
  rw [lg_entry_eq]
  generalize (lg_sl ([.ref m0, .int x1, .int x2]) ++ List.replicate (4 - (lg_sl ([.ref m0, .int x1, .int x2])).length) Slot.unset).toArray = ls at hl ⊢
  have hl : lv_has ls 4 [(0, .ref m0), (1, .int x1), (2, .int x2)] := hl
  obtain ⟨QQ, hQQ⟩ : ∃ QQ : State → Prop, QQ = MQ below (kQi D (fun (r : Int32) (u : Co × (Nat → Int32)) => r = sp_cloud C x1 x2 ∧ u.1 = nx_cloud C x1 x2 ∧ repC u.1 sk sh ki st u.2) (fun u : Co × (Nat → Int32) => [(m0, .inr (9, [.int i0, .ref a1, .int (nI (cSp u.1)), .ref a3, .int (nI (cLa u.1)), .ref a5, .ref a6, .ref a7, .int (nI (cAg u.1)), .int (-9 : Int32), .int i10, .int i11, .int i12, .ref a13, .ref a14, .ref a15, .ref a16, .int (nI (mN T)), .ref a18, .ref a19, .ref a20, .ref a21, .ref a22, .ref a23, .ref a24, .ref a25, .int (nI (mN E)), .ref a27, .ref a28, .ref a29, .ref a30, .ref a31, .ref a32, .ref a33, .ref a34, .int i35])), (a1, .inl (cI, 6, .inl sk)), (a3, .inl (cI, 4, .inl sh)), (a5, .inl (cI, 4, .inl ki)), (a6, .inl (cI, 4, .inl st)), (a7, .inl (cI, 4, .inl u.2))]) A) ([.ref m0, .int x1, .int x2]).toArray sS 0 0 A := ⟨_, rfl⟩
  refine kk_QQ hQQ.symm ?_
  obtain ⟨hX1, hX2, hX3, hX4⟩ := okX_le hX
  refine lv_aload_n hx hb dX10_cloud_0 rfl (lv_at hl 0 rfl) ?_
  refine va_get (D := D) (ci := 9) (v := .int (nI (cLa C))) (C := RX10) (T := TX10) (N := 36) hx hb hts hwX10 hown hK hP 0 rfl rfl 4 (by decide) hf_105 (fun _ h9 => h9) rfl dX10_cloud_1 ?_
  refine kk_if_ne (tgt := 10) hx hb dX10_cloud_4 (by decide) (by omega) (fun c_1 => ?_) (fun c_1 => ?_)
  · skip
    have hI : isC C = true := decide_eq_true (by omega)
    refine lv_iload_n hx hb dX10_cloud_10 rfl (lv_at hl 1 rfl) ?_
    refine lv_i2l (v := x1.toInt64) hx hb dX10_cloud_11 rfl ?_
    refine lv_lconst (v := lN 0) hx hb dX10_cloud_12 (by decide +kernel) ?_
    refine lv_ldc2 (v := (3 : Int64)) hx hb hown hk_175 dX10_cloud_13 ?_
    refine kk_topl (y := lN 3) (by decide +kernel) ?_
    refine vp_callSi (W.runS (As := [.long x1.toInt64, .long (lN 0), .long (lN 3)]) (rest := []) ⟨hx, hb, hml, hown, hts⟩ (c_X10_in lL D cI cS x1.toInt64 (lN 0) (lN 3)) (va_cwS 3 hts gX10_cloud_X10_in rfl rfl rfl cd_X10_in ⟨Nat.le_of_ble_eq_true rfl, Nat.le_of_ble_eq_true rfl⟩) ⟨kBp_blind, fun U hU hW => ⟨rfl, by rw [hU]; exact hP.sub [] rfl, va_K.moved hW.alike hK⟩⟩ rfl rfl hl.1 rfl (lv_room (Nat.le_of_ble_eq_true rfl)) dX10_cloud_16 ⟨Nat.le_of_ble_eq_true rfl, Nat.le_of_ble_eq_true rfl⟩) (fun r_2 hw_2 => ?_)
    obtain rfl : r_2 = kb (inL x1.toInt64 (lN 0) (lN 3)) := hw_2
    refine kk_top (y := kb (inB x1 4)) (congrArg kb (inL_b x1 (by omega))) ?_
    -- if inB x1 4
    refine kk_ifb_eq (tgt := 34) hx hb dX10_cloud_19 (by decide) (fun hb_3 => ?_) (fun hb_3 => ?_)
    · skip
      refine lv_bipush (v := (-2 : Int32)) hx hb dX10_cloud_34 (by decide +kernel) ?_
      have hq : (-2 : Int32) = sp_cloud C x1 x2 ∧ C = nx_cloud C x1 x2 ∧ repC C sk sh ki st cl := by refine ⟨by simp only [sp_cloud, hI, hb_3, cond_true, cond_false], by simp only [nx_cloud, hI, hb_3, cond_true, cond_false], hrC⟩
      refine kk_QQ hQQ ?_
      exact W.iret (v := (-2 : Int32)) hx hb hr (fun t ht hW => ⟨⟨(-2 : Int32), (C, cl), rfl, hq, by show va_P D vwCl _ t.heap; rw [ht]; exact hP⟩, hS.F ht⟩) hS.2.2 dX10_cloud_36
    · skip
      obtain ⟨x1N, hx1N, rfl⟩ := inB_t hb_3
      have t_x1 := nI_clamp (show x1N < 2 ^ 31 by omega)
      refine lv_iload_n hx hb dX10_cloud_22 rfl (lv_at hl 2 rfl) ?_
      refine lv_i2l (v := x2.toInt64) hx hb dX10_cloud_23 rfl ?_
      refine lv_lconst (v := lN 0) hx hb dX10_cloud_24 (by decide +kernel) ?_
      refine lv_ldc2 (v := (9 : Int64)) hx hb hown hk_177 dX10_cloud_25 ?_
      refine kk_topl (y := lN 9) (by decide +kernel) ?_
      refine vp_callSi (W.runS (As := [.long x2.toInt64, .long (lN 0), .long (lN 9)]) (rest := []) ⟨hx, hb, hml, hown, hts⟩ (c_X10_in lL D cI cS x2.toInt64 (lN 0) (lN 9)) (va_cwS 3 hts gX10_cloud_X10_in rfl rfl rfl cd_X10_in ⟨Nat.le_of_ble_eq_true rfl, Nat.le_of_ble_eq_true rfl⟩) ⟨kBp_blind, fun U hU hW => ⟨rfl, by rw [hU]; exact hP.sub [] rfl, va_K.moved hW.alike hK⟩⟩ rfl rfl hl.1 rfl (lv_room (Nat.le_of_ble_eq_true rfl)) dX10_cloud_28 ⟨Nat.le_of_ble_eq_true rfl, Nat.le_of_ble_eq_true rfl⟩) (fun r_4 hw_4 => ?_)
      obtain rfl : r_4 = kb (inL x2.toInt64 (lN 0) (lN 9)) := hw_4
      refine kk_top (y := kb (wB x2 0 9)) (congrArg kb (inL_w x2 (by omega) (by omega))) ?_
      -- if wB x2 0 9
      refine kk_ifb_ne (tgt := 37) hx hb dX10_cloud_31 (by decide) (fun hb_5 => ?_) (fun hb_5 => ?_)
      · skip
        obtain ⟨x2N, hx2L, hx2N, rfl⟩ := wB_t hb_5
        have t_x2 := nI_clamp (show x2N < 2 ^ 31 by omega)
        refine lv_aload_n hx hb dX10_cloud_37 rfl (lv_at hl 0 rfl) ?_
        refine va_get (D := D) (ci := 9) (v := .ref a7) (C := RX10) (T := TX10) (N := 36) hx hb hts hwX10 hown hK hP 0 rfl rfl 7 (by decide) hf_22 (fun _ h9 => h9) rfl dX10_cloud_38 ?_
        refine lv_iload_n hx hb dX10_cloud_41 rfl (lv_at hl 1 rfl) ?_
        refine kk_iald hx hb hK hP 5 rfl rfl (i := x1N) (by omega) (by decide) dX10_cloud_42 ?_
        refine kk_top (y := nI (cCl C x1N)) (hrC.2.2.2.2 _ hx1N) ?_
        refine lv_istore_n (lv' := [(3, .int (nI (cCl C x1N))), (0, .ref m0), (1, .int (nI x1N)), (2, .int (nI x2N))]) hx hb dX10_cloud_43 rfl hl (by decide) rfl (fun ls hl => ?_)
        refine lv_aload_n hx hb dX10_cloud_44 rfl (lv_at hl 1 rfl) ?_
        refine va_get (D := D) (ci := 9) (v := .ref a7) (C := RX10) (T := TX10) (N := 36) hx hb hts hwX10 hown hK hP 0 rfl rfl 7 (by decide) hf_22 (fun _ h9 => h9) rfl dX10_cloud_45 ?_
        refine lv_iload_n hx hb dX10_cloud_48 rfl (lv_at hl 2 rfl) ?_
        refine lv_iload_n hx hb dX10_cloud_49 rfl (lv_at hl 3 rfl) ?_
        refine kk_iast hx hb hK hP hD hS 5 rfl rfl (i := x1N) (by omega) (by decide) dX10_cloud_50 (fun H locs hP hD hS => ?_)
        have hP : va_P D vwCl [(m0, .inr (9, [.int i0, .ref a1, .int (nI (cSp C)), .ref a3, .int (nI (cLa C)), .ref a5, .ref a6, .ref a7, .int (nI (cAg C)), .int (-9 : Int32), .int i10, .int i11, .int i12, .ref a13, .ref a14, .ref a15, .ref a16, .int (nI (mN T)), .ref a18, .ref a19, .ref a20, .ref a21, .ref a22, .ref a23, .ref a24, .ref a25, .int (nI (mN E)), .ref a27, .ref a28, .ref a29, .ref a30, .ref a31, .ref a32, .ref a33, .ref a34, .int i35])), (a1, .inl (cI, 6, .inl sk)), (a3, .inl (cI, 4, .inl sh)), (a5, .inl (cI, 4, .inl ki)), (a6, .inl (cI, 4, .inl st)), (a7, .inl (cI, 4, .inl (upd cl x1N (nI x2N))))] H := hP
        have hD : va_D A [(m0, .inr (9, [.int i0, .ref a1, .int (nI (cSp C)), .ref a3, .int (nI (cLa C)), .ref a5, .ref a6, .ref a7, .int (nI (cAg C)), .int (-9 : Int32), .int i10, .int i11, .int i12, .ref a13, .ref a14, .ref a15, .ref a16, .int (nI (mN T)), .ref a18, .ref a19, .ref a20, .ref a21, .ref a22, .ref a23, .ref a24, .ref a25, .int (nI (mN E)), .ref a27, .ref a28, .ref a29, .ref a30, .ref a31, .ref a32, .ref a33, .ref a34, .int i35])), (a1, .inl (cI, 6, .inl sk)), (a3, .inl (cI, 4, .inl sh)), (a5, .inl (cI, 4, .inl ki)), (a6, .inl (cI, 4, .inl st)), (a7, .inl (cI, 4, .inl (upd cl x1N (nI x2N))))] := hD
        refine lv_iload_n hx hb dX10_cloud_51 rfl (lv_at hl 0 rfl) ?_
        have hq : (nI (cCl C x1N)) = sp_cloud C (nI x1N) (nI x2N) ∧ (cCld C x1N x2N) = nx_cloud C (nI x1N) (nI x2N) ∧ repC (cCld C x1N x2N) sk sh ki st (upd cl x1N (nI x2N)) := by refine ⟨by simp only [sp_cloud, hI, hb_3, hb_5, t_x1, t_x2, cond_true, cond_false], by simp only [nx_cloud, hI, hb_3, hb_5, t_x1, t_x2, cond_true, cond_false], repC_cld hrC⟩
        refine kk_QQ hQQ ?_
        exact W.iret (v := nI (cCl C x1N)) hx hb hr (fun t ht hW => ⟨⟨nI (cCl C x1N), (cCld C x1N x2N, upd cl x1N (nI x2N)), rfl, hq, by show va_P D vwCl _ t.heap; rw [ht]; exact hP⟩, hS.F ht⟩) hS.2.2 dX10_cloud_52
      · skip
        refine lv_bipush (v := (-2 : Int32)) hx hb dX10_cloud_34 (by decide +kernel) ?_
        have hq : (-2 : Int32) = sp_cloud C (nI x1N) x2 ∧ C = nx_cloud C (nI x1N) x2 ∧ repC C sk sh ki st cl := by refine ⟨by simp only [sp_cloud, hI, hb_3, hb_5, t_x1, cond_true, cond_false], by simp only [nx_cloud, hI, hb_3, hb_5, t_x1, cond_true, cond_false], hrC⟩
        refine kk_QQ hQQ ?_
        exact W.iret (v := (-2 : Int32)) hx hb hr (fun t ht hW => ⟨⟨(-2 : Int32), (C, cl), rfl, hq, by show va_P D vwCl _ t.heap; rw [ht]; exact hP⟩, hS.F ht⟩) hS.2.2 dX10_cloud_36
  · skip
    have hI : isC C = false := decide_eq_false (by omega)
    refine lv_bipush (v := (-3 : Int32)) hx hb dX10_cloud_7 (by decide +kernel) ?_
    have hq : (-3 : Int32) = sp_cloud C x1 x2 ∧ C = nx_cloud C x1 x2 ∧ repC C sk sh ki st cl := by refine ⟨by simp only [sp_cloud, hI, cond_true, cond_false], by simp only [nx_cloud, hI, cond_true, cond_false], hrC⟩
    refine kk_QQ hQQ ?_
    exact W.iret (v := (-3 : Int32)) hx hb hr (fun t ht hW => ⟨⟨(-3 : Int32), (C, cl), rfl, hq, by show va_P D vwCl _ t.heap; rw [ht]; exact hP⟩, hS.F ht⟩) hS.2.2 dX10_cloud_9

abbrev rmX10_age : Room := { frames := 1, cells := 0, slots := 0, locals := 25 }
set_option maxHeartbeats 4000000 in
set_option maxRecDepth 100000 in
theorem c_X10_age (lL : Launch) (D : va_G) (cI cS : ClassId) (sz : Nat) (C : Co) (T : Mv) (E : Mv) (m0 : Nat) (a1 : Nat) (a3 : Nat) (a5 : Nat) (a6 : Nat) (a7 : Nat) (a13 : Nat) (a14 : Nat) (a15 : Nat) (a16 : Nat) (a18 : Nat) (a19 : Nat) (a20 : Nat) (a21 : Nat) (a22 : Nat) (a23 : Nat) (a24 : Nat) (a25 : Nat) (a27 : Nat) (a28 : Nat) (a29 : Nat) (a30 : Nat) (a31 : Nat) (a32 : Nat) (a33 : Nat) (a34 : Nat) (i0 : Int32) (i10 : Int32) (i11 : Int32) (i12 : Int32) (i35 : Int32) (x1 : Int32) (hX : okX C T E) : Met lL yX10_age wsX10_age rmX10_age (va_Pc [.ref m0, .int x1] (kB D cI cS [(m0, .inr (9, [.int i0, .ref a1, .int (nI (cSp C)), .ref a3, .int (nI (cLa C)), .ref a5, .ref a6, .ref a7, .int (nI (cAg C)), .int (-9 : Int32), .int i10, .int i11, .int i12, .ref a13, .ref a14, .ref a15, .ref a16, .int (nI (mN T)), .ref a18, .ref a19, .ref a20, .ref a21, .ref a22, .ref a23, .ref a24, .ref a25, .int (nI (mN E)), .ref a27, .ref a28, .ref a29, .ref a30, .ref a31, .ref a32, .ref a33, .ref a34, .int i35]))] sz)) (kQi D (fun (r : Int32) (u : Co) => r = sp_age C x1 ∧ u = nx_age C x1) (fun u : Co => [(m0, .inr (9, [.int i0, .ref a1, .int (nI (cSp u)), .ref a3, .int (nI (cLa u)), .ref a5, .ref a6, .ref a7, .int (nI (cAg u)), .int (-9 : Int32), .int i10, .int i11, .int i12, .ref a13, .ref a14, .ref a15, .ref a16, .int (nI (mN T)), .ref a18, .ref a19, .ref a20, .ref a21, .ref a22, .ref a23, .ref a24, .ref a25, .int (nI (mN E)), .ref a27, .ref a28, .ref a29, .ref a30, .ref a31, .ref a32, .ref a33, .ref a34, .int i35]))]) (va_A [(m0, .inr (9, [.int i0, .ref a1, .int (nI (cSp C)), .ref a3, .int (nI (cLa C)), .ref a5, .ref a6, .ref a7, .int (nI (cAg C)), .int (-9 : Int32), .int i10, .int i11, .int i12, .ref a13, .ref a14, .ref a15, .ref a16, .int (nI (mN T)), .ref a18, .ref a19, .ref a20, .ref a21, .ref a22, .ref a23, .ref a24, .ref a25, .int (nI (mN E)), .ref a27, .ref a28, .ref a29, .ref a30, .ref a31, .ref a32, .ref a33, .ref a34, .int i35]))] sz)) 0 0 (va_A [(m0, .inr (9, [.int i0, .ref a1, .int (nI (cSp C)), .ref a3, .int (nI (cLa C)), .ref a5, .ref a6, .ref a7, .int (nI (cAg C)), .int (-9 : Int32), .int i10, .int i11, .int i12, .ref a13, .ref a14, .ref a15, .ref a16, .int (nI (mN T)), .ref a18, .ref a19, .ref a20, .ref a21, .ref a22, .ref a23, .ref a24, .ref a25, .int (nI (mN E)), .ref a27, .ref a28, .ref a29, .ref a30, .ref a31, .ref a32, .ref a33, .ref a34, .int i35]))] sz) := by
  refine Met.ofW (cc := cX10_age) (maxL := 3) (ret := (some .int)) (by decide) rfl ?_
  intro pP eE sS mM args below meth cC s₁ B hml hv
  obtain ⟨rfl, hsz, hP, hK, hD0⟩ := hv
  have hx := B.exec
  have hb := B.bytes
  have hr := B.returns
  have hts := atoms_spec (ws := wsX10_age) B.pre
  have hown : sS.vm.findClass RX10 = some mM.cls := findClass_of_methodNamed B.named
  have hlocks := B.notSynchronized
  subst hsz
  have hD := hD0.self (sz := sS.heap.size)
  generalize hAe : va_A [(m0, .inr (9, [.int i0, .ref a1, .int (nI (cSp C)), .ref a3, .int (nI (cLa C)), .ref a5, .ref a6, .ref a7, .int (nI (cAg C)), .int (-9 : Int32), .int i10, .int i11, .int i12, .ref a13, .ref a14, .ref a15, .ref a16, .int (nI (mN T)), .ref a18, .ref a19, .ref a20, .ref a21, .ref a22, .ref a23, .ref a24, .ref a25, .int (nI (mN E)), .ref a27, .ref a28, .ref a29, .ref a30, .ref a31, .ref a32, .ref a33, .ref a34, .int i35]))] sS.heap.size = A at hD ⊢
  have hA : ∀ q : Nat, sS.heap.size ≤ q → A q := fun q h => by rw [← hAe]; exact Or.inr h
  have hS : va_S A sS.heap sS.heap [] := va_S.rf
  have hP : va_P D vwCl [(m0, .inr (9, [.int i0, .ref a1, .int (nI (cSp C)), .ref a3, .int (nI (cLa C)), .ref a5, .ref a6, .ref a7, .int (nI (cAg C)), .int (-9 : Int32), .int i10, .int i11, .int i12, .ref a13, .ref a14, .ref a15, .ref a16, .int (nI (mN T)), .ref a18, .ref a19, .ref a20, .ref a21, .ref a22, .ref a23, .ref a24, .ref a25, .int (nI (mN E)), .ref a27, .ref a28, .ref a29, .ref a30, .ref a31, .ref a32, .ref a33, .ref a34, .int i35]))] sS.heap := hP
  have hD : va_D A [(m0, .inr (9, [.int i0, .ref a1, .int (nI (cSp C)), .ref a3, .int (nI (cLa C)), .ref a5, .ref a6, .ref a7, .int (nI (cAg C)), .int (-9 : Int32), .int i10, .int i11, .int i12, .ref a13, .ref a14, .ref a15, .ref a16, .int (nI (mN T)), .ref a18, .ref a19, .ref a20, .ref a21, .ref a22, .ref a23, .ref a24, .ref a25, .int (nI (mN E)), .ref a27, .ref a28, .ref a29, .ref a30, .ref a31, .ref a32, .ref a33, .ref a34, .int i35]))] := hD
  have hf_105 := hts (.fieldLink RX10 105 "OldLampsModel" "lamps" "I") (List.mem_of_getElem? (i := 2) rfl)
  have hf_158 := hts (.fieldLink RX10 158 "OldLampsModel" "ageNow" "I") (List.mem_of_getElem? (i := 3) rfl)
  have hk_179 := hts (.constantLong RX10 179 (12)) (List.mem_of_getElem? (i := 1) rfl)
  have hwX10 : ∀ w ∈ wsX100, w ∈ wsX10_age := fun _ h => List.mem_cons_of_mem _ (List.mem_append_right _ h)
  have hl := lv_entry ([.ref m0, .int x1]) (n := 3) (Nat.le_of_ble_eq_true rfl)
  rw [lg_entry_eq]
  generalize (lg_sl ([.ref m0, .int x1]) ++ List.replicate (3 - (lg_sl ([.ref m0, .int x1])).length) Slot.unset).toArray = ls at hl ⊢
  have hl : lv_has ls 3 [(0, .ref m0), (1, .int x1)] := hl
  obtain ⟨QQ, hQQ⟩ : ∃ QQ : State → Prop, QQ = MQ below (kQi D (fun (r : Int32) (u : Co) => r = sp_age C x1 ∧ u = nx_age C x1) (fun u : Co => [(m0, .inr (9, [.int i0, .ref a1, .int (nI (cSp u)), .ref a3, .int (nI (cLa u)), .ref a5, .ref a6, .ref a7, .int (nI (cAg u)), .int (-9 : Int32), .int i10, .int i11, .int i12, .ref a13, .ref a14, .ref a15, .ref a16, .int (nI (mN T)), .ref a18, .ref a19, .ref a20, .ref a21, .ref a22, .ref a23, .ref a24, .ref a25, .int (nI (mN E)), .ref a27, .ref a28, .ref a29, .ref a30, .ref a31, .ref a32, .ref a33, .ref a34, .int i35]))]) A) ([.ref m0, .int x1]).toArray sS 0 0 A := ⟨_, rfl⟩
  refine kk_QQ hQQ.symm ?_
  obtain ⟨hX1, hX2, hX3, hX4⟩ := okX_le hX
  refine lv_iload_n hx hb dX10_age_0 rfl (lv_at hl 1 rfl) ?_
  refine lv_i2l (v := x1.toInt64) hx hb dX10_age_1 rfl ?_
  refine lv_lconst (v := lN 1) hx hb dX10_age_2 (by decide +kernel) ?_
  refine lv_ldc2 (v := (12 : Int64)) hx hb hown hk_179 dX10_age_3 ?_
  refine kk_topl (y := lN 12) (by decide +kernel) ?_
  refine vp_callSi (W.runS (As := [.long x1.toInt64, .long (lN 1), .long (lN 12)]) (rest := []) ⟨hx, hb, hml, hown, hts⟩ (c_X10_in lL D cI cS x1.toInt64 (lN 1) (lN 12)) (va_cwS 3 hts gX10_age_X10_in rfl rfl rfl cd_X10_in ⟨Nat.le_of_ble_eq_true rfl, Nat.le_of_ble_eq_true rfl⟩) ⟨kBp_blind, fun U hU hW => ⟨rfl, by rw [hU]; exact hP.sub [] rfl, va_K.moved hW.alike hK⟩⟩ rfl rfl hl.1 rfl (lv_room (Nat.le_of_ble_eq_true rfl)) dX10_age_6 ⟨Nat.le_of_ble_eq_true rfl, Nat.le_of_ble_eq_true rfl⟩) (fun r_1 hw_1 => ?_)
  obtain rfl : r_1 = kb (inL x1.toInt64 (lN 1) (lN 12)) := hw_1
  refine kk_top (y := kb (wB x1 1 12)) (congrArg kb (inL_w x1 (by omega) (by omega))) ?_
  -- if wB x1 1 12
  refine kk_ifb_ne (tgt := 15) hx hb dX10_age_9 (by decide) (fun hb_2 => ?_) (fun hb_2 => ?_)
  · skip
    obtain ⟨x1N, hx1L, hx1N, rfl⟩ := wB_t hb_2
    have t_x1 := nI_clamp (show x1N < 2 ^ 31 by omega)
    refine lv_aload_n hx hb dX10_age_15 rfl (lv_at hl 0 rfl) ?_
    refine va_get (D := D) (ci := 9) (v := .int (nI (cLa C))) (C := RX10) (T := TX10) (N := 36) hx hb hts hwX10 hown hK hP 0 rfl rfl 4 (by decide) hf_105 (fun _ h9 => h9) rfl dX10_age_16 ?_
    refine kk_if_ne (tgt := 25) hx hb dX10_age_19 (by decide) (by omega) (fun c_3 => ?_) (fun c_3 => ?_)
    · skip
      have hI : isC C = true := decide_eq_true (by omega)
      refine lv_aload_n hx hb dX10_age_25 rfl (lv_at hl 0 rfl) ?_
      refine va_get (D := D) (ci := 9) (v := .int (nI (cAg C))) (C := RX10) (T := TX10) (N := 36) hx hb hts hwX10 hown hK hP 0 rfl rfl 8 (by decide) hf_158 (fun _ h9 => h9) rfl dX10_age_26 ?_
      refine lv_istore_n (lv' := [(2, .int (nI (cAg C))), (0, .ref m0), (1, .int (nI x1N))]) hx hb dX10_age_29 rfl hl (by decide) rfl (fun ls hl => ?_)
      refine lv_aload_n hx hb dX10_age_30 rfl (lv_at hl 1 rfl) ?_
      refine lv_iload_n hx hb dX10_age_31 rfl (lv_at hl 2 rfl) ?_
      refine va_put (D := D) (ci := 9) (v := .int (nI x1N)) (ty := .int) (C := RX10) (T := TX10) (N := 36) hx hb hts hwX10 tyX10 tyX10_ok nmX10 hown hK hP hD hS 0 rfl rfl 8 (by decide) hf_158 (fun _ h9 => h9) rfl (by decide +kernel) rfl rfl (Nat.le_of_ble_eq_true rfl) dX10_age_32 (fun H locs hP hD hS => ?_)
      have hP : va_P D vwCl [(m0, .inr (9, [.int i0, .ref a1, .int (nI (cSp C)), .ref a3, .int (nI (cLa C)), .ref a5, .ref a6, .ref a7, .int (nI x1N), .int (-9 : Int32), .int i10, .int i11, .int i12, .ref a13, .ref a14, .ref a15, .ref a16, .int (nI (mN T)), .ref a18, .ref a19, .ref a20, .ref a21, .ref a22, .ref a23, .ref a24, .ref a25, .int (nI (mN E)), .ref a27, .ref a28, .ref a29, .ref a30, .ref a31, .ref a32, .ref a33, .ref a34, .int i35]))] H := hP
      have hD : va_D A [(m0, .inr (9, [.int i0, .ref a1, .int (nI (cSp C)), .ref a3, .int (nI (cLa C)), .ref a5, .ref a6, .ref a7, .int (nI x1N), .int (-9 : Int32), .int i10, .int i11, .int i12, .ref a13, .ref a14, .ref a15, .ref a16, .int (nI (mN T)), .ref a18, .ref a19, .ref a20, .ref a21, .ref a22, .ref a23, .ref a24, .ref a25, .int (nI (mN E)), .ref a27, .ref a28, .ref a29, .ref a30, .ref a31, .ref a32, .ref a33, .ref a34, .int i35]))] := hD
      refine lv_iload_n hx hb dX10_age_35 rfl (lv_at hl 0 rfl) ?_
      have hq : (nI (cAg C)) = sp_age C (nI x1N) ∧ (cAge C x1N) = nx_age C (nI x1N) := by refine ⟨by simp only [sp_age, hb_2, hI, t_x1, cond_true, cond_false], by simp only [nx_age, hb_2, hI, t_x1, cond_true, cond_false]⟩
      refine kk_QQ hQQ ?_
      exact W.iret (v := nI (cAg C)) hx hb hr (fun t ht hW => ⟨⟨nI (cAg C), (cAge C x1N), rfl, hq, by show va_P D vwCl _ t.heap; rw [ht]; exact hP⟩, hS.F ht⟩) hS.2.2 dX10_age_36
    · skip
      have hI : isC C = false := decide_eq_false (by omega)
      refine lv_bipush (v := (-3 : Int32)) hx hb dX10_age_22 (by decide +kernel) ?_
      have hq : (-3 : Int32) = sp_age C (nI x1N) ∧ C = nx_age C (nI x1N) := by refine ⟨by simp only [sp_age, hb_2, hI, t_x1, cond_true, cond_false], by simp only [nx_age, hb_2, hI, t_x1, cond_true, cond_false]⟩
      refine kk_QQ hQQ ?_
      exact W.iret (v := (-3 : Int32)) hx hb hr (fun t ht hW => ⟨⟨(-3 : Int32), C, rfl, hq, by show va_P D vwCl _ t.heap; rw [ht]; exact hP⟩, hS.F ht⟩) hS.2.2 dX10_age_24
  · skip
    refine lv_bipush (v := (-2 : Int32)) hx hb dX10_age_12 (by decide +kernel) ?_
    have hq : (-2 : Int32) = sp_age C x1 ∧ C = nx_age C x1 := by refine ⟨by simp only [sp_age, hb_2, cond_true, cond_false], by simp only [nx_age, hb_2, cond_true, cond_false]⟩
    refine kk_QQ hQQ ?_
    exact W.iret (v := (-2 : Int32)) hx hb hr (fun t ht hW => ⟨⟨(-2 : Int32), C, rfl, hq, by show va_P D vwCl _ t.heap; rw [ht]; exact hP⟩, hS.F ht⟩) hS.2.2 dX10_age_14

abbrev rmX10_layMove : Room := { frames := 0, cells := 0, slots := 0, locals := 0 }
set_option maxHeartbeats 4000000 in
set_option maxRecDepth 100000 in
theorem c_X10_layMove (lL : Launch) (D : va_G) (cI cS : ClassId) (sz : Nat) (m0 : Nat) (a1 : Nat) (a3 : Nat) (a5 : Nat) (a6 : Nat) (a7 : Nat) (a13 : Nat) (a14 : Nat) (a15 : Nat) (a16 : Nat) (a18 : Nat) (a19 : Nat) (a20 : Nat) (a21 : Nat) (a22 : Nat) (a23 : Nat) (a24 : Nat) (a25 : Nat) (a27 : Nat) (a28 : Nat) (a29 : Nat) (a30 : Nat) (a31 : Nat) (a32 : Nat) (a33 : Nat) (a34 : Nat) (i0 : Int32) (i2 : Int32) (i4 : Int32) (i8 : Int32) (i9 : Int32) (i10 : Int32) (i11 : Int32) (i12 : Int32) (i17 : Int32) (i26 : Int32) (i35 : Int32) (mo : Nat → Int32) (mi : Nat → Int32) (mt : Nat → Int32) (k : Nat) (x : Int32) (y : Int32) (z : Int32) (hk : k < 9) : Met lL yX10_layMove wsX10_layMove rmX10_layMove (va_Pc [.ref m0, .int (nI k), .int x, .int y, .int z] (kB D cI cS [(m0, .inr (9, [.int i0, .ref a1, .int i2, .ref a3, .int i4, .ref a5, .ref a6, .ref a7, .int i8, .int i9, .int i10, .int i11, .int i12, .ref a13, .ref a14, .ref a15, .ref a16, .int i17, .ref a18, .ref a19, .ref a20, .ref a21, .ref a22, .ref a23, .ref a24, .ref a25, .int i26, .ref a27, .ref a28, .ref a29, .ref a30, .ref a31, .ref a32, .ref a33, .ref a34, .int i35])), (a18, .inl (cI, 9, .inl mo)), (a19, .inl (cI, 9, .inl mi)), (a20, .inl (cI, 9, .inl mt))] sz)) (kQv D (fun u : Unit => True) (fun u : Unit => [(m0, .inr (9, [.int i0, .ref a1, .int i2, .ref a3, .int i4, .ref a5, .ref a6, .ref a7, .int i8, .int i9, .int i10, .int i11, .int i12, .ref a13, .ref a14, .ref a15, .ref a16, .int i17, .ref a18, .ref a19, .ref a20, .ref a21, .ref a22, .ref a23, .ref a24, .ref a25, .int i26, .ref a27, .ref a28, .ref a29, .ref a30, .ref a31, .ref a32, .ref a33, .ref a34, .int i35])), (a18, .inl (cI, 9, .inl (upd mo k x))), (a19, .inl (cI, 9, .inl (upd mi k y))), (a20, .inl (cI, 9, .inl (upd mt k z)))]) (va_A [(m0, .inr (9, [.int i0, .ref a1, .int i2, .ref a3, .int i4, .ref a5, .ref a6, .ref a7, .int i8, .int i9, .int i10, .int i11, .int i12, .ref a13, .ref a14, .ref a15, .ref a16, .int i17, .ref a18, .ref a19, .ref a20, .ref a21, .ref a22, .ref a23, .ref a24, .ref a25, .int i26, .ref a27, .ref a28, .ref a29, .ref a30, .ref a31, .ref a32, .ref a33, .ref a34, .int i35])), (a18, .inl (cI, 9, .inl mo)), (a19, .inl (cI, 9, .inl mi)), (a20, .inl (cI, 9, .inl mt))] sz)) 0 0 (va_A [(m0, .inr (9, [.int i0, .ref a1, .int i2, .ref a3, .int i4, .ref a5, .ref a6, .ref a7, .int i8, .int i9, .int i10, .int i11, .int i12, .ref a13, .ref a14, .ref a15, .ref a16, .int i17, .ref a18, .ref a19, .ref a20, .ref a21, .ref a22, .ref a23, .ref a24, .ref a25, .int i26, .ref a27, .ref a28, .ref a29, .ref a30, .ref a31, .ref a32, .ref a33, .ref a34, .int i35])), (a18, .inl (cI, 9, .inl mo)), (a19, .inl (cI, 9, .inl mi)), (a20, .inl (cI, 9, .inl mt))] sz) := by
  refine Met.ofW (cc := cX10_layMove) (maxL := 5) (ret := none) (by decide) rfl ?_
  intro pP eE sS mM args below meth cC s₁ B hml hv
  obtain ⟨rfl, hsz, hP, hK, hD0⟩ := hv
  have hx := B.exec
  have hb := B.bytes
  have hr := B.returns
  have hts := atoms_spec (ws := wsX10_layMove) B.pre
  have hown : sS.vm.findClass RX10 = some mM.cls := findClass_of_methodNamed B.named
  have hlocks := B.notSynchronized
  subst hsz
  have hD := hD0.self (sz := sS.heap.size)
  generalize hAe : va_A [(m0, .inr (9, [.int i0, .ref a1, .int i2, .ref a3, .int i4, .ref a5, .ref a6, .ref a7, .int i8, .int i9, .int i10, .int i11, .int i12, .ref a13, .ref a14, .ref a15, .ref a16, .int i17, .ref a18, .ref a19, .ref a20, .ref a21, .ref a22, .ref a23, .ref a24, .ref a25, .int i26, .ref a27, .ref a28, .ref a29, .ref a30, .ref a31, .ref a32, .ref a33, .ref a34, .int i35])), (a18, .inl (cI, 9, .inl mo)), (a19, .inl (cI, 9, .inl mi)), (a20, .inl (cI, 9, .inl mt))] sS.heap.size = A at hD ⊢
  have hA : ∀ q : Nat, sS.heap.size ≤ q → A q := fun q h => by rw [← hAe]; exact Or.inr h
  have hS : va_S A sS.heap sS.heap [] := va_S.rf
  have hP : va_P D vwCl [(m0, .inr (9, [.int i0, .ref a1, .int i2, .ref a3, .int i4, .ref a5, .ref a6, .ref a7, .int i8, .int i9, .int i10, .int i11, .int i12, .ref a13, .ref a14, .ref a15, .ref a16, .int i17, .ref a18, .ref a19, .ref a20, .ref a21, .ref a22, .ref a23, .ref a24, .ref a25, .int i26, .ref a27, .ref a28, .ref a29, .ref a30, .ref a31, .ref a32, .ref a33, .ref a34, .int i35])), (a18, .inl (cI, 9, .inl mo)), (a19, .inl (cI, 9, .inl mi)), (a20, .inl (cI, 9, .inl mt))] sS.heap := hP
  have hD : va_D A [(m0, .inr (9, [.int i0, .ref a1, .int i2, .ref a3, .int i4, .ref a5, .ref a6, .ref a7, .int i8, .int i9, .int i10, .int i11, .int i12, .ref a13, .ref a14, .ref a15, .ref a16, .int i17, .ref a18, .ref a19, .ref a20, .ref a21, .ref a22, .ref a23, .ref a24, .ref a25, .int i26, .ref a27, .ref a28, .ref a29, .ref a30, .ref a31, .ref a32, .ref a33, .ref a34, .int i35])), (a18, .inl (cI, 9, .inl mo)), (a19, .inl (cI, 9, .inl mi)), (a20, .inl (cI, 9, .inl mt))] := hD
  have hf_37 := hts (.fieldLink RX10 37 "OldLampsModel" "moveOf" "[I") (List.mem_of_getElem? (i := 1) rfl)
  have hf_40 := hts (.fieldLink RX10 40 "OldLampsModel" "moveIn" "[I") (List.mem_of_getElem? (i := 2) rfl)
  have hf_43 := hts (.fieldLink RX10 43 "OldLampsModel" "moveTo" "[I") (List.mem_of_getElem? (i := 3) rfl)
  have hwX10 : ∀ w ∈ wsX100, w ∈ wsX10_layMove := fun _ h => List.mem_cons_of_mem _ (List.mem_append_right _ h)
  have hl := lv_entry ([.ref m0, .int (nI k), .int x, .int y, .int z]) (n := 5) (Nat.le_of_ble_eq_true rfl)
  rw [lg_entry_eq]
  generalize (lg_sl ([.ref m0, .int (nI k), .int x, .int y, .int z]) ++ List.replicate (5 - (lg_sl ([.ref m0, .int (nI k), .int x, .int y, .int z])).length) Slot.unset).toArray = ls at hl ⊢
  have hl : lv_has ls 5 [(0, .ref m0), (1, .int (nI k)), (2, .int x), (3, .int y), (4, .int z)] := hl
  obtain ⟨QQ, hQQ⟩ : ∃ QQ : State → Prop, QQ = MQ below (kQv D (fun u : Unit => True) (fun u : Unit => [(m0, .inr (9, [.int i0, .ref a1, .int i2, .ref a3, .int i4, .ref a5, .ref a6, .ref a7, .int i8, .int i9, .int i10, .int i11, .int i12, .ref a13, .ref a14, .ref a15, .ref a16, .int i17, .ref a18, .ref a19, .ref a20, .ref a21, .ref a22, .ref a23, .ref a24, .ref a25, .int i26, .ref a27, .ref a28, .ref a29, .ref a30, .ref a31, .ref a32, .ref a33, .ref a34, .int i35])), (a18, .inl (cI, 9, .inl (upd mo k x))), (a19, .inl (cI, 9, .inl (upd mi k y))), (a20, .inl (cI, 9, .inl (upd mt k z)))]) A) ([.ref m0, .int (nI k), .int x, .int y, .int z]).toArray sS 0 0 A := ⟨_, rfl⟩
  refine kk_QQ hQQ.symm ?_
  refine lv_aload_n hx hb dX10_layMove_0 rfl (lv_at hl 0 rfl) ?_
  refine va_get (D := D) (ci := 9) (v := .ref a18) (C := RX10) (T := TX10) (N := 36) hx hb hts hwX10 hown hK hP 0 rfl rfl 18 (by decide) hf_37 (fun _ h9 => h9) rfl dX10_layMove_1 ?_
  refine lv_iload_n hx hb dX10_layMove_4 rfl (lv_at hl 1 rfl) ?_
  refine lv_iload_n hx hb dX10_layMove_5 rfl (lv_at hl 2 rfl) ?_
  refine kk_iast hx hb hK hP hD hS 1 rfl rfl (i := k) (by omega) (by decide) dX10_layMove_6 (fun H locs hP hD hS => ?_)
  have hP : va_P D vwCl [(m0, .inr (9, [.int i0, .ref a1, .int i2, .ref a3, .int i4, .ref a5, .ref a6, .ref a7, .int i8, .int i9, .int i10, .int i11, .int i12, .ref a13, .ref a14, .ref a15, .ref a16, .int i17, .ref a18, .ref a19, .ref a20, .ref a21, .ref a22, .ref a23, .ref a24, .ref a25, .int i26, .ref a27, .ref a28, .ref a29, .ref a30, .ref a31, .ref a32, .ref a33, .ref a34, .int i35])), (a18, .inl (cI, 9, .inl (upd mo k x))), (a19, .inl (cI, 9, .inl mi)), (a20, .inl (cI, 9, .inl mt))] H := hP
  have hD : va_D A [(m0, .inr (9, [.int i0, .ref a1, .int i2, .ref a3, .int i4, .ref a5, .ref a6, .ref a7, .int i8, .int i9, .int i10, .int i11, .int i12, .ref a13, .ref a14, .ref a15, .ref a16, .int i17, .ref a18, .ref a19, .ref a20, .ref a21, .ref a22, .ref a23, .ref a24, .ref a25, .int i26, .ref a27, .ref a28, .ref a29, .ref a30, .ref a31, .ref a32, .ref a33, .ref a34, .int i35])), (a18, .inl (cI, 9, .inl (upd mo k x))), (a19, .inl (cI, 9, .inl mi)), (a20, .inl (cI, 9, .inl mt))] := hD
  refine lv_aload_n hx hb dX10_layMove_7 rfl (lv_at hl 0 rfl) ?_
  refine va_get (D := D) (ci := 9) (v := .ref a19) (C := RX10) (T := TX10) (N := 36) hx hb hts hwX10 hown hK hP 0 rfl rfl 19 (by decide) hf_40 (fun _ h9 => h9) rfl dX10_layMove_8 ?_
  refine lv_iload_n hx hb dX10_layMove_11 rfl (lv_at hl 1 rfl) ?_
  refine lv_iload_n hx hb dX10_layMove_12 rfl (lv_at hl 3 rfl) ?_
  refine kk_iast hx hb hK hP hD hS 2 rfl rfl (i := k) (by omega) (by decide) dX10_layMove_13 (fun H locs hP hD hS => ?_)
  have hP : va_P D vwCl [(m0, .inr (9, [.int i0, .ref a1, .int i2, .ref a3, .int i4, .ref a5, .ref a6, .ref a7, .int i8, .int i9, .int i10, .int i11, .int i12, .ref a13, .ref a14, .ref a15, .ref a16, .int i17, .ref a18, .ref a19, .ref a20, .ref a21, .ref a22, .ref a23, .ref a24, .ref a25, .int i26, .ref a27, .ref a28, .ref a29, .ref a30, .ref a31, .ref a32, .ref a33, .ref a34, .int i35])), (a18, .inl (cI, 9, .inl (upd mo k x))), (a19, .inl (cI, 9, .inl (upd mi k y))), (a20, .inl (cI, 9, .inl mt))] H := hP
  have hD : va_D A [(m0, .inr (9, [.int i0, .ref a1, .int i2, .ref a3, .int i4, .ref a5, .ref a6, .ref a7, .int i8, .int i9, .int i10, .int i11, .int i12, .ref a13, .ref a14, .ref a15, .ref a16, .int i17, .ref a18, .ref a19, .ref a20, .ref a21, .ref a22, .ref a23, .ref a24, .ref a25, .int i26, .ref a27, .ref a28, .ref a29, .ref a30, .ref a31, .ref a32, .ref a33, .ref a34, .int i35])), (a18, .inl (cI, 9, .inl (upd mo k x))), (a19, .inl (cI, 9, .inl (upd mi k y))), (a20, .inl (cI, 9, .inl mt))] := hD
  refine lv_aload_n hx hb dX10_layMove_14 rfl (lv_at hl 0 rfl) ?_
  refine va_get (D := D) (ci := 9) (v := .ref a20) (C := RX10) (T := TX10) (N := 36) hx hb hts hwX10 hown hK hP 0 rfl rfl 20 (by decide) hf_43 (fun _ h9 => h9) rfl dX10_layMove_15 ?_
  refine lv_iload_n hx hb dX10_layMove_18 rfl (lv_at hl 1 rfl) ?_
  refine lv_iload hx hb dX10_layMove_19 (lv_at hl 4 rfl) ?_
  refine kk_iast hx hb hK hP hD hS 3 rfl rfl (i := k) (by omega) (by decide) dX10_layMove_21 (fun H locs hP hD hS => ?_)
  have hP : va_P D vwCl [(m0, .inr (9, [.int i0, .ref a1, .int i2, .ref a3, .int i4, .ref a5, .ref a6, .ref a7, .int i8, .int i9, .int i10, .int i11, .int i12, .ref a13, .ref a14, .ref a15, .ref a16, .int i17, .ref a18, .ref a19, .ref a20, .ref a21, .ref a22, .ref a23, .ref a24, .ref a25, .int i26, .ref a27, .ref a28, .ref a29, .ref a30, .ref a31, .ref a32, .ref a33, .ref a34, .int i35])), (a18, .inl (cI, 9, .inl (upd mo k x))), (a19, .inl (cI, 9, .inl (upd mi k y))), (a20, .inl (cI, 9, .inl (upd mt k z)))] H := hP
  have hD : va_D A [(m0, .inr (9, [.int i0, .ref a1, .int i2, .ref a3, .int i4, .ref a5, .ref a6, .ref a7, .int i8, .int i9, .int i10, .int i11, .int i12, .ref a13, .ref a14, .ref a15, .ref a16, .int i17, .ref a18, .ref a19, .ref a20, .ref a21, .ref a22, .ref a23, .ref a24, .ref a25, .int i26, .ref a27, .ref a28, .ref a29, .ref a30, .ref a31, .ref a32, .ref a33, .ref a34, .int i35])), (a18, .inl (cI, 9, .inl (upd mo k x))), (a19, .inl (cI, 9, .inl (upd mi k y))), (a20, .inl (cI, 9, .inl (upd mt k z)))] := hD
  have hq : True := by trivial
  refine kk_QQ hQQ ?_
  exact W.vret hx hb hr (fun t ht hW => ⟨⟨(), rfl, hq, by show va_P D vwCl _ t.heap; rw [ht]; exact hP⟩, hS.F ht⟩) hS.2.2 dX10_layMove_22

abbrev rmX10_move : Room := { frames := 2, cells := 0, slots := 0, locals := 46 }
set_option maxHeartbeats 4000000 in
set_option maxRecDepth 100000 in
theorem c_X10_move (lL : Launch) (D : va_G) (cI cS : ClassId) (sz : Nat) (C : Co) (T : Mv) (E : Mv) (m0 : Nat) (a1 : Nat) (a3 : Nat) (a5 : Nat) (a6 : Nat) (a7 : Nat) (a13 : Nat) (a14 : Nat) (a15 : Nat) (a16 : Nat) (a18 : Nat) (a19 : Nat) (a20 : Nat) (a21 : Nat) (a22 : Nat) (a23 : Nat) (a24 : Nat) (a25 : Nat) (a27 : Nat) (a28 : Nat) (a29 : Nat) (a30 : Nat) (a31 : Nat) (a32 : Nat) (a33 : Nat) (a34 : Nat) (i0 : Int32) (i10 : Int32) (i11 : Int32) (i12 : Int32) (i35 : Int32) (mo : Nat → Int32) (mi : Nat → Int32) (mt : Nat → Int32) (x1 : Int32) (x2 : Int32) (x3 : Int32) (hX : okX C T E) (hrT : repM T mo mi mt) : Met lL yX10_move wsX10_move rmX10_move (va_Pc [.ref m0, .int x1, .int x2, .int x3] (kB D cI cS [(m0, .inr (9, [.int i0, .ref a1, .int (nI (cSp C)), .ref a3, .int (nI (cLa C)), .ref a5, .ref a6, .ref a7, .int (nI (cAg C)), .int (-9 : Int32), .int i10, .int i11, .int i12, .ref a13, .ref a14, .ref a15, .ref a16, .int (nI (mN T)), .ref a18, .ref a19, .ref a20, .ref a21, .ref a22, .ref a23, .ref a24, .ref a25, .int (nI (mN E)), .ref a27, .ref a28, .ref a29, .ref a30, .ref a31, .ref a32, .ref a33, .ref a34, .int i35])), (a18, .inl (cI, 9, .inl mo)), (a19, .inl (cI, 9, .inl mi)), (a20, .inl (cI, 9, .inl mt))] sz)) (kQi D (fun (r : Int32) (u : Mv × (Nat → Int32) × (Nat → Int32) × (Nat → Int32)) => r = sp_move C T x1 x2 x3 ∧ u.1 = nx_move C T x1 x2 x3 ∧ repM u.1 u.2.1 u.2.2.1 u.2.2.2) (fun u : Mv × (Nat → Int32) × (Nat → Int32) × (Nat → Int32) => [(m0, .inr (9, [.int i0, .ref a1, .int (nI (cSp C)), .ref a3, .int (nI (cLa C)), .ref a5, .ref a6, .ref a7, .int (nI (cAg C)), .int (-9 : Int32), .int i10, .int i11, .int i12, .ref a13, .ref a14, .ref a15, .ref a16, .int (nI (mN u.1)), .ref a18, .ref a19, .ref a20, .ref a21, .ref a22, .ref a23, .ref a24, .ref a25, .int (nI (mN E)), .ref a27, .ref a28, .ref a29, .ref a30, .ref a31, .ref a32, .ref a33, .ref a34, .int i35])), (a18, .inl (cI, 9, .inl u.2.1)), (a19, .inl (cI, 9, .inl u.2.2.1)), (a20, .inl (cI, 9, .inl u.2.2.2))]) (va_A [(m0, .inr (9, [.int i0, .ref a1, .int (nI (cSp C)), .ref a3, .int (nI (cLa C)), .ref a5, .ref a6, .ref a7, .int (nI (cAg C)), .int (-9 : Int32), .int i10, .int i11, .int i12, .ref a13, .ref a14, .ref a15, .ref a16, .int (nI (mN T)), .ref a18, .ref a19, .ref a20, .ref a21, .ref a22, .ref a23, .ref a24, .ref a25, .int (nI (mN E)), .ref a27, .ref a28, .ref a29, .ref a30, .ref a31, .ref a32, .ref a33, .ref a34, .int i35])), (a18, .inl (cI, 9, .inl mo)), (a19, .inl (cI, 9, .inl mi)), (a20, .inl (cI, 9, .inl mt))] sz)) 0 0 (va_A [(m0, .inr (9, [.int i0, .ref a1, .int (nI (cSp C)), .ref a3, .int (nI (cLa C)), .ref a5, .ref a6, .ref a7, .int (nI (cAg C)), .int (-9 : Int32), .int i10, .int i11, .int i12, .ref a13, .ref a14, .ref a15, .ref a16, .int (nI (mN T)), .ref a18, .ref a19, .ref a20, .ref a21, .ref a22, .ref a23, .ref a24, .ref a25, .int (nI (mN E)), .ref a27, .ref a28, .ref a29, .ref a30, .ref a31, .ref a32, .ref a33, .ref a34, .int i35])), (a18, .inl (cI, 9, .inl mo)), (a19, .inl (cI, 9, .inl mi)), (a20, .inl (cI, 9, .inl mt))] sz) := by
  refine Met.ofW (cc := cX10_move) (maxL := 4) (ret := (some .int)) (by decide) rfl ?_
  intro pP eE sS mM args below meth cC s₁ B hml hv
  obtain ⟨rfl, hsz, hP, hK, hD0⟩ := hv
  have hx := B.exec
  have hb := B.bytes
  have hr := B.returns
  have hts := atoms_spec (ws := wsX10_move) B.pre
  have hown : sS.vm.findClass RX10 = some mM.cls := findClass_of_methodNamed B.named
  have hlocks := B.notSynchronized
  subst hsz
  have hD := hD0.self (sz := sS.heap.size)
  generalize hAe : va_A [(m0, .inr (9, [.int i0, .ref a1, .int (nI (cSp C)), .ref a3, .int (nI (cLa C)), .ref a5, .ref a6, .ref a7, .int (nI (cAg C)), .int (-9 : Int32), .int i10, .int i11, .int i12, .ref a13, .ref a14, .ref a15, .ref a16, .int (nI (mN T)), .ref a18, .ref a19, .ref a20, .ref a21, .ref a22, .ref a23, .ref a24, .ref a25, .int (nI (mN E)), .ref a27, .ref a28, .ref a29, .ref a30, .ref a31, .ref a32, .ref a33, .ref a34, .int i35])), (a18, .inl (cI, 9, .inl mo)), (a19, .inl (cI, 9, .inl mi)), (a20, .inl (cI, 9, .inl mt))] sS.heap.size = A at hD ⊢
  have hA : ∀ q : Nat, sS.heap.size ≤ q → A q := fun q h => by rw [← hAe]; exact Or.inr h
  have hS : va_S A sS.heap sS.heap [] := va_S.rf
  have hP : va_P D vwCl [(m0, .inr (9, [.int i0, .ref a1, .int (nI (cSp C)), .ref a3, .int (nI (cLa C)), .ref a5, .ref a6, .ref a7, .int (nI (cAg C)), .int (-9 : Int32), .int i10, .int i11, .int i12, .ref a13, .ref a14, .ref a15, .ref a16, .int (nI (mN T)), .ref a18, .ref a19, .ref a20, .ref a21, .ref a22, .ref a23, .ref a24, .ref a25, .int (nI (mN E)), .ref a27, .ref a28, .ref a29, .ref a30, .ref a31, .ref a32, .ref a33, .ref a34, .int i35])), (a18, .inl (cI, 9, .inl mo)), (a19, .inl (cI, 9, .inl mi)), (a20, .inl (cI, 9, .inl mt))] sS.heap := hP
  have hD : va_D A [(m0, .inr (9, [.int i0, .ref a1, .int (nI (cSp C)), .ref a3, .int (nI (cLa C)), .ref a5, .ref a6, .ref a7, .int (nI (cAg C)), .int (-9 : Int32), .int i10, .int i11, .int i12, .ref a13, .ref a14, .ref a15, .ref a16, .int (nI (mN T)), .ref a18, .ref a19, .ref a20, .ref a21, .ref a22, .ref a23, .ref a24, .ref a25, .int (nI (mN E)), .ref a27, .ref a28, .ref a29, .ref a30, .ref a31, .ref a32, .ref a33, .ref a34, .int i35])), (a18, .inl (cI, 9, .inl mo)), (a19, .inl (cI, 9, .inl mi)), (a20, .inl (cI, 9, .inl mt))] := hD
  have hf_161 := hts (.fieldLink RX10 161 "OldLampsModel" "movesNow" "I") (List.mem_of_getElem? (i := 1) rfl)
  have hwX10 : ∀ w ∈ wsX100, w ∈ wsX10_move := fun _ h => List.mem_cons_of_mem _ (List.mem_append_right _ h)
  have hl := lv_entry ([.ref m0, .int x1, .int x2, .int x3]) (n := 4) (Nat.le_of_ble_eq_true rfl)
  rw [lg_entry_eq]
  generalize (lg_sl ([.ref m0, .int x1, .int x2, .int x3]) ++ List.replicate (4 - (lg_sl ([.ref m0, .int x1, .int x2, .int x3])).length) Slot.unset).toArray = ls at hl ⊢
  have hl : lv_has ls 4 [(0, .ref m0), (1, .int x1), (2, .int x2), (3, .int x3)] := hl
  obtain ⟨QQ, hQQ⟩ : ∃ QQ : State → Prop, QQ = MQ below (kQi D (fun (r : Int32) (u : Mv × (Nat → Int32) × (Nat → Int32) × (Nat → Int32)) => r = sp_move C T x1 x2 x3 ∧ u.1 = nx_move C T x1 x2 x3 ∧ repM u.1 u.2.1 u.2.2.1 u.2.2.2) (fun u : Mv × (Nat → Int32) × (Nat → Int32) × (Nat → Int32) => [(m0, .inr (9, [.int i0, .ref a1, .int (nI (cSp C)), .ref a3, .int (nI (cLa C)), .ref a5, .ref a6, .ref a7, .int (nI (cAg C)), .int (-9 : Int32), .int i10, .int i11, .int i12, .ref a13, .ref a14, .ref a15, .ref a16, .int (nI (mN u.1)), .ref a18, .ref a19, .ref a20, .ref a21, .ref a22, .ref a23, .ref a24, .ref a25, .int (nI (mN E)), .ref a27, .ref a28, .ref a29, .ref a30, .ref a31, .ref a32, .ref a33, .ref a34, .int i35])), (a18, .inl (cI, 9, .inl u.2.1)), (a19, .inl (cI, 9, .inl u.2.2.1)), (a20, .inl (cI, 9, .inl u.2.2.2))]) A) ([.ref m0, .int x1, .int x2, .int x3]).toArray sS 0 0 A := ⟨_, rfl⟩
  refine kk_QQ hQQ.symm ?_
  obtain ⟨hX1, hX2, hX3, hX4⟩ := okX_le hX
  refine lv_aload_n hx hb dX10_move_0 rfl (lv_at hl 0 rfl) ?_
  refine lv_iload_n hx hb dX10_move_1 rfl (lv_at hl 1 rfl) ?_
  have o_1 : (cLa C) ≤ 4 := by omega
  refine vp_callSi (W.runV (As := [.int x1]) (rest := []) ⟨hx, hb, hml, hown, hts⟩ (c_X10_noLamp lL D cI cS m0 a1 a3 a5 a6 a7 a13 a14 a15 a16 a18 a19 a20 a21 a22 a23 a24 a25 a27 a28 a29 a30 a31 a32 a33 a34 i0 (nI (cSp C)) (nI (cAg C)) (-9 : Int32) i10 i11 i12 (nI (mN T)) (nI (mN E)) i35 x1 (cLa C) o_1) (cwV 1 hts gX10_move_X10_noLamp rfl rfl rfl cd_X10_noLamp ⟨Nat.le_of_ble_eq_true rfl, Nat.le_of_ble_eq_true rfl⟩) ⟨kBp_blind, va_recv hK hP (ci := 9) (q0 := 0) rfl rfl, fun U hU hW => ⟨rfl, by rw [hU]; exact hP.sub [0] rfl, va_K.moved hW.alike hK⟩⟩ rfl rfl hl.1 rfl (lv_room (Nat.le_of_ble_eq_true rfl)) dX10_move_2 ⟨Nat.le_of_ble_eq_true rfl, Nat.le_of_ble_eq_true rfl⟩) (fun r_2 hw_2 => ?_)
  obtain rfl : r_2 = kb (!inB x1 (cLa C)) := hw_2
  refine kk_ifn_ne (tgt := 16) hx hb dX10_move_5 (by decide) (fun hb_3 => ?_) (fun hb_3 => ?_)
  · skip
    refine lv_iconst (v := (-1 : Int32)) hx hb dX10_move_16 (by decide +kernel) ?_
    have hq : (-1 : Int32) = sp_move C T x1 x2 x3 ∧ T = nx_move C T x1 x2 x3 ∧ repM T mo mi mt := by refine ⟨by simp only [sp_move, hb_3, cond_true, cond_false], by simp only [nx_move, hb_3, cond_true, cond_false], hrT⟩
    refine kk_QQ hQQ ?_
    exact W.iret (v := (-1 : Int32)) hx hb hr (fun t ht hW => ⟨⟨(-1 : Int32), (T, mo, mi, mt), rfl, hq, by show va_P D vwCl _ t.heap; rw [ht]; exact hP⟩, hS.F ht⟩) hS.2.2 dX10_move_17
  · skip
    obtain ⟨x1N, hx1N, rfl⟩ := inB_t hb_3
    have t_x1 := nI_clamp (show x1N < 2 ^ 31 by omega)
    refine lv_aload_n hx hb dX10_move_8 rfl (lv_at hl 0 rfl) ?_
    refine lv_iload_n hx hb dX10_move_9 rfl (lv_at hl 3 rfl) ?_
    have o_4 : (cSp C) ≤ 4 := by omega
    refine vp_callSi (W.runV (As := [.int x3]) (rest := []) ⟨hx, hb, hml, hown, hts⟩ (c_X10_noSpot lL D cI cS m0 a1 a3 a5 a6 a7 a13 a14 a15 a16 a18 a19 a20 a21 a22 a23 a24 a25 a27 a28 a29 a30 a31 a32 a33 a34 i0 (nI (cLa C)) (nI (cAg C)) (-9 : Int32) i10 i11 i12 (nI (mN T)) (nI (mN E)) i35 x3 (cSp C) o_4) (cwV 1 hts gX10_move_X10_noSpot rfl rfl rfl cd_X10_noSpot ⟨Nat.le_of_ble_eq_true rfl, Nat.le_of_ble_eq_true rfl⟩) ⟨kBp_blind, va_recv hK hP (ci := 9) (q0 := 0) rfl rfl, fun U hU hW => ⟨rfl, by rw [hU]; exact hP.sub [0] rfl, va_K.moved hW.alike hK⟩⟩ rfl rfl hl.1 rfl (lv_room (Nat.le_of_ble_eq_true rfl)) dX10_move_10 ⟨Nat.le_of_ble_eq_true rfl, Nat.le_of_ble_eq_true rfl⟩) (fun r_5 hw_5 => ?_)
    obtain rfl : r_5 = kb (!inB x3 (cSp C)) := hw_5
    refine kk_ifn_eq (tgt := 18) hx hb dX10_move_13 (by decide) (fun hb_6 => ?_) (fun hb_6 => ?_)
    · skip
      obtain ⟨x3N, hx3N, rfl⟩ := inB_t hb_6
      have t_x3 := nI_clamp (show x3N < 2 ^ 31 by omega)
      refine lv_iload_n hx hb dX10_move_18 rfl (lv_at hl 2 rfl) ?_
      refine vp_callSi (W.runS (As := [.int x2]) (rest := []) ⟨hx, hb, hml, hown, hts⟩ (c_X10_isWatch lL D cI cS x2) (va_cwS 1 hts gX10_move_X10_isWatch rfl rfl rfl cd_X10_isWatch ⟨Nat.le_of_ble_eq_true rfl, Nat.le_of_ble_eq_true rfl⟩) ⟨kBp_blind, fun U hU hW => ⟨rfl, by rw [hU]; exact hP.sub [] rfl, va_K.moved hW.alike hK⟩⟩ rfl rfl hl.1 rfl (lv_room (Nat.le_of_ble_eq_true rfl)) dX10_move_19 ⟨Nat.le_of_ble_eq_true rfl, Nat.le_of_ble_eq_true rfl⟩) (fun r_7 hw_7 => ?_)
      obtain rfl : r_7 = kb (inB x2 24) := hw_7
      -- if (inB x2 24)
      refine kk_ifb_ne (tgt := 28) hx hb dX10_move_22 (by decide) (fun hb_8 => ?_) (fun hb_8 => ?_)
      · skip
        obtain ⟨x2N, hx2N, rfl⟩ := inB_t hb_8
        have t_x2 := nI_clamp (show x2N < 2 ^ 31 by omega)
        refine lv_aload_n hx hb dX10_move_28 rfl (lv_at hl 0 rfl) ?_
        refine va_get (D := D) (ci := 9) (v := .int (nI (mN T))) (C := RX10) (T := TX10) (N := 36) hx hb hts hwX10 hown hK hP 0 rfl rfl 17 (by decide) hf_161 (fun _ h9 => h9) rfl dX10_move_29 ?_
        refine lv_bipush (v := nI 8) hx hb dX10_move_32 (by decide +kernel) ?_
        refine kk_icmp_ne (tgt := 40) hx hb dX10_move_34 (by decide) (by omega) (by omega) (fun c_9 => ?_) (fun c_9 => ?_)
        · skip
          refine lv_aload_n hx hb dX10_move_40 rfl (lv_at hl 0 rfl) ?_
          refine lv_aload_n hx hb dX10_move_41 rfl (lv_at hl 0 rfl) ?_
          refine va_get (D := D) (ci := 9) (v := .int (nI (mN T))) (C := RX10) (T := TX10) (N := 36) hx hb hts hwX10 hown hK hP 0 rfl rfl 17 (by decide) hf_161 (fun _ h9 => h9) rfl dX10_move_42 ?_
          refine lv_iload_n hx hb dX10_move_45 rfl (lv_at hl 1 rfl) ?_
          refine lv_iload_n hx hb dX10_move_46 rfl (lv_at hl 2 rfl) ?_
          refine lv_iload_n hx hb dX10_move_47 rfl (lv_at hl 3 rfl) ?_
          have o_10 : (mN T) < 9 := by omega
          have hF := va_free (wc := [(m0, .inr (9, [.int i0, .ref a1, .int (nI (cSp C)), .ref a3, .int (nI (cLa C)), .ref a5, .ref a6, .ref a7, .int (nI (cAg C)), .int (-9 : Int32), .int i10, .int i11, .int i12, .ref a13, .ref a14, .ref a15, .ref a16, .int (nI (mN T)), .ref a18, .ref a19, .ref a20, .ref a21, .ref a22, .ref a23, .ref a24, .ref a25, .int (nI (mN E)), .ref a27, .ref a28, .ref a29, .ref a30, .ref a31, .ref a32, .ref a33, .ref a34, .int i35])), (a18, .inl (cI, 9, .inl mo)), (a19, .inl (cI, 9, .inl mi)), (a20, .inl (cI, 9, .inl mt))]) hD hS hA [0, 1, 2, 3] rfl
          refine va_callv (va_runV (As := [.int (nI (mN T)), .int (nI x1N), .int (nI x2N), .int (nI x3N)]) (rest := []) ⟨hx, hb, hml, hown, hts⟩ (c_X10_layMove lL D cI cS _ m0 a1 a3 a5 a6 a7 a13 a14 a15 a16 a18 a19 a20 a21 a22 a23 a24 a25 a27 a28 a29 a30 a31 a32 a33 a34 i0 (nI (cSp C)) (nI (cLa C)) (nI (cAg C)) (-9 : Int32) i10 i11 i12 (nI (mN T)) (nI (mN E)) i35 mo mi mt (mN T) (nI x1N) (nI x2N) (nI x3N) o_10) (cwV 4 hts gX10_move_X10_layMove rfl rfl rfl cd_X10_layMove ⟨Nat.le_of_ble_eq_true rfl, Nat.le_of_ble_eq_true rfl⟩) ⟨kB_blind, va_recv hK hP (ci := 9) (q0 := 0) rfl rfl, fun U hU hW => ⟨rfl, by rw [hU], by rw [hU]; exact hP.sub [0, 1, 2, 3] rfl, va_K.moved hW.alike hK, (hD.sub [0, 1, 2, 3] (by decide) rfl).weaken (fun _ _ _ _ => trivial)⟩⟩ rfl rfl hl.1 rfl (lv_room (Nat.le_of_ble_eq_true rfl)) dX10_move_48 ⟨Nat.le_of_ble_eq_true rfl, Nat.le_of_ble_eq_true rfl⟩) hS (fun q _ h => hF q h) hF (fun u_11 t H1 locs ht hvm hw_11 hB hz1 hk1 hS => ?_)
          obtain ⟨hP, hD⟩ := kk_join2 (wc := [(m0, .inr (9, [.int i0, .ref a1, .int (nI (cSp C)), .ref a3, .int (nI (cLa C)), .ref a5, .ref a6, .ref a7, .int (nI (cAg C)), .int (-9 : Int32), .int i10, .int i11, .int i12, .ref a13, .ref a14, .ref a15, .ref a16, .int (nI (mN T)), .ref a18, .ref a19, .ref a20, .ref a21, .ref a22, .ref a23, .ref a24, .ref a25, .int (nI (mN E)), .ref a27, .ref a28, .ref a29, .ref a30, .ref a31, .ref a32, .ref a33, .ref a34, .int i35])), (a18, .inl (cI, 9, .inl mo)), (a19, .inl (cI, 9, .inl mi)), (a20, .inl (cI, 9, .inl mt))]) (w1 := [(m0, .inr (9, [.int i0, .ref a1, .int (nI (cSp C)), .ref a3, .int (nI (cLa C)), .ref a5, .ref a6, .ref a7, .int (nI (cAg C)), .int (-9 : Int32), .int i10, .int i11, .int i12, .ref a13, .ref a14, .ref a15, .ref a16, .int (nI (mN T)), .ref a18, .ref a19, .ref a20, .ref a21, .ref a22, .ref a23, .ref a24, .ref a25, .int (nI (mN E)), .ref a27, .ref a28, .ref a29, .ref a30, .ref a31, .ref a32, .ref a33, .ref a34, .int i35])), (a18, .inl (cI, 9, .inl (upd mo (mN T) (nI x1N)))), (a19, .inl (cI, 9, .inl (upd mi (mN T) (nI x2N)))), (a20, .inl (cI, 9, .inl (upd mt (mN T) (nI x3N))))]) (ws' := [(m0, .inr (9, [.int i0, .ref a1, .int (nI (cSp C)), .ref a3, .int (nI (cLa C)), .ref a5, .ref a6, .ref a7, .int (nI (cAg C)), .int (-9 : Int32), .int i10, .int i11, .int i12, .ref a13, .ref a14, .ref a15, .ref a16, .int (nI (mN T)), .ref a18, .ref a19, .ref a20, .ref a21, .ref a22, .ref a23, .ref a24, .ref a25, .int (nI (mN E)), .ref a27, .ref a28, .ref a29, .ref a30, .ref a31, .ref a32, .ref a33, .ref a34, .int i35])), (a18, .inl (cI, 9, .inl (upd mo (mN T) (nI x1N)))), (a19, .inl (cI, 9, .inl (upd mi (mN T) (nI x2N)))), (a20, .inl (cI, 9, .inl (upd mt (mN T) (nI x3N))))]) (wr := []) (H1 := H1) hP hD [0, 1, 2, 3] [] rfl rfl rfl rfl 4 rfl (by decide) [m0, a18, a19, a20] rfl rfl hk1 (by rw [← ht]; exact hB)
          have hw_11 : True := hw_11
          clear hF hB hk1 hz1 hvm
          clear ht
          generalize H1 = H at hP hS ⊢
          refine lv_aload_n hx hb dX10_move_51 rfl (lv_at hl 0 rfl) ?_
          refine lv_dup hx hb dX10_move_52 rfl ?_
          refine va_get (D := D) (ci := 9) (v := .int (nI (mN T))) (C := RX10) (T := TX10) (N := 36) hx hb hts hwX10 hown hK hP 0 rfl rfl 17 (by decide) hf_161 (fun _ h9 => h9) rfl dX10_move_53 ?_
          refine lv_iconst (v := nI 1) hx hb dX10_move_56 (by decide +kernel) ?_
          refine kk_iadd hx hb dX10_move_57 ?_
          refine va_put (D := D) (ci := 9) (v := .int (nI ((mN T) + 1))) (ty := .int) (C := RX10) (T := TX10) (N := 36) hx hb hts hwX10 tyX10 tyX10_ok nmX10 hown hK hP hD hS 0 rfl rfl 17 (by decide) hf_161 (fun _ h9 => h9) rfl (by decide +kernel) rfl rfl (Nat.le_of_ble_eq_true rfl) dX10_move_58 (fun H locs hP hD hS => ?_)
          have hP : va_P D vwCl [(m0, .inr (9, [.int i0, .ref a1, .int (nI (cSp C)), .ref a3, .int (nI (cLa C)), .ref a5, .ref a6, .ref a7, .int (nI (cAg C)), .int (-9 : Int32), .int i10, .int i11, .int i12, .ref a13, .ref a14, .ref a15, .ref a16, .int (nI ((mN T) + 1)), .ref a18, .ref a19, .ref a20, .ref a21, .ref a22, .ref a23, .ref a24, .ref a25, .int (nI (mN E)), .ref a27, .ref a28, .ref a29, .ref a30, .ref a31, .ref a32, .ref a33, .ref a34, .int i35])), (a18, .inl (cI, 9, .inl (upd mo (mN T) (nI x1N)))), (a19, .inl (cI, 9, .inl (upd mi (mN T) (nI x2N)))), (a20, .inl (cI, 9, .inl (upd mt (mN T) (nI x3N))))] H := hP
          have hD : va_D A [(m0, .inr (9, [.int i0, .ref a1, .int (nI (cSp C)), .ref a3, .int (nI (cLa C)), .ref a5, .ref a6, .ref a7, .int (nI (cAg C)), .int (-9 : Int32), .int i10, .int i11, .int i12, .ref a13, .ref a14, .ref a15, .ref a16, .int (nI ((mN T) + 1)), .ref a18, .ref a19, .ref a20, .ref a21, .ref a22, .ref a23, .ref a24, .ref a25, .int (nI (mN E)), .ref a27, .ref a28, .ref a29, .ref a30, .ref a31, .ref a32, .ref a33, .ref a34, .int i35])), (a18, .inl (cI, 9, .inl (upd mo (mN T) (nI x1N)))), (a19, .inl (cI, 9, .inl (upd mi (mN T) (nI x2N)))), (a20, .inl (cI, 9, .inl (upd mt (mN T) (nI x3N))))] := hD
          refine lv_aload_n hx hb dX10_move_61 rfl (lv_at hl 0 rfl) ?_
          refine va_get (D := D) (ci := 9) (v := .int (nI ((mN T) + 1))) (C := RX10) (T := TX10) (N := 36) hx hb hts hwX10 hown hK hP 0 rfl rfl 17 (by decide) hf_161 (fun _ h9 => h9) rfl dX10_move_62 ?_
          refine lv_iconst (v := nI 1) hx hb dX10_move_65 (by decide +kernel) ?_
          refine kk_isub hx hb dX10_move_66 (by omega) ?_
          have hq : (nI (((mN T) + 1) - 1)) = sp_move C T (nI x1N) (nI x2N) (nI x3N) ∧ (mApp T x1N x2N x3N) = nx_move C T (nI x1N) (nI x2N) (nI x3N) ∧ repM (mApp T x1N x2N x3N) (upd mo (mN T) (nI x1N)) (upd mi (mN T) (nI x2N)) (upd mt (mN T) (nI x3N)) := by refine ⟨by simp only [sp_move, hb_3, hb_6, hb_8, t_x1, t_x3, t_x2, cond_true, cond_false, if_neg (show ¬ mN T = 8 by omega)]; rfl, by simp only [nx_move, hb_3, hb_6, hb_8, t_x1, t_x3, t_x2, cond_true, cond_false, if_neg (show ¬ mN T = 8 by omega)], repM_app hrT⟩
          refine kk_QQ hQQ ?_
          exact W.iret (v := nI (((mN T) + 1) - 1)) hx hb hr (fun t ht hW => ⟨⟨nI (((mN T) + 1) - 1), (mApp T x1N x2N x3N, upd mo (mN T) (nI x1N), upd mi (mN T) (nI x2N), upd mt (mN T) (nI x3N)), rfl, hq, by show va_P D vwCl _ t.heap; rw [ht]; exact hP⟩, hS.F ht⟩) hS.2.2 dX10_move_67
        · skip
          refine lv_bipush (v := (-4 : Int32)) hx hb dX10_move_37 (by decide +kernel) ?_
          have hq : (-4 : Int32) = sp_move C T (nI x1N) (nI x2N) (nI x3N) ∧ T = nx_move C T (nI x1N) (nI x2N) (nI x3N) ∧ repM T mo mi mt := by refine ⟨by simp only [sp_move, hb_3, hb_6, hb_8, t_x1, t_x3, t_x2, cond_true, cond_false, if_pos (show mN T = 8 by omega)], by simp only [nx_move, hb_3, hb_6, hb_8, t_x1, t_x3, t_x2, cond_true, cond_false, if_pos (show mN T = 8 by omega)], hrT⟩
          refine kk_QQ hQQ ?_
          exact W.iret (v := (-4 : Int32)) hx hb hr (fun t ht hW => ⟨⟨(-4 : Int32), (T, mo, mi, mt), rfl, hq, by show va_P D vwCl _ t.heap; rw [ht]; exact hP⟩, hS.F ht⟩) hS.2.2 dX10_move_39
      · skip
        refine lv_bipush (v := (-2 : Int32)) hx hb dX10_move_25 (by decide +kernel) ?_
        have hq : (-2 : Int32) = sp_move C T (nI x1N) x2 (nI x3N) ∧ T = nx_move C T (nI x1N) x2 (nI x3N) ∧ repM T mo mi mt := by refine ⟨by simp only [sp_move, hb_3, hb_6, hb_8, t_x1, t_x3, cond_true, cond_false], by simp only [nx_move, hb_3, hb_6, hb_8, t_x1, t_x3, cond_true, cond_false], hrT⟩
        refine kk_QQ hQQ ?_
        exact W.iret (v := (-2 : Int32)) hx hb hr (fun t ht hW => ⟨⟨(-2 : Int32), (T, mo, mi, mt), rfl, hq, by show va_P D vwCl _ t.heap; rw [ht]; exact hP⟩, hS.F ht⟩) hS.2.2 dX10_move_27
    · skip
      refine lv_iconst (v := (-1 : Int32)) hx hb dX10_move_16 (by decide +kernel) ?_
      have hq : (-1 : Int32) = sp_move C T (nI x1N) x2 x3 ∧ T = nx_move C T (nI x1N) x2 x3 ∧ repM T mo mi mt := by refine ⟨by simp only [sp_move, hb_3, hb_6, t_x1, cond_true, cond_false], by simp only [nx_move, hb_3, hb_6, t_x1, cond_true, cond_false], hrT⟩
      refine kk_QQ hQQ ?_
      exact W.iret (v := (-1 : Int32)) hx hb hr (fun t ht hW => ⟨⟨(-1 : Int32), (T, mo, mi, mt), rfl, hq, by show va_P D vwCl _ t.heap; rw [ht]; exact hP⟩, hS.F ht⟩) hS.2.2 dX10_move_17

abbrev rmX10_undo : Room := { frames := 1, cells := 0, slots := 0, locals := 25 }
set_option maxHeartbeats 4000000 in
set_option maxRecDepth 100000 in
theorem c_X10_undo (lL : Launch) (D : va_G) (cI cS : ClassId) (sz : Nat) (C : Co) (T : Mv) (E : Mv) (m0 : Nat) (a1 : Nat) (a3 : Nat) (a5 : Nat) (a6 : Nat) (a7 : Nat) (a13 : Nat) (a14 : Nat) (a15 : Nat) (a16 : Nat) (a18 : Nat) (a19 : Nat) (a20 : Nat) (a21 : Nat) (a22 : Nat) (a23 : Nat) (a24 : Nat) (a25 : Nat) (a27 : Nat) (a28 : Nat) (a29 : Nat) (a30 : Nat) (a31 : Nat) (a32 : Nat) (a33 : Nat) (a34 : Nat) (i0 : Int32) (i10 : Int32) (i11 : Int32) (i12 : Int32) (i35 : Int32) (x1 : Int32) (hX : okX C T E) : Met lL yX10_undo wsX10_undo rmX10_undo (va_Pc [.ref m0, .int x1] (kB D cI cS [(m0, .inr (9, [.int i0, .ref a1, .int (nI (cSp C)), .ref a3, .int (nI (cLa C)), .ref a5, .ref a6, .ref a7, .int (nI (cAg C)), .int (-9 : Int32), .int i10, .int i11, .int i12, .ref a13, .ref a14, .ref a15, .ref a16, .int (nI (mN T)), .ref a18, .ref a19, .ref a20, .ref a21, .ref a22, .ref a23, .ref a24, .ref a25, .int (nI (mN E)), .ref a27, .ref a28, .ref a29, .ref a30, .ref a31, .ref a32, .ref a33, .ref a34, .int i35]))] sz)) (kQi D (fun (r : Int32) (u : Mv) => r = sp_undo T x1 ∧ u = nx_undo T x1) (fun u : Mv => [(m0, .inr (9, [.int i0, .ref a1, .int (nI (cSp C)), .ref a3, .int (nI (cLa C)), .ref a5, .ref a6, .ref a7, .int (nI (cAg C)), .int (-9 : Int32), .int i10, .int i11, .int i12, .ref a13, .ref a14, .ref a15, .ref a16, .int (nI (mN u)), .ref a18, .ref a19, .ref a20, .ref a21, .ref a22, .ref a23, .ref a24, .ref a25, .int (nI (mN E)), .ref a27, .ref a28, .ref a29, .ref a30, .ref a31, .ref a32, .ref a33, .ref a34, .int i35]))]) (va_A [(m0, .inr (9, [.int i0, .ref a1, .int (nI (cSp C)), .ref a3, .int (nI (cLa C)), .ref a5, .ref a6, .ref a7, .int (nI (cAg C)), .int (-9 : Int32), .int i10, .int i11, .int i12, .ref a13, .ref a14, .ref a15, .ref a16, .int (nI (mN T)), .ref a18, .ref a19, .ref a20, .ref a21, .ref a22, .ref a23, .ref a24, .ref a25, .int (nI (mN E)), .ref a27, .ref a28, .ref a29, .ref a30, .ref a31, .ref a32, .ref a33, .ref a34, .int i35]))] sz)) 0 0 (va_A [(m0, .inr (9, [.int i0, .ref a1, .int (nI (cSp C)), .ref a3, .int (nI (cLa C)), .ref a5, .ref a6, .ref a7, .int (nI (cAg C)), .int (-9 : Int32), .int i10, .int i11, .int i12, .ref a13, .ref a14, .ref a15, .ref a16, .int (nI (mN T)), .ref a18, .ref a19, .ref a20, .ref a21, .ref a22, .ref a23, .ref a24, .ref a25, .int (nI (mN E)), .ref a27, .ref a28, .ref a29, .ref a30, .ref a31, .ref a32, .ref a33, .ref a34, .int i35]))] sz) := by
  refine Met.ofW (cc := cX10_undo) (maxL := 2) (ret := (some .int)) (by decide) rfl ?_
  intro pP eE sS mM args below meth cC s₁ B hml hv
  obtain ⟨rfl, hsz, hP, hK, hD0⟩ := hv
  have hx := B.exec
  have hb := B.bytes
  have hr := B.returns
  have hts := atoms_spec (ws := wsX10_undo) B.pre
  have hown : sS.vm.findClass RX10 = some mM.cls := findClass_of_methodNamed B.named
  have hlocks := B.notSynchronized
  subst hsz
  have hD := hD0.self (sz := sS.heap.size)
  generalize hAe : va_A [(m0, .inr (9, [.int i0, .ref a1, .int (nI (cSp C)), .ref a3, .int (nI (cLa C)), .ref a5, .ref a6, .ref a7, .int (nI (cAg C)), .int (-9 : Int32), .int i10, .int i11, .int i12, .ref a13, .ref a14, .ref a15, .ref a16, .int (nI (mN T)), .ref a18, .ref a19, .ref a20, .ref a21, .ref a22, .ref a23, .ref a24, .ref a25, .int (nI (mN E)), .ref a27, .ref a28, .ref a29, .ref a30, .ref a31, .ref a32, .ref a33, .ref a34, .int i35]))] sS.heap.size = A at hD ⊢
  have hA : ∀ q : Nat, sS.heap.size ≤ q → A q := fun q h => by rw [← hAe]; exact Or.inr h
  have hS : va_S A sS.heap sS.heap [] := va_S.rf
  have hP : va_P D vwCl [(m0, .inr (9, [.int i0, .ref a1, .int (nI (cSp C)), .ref a3, .int (nI (cLa C)), .ref a5, .ref a6, .ref a7, .int (nI (cAg C)), .int (-9 : Int32), .int i10, .int i11, .int i12, .ref a13, .ref a14, .ref a15, .ref a16, .int (nI (mN T)), .ref a18, .ref a19, .ref a20, .ref a21, .ref a22, .ref a23, .ref a24, .ref a25, .int (nI (mN E)), .ref a27, .ref a28, .ref a29, .ref a30, .ref a31, .ref a32, .ref a33, .ref a34, .int i35]))] sS.heap := hP
  have hD : va_D A [(m0, .inr (9, [.int i0, .ref a1, .int (nI (cSp C)), .ref a3, .int (nI (cLa C)), .ref a5, .ref a6, .ref a7, .int (nI (cAg C)), .int (-9 : Int32), .int i10, .int i11, .int i12, .ref a13, .ref a14, .ref a15, .ref a16, .int (nI (mN T)), .ref a18, .ref a19, .ref a20, .ref a21, .ref a22, .ref a23, .ref a24, .ref a25, .int (nI (mN E)), .ref a27, .ref a28, .ref a29, .ref a30, .ref a31, .ref a32, .ref a33, .ref a34, .int i35]))] := hD
  have hf_161 := hts (.fieldLink RX10 161 "OldLampsModel" "movesNow" "I") (List.mem_of_getElem? (i := 1) rfl)
  have hwX10 : ∀ w ∈ wsX100, w ∈ wsX10_undo := fun _ h => List.mem_cons_of_mem _ (List.mem_append_right _ h)
  have hl := lv_entry ([.ref m0, .int x1]) (n := 2) (Nat.le_of_ble_eq_true rfl)
  rw [lg_entry_eq]
  generalize (lg_sl ([.ref m0, .int x1]) ++ List.replicate (2 - (lg_sl ([.ref m0, .int x1])).length) Slot.unset).toArray = ls at hl ⊢
  have hl : lv_has ls 2 [(0, .ref m0), (1, .int x1)] := hl
  obtain ⟨QQ, hQQ⟩ : ∃ QQ : State → Prop, QQ = MQ below (kQi D (fun (r : Int32) (u : Mv) => r = sp_undo T x1 ∧ u = nx_undo T x1) (fun u : Mv => [(m0, .inr (9, [.int i0, .ref a1, .int (nI (cSp C)), .ref a3, .int (nI (cLa C)), .ref a5, .ref a6, .ref a7, .int (nI (cAg C)), .int (-9 : Int32), .int i10, .int i11, .int i12, .ref a13, .ref a14, .ref a15, .ref a16, .int (nI (mN u)), .ref a18, .ref a19, .ref a20, .ref a21, .ref a22, .ref a23, .ref a24, .ref a25, .int (nI (mN E)), .ref a27, .ref a28, .ref a29, .ref a30, .ref a31, .ref a32, .ref a33, .ref a34, .int i35]))]) A) ([.ref m0, .int x1]).toArray sS 0 0 A := ⟨_, rfl⟩
  refine kk_QQ hQQ.symm ?_
  obtain ⟨hX1, hX2, hX3, hX4⟩ := okX_le hX
  refine lv_iload_n hx hb dX10_undo_0 rfl (lv_at hl 1 rfl) ?_
  refine lv_i2l (v := x1.toInt64) hx hb dX10_undo_1 rfl ?_
  refine lv_lconst (v := lN 0) hx hb dX10_undo_2 (by decide +kernel) ?_
  refine lv_aload_n hx hb dX10_undo_3 rfl (lv_at hl 0 rfl) ?_
  refine va_get (D := D) (ci := 9) (v := .int (nI (mN T))) (C := RX10) (T := TX10) (N := 36) hx hb hts hwX10 hown hK hP 0 rfl rfl 17 (by decide) hf_161 (fun _ h9 => h9) rfl dX10_undo_4 ?_
  refine lv_i2l (v := lN (mN T)) hx hb dX10_undo_7 (nI_l (by omega)) ?_
  refine vp_callSi (W.runS (As := [.long x1.toInt64, .long (lN 0), .long (lN (mN T))]) (rest := []) ⟨hx, hb, hml, hown, hts⟩ (c_X10_in lL D cI cS x1.toInt64 (lN 0) (lN (mN T))) (va_cwS 3 hts gX10_undo_X10_in rfl rfl rfl cd_X10_in ⟨Nat.le_of_ble_eq_true rfl, Nat.le_of_ble_eq_true rfl⟩) ⟨kBp_blind, fun U hU hW => ⟨rfl, by rw [hU]; exact hP.sub [] rfl, va_K.moved hW.alike hK⟩⟩ rfl rfl hl.1 rfl (lv_room (Nat.le_of_ble_eq_true rfl)) dX10_undo_8 ⟨Nat.le_of_ble_eq_true rfl, Nat.le_of_ble_eq_true rfl⟩) (fun r_1 hw_1 => ?_)
  obtain rfl : r_1 = kb (inL x1.toInt64 (lN 0) (lN (mN T))) := hw_1
  refine kk_top (y := kb (inB x1 (mN T + 1))) (congrArg kb (inL_b x1 (by omega))) ?_
  -- if inB x1 (mN T + 1)
  refine kk_ifb_ne (tgt := 17) hx hb dX10_undo_11 (by decide) (fun hb_2 => ?_) (fun hb_2 => ?_)
  · skip
    obtain ⟨x1N, hx1N, rfl⟩ := inB_t hb_2
    have t_x1 := nI_clamp (show x1N < 2 ^ 31 by omega)
    refine lv_aload_n hx hb dX10_undo_17 rfl (lv_at hl 0 rfl) ?_
    refine lv_dup hx hb dX10_undo_18 rfl ?_
    refine va_get (D := D) (ci := 9) (v := .int (nI (mN T))) (C := RX10) (T := TX10) (N := 36) hx hb hts hwX10 hown hK hP 0 rfl rfl 17 (by decide) hf_161 (fun _ h9 => h9) rfl dX10_undo_19 ?_
    refine lv_iload_n hx hb dX10_undo_22 rfl (lv_at hl 1 rfl) ?_
    refine kk_isub hx hb dX10_undo_23 (by omega) ?_
    refine va_put (D := D) (ci := 9) (v := .int (nI ((mN T) - x1N))) (ty := .int) (C := RX10) (T := TX10) (N := 36) hx hb hts hwX10 tyX10 tyX10_ok nmX10 hown hK hP hD hS 0 rfl rfl 17 (by decide) hf_161 (fun _ h9 => h9) rfl (by decide +kernel) rfl rfl (Nat.le_of_ble_eq_true rfl) dX10_undo_24 (fun H locs hP hD hS => ?_)
    have hP : va_P D vwCl [(m0, .inr (9, [.int i0, .ref a1, .int (nI (cSp C)), .ref a3, .int (nI (cLa C)), .ref a5, .ref a6, .ref a7, .int (nI (cAg C)), .int (-9 : Int32), .int i10, .int i11, .int i12, .ref a13, .ref a14, .ref a15, .ref a16, .int (nI ((mN T) - x1N)), .ref a18, .ref a19, .ref a20, .ref a21, .ref a22, .ref a23, .ref a24, .ref a25, .int (nI (mN E)), .ref a27, .ref a28, .ref a29, .ref a30, .ref a31, .ref a32, .ref a33, .ref a34, .int i35]))] H := hP
    have hD : va_D A [(m0, .inr (9, [.int i0, .ref a1, .int (nI (cSp C)), .ref a3, .int (nI (cLa C)), .ref a5, .ref a6, .ref a7, .int (nI (cAg C)), .int (-9 : Int32), .int i10, .int i11, .int i12, .ref a13, .ref a14, .ref a15, .ref a16, .int (nI ((mN T) - x1N)), .ref a18, .ref a19, .ref a20, .ref a21, .ref a22, .ref a23, .ref a24, .ref a25, .int (nI (mN E)), .ref a27, .ref a28, .ref a29, .ref a30, .ref a31, .ref a32, .ref a33, .ref a34, .int i35]))] := hD
    refine lv_aload_n hx hb dX10_undo_27 rfl (lv_at hl 0 rfl) ?_
    refine va_get (D := D) (ci := 9) (v := .int (nI ((mN T) - x1N))) (C := RX10) (T := TX10) (N := 36) hx hb hts hwX10 hown hK hP 0 rfl rfl 17 (by decide) hf_161 (fun _ h9 => h9) rfl dX10_undo_28 ?_
    have hq : (nI ((mN T) - x1N)) = sp_undo T (nI x1N) ∧ (mCut T x1N) = nx_undo T (nI x1N) := by refine ⟨by simp only [sp_undo, hb_2, t_x1, cond_true, cond_false], by simp only [nx_undo, hb_2, t_x1, cond_true, cond_false]⟩
    refine kk_QQ hQQ ?_
    exact W.iret (v := nI ((mN T) - x1N)) hx hb hr (fun t ht hW => ⟨⟨nI ((mN T) - x1N), (mCut T x1N), rfl, hq, by show va_P D vwCl _ t.heap; rw [ht]; exact hP⟩, hS.F ht⟩) hS.2.2 dX10_undo_31
  · skip
    refine lv_bipush (v := (-2 : Int32)) hx hb dX10_undo_14 (by decide +kernel) ?_
    have hq : (-2 : Int32) = sp_undo T x1 ∧ T = nx_undo T x1 := by refine ⟨by simp only [sp_undo, hb_2, cond_true, cond_false], by simp only [nx_undo, hb_2, cond_true, cond_false]⟩
    refine kk_QQ hQQ ?_
    exact W.iret (v := (-2 : Int32)) hx hb hr (fun t ht hW => ⟨⟨(-2 : Int32), T, rfl, hq, by show va_P D vwCl _ t.heap; rw [ht]; exact hP⟩, hS.F ht⟩) hS.2.2 dX10_undo_16

abbrev rmX10_back : Room := { frames := 1, cells := 0, slots := 0, locals := 25 }
set_option maxHeartbeats 4000000 in
set_option maxRecDepth 100000 in
theorem c_X10_back (lL : Launch) (D : va_G) (cI cS : ClassId) (sz : Nat) (C : Co) (T : Mv) (E : Mv) (m0 : Nat) (a1 : Nat) (a3 : Nat) (a5 : Nat) (a6 : Nat) (a7 : Nat) (a13 : Nat) (a14 : Nat) (a15 : Nat) (a16 : Nat) (a18 : Nat) (a19 : Nat) (a20 : Nat) (a21 : Nat) (a22 : Nat) (a23 : Nat) (a24 : Nat) (a25 : Nat) (a27 : Nat) (a28 : Nat) (a29 : Nat) (a30 : Nat) (a31 : Nat) (a32 : Nat) (a33 : Nat) (a34 : Nat) (i0 : Int32) (i10 : Int32) (i11 : Int32) (i12 : Int32) (i35 : Int32) (x1 : Int32) (hX : okX C T E) : Met lL yX10_back wsX10_back rmX10_back (va_Pc [.ref m0, .int x1] (kB D cI cS [(m0, .inr (9, [.int i0, .ref a1, .int (nI (cSp C)), .ref a3, .int (nI (cLa C)), .ref a5, .ref a6, .ref a7, .int (nI (cAg C)), .int (-9 : Int32), .int i10, .int i11, .int i12, .ref a13, .ref a14, .ref a15, .ref a16, .int (nI (mN T)), .ref a18, .ref a19, .ref a20, .ref a21, .ref a22, .ref a23, .ref a24, .ref a25, .int (nI (mN E)), .ref a27, .ref a28, .ref a29, .ref a30, .ref a31, .ref a32, .ref a33, .ref a34, .int i35]))] sz)) (kQi D (fun (r : Int32) (u : Mv) => r = sp_undo E x1 ∧ u = nx_undo E x1) (fun u : Mv => [(m0, .inr (9, [.int i0, .ref a1, .int (nI (cSp C)), .ref a3, .int (nI (cLa C)), .ref a5, .ref a6, .ref a7, .int (nI (cAg C)), .int (-9 : Int32), .int i10, .int i11, .int i12, .ref a13, .ref a14, .ref a15, .ref a16, .int (nI (mN T)), .ref a18, .ref a19, .ref a20, .ref a21, .ref a22, .ref a23, .ref a24, .ref a25, .int (nI (mN u)), .ref a27, .ref a28, .ref a29, .ref a30, .ref a31, .ref a32, .ref a33, .ref a34, .int i35]))]) (va_A [(m0, .inr (9, [.int i0, .ref a1, .int (nI (cSp C)), .ref a3, .int (nI (cLa C)), .ref a5, .ref a6, .ref a7, .int (nI (cAg C)), .int (-9 : Int32), .int i10, .int i11, .int i12, .ref a13, .ref a14, .ref a15, .ref a16, .int (nI (mN T)), .ref a18, .ref a19, .ref a20, .ref a21, .ref a22, .ref a23, .ref a24, .ref a25, .int (nI (mN E)), .ref a27, .ref a28, .ref a29, .ref a30, .ref a31, .ref a32, .ref a33, .ref a34, .int i35]))] sz)) 0 0 (va_A [(m0, .inr (9, [.int i0, .ref a1, .int (nI (cSp C)), .ref a3, .int (nI (cLa C)), .ref a5, .ref a6, .ref a7, .int (nI (cAg C)), .int (-9 : Int32), .int i10, .int i11, .int i12, .ref a13, .ref a14, .ref a15, .ref a16, .int (nI (mN T)), .ref a18, .ref a19, .ref a20, .ref a21, .ref a22, .ref a23, .ref a24, .ref a25, .int (nI (mN E)), .ref a27, .ref a28, .ref a29, .ref a30, .ref a31, .ref a32, .ref a33, .ref a34, .int i35]))] sz) := by
  refine Met.ofW (cc := cX10_back) (maxL := 2) (ret := (some .int)) (by decide) rfl ?_
  intro pP eE sS mM args below meth cC s₁ B hml hv
  obtain ⟨rfl, hsz, hP, hK, hD0⟩ := hv
  have hx := B.exec
  have hb := B.bytes
  have hr := B.returns
  have hts := atoms_spec (ws := wsX10_back) B.pre
  have hown : sS.vm.findClass RX10 = some mM.cls := findClass_of_methodNamed B.named
  have hlocks := B.notSynchronized
  subst hsz
  have hD := hD0.self (sz := sS.heap.size)
  generalize hAe : va_A [(m0, .inr (9, [.int i0, .ref a1, .int (nI (cSp C)), .ref a3, .int (nI (cLa C)), .ref a5, .ref a6, .ref a7, .int (nI (cAg C)), .int (-9 : Int32), .int i10, .int i11, .int i12, .ref a13, .ref a14, .ref a15, .ref a16, .int (nI (mN T)), .ref a18, .ref a19, .ref a20, .ref a21, .ref a22, .ref a23, .ref a24, .ref a25, .int (nI (mN E)), .ref a27, .ref a28, .ref a29, .ref a30, .ref a31, .ref a32, .ref a33, .ref a34, .int i35]))] sS.heap.size = A at hD ⊢
  have hA : ∀ q : Nat, sS.heap.size ≤ q → A q := fun q h => by rw [← hAe]; exact Or.inr h
  have hS : va_S A sS.heap sS.heap [] := va_S.rf
  have hP : va_P D vwCl [(m0, .inr (9, [.int i0, .ref a1, .int (nI (cSp C)), .ref a3, .int (nI (cLa C)), .ref a5, .ref a6, .ref a7, .int (nI (cAg C)), .int (-9 : Int32), .int i10, .int i11, .int i12, .ref a13, .ref a14, .ref a15, .ref a16, .int (nI (mN T)), .ref a18, .ref a19, .ref a20, .ref a21, .ref a22, .ref a23, .ref a24, .ref a25, .int (nI (mN E)), .ref a27, .ref a28, .ref a29, .ref a30, .ref a31, .ref a32, .ref a33, .ref a34, .int i35]))] sS.heap := hP
  have hD : va_D A [(m0, .inr (9, [.int i0, .ref a1, .int (nI (cSp C)), .ref a3, .int (nI (cLa C)), .ref a5, .ref a6, .ref a7, .int (nI (cAg C)), .int (-9 : Int32), .int i10, .int i11, .int i12, .ref a13, .ref a14, .ref a15, .ref a16, .int (nI (mN T)), .ref a18, .ref a19, .ref a20, .ref a21, .ref a22, .ref a23, .ref a24, .ref a25, .int (nI (mN E)), .ref a27, .ref a28, .ref a29, .ref a30, .ref a31, .ref a32, .ref a33, .ref a34, .int i35]))] := hD
  have hf_164 := hts (.fieldLink RX10 164 "OldLampsModel" "readings" "I") (List.mem_of_getElem? (i := 1) rfl)
  have hwX10 : ∀ w ∈ wsX100, w ∈ wsX10_back := fun _ h => List.mem_cons_of_mem _ (List.mem_append_right _ h)
  have hl := lv_entry ([.ref m0, .int x1]) (n := 2) (Nat.le_of_ble_eq_true rfl)
  rw [lg_entry_eq]
  generalize (lg_sl ([.ref m0, .int x1]) ++ List.replicate (2 - (lg_sl ([.ref m0, .int x1])).length) Slot.unset).toArray = ls at hl ⊢
  have hl : lv_has ls 2 [(0, .ref m0), (1, .int x1)] := hl
  obtain ⟨QQ, hQQ⟩ : ∃ QQ : State → Prop, QQ = MQ below (kQi D (fun (r : Int32) (u : Mv) => r = sp_undo E x1 ∧ u = nx_undo E x1) (fun u : Mv => [(m0, .inr (9, [.int i0, .ref a1, .int (nI (cSp C)), .ref a3, .int (nI (cLa C)), .ref a5, .ref a6, .ref a7, .int (nI (cAg C)), .int (-9 : Int32), .int i10, .int i11, .int i12, .ref a13, .ref a14, .ref a15, .ref a16, .int (nI (mN T)), .ref a18, .ref a19, .ref a20, .ref a21, .ref a22, .ref a23, .ref a24, .ref a25, .int (nI (mN u)), .ref a27, .ref a28, .ref a29, .ref a30, .ref a31, .ref a32, .ref a33, .ref a34, .int i35]))]) A) ([.ref m0, .int x1]).toArray sS 0 0 A := ⟨_, rfl⟩
  refine kk_QQ hQQ.symm ?_
  obtain ⟨hX1, hX2, hX3, hX4⟩ := okX_le hX
  refine lv_iload_n hx hb dX10_back_0 rfl (lv_at hl 1 rfl) ?_
  refine lv_i2l (v := x1.toInt64) hx hb dX10_back_1 rfl ?_
  refine lv_lconst (v := lN 0) hx hb dX10_back_2 (by decide +kernel) ?_
  refine lv_aload_n hx hb dX10_back_3 rfl (lv_at hl 0 rfl) ?_
  refine va_get (D := D) (ci := 9) (v := .int (nI (mN E))) (C := RX10) (T := TX10) (N := 36) hx hb hts hwX10 hown hK hP 0 rfl rfl 26 (by decide) hf_164 (fun _ h9 => h9) rfl dX10_back_4 ?_
  refine lv_i2l (v := lN (mN E)) hx hb dX10_back_7 (nI_l (by omega)) ?_
  refine vp_callSi (W.runS (As := [.long x1.toInt64, .long (lN 0), .long (lN (mN E))]) (rest := []) ⟨hx, hb, hml, hown, hts⟩ (c_X10_in lL D cI cS x1.toInt64 (lN 0) (lN (mN E))) (va_cwS 3 hts gX10_back_X10_in rfl rfl rfl cd_X10_in ⟨Nat.le_of_ble_eq_true rfl, Nat.le_of_ble_eq_true rfl⟩) ⟨kBp_blind, fun U hU hW => ⟨rfl, by rw [hU]; exact hP.sub [] rfl, va_K.moved hW.alike hK⟩⟩ rfl rfl hl.1 rfl (lv_room (Nat.le_of_ble_eq_true rfl)) dX10_back_8 ⟨Nat.le_of_ble_eq_true rfl, Nat.le_of_ble_eq_true rfl⟩) (fun r_1 hw_1 => ?_)
  obtain rfl : r_1 = kb (inL x1.toInt64 (lN 0) (lN (mN E))) := hw_1
  refine kk_top (y := kb (inB x1 (mN E + 1))) (congrArg kb (inL_b x1 (by omega))) ?_
  -- if inB x1 (mN E + 1)
  refine kk_ifb_ne (tgt := 17) hx hb dX10_back_11 (by decide) (fun hb_2 => ?_) (fun hb_2 => ?_)
  · skip
    obtain ⟨x1N, hx1N, rfl⟩ := inB_t hb_2
    have t_x1 := nI_clamp (show x1N < 2 ^ 31 by omega)
    refine lv_aload_n hx hb dX10_back_17 rfl (lv_at hl 0 rfl) ?_
    refine lv_dup hx hb dX10_back_18 rfl ?_
    refine va_get (D := D) (ci := 9) (v := .int (nI (mN E))) (C := RX10) (T := TX10) (N := 36) hx hb hts hwX10 hown hK hP 0 rfl rfl 26 (by decide) hf_164 (fun _ h9 => h9) rfl dX10_back_19 ?_
    refine lv_iload_n hx hb dX10_back_22 rfl (lv_at hl 1 rfl) ?_
    refine kk_isub hx hb dX10_back_23 (by omega) ?_
    refine va_put (D := D) (ci := 9) (v := .int (nI ((mN E) - x1N))) (ty := .int) (C := RX10) (T := TX10) (N := 36) hx hb hts hwX10 tyX10 tyX10_ok nmX10 hown hK hP hD hS 0 rfl rfl 26 (by decide) hf_164 (fun _ h9 => h9) rfl (by decide +kernel) rfl rfl (Nat.le_of_ble_eq_true rfl) dX10_back_24 (fun H locs hP hD hS => ?_)
    have hP : va_P D vwCl [(m0, .inr (9, [.int i0, .ref a1, .int (nI (cSp C)), .ref a3, .int (nI (cLa C)), .ref a5, .ref a6, .ref a7, .int (nI (cAg C)), .int (-9 : Int32), .int i10, .int i11, .int i12, .ref a13, .ref a14, .ref a15, .ref a16, .int (nI (mN T)), .ref a18, .ref a19, .ref a20, .ref a21, .ref a22, .ref a23, .ref a24, .ref a25, .int (nI ((mN E) - x1N)), .ref a27, .ref a28, .ref a29, .ref a30, .ref a31, .ref a32, .ref a33, .ref a34, .int i35]))] H := hP
    have hD : va_D A [(m0, .inr (9, [.int i0, .ref a1, .int (nI (cSp C)), .ref a3, .int (nI (cLa C)), .ref a5, .ref a6, .ref a7, .int (nI (cAg C)), .int (-9 : Int32), .int i10, .int i11, .int i12, .ref a13, .ref a14, .ref a15, .ref a16, .int (nI (mN T)), .ref a18, .ref a19, .ref a20, .ref a21, .ref a22, .ref a23, .ref a24, .ref a25, .int (nI ((mN E) - x1N)), .ref a27, .ref a28, .ref a29, .ref a30, .ref a31, .ref a32, .ref a33, .ref a34, .int i35]))] := hD
    refine lv_aload_n hx hb dX10_back_27 rfl (lv_at hl 0 rfl) ?_
    refine va_get (D := D) (ci := 9) (v := .int (nI ((mN E) - x1N))) (C := RX10) (T := TX10) (N := 36) hx hb hts hwX10 hown hK hP 0 rfl rfl 26 (by decide) hf_164 (fun _ h9 => h9) rfl dX10_back_28 ?_
    have hq : (nI ((mN E) - x1N)) = sp_undo E (nI x1N) ∧ (mCut E x1N) = nx_undo E (nI x1N) := by refine ⟨by simp only [sp_undo, hb_2, t_x1, cond_true, cond_false], by simp only [nx_undo, hb_2, t_x1, cond_true, cond_false]⟩
    refine kk_QQ hQQ ?_
    exact W.iret (v := nI ((mN E) - x1N)) hx hb hr (fun t ht hW => ⟨⟨nI ((mN E) - x1N), (mCut E x1N), rfl, hq, by show va_P D vwCl _ t.heap; rw [ht]; exact hP⟩, hS.F ht⟩) hS.2.2 dX10_back_31
  · skip
    refine lv_bipush (v := (-2 : Int32)) hx hb dX10_back_14 (by decide +kernel) ?_
    have hq : (-2 : Int32) = sp_undo E x1 ∧ E = nx_undo E x1 := by refine ⟨by simp only [sp_undo, hb_2, cond_true, cond_false], by simp only [nx_undo, hb_2, cond_true, cond_false]⟩
    refine kk_QQ hQQ ?_
    exact W.iret (v := (-2 : Int32)) hx hb hr (fun t ht hW => ⟨⟨(-2 : Int32), E, rfl, hq, by show va_P D vwCl _ t.heap; rw [ht]; exact hP⟩, hS.F ht⟩) hS.2.2 dX10_back_16

abbrev rmX10_reading : Room := { frames := 2, cells := 0, slots := 0, locals := 46 }
set_option maxHeartbeats 4000000 in
set_option maxRecDepth 100000 in
theorem c_X10_reading (lL : Launch) (D : va_G) (cI cS : ClassId) (sz : Nat) (C : Co) (T : Mv) (E : Mv) (m0 : Nat) (a1 : Nat) (a3 : Nat) (a5 : Nat) (a6 : Nat) (a7 : Nat) (a13 : Nat) (a14 : Nat) (a15 : Nat) (a16 : Nat) (a18 : Nat) (a19 : Nat) (a20 : Nat) (a21 : Nat) (a22 : Nat) (a23 : Nat) (a24 : Nat) (a25 : Nat) (a27 : Nat) (a28 : Nat) (a29 : Nat) (a30 : Nat) (a31 : Nat) (a32 : Nat) (a33 : Nat) (a34 : Nat) (i0 : Int32) (i10 : Int32) (i11 : Int32) (i12 : Int32) (i35 : Int32) (ro : Nat → Int32) (ri : Nat → Int32) (rv : Nat → Int32) (x1 : Int32) (x2 : Int32) (x3 : Int32) (hX : okX C T E) (hrE : repM E ro ri rv) : Met lL yX10_reading wsX10_reading rmX10_reading (va_Pc [.ref m0, .int x1, .int x2, .int x3] (kB D cI cS [(m0, .inr (9, [.int i0, .ref a1, .int (nI (cSp C)), .ref a3, .int (nI (cLa C)), .ref a5, .ref a6, .ref a7, .int (nI (cAg C)), .int (-9 : Int32), .int i10, .int i11, .int i12, .ref a13, .ref a14, .ref a15, .ref a16, .int (nI (mN T)), .ref a18, .ref a19, .ref a20, .ref a21, .ref a22, .ref a23, .ref a24, .ref a25, .int (nI (mN E)), .ref a27, .ref a28, .ref a29, .ref a30, .ref a31, .ref a32, .ref a33, .ref a34, .int i35])), (a27, .inl (cI, 8, .inl ro)), (a28, .inl (cI, 8, .inl ri)), (a29, .inl (cI, 8, .inl rv))] sz)) (kQi D (fun (r : Int32) (u : Mv × (Nat → Int32) × (Nat → Int32) × (Nat → Int32)) => r = sp_reading C E x1 x2 x3 ∧ u.1 = nx_reading C E x1 x2 x3 ∧ repM u.1 u.2.1 u.2.2.1 u.2.2.2) (fun u : Mv × (Nat → Int32) × (Nat → Int32) × (Nat → Int32) => [(m0, .inr (9, [.int i0, .ref a1, .int (nI (cSp C)), .ref a3, .int (nI (cLa C)), .ref a5, .ref a6, .ref a7, .int (nI (cAg C)), .int (-9 : Int32), .int i10, .int i11, .int i12, .ref a13, .ref a14, .ref a15, .ref a16, .int (nI (mN T)), .ref a18, .ref a19, .ref a20, .ref a21, .ref a22, .ref a23, .ref a24, .ref a25, .int (nI (mN u.1)), .ref a27, .ref a28, .ref a29, .ref a30, .ref a31, .ref a32, .ref a33, .ref a34, .int i35])), (a27, .inl (cI, 8, .inl u.2.1)), (a28, .inl (cI, 8, .inl u.2.2.1)), (a29, .inl (cI, 8, .inl u.2.2.2))]) (va_A [(m0, .inr (9, [.int i0, .ref a1, .int (nI (cSp C)), .ref a3, .int (nI (cLa C)), .ref a5, .ref a6, .ref a7, .int (nI (cAg C)), .int (-9 : Int32), .int i10, .int i11, .int i12, .ref a13, .ref a14, .ref a15, .ref a16, .int (nI (mN T)), .ref a18, .ref a19, .ref a20, .ref a21, .ref a22, .ref a23, .ref a24, .ref a25, .int (nI (mN E)), .ref a27, .ref a28, .ref a29, .ref a30, .ref a31, .ref a32, .ref a33, .ref a34, .int i35])), (a27, .inl (cI, 8, .inl ro)), (a28, .inl (cI, 8, .inl ri)), (a29, .inl (cI, 8, .inl rv))] sz)) 0 0 (va_A [(m0, .inr (9, [.int i0, .ref a1, .int (nI (cSp C)), .ref a3, .int (nI (cLa C)), .ref a5, .ref a6, .ref a7, .int (nI (cAg C)), .int (-9 : Int32), .int i10, .int i11, .int i12, .ref a13, .ref a14, .ref a15, .ref a16, .int (nI (mN T)), .ref a18, .ref a19, .ref a20, .ref a21, .ref a22, .ref a23, .ref a24, .ref a25, .int (nI (mN E)), .ref a27, .ref a28, .ref a29, .ref a30, .ref a31, .ref a32, .ref a33, .ref a34, .int i35])), (a27, .inl (cI, 8, .inl ro)), (a28, .inl (cI, 8, .inl ri)), (a29, .inl (cI, 8, .inl rv))] sz) := by
  refine Met.ofW (cc := cX10_reading) (maxL := 4) (ret := (some .int)) (by decide) rfl ?_
  intro pP eE sS mM args below meth cC s₁ B hml hv
  obtain ⟨rfl, hsz, hP, hK, hD0⟩ := hv
  have hx := B.exec
  have hb := B.bytes
  have hr := B.returns
  have hts := atoms_spec (ws := wsX10_reading) B.pre
  have hown : sS.vm.findClass RX10 = some mM.cls := findClass_of_methodNamed B.named
  have hlocks := B.notSynchronized
  subst hsz
  have hD := hD0.self (sz := sS.heap.size)
  generalize hAe : va_A [(m0, .inr (9, [.int i0, .ref a1, .int (nI (cSp C)), .ref a3, .int (nI (cLa C)), .ref a5, .ref a6, .ref a7, .int (nI (cAg C)), .int (-9 : Int32), .int i10, .int i11, .int i12, .ref a13, .ref a14, .ref a15, .ref a16, .int (nI (mN T)), .ref a18, .ref a19, .ref a20, .ref a21, .ref a22, .ref a23, .ref a24, .ref a25, .int (nI (mN E)), .ref a27, .ref a28, .ref a29, .ref a30, .ref a31, .ref a32, .ref a33, .ref a34, .int i35])), (a27, .inl (cI, 8, .inl ro)), (a28, .inl (cI, 8, .inl ri)), (a29, .inl (cI, 8, .inl rv))] sS.heap.size = A at hD ⊢
  have hA : ∀ q : Nat, sS.heap.size ≤ q → A q := fun q h => by rw [← hAe]; exact Or.inr h
  have hS : va_S A sS.heap sS.heap [] := va_S.rf
  have hP : va_P D vwCl [(m0, .inr (9, [.int i0, .ref a1, .int (nI (cSp C)), .ref a3, .int (nI (cLa C)), .ref a5, .ref a6, .ref a7, .int (nI (cAg C)), .int (-9 : Int32), .int i10, .int i11, .int i12, .ref a13, .ref a14, .ref a15, .ref a16, .int (nI (mN T)), .ref a18, .ref a19, .ref a20, .ref a21, .ref a22, .ref a23, .ref a24, .ref a25, .int (nI (mN E)), .ref a27, .ref a28, .ref a29, .ref a30, .ref a31, .ref a32, .ref a33, .ref a34, .int i35])), (a27, .inl (cI, 8, .inl ro)), (a28, .inl (cI, 8, .inl ri)), (a29, .inl (cI, 8, .inl rv))] sS.heap := hP
  have hD : va_D A [(m0, .inr (9, [.int i0, .ref a1, .int (nI (cSp C)), .ref a3, .int (nI (cLa C)), .ref a5, .ref a6, .ref a7, .int (nI (cAg C)), .int (-9 : Int32), .int i10, .int i11, .int i12, .ref a13, .ref a14, .ref a15, .ref a16, .int (nI (mN T)), .ref a18, .ref a19, .ref a20, .ref a21, .ref a22, .ref a23, .ref a24, .ref a25, .int (nI (mN E)), .ref a27, .ref a28, .ref a29, .ref a30, .ref a31, .ref a32, .ref a33, .ref a34, .int i35])), (a27, .inl (cI, 8, .inl ro)), (a28, .inl (cI, 8, .inl ri)), (a29, .inl (cI, 8, .inl rv))] := hD
  have hf_61 := hts (.fieldLink RX10 61 "OldLampsModel" "readingOf" "[I") (List.mem_of_getElem? (i := 3) rfl)
  have hf_64 := hts (.fieldLink RX10 64 "OldLampsModel" "readingIn" "[I") (List.mem_of_getElem? (i := 4) rfl)
  have hf_67 := hts (.fieldLink RX10 67 "OldLampsModel" "readingLight" "[I") (List.mem_of_getElem? (i := 5) rfl)
  have hf_164 := hts (.fieldLink RX10 164 "OldLampsModel" "readings" "I") (List.mem_of_getElem? (i := 2) rfl)
  have hk_210 := hts (.constantLong RX10 210 (999)) (List.mem_of_getElem? (i := 1) rfl)
  have hwX10 : ∀ w ∈ wsX100, w ∈ wsX10_reading := fun _ h => List.mem_cons_of_mem _ (List.mem_append_right _ h)
  have hl := lv_entry ([.ref m0, .int x1, .int x2, .int x3]) (n := 4) (Nat.le_of_ble_eq_true rfl)
  rw [lg_entry_eq]
  generalize (lg_sl ([.ref m0, .int x1, .int x2, .int x3]) ++ List.replicate (4 - (lg_sl ([.ref m0, .int x1, .int x2, .int x3])).length) Slot.unset).toArray = ls at hl ⊢
  have hl : lv_has ls 4 [(0, .ref m0), (1, .int x1), (2, .int x2), (3, .int x3)] := hl
  obtain ⟨QQ, hQQ⟩ : ∃ QQ : State → Prop, QQ = MQ below (kQi D (fun (r : Int32) (u : Mv × (Nat → Int32) × (Nat → Int32) × (Nat → Int32)) => r = sp_reading C E x1 x2 x3 ∧ u.1 = nx_reading C E x1 x2 x3 ∧ repM u.1 u.2.1 u.2.2.1 u.2.2.2) (fun u : Mv × (Nat → Int32) × (Nat → Int32) × (Nat → Int32) => [(m0, .inr (9, [.int i0, .ref a1, .int (nI (cSp C)), .ref a3, .int (nI (cLa C)), .ref a5, .ref a6, .ref a7, .int (nI (cAg C)), .int (-9 : Int32), .int i10, .int i11, .int i12, .ref a13, .ref a14, .ref a15, .ref a16, .int (nI (mN T)), .ref a18, .ref a19, .ref a20, .ref a21, .ref a22, .ref a23, .ref a24, .ref a25, .int (nI (mN u.1)), .ref a27, .ref a28, .ref a29, .ref a30, .ref a31, .ref a32, .ref a33, .ref a34, .int i35])), (a27, .inl (cI, 8, .inl u.2.1)), (a28, .inl (cI, 8, .inl u.2.2.1)), (a29, .inl (cI, 8, .inl u.2.2.2))]) A) ([.ref m0, .int x1, .int x2, .int x3]).toArray sS 0 0 A := ⟨_, rfl⟩
  refine kk_QQ hQQ.symm ?_
  obtain ⟨hX1, hX2, hX3, hX4⟩ := okX_le hX
  refine lv_aload_n hx hb dX10_reading_0 rfl (lv_at hl 0 rfl) ?_
  refine lv_iload_n hx hb dX10_reading_1 rfl (lv_at hl 1 rfl) ?_
  have o_1 : (cSp C) ≤ 4 := by omega
  refine vp_callSi (W.runV (As := [.int x1]) (rest := []) ⟨hx, hb, hml, hown, hts⟩ (c_X10_noSpot lL D cI cS m0 a1 a3 a5 a6 a7 a13 a14 a15 a16 a18 a19 a20 a21 a22 a23 a24 a25 a27 a28 a29 a30 a31 a32 a33 a34 i0 (nI (cLa C)) (nI (cAg C)) (-9 : Int32) i10 i11 i12 (nI (mN T)) (nI (mN E)) i35 x1 (cSp C) o_1) (cwV 1 hts gX10_reading_X10_noSpot rfl rfl rfl cd_X10_noSpot ⟨Nat.le_of_ble_eq_true rfl, Nat.le_of_ble_eq_true rfl⟩) ⟨kBp_blind, va_recv hK hP (ci := 9) (q0 := 0) rfl rfl, fun U hU hW => ⟨rfl, by rw [hU]; exact hP.sub [0] rfl, va_K.moved hW.alike hK⟩⟩ rfl rfl hl.1 rfl (lv_room (Nat.le_of_ble_eq_true rfl)) dX10_reading_2 ⟨Nat.le_of_ble_eq_true rfl, Nat.le_of_ble_eq_true rfl⟩) (fun r_2 hw_2 => ?_)
  obtain rfl : r_2 = kb (!inB x1 (cSp C)) := hw_2
  refine kk_ifn_eq (tgt := 10) hx hb dX10_reading_5 (by decide) (fun hb_3 => ?_) (fun hb_3 => ?_)
  · skip
    obtain ⟨x1N, hx1N, rfl⟩ := inB_t hb_3
    have t_x1 := nI_clamp (show x1N < 2 ^ 31 by omega)
    refine lv_iload_n hx hb dX10_reading_10 rfl (lv_at hl 2 rfl) ?_
    refine vp_callSi (W.runS (As := [.int x2]) (rest := []) ⟨hx, hb, hml, hown, hts⟩ (c_X10_isWatch lL D cI cS x2) (va_cwS 1 hts gX10_reading_X10_isWatch rfl rfl rfl cd_X10_isWatch ⟨Nat.le_of_ble_eq_true rfl, Nat.le_of_ble_eq_true rfl⟩) ⟨kBp_blind, fun U hU hW => ⟨rfl, by rw [hU]; exact hP.sub [] rfl, va_K.moved hW.alike hK⟩⟩ rfl rfl hl.1 rfl (lv_room (Nat.le_of_ble_eq_true rfl)) dX10_reading_11 ⟨Nat.le_of_ble_eq_true rfl, Nat.le_of_ble_eq_true rfl⟩) (fun r_4 hw_4 => ?_)
    obtain rfl : r_4 = kb (inB x2 24) := hw_4
    -- if (inB x2 24)
    refine kk_ifb_eq (tgt := 29) hx hb dX10_reading_14 (by decide) (fun hb_5 => ?_) (fun hb_5 => ?_)
    · skip
      refine lv_bipush (v := (-2 : Int32)) hx hb dX10_reading_29 (by decide +kernel) ?_
      have hq : (-2 : Int32) = sp_reading C E (nI x1N) x2 x3 ∧ E = nx_reading C E (nI x1N) x2 x3 ∧ repM E ro ri rv := by refine ⟨by simp only [sp_reading, hb_3, hb_5, t_x1, cond_true, cond_false], by simp only [nx_reading, hb_3, hb_5, t_x1, cond_true, cond_false], hrE⟩
      refine kk_QQ hQQ ?_
      exact W.iret (v := (-2 : Int32)) hx hb hr (fun t ht hW => ⟨⟨(-2 : Int32), (E, ro, ri, rv), rfl, hq, by show va_P D vwCl _ t.heap; rw [ht]; exact hP⟩, hS.F ht⟩) hS.2.2 dX10_reading_31
    · skip
      obtain ⟨x2N, hx2N, rfl⟩ := inB_t hb_5
      have t_x2 := nI_clamp (show x2N < 2 ^ 31 by omega)
      refine lv_iload_n hx hb dX10_reading_17 rfl (lv_at hl 3 rfl) ?_
      refine lv_i2l (v := x3.toInt64) hx hb dX10_reading_18 rfl ?_
      refine lv_lconst (v := lN 0) hx hb dX10_reading_19 (by decide +kernel) ?_
      refine lv_ldc2 (v := (999 : Int64)) hx hb hown hk_210 dX10_reading_20 ?_
      refine kk_topl (y := lN 999) (by decide +kernel) ?_
      refine vp_callSi (W.runS (As := [.long x3.toInt64, .long (lN 0), .long (lN 999)]) (rest := []) ⟨hx, hb, hml, hown, hts⟩ (c_X10_in lL D cI cS x3.toInt64 (lN 0) (lN 999)) (va_cwS 3 hts gX10_reading_X10_in rfl rfl rfl cd_X10_in ⟨Nat.le_of_ble_eq_true rfl, Nat.le_of_ble_eq_true rfl⟩) ⟨kBp_blind, fun U hU hW => ⟨rfl, by rw [hU]; exact hP.sub [] rfl, va_K.moved hW.alike hK⟩⟩ rfl rfl hl.1 rfl (lv_room (Nat.le_of_ble_eq_true rfl)) dX10_reading_23 ⟨Nat.le_of_ble_eq_true rfl, Nat.le_of_ble_eq_true rfl⟩) (fun r_6 hw_6 => ?_)
      obtain rfl : r_6 = kb (inL x3.toInt64 (lN 0) (lN 999)) := hw_6
      refine kk_top (y := kb (wB x3 0 999)) (congrArg kb (inL_w x3 (by omega) (by omega))) ?_
      -- if wB x3 0 999
      refine kk_ifb_ne (tgt := 32) hx hb dX10_reading_26 (by decide) (fun hb_7 => ?_) (fun hb_7 => ?_)
      · skip
        obtain ⟨x3N, hx3L, hx3N, rfl⟩ := wB_t hb_7
        have t_x3 := nI_clamp (show x3N < 2 ^ 31 by omega)
        refine lv_aload_n hx hb dX10_reading_32 rfl (lv_at hl 0 rfl) ?_
        refine va_get (D := D) (ci := 9) (v := .int (nI (mN E))) (C := RX10) (T := TX10) (N := 36) hx hb hts hwX10 hown hK hP 0 rfl rfl 26 (by decide) hf_164 (fun _ h9 => h9) rfl dX10_reading_33 ?_
        refine lv_bipush (v := nI 8) hx hb dX10_reading_36 (by decide +kernel) ?_
        refine kk_icmp_ne (tgt := 44) hx hb dX10_reading_38 (by decide) (by omega) (by omega) (fun c_8 => ?_) (fun c_8 => ?_)
        · skip
          refine lv_aload_n hx hb dX10_reading_44 rfl (lv_at hl 0 rfl) ?_
          refine va_get (D := D) (ci := 9) (v := .ref a27) (C := RX10) (T := TX10) (N := 36) hx hb hts hwX10 hown hK hP 0 rfl rfl 27 (by decide) hf_61 (fun _ h9 => h9) rfl dX10_reading_45 ?_
          refine lv_aload_n hx hb dX10_reading_48 rfl (lv_at hl 0 rfl) ?_
          refine va_get (D := D) (ci := 9) (v := .int (nI (mN E))) (C := RX10) (T := TX10) (N := 36) hx hb hts hwX10 hown hK hP 0 rfl rfl 26 (by decide) hf_164 (fun _ h9 => h9) rfl dX10_reading_49 ?_
          refine lv_iload_n hx hb dX10_reading_52 rfl (lv_at hl 1 rfl) ?_
          refine kk_iast hx hb hK hP hD hS 1 rfl rfl (i := mN E) (by omega) (by decide) dX10_reading_53 (fun H locs hP hD hS => ?_)
          have hP : va_P D vwCl [(m0, .inr (9, [.int i0, .ref a1, .int (nI (cSp C)), .ref a3, .int (nI (cLa C)), .ref a5, .ref a6, .ref a7, .int (nI (cAg C)), .int (-9 : Int32), .int i10, .int i11, .int i12, .ref a13, .ref a14, .ref a15, .ref a16, .int (nI (mN T)), .ref a18, .ref a19, .ref a20, .ref a21, .ref a22, .ref a23, .ref a24, .ref a25, .int (nI (mN E)), .ref a27, .ref a28, .ref a29, .ref a30, .ref a31, .ref a32, .ref a33, .ref a34, .int i35])), (a27, .inl (cI, 8, .inl (upd ro (mN E) (nI x1N)))), (a28, .inl (cI, 8, .inl ri)), (a29, .inl (cI, 8, .inl rv))] H := hP
          have hD : va_D A [(m0, .inr (9, [.int i0, .ref a1, .int (nI (cSp C)), .ref a3, .int (nI (cLa C)), .ref a5, .ref a6, .ref a7, .int (nI (cAg C)), .int (-9 : Int32), .int i10, .int i11, .int i12, .ref a13, .ref a14, .ref a15, .ref a16, .int (nI (mN T)), .ref a18, .ref a19, .ref a20, .ref a21, .ref a22, .ref a23, .ref a24, .ref a25, .int (nI (mN E)), .ref a27, .ref a28, .ref a29, .ref a30, .ref a31, .ref a32, .ref a33, .ref a34, .int i35])), (a27, .inl (cI, 8, .inl (upd ro (mN E) (nI x1N)))), (a28, .inl (cI, 8, .inl ri)), (a29, .inl (cI, 8, .inl rv))] := hD
          refine lv_aload_n hx hb dX10_reading_54 rfl (lv_at hl 0 rfl) ?_
          refine va_get (D := D) (ci := 9) (v := .ref a28) (C := RX10) (T := TX10) (N := 36) hx hb hts hwX10 hown hK hP 0 rfl rfl 28 (by decide) hf_64 (fun _ h9 => h9) rfl dX10_reading_55 ?_
          refine lv_aload_n hx hb dX10_reading_58 rfl (lv_at hl 0 rfl) ?_
          refine va_get (D := D) (ci := 9) (v := .int (nI (mN E))) (C := RX10) (T := TX10) (N := 36) hx hb hts hwX10 hown hK hP 0 rfl rfl 26 (by decide) hf_164 (fun _ h9 => h9) rfl dX10_reading_59 ?_
          refine lv_iload_n hx hb dX10_reading_62 rfl (lv_at hl 2 rfl) ?_
          refine kk_iast hx hb hK hP hD hS 2 rfl rfl (i := mN E) (by omega) (by decide) dX10_reading_63 (fun H locs hP hD hS => ?_)
          have hP : va_P D vwCl [(m0, .inr (9, [.int i0, .ref a1, .int (nI (cSp C)), .ref a3, .int (nI (cLa C)), .ref a5, .ref a6, .ref a7, .int (nI (cAg C)), .int (-9 : Int32), .int i10, .int i11, .int i12, .ref a13, .ref a14, .ref a15, .ref a16, .int (nI (mN T)), .ref a18, .ref a19, .ref a20, .ref a21, .ref a22, .ref a23, .ref a24, .ref a25, .int (nI (mN E)), .ref a27, .ref a28, .ref a29, .ref a30, .ref a31, .ref a32, .ref a33, .ref a34, .int i35])), (a27, .inl (cI, 8, .inl (upd ro (mN E) (nI x1N)))), (a28, .inl (cI, 8, .inl (upd ri (mN E) (nI x2N)))), (a29, .inl (cI, 8, .inl rv))] H := hP
          have hD : va_D A [(m0, .inr (9, [.int i0, .ref a1, .int (nI (cSp C)), .ref a3, .int (nI (cLa C)), .ref a5, .ref a6, .ref a7, .int (nI (cAg C)), .int (-9 : Int32), .int i10, .int i11, .int i12, .ref a13, .ref a14, .ref a15, .ref a16, .int (nI (mN T)), .ref a18, .ref a19, .ref a20, .ref a21, .ref a22, .ref a23, .ref a24, .ref a25, .int (nI (mN E)), .ref a27, .ref a28, .ref a29, .ref a30, .ref a31, .ref a32, .ref a33, .ref a34, .int i35])), (a27, .inl (cI, 8, .inl (upd ro (mN E) (nI x1N)))), (a28, .inl (cI, 8, .inl (upd ri (mN E) (nI x2N)))), (a29, .inl (cI, 8, .inl rv))] := hD
          refine lv_aload_n hx hb dX10_reading_64 rfl (lv_at hl 0 rfl) ?_
          refine va_get (D := D) (ci := 9) (v := .ref a29) (C := RX10) (T := TX10) (N := 36) hx hb hts hwX10 hown hK hP 0 rfl rfl 29 (by decide) hf_67 (fun _ h9 => h9) rfl dX10_reading_65 ?_
          refine lv_aload_n hx hb dX10_reading_68 rfl (lv_at hl 0 rfl) ?_
          refine va_get (D := D) (ci := 9) (v := .int (nI (mN E))) (C := RX10) (T := TX10) (N := 36) hx hb hts hwX10 hown hK hP 0 rfl rfl 26 (by decide) hf_164 (fun _ h9 => h9) rfl dX10_reading_69 ?_
          refine lv_iload_n hx hb dX10_reading_72 rfl (lv_at hl 3 rfl) ?_
          refine kk_iast hx hb hK hP hD hS 3 rfl rfl (i := mN E) (by omega) (by decide) dX10_reading_73 (fun H locs hP hD hS => ?_)
          have hP : va_P D vwCl [(m0, .inr (9, [.int i0, .ref a1, .int (nI (cSp C)), .ref a3, .int (nI (cLa C)), .ref a5, .ref a6, .ref a7, .int (nI (cAg C)), .int (-9 : Int32), .int i10, .int i11, .int i12, .ref a13, .ref a14, .ref a15, .ref a16, .int (nI (mN T)), .ref a18, .ref a19, .ref a20, .ref a21, .ref a22, .ref a23, .ref a24, .ref a25, .int (nI (mN E)), .ref a27, .ref a28, .ref a29, .ref a30, .ref a31, .ref a32, .ref a33, .ref a34, .int i35])), (a27, .inl (cI, 8, .inl (upd ro (mN E) (nI x1N)))), (a28, .inl (cI, 8, .inl (upd ri (mN E) (nI x2N)))), (a29, .inl (cI, 8, .inl (upd rv (mN E) (nI x3N))))] H := hP
          have hD : va_D A [(m0, .inr (9, [.int i0, .ref a1, .int (nI (cSp C)), .ref a3, .int (nI (cLa C)), .ref a5, .ref a6, .ref a7, .int (nI (cAg C)), .int (-9 : Int32), .int i10, .int i11, .int i12, .ref a13, .ref a14, .ref a15, .ref a16, .int (nI (mN T)), .ref a18, .ref a19, .ref a20, .ref a21, .ref a22, .ref a23, .ref a24, .ref a25, .int (nI (mN E)), .ref a27, .ref a28, .ref a29, .ref a30, .ref a31, .ref a32, .ref a33, .ref a34, .int i35])), (a27, .inl (cI, 8, .inl (upd ro (mN E) (nI x1N)))), (a28, .inl (cI, 8, .inl (upd ri (mN E) (nI x2N)))), (a29, .inl (cI, 8, .inl (upd rv (mN E) (nI x3N))))] := hD
          refine lv_aload_n hx hb dX10_reading_74 rfl (lv_at hl 0 rfl) ?_
          refine lv_dup hx hb dX10_reading_75 rfl ?_
          refine va_get (D := D) (ci := 9) (v := .int (nI (mN E))) (C := RX10) (T := TX10) (N := 36) hx hb hts hwX10 hown hK hP 0 rfl rfl 26 (by decide) hf_164 (fun _ h9 => h9) rfl dX10_reading_76 ?_
          refine lv_iconst (v := nI 1) hx hb dX10_reading_79 (by decide +kernel) ?_
          refine kk_iadd hx hb dX10_reading_80 ?_
          refine va_put (D := D) (ci := 9) (v := .int (nI ((mN E) + 1))) (ty := .int) (C := RX10) (T := TX10) (N := 36) hx hb hts hwX10 tyX10 tyX10_ok nmX10 hown hK hP hD hS 0 rfl rfl 26 (by decide) hf_164 (fun _ h9 => h9) rfl (by decide +kernel) rfl rfl (Nat.le_of_ble_eq_true rfl) dX10_reading_81 (fun H locs hP hD hS => ?_)
          have hP : va_P D vwCl [(m0, .inr (9, [.int i0, .ref a1, .int (nI (cSp C)), .ref a3, .int (nI (cLa C)), .ref a5, .ref a6, .ref a7, .int (nI (cAg C)), .int (-9 : Int32), .int i10, .int i11, .int i12, .ref a13, .ref a14, .ref a15, .ref a16, .int (nI (mN T)), .ref a18, .ref a19, .ref a20, .ref a21, .ref a22, .ref a23, .ref a24, .ref a25, .int (nI ((mN E) + 1)), .ref a27, .ref a28, .ref a29, .ref a30, .ref a31, .ref a32, .ref a33, .ref a34, .int i35])), (a27, .inl (cI, 8, .inl (upd ro (mN E) (nI x1N)))), (a28, .inl (cI, 8, .inl (upd ri (mN E) (nI x2N)))), (a29, .inl (cI, 8, .inl (upd rv (mN E) (nI x3N))))] H := hP
          have hD : va_D A [(m0, .inr (9, [.int i0, .ref a1, .int (nI (cSp C)), .ref a3, .int (nI (cLa C)), .ref a5, .ref a6, .ref a7, .int (nI (cAg C)), .int (-9 : Int32), .int i10, .int i11, .int i12, .ref a13, .ref a14, .ref a15, .ref a16, .int (nI (mN T)), .ref a18, .ref a19, .ref a20, .ref a21, .ref a22, .ref a23, .ref a24, .ref a25, .int (nI ((mN E) + 1)), .ref a27, .ref a28, .ref a29, .ref a30, .ref a31, .ref a32, .ref a33, .ref a34, .int i35])), (a27, .inl (cI, 8, .inl (upd ro (mN E) (nI x1N)))), (a28, .inl (cI, 8, .inl (upd ri (mN E) (nI x2N)))), (a29, .inl (cI, 8, .inl (upd rv (mN E) (nI x3N))))] := hD
          refine lv_aload_n hx hb dX10_reading_84 rfl (lv_at hl 0 rfl) ?_
          refine va_get (D := D) (ci := 9) (v := .int (nI ((mN E) + 1))) (C := RX10) (T := TX10) (N := 36) hx hb hts hwX10 hown hK hP 0 rfl rfl 26 (by decide) hf_164 (fun _ h9 => h9) rfl dX10_reading_85 ?_
          refine lv_iconst (v := nI 1) hx hb dX10_reading_88 (by decide +kernel) ?_
          refine kk_isub hx hb dX10_reading_89 (by omega) ?_
          have hq : (nI (((mN E) + 1) - 1)) = sp_reading C E (nI x1N) (nI x2N) (nI x3N) ∧ (mApp E x1N x2N x3N) = nx_reading C E (nI x1N) (nI x2N) (nI x3N) ∧ repM (mApp E x1N x2N x3N) (upd ro (mN E) (nI x1N)) (upd ri (mN E) (nI x2N)) (upd rv (mN E) (nI x3N)) := by refine ⟨by simp only [sp_reading, hb_3, hb_5, hb_7, t_x1, t_x2, t_x3, cond_true, cond_false, if_neg (show ¬ mN E = 8 by omega)]; rfl, by simp only [nx_reading, hb_3, hb_5, hb_7, t_x1, t_x2, t_x3, cond_true, cond_false, if_neg (show ¬ mN E = 8 by omega)], repM_app hrE⟩
          refine kk_QQ hQQ ?_
          exact W.iret (v := nI (((mN E) + 1) - 1)) hx hb hr (fun t ht hW => ⟨⟨nI (((mN E) + 1) - 1), (mApp E x1N x2N x3N, upd ro (mN E) (nI x1N), upd ri (mN E) (nI x2N), upd rv (mN E) (nI x3N)), rfl, hq, by show va_P D vwCl _ t.heap; rw [ht]; exact hP⟩, hS.F ht⟩) hS.2.2 dX10_reading_90
        · skip
          refine lv_bipush (v := (-4 : Int32)) hx hb dX10_reading_41 (by decide +kernel) ?_
          have hq : (-4 : Int32) = sp_reading C E (nI x1N) (nI x2N) (nI x3N) ∧ E = nx_reading C E (nI x1N) (nI x2N) (nI x3N) ∧ repM E ro ri rv := by refine ⟨by simp only [sp_reading, hb_3, hb_5, hb_7, t_x1, t_x2, t_x3, cond_true, cond_false, if_pos (show mN E = 8 by omega)], by simp only [nx_reading, hb_3, hb_5, hb_7, t_x1, t_x2, t_x3, cond_true, cond_false, if_pos (show mN E = 8 by omega)], hrE⟩
          refine kk_QQ hQQ ?_
          exact W.iret (v := (-4 : Int32)) hx hb hr (fun t ht hW => ⟨⟨(-4 : Int32), (E, ro, ri, rv), rfl, hq, by show va_P D vwCl _ t.heap; rw [ht]; exact hP⟩, hS.F ht⟩) hS.2.2 dX10_reading_43
      · skip
        refine lv_bipush (v := (-2 : Int32)) hx hb dX10_reading_29 (by decide +kernel) ?_
        have hq : (-2 : Int32) = sp_reading C E (nI x1N) (nI x2N) x3 ∧ E = nx_reading C E (nI x1N) (nI x2N) x3 ∧ repM E ro ri rv := by refine ⟨by simp only [sp_reading, hb_3, hb_5, hb_7, t_x1, t_x2, cond_true, cond_false], by simp only [nx_reading, hb_3, hb_5, hb_7, t_x1, t_x2, cond_true, cond_false], hrE⟩
        refine kk_QQ hQQ ?_
        exact W.iret (v := (-2 : Int32)) hx hb hr (fun t ht hW => ⟨⟨(-2 : Int32), (E, ro, ri, rv), rfl, hq, by show va_P D vwCl _ t.heap; rw [ht]; exact hP⟩, hS.F ht⟩) hS.2.2 dX10_reading_31
  · skip
    refine lv_iconst (v := (-1 : Int32)) hx hb dX10_reading_8 (by decide +kernel) ?_
    have hq : (-1 : Int32) = sp_reading C E x1 x2 x3 ∧ E = nx_reading C E x1 x2 x3 ∧ repM E ro ri rv := by refine ⟨by simp only [sp_reading, hb_3, cond_true, cond_false], by simp only [nx_reading, hb_3, cond_true, cond_false], hrE⟩
    refine kk_QQ hQQ ?_
    exact W.iret (v := (-1 : Int32)) hx hb hr (fun t ht hW => ⟨⟨(-1 : Int32), (E, ro, ri, rv), rfl, hq, by show va_P D vwCl _ t.heap; rw [ht]; exact hP⟩, hS.F ht⟩) hS.2.2 dX10_reading_9

abbrev rmX10_where : Room := { frames := 2, cells := 0, slots := 0, locals := 46 }
set_option maxHeartbeats 4000000 in
set_option maxRecDepth 100000 in
theorem c_X10_where (lL : Launch) (D : va_G) (cI cS : ClassId) (C : Co) (T : Mv) (E : Mv) (m0 : Nat) (a1 : Nat) (a3 : Nat) (a5 : Nat) (a6 : Nat) (a7 : Nat) (a13 : Nat) (a14 : Nat) (a15 : Nat) (a16 : Nat) (a18 : Nat) (a19 : Nat) (a20 : Nat) (a21 : Nat) (a22 : Nat) (a23 : Nat) (a24 : Nat) (a25 : Nat) (a27 : Nat) (a28 : Nat) (a29 : Nat) (a30 : Nat) (a31 : Nat) (a32 : Nat) (a33 : Nat) (a34 : Nat) (i0 : Int32) (i10 : Int32) (i11 : Int32) (i12 : Int32) (i35 : Int32) (sk : Nat → Int32) (sh : Nat → Int32) (ki : Nat → Int32) (st : Nat → Int32) (cl : Nat → Int32) (mo : Nat → Int32) (mi : Nat → Int32) (mt : Nat → Int32) (x1 : Int32) (x2 : Int32) (hX : okX C T E) (hrC : repC C sk sh ki st cl) (hrT : repM T mo mi mt) : Met lL yX10_where wsX10_where rmX10_where (va_Pc [.ref m0, .int x1, .int x2] (kBp D cI cS [(m0, .inr (9, [.int i0, .ref a1, .int (nI (cSp C)), .ref a3, .int (nI (cLa C)), .ref a5, .ref a6, .ref a7, .int (nI (cAg C)), .int (-9 : Int32), .int i10, .int i11, .int i12, .ref a13, .ref a14, .ref a15, .ref a16, .int (nI (mN T)), .ref a18, .ref a19, .ref a20, .ref a21, .ref a22, .ref a23, .ref a24, .ref a25, .int (nI (mN E)), .ref a27, .ref a28, .ref a29, .ref a30, .ref a31, .ref a32, .ref a33, .ref a34, .int i35])), (a1, .inl (cI, 6, .inl sk)), (a3, .inl (cI, 4, .inl sh)), (a5, .inl (cI, 4, .inl ki)), (a6, .inl (cI, 4, .inl st)), (a7, .inl (cI, 4, .inl cl)), (a18, .inl (cI, 9, .inl mo)), (a19, .inl (cI, 9, .inl mi)), (a20, .inl (cI, 9, .inl mt))])) (vp_Si (fun r : Int32 => r = sp_where C T x1 x2)) 0 0 (fun _ => False) := by
  refine Met.ofW (cc := cX10_where) (maxL := 3) (ret := (some .int)) (by decide) rfl ?_
  intro pP eE sS mM args below meth cC s₁ B hml hv
  obtain ⟨rfl, hP, hK⟩ := hv
  have hx := B.exec
  have hb := B.bytes
  have hr := B.returns
  have hts := atoms_spec (ws := wsX10_where) B.pre
  have hown : sS.vm.findClass RX10 = some mM.cls := findClass_of_methodNamed B.named
  have hlocks := B.notSynchronized
  have hP : va_P D vwCl [(m0, .inr (9, [.int i0, .ref a1, .int (nI (cSp C)), .ref a3, .int (nI (cLa C)), .ref a5, .ref a6, .ref a7, .int (nI (cAg C)), .int (-9 : Int32), .int i10, .int i11, .int i12, .ref a13, .ref a14, .ref a15, .ref a16, .int (nI (mN T)), .ref a18, .ref a19, .ref a20, .ref a21, .ref a22, .ref a23, .ref a24, .ref a25, .int (nI (mN E)), .ref a27, .ref a28, .ref a29, .ref a30, .ref a31, .ref a32, .ref a33, .ref a34, .int i35])), (a1, .inl (cI, 6, .inl sk)), (a3, .inl (cI, 4, .inl sh)), (a5, .inl (cI, 4, .inl ki)), (a6, .inl (cI, 4, .inl st)), (a7, .inl (cI, 4, .inl cl)), (a18, .inl (cI, 9, .inl mo)), (a19, .inl (cI, 9, .inl mi)), (a20, .inl (cI, 9, .inl mt))] sS.heap := hP
  have hl := lv_entry ([.ref m0, .int x1, .int x2]) (n := 3) (Nat.le_of_ble_eq_true rfl)
  rw [lg_entry_eq]
  generalize (lg_sl ([.ref m0, .int x1, .int x2]) ++ List.replicate (3 - (lg_sl ([.ref m0, .int x1, .int x2])).length) Slot.unset).toArray = ls at hl ⊢
  have hl : lv_has ls 3 [(0, .ref m0), (1, .int x1), (2, .int x2)] := hl
  obtain ⟨QQ, hQQ⟩ : ∃ QQ : State → Prop, QQ = MQ below (vp_Si (fun r : Int32 => r = sp_where C T x1 x2)) ([.ref m0, .int x1, .int x2]).toArray sS 0 0 (fun _ => False) := ⟨_, rfl⟩
  refine kk_QQ hQQ.symm ?_
  obtain ⟨hX1, hX2, hX3, hX4⟩ := okX_le hX
  refine lv_aload_n hx hb dX10_where_0 rfl (lv_at hl 0 rfl) ?_
  refine lv_iload_n hx hb dX10_where_1 rfl (lv_at hl 1 rfl) ?_
  have o_1 : (cLa C) ≤ 4 := by omega
  refine vp_callSi (W.runV (As := [.int x1]) (rest := []) ⟨hx, hb, hml, hown, hts⟩ (c_X10_noLamp lL D cI cS m0 a1 a3 a5 a6 a7 a13 a14 a15 a16 a18 a19 a20 a21 a22 a23 a24 a25 a27 a28 a29 a30 a31 a32 a33 a34 i0 (nI (cSp C)) (nI (cAg C)) (-9 : Int32) i10 i11 i12 (nI (mN T)) (nI (mN E)) i35 x1 (cLa C) o_1) (cwV 1 hts gX10_where_X10_noLamp rfl rfl rfl cd_X10_noLamp ⟨Nat.le_of_ble_eq_true rfl, Nat.le_of_ble_eq_true rfl⟩) ⟨kBp_blind, va_recv hK hP (ci := 9) (q0 := 0) rfl rfl, fun U hU hW => ⟨rfl, by rw [hU]; exact hP.sub [0] rfl, va_K.moved hW.alike hK⟩⟩ rfl rfl hl.1 rfl (lv_room (Nat.le_of_ble_eq_true rfl)) dX10_where_2 ⟨Nat.le_of_ble_eq_true rfl, Nat.le_of_ble_eq_true rfl⟩) (fun r_2 hw_2 => ?_)
  obtain rfl : r_2 = kb (!inB x1 (cLa C)) := hw_2
  refine kk_ifn_eq (tgt := 10) hx hb dX10_where_5 (by decide) (fun hb_3 => ?_) (fun hb_3 => ?_)
  · skip
    obtain ⟨x1N, hx1N, rfl⟩ := inB_t hb_3
    have t_x1 := nI_clamp (show x1N < 2 ^ 31 by omega)
    obtain ⟨hC, hM0, hE⟩ := okX_la hX hx1N
    have hM := ok9_of hM0
    have hkd := kdM_of hX hrC
    have hwo := hkd.2
    have hk3 : 9 < cLa C → cKi C 9 = 3 := fun z => absurd hC.2.1 (by omega)
    have hst := hrC.2.2.2.1
    have hrB : repB C sk sh cl := ⟨hrC.1, hrC.2.1, hrC.2.2.2.2⟩
    have hxa := hC.2.1
    have hxs := hC.1
    refine lv_iload_n hx hb dX10_where_10 rfl (lv_at hl 2 rfl) ?_
    refine vp_callSi (W.runS (As := [.int x2]) (rest := []) ⟨hx, hb, hml, hown, hts⟩ (c_X10_isWatch lL D cI cS x2) (va_cwS 1 hts gX10_where_X10_isWatch rfl rfl rfl cd_X10_isWatch ⟨Nat.le_of_ble_eq_true rfl, Nat.le_of_ble_eq_true rfl⟩) ⟨kBp_blind, fun U hU hW => ⟨rfl, by rw [hU]; exact hP.sub [] rfl, va_K.moved hW.alike hK⟩⟩ rfl rfl hl.1 rfl (lv_room (Nat.le_of_ble_eq_true rfl)) dX10_where_11 ⟨Nat.le_of_ble_eq_true rfl, Nat.le_of_ble_eq_true rfl⟩) (fun r_4 hw_4 => ?_)
    obtain rfl : r_4 = kb (inB x2 24) := hw_4
    -- if (inB x2 24)
    refine kk_ifb_eq (tgt := 26) hx hb dX10_where_14 (by decide) (fun hb_5 => ?_) (fun hb_5 => ?_)
    · skip
      refine lv_bipush (v := (-2 : Int32)) hx hb dX10_where_26 (by decide +kernel) ?_
      have hq : (-2 : Int32) = sp_where C T (nI x1N) x2 := by simp only [sp_where, hb_3, hb_5, t_x1, cond_true, cond_false]
      refine kk_QQ hQQ ?_
      exact W.iret (v := (-2 : Int32)) hx hb hr (fun t ht hW => ⟨(-2 : Int32), rfl, hq, ht⟩) (fun q h => by cases h) dX10_where_28
    · skip
      obtain ⟨x2N, hx2N, rfl⟩ := inB_t hb_5
      have t_x2 := nI_clamp (show x2N < 2 ^ 31 by omega)
      refine lv_aload_n hx hb dX10_where_17 rfl (lv_at hl 0 rfl) ?_
      refine lv_iload_n hx hb dX10_where_18 rfl (lv_at hl 1 rfl) ?_
      refine lv_iload_n hx hb dX10_where_19 rfl (lv_at hl 2 rfl) ?_
      have o_6 : okC C := by assumption
      have o_7 : ok9 C T := by assumption
      have o_8 : ∀ x1N, x1N < cLa C → st x1N = nI (cSt C x1N) := by assumption
      have o_9 : repM T mo mi mt := by assumption
      have o_10 : x1N < cLa C := by omega
      have o_11 : x2N < 24 := by omega
      refine vp_callSi (W.runV (As := [.int (nI x1N), .int (nI x2N)]) (rest := []) ⟨hx, hb, hml, hown, hts⟩ (c_X10_standsIn lL D cI cS C T m0 a1 a3 a5 a6 a7 a13 a14 a15 a16 a18 a19 a20 a21 a22 a23 a24 a25 a27 a28 a29 a30 a31 a32 a33 a34 i0 (nI (cSp C)) (nI (cLa C)) (nI (cAg C)) (-9 : Int32) i10 i11 i12 (nI (mN E)) i35 st mo mi mt x1N x2N o_6 o_7 o_8 o_9 o_10 o_11) (cwV 2 hts gX10_where_X10_standsIn rfl rfl rfl cd_X10_standsIn ⟨Nat.le_of_ble_eq_true rfl, Nat.le_of_ble_eq_true rfl⟩) ⟨kBp_blind, va_recv hK hP (ci := 9) (q0 := 0) rfl rfl, fun U hU hW => ⟨rfl, by rw [hU]; exact hP.sub [0, 4, 6, 7, 8] rfl, va_K.moved hW.alike hK⟩⟩ rfl rfl hl.1 rfl (lv_room (Nat.le_of_ble_eq_true rfl)) dX10_where_20 ⟨Nat.le_of_ble_eq_true rfl, Nat.le_of_ble_eq_true rfl⟩) (fun r_12 hw_12 => ?_)
      obtain rfl : r_12 = nI (plc T (cSt C) x1N x2N) := hw_12
      refine lv_goto (tgt := 28) hx hb dX10_where_23 (by decide) ?_
      have hq : nI (plc T (cSt C) x1N x2N) = sp_where C T (nI x1N) (nI x2N) := by simp only [sp_where, hb_3, hb_5, t_x1, t_x2, cond_true, cond_false]
      refine kk_QQ hQQ ?_
      exact W.iret (v := nI (plc T (cSt C) x1N x2N)) hx hb hr (fun t ht hW => ⟨nI (plc T (cSt C) x1N x2N), rfl, hq, ht⟩) (fun q h => by cases h) dX10_where_28
  · skip
    refine lv_iconst (v := (-1 : Int32)) hx hb dX10_where_8 (by decide +kernel) ?_
    have hq : (-1 : Int32) = sp_where C T x1 x2 := by simp only [sp_where, hb_3, cond_true, cond_false]
    refine kk_QQ hQQ ?_
    exact W.iret (v := (-1 : Int32)) hx hb hr (fun t ht hW => ⟨(-1 : Int32), rfl, hq, ht⟩) (fun q h => by cases h) dX10_where_9

abbrev rmX10_tell : Room := { frames := 2, cells := 0, slots := 0, locals := 46 }
set_option maxHeartbeats 4000000 in
set_option maxRecDepth 100000 in
theorem c_X10_tell (lL : Launch) (D : va_G) (cI cS : ClassId) (sz : Nat) (C : Co) (T : Mv) (E : Mv) (m0 : Nat) (a1 : Nat) (a3 : Nat) (a5 : Nat) (a6 : Nat) (a7 : Nat) (a13 : Nat) (a14 : Nat) (a15 : Nat) (a16 : Nat) (a18 : Nat) (a19 : Nat) (a20 : Nat) (a21 : Nat) (a22 : Nat) (a23 : Nat) (a24 : Nat) (a25 : Nat) (a27 : Nat) (a28 : Nat) (a29 : Nat) (a30 : Nat) (a31 : Nat) (a32 : Nat) (a33 : Nat) (a34 : Nat) (i0 : Int32) (i10 : Int32) (i11 : Int32) (i12 : Int32) (i35 : Int32) (ki : Nat → Int32) (st : Nat → Int32) (x1 : Int32) (hX : okX C T E) (hrk : ∀ k, k < cLa C → ki k = nI (cKi C k)) (hrs : ∀ k, k < cLa C → st k = nI (cSt C k)) : Met lL yX10_tell wsX10_tell rmX10_tell (va_Pc [.ref m0, .int x1] (kB D cI cS [(m0, .inr (9, [.int i0, .ref a1, .int (nI (cSp C)), .ref a3, .int (nI (cLa C)), .ref a5, .ref a6, .ref a7, .int (nI (cAg C)), .int (-9 : Int32), .int i10, .int i11, .int i12, .ref a13, .ref a14, .ref a15, .ref a16, .int (nI (mN T)), .ref a18, .ref a19, .ref a20, .ref a21, .ref a22, .ref a23, .ref a24, .ref a25, .int (nI (mN E)), .ref a27, .ref a28, .ref a29, .ref a30, .ref a31, .ref a32, .ref a33, .ref a34, .int i35])), (a5, .inl (cI, 4, .inl ki)), (a6, .inl (cI, 4, .inl st))] sz)) (kQi D (fun (r : Int32) (u : Int32) => r = sp_tell C x1 ∧ u = nx_tell C x1 i35) (fun u : Int32 => [(m0, .inr (9, [.int i0, .ref a1, .int (nI (cSp C)), .ref a3, .int (nI (cLa C)), .ref a5, .ref a6, .ref a7, .int (nI (cAg C)), .int (-9 : Int32), .int i10, .int i11, .int i12, .ref a13, .ref a14, .ref a15, .ref a16, .int (nI (mN T)), .ref a18, .ref a19, .ref a20, .ref a21, .ref a22, .ref a23, .ref a24, .ref a25, .int (nI (mN E)), .ref a27, .ref a28, .ref a29, .ref a30, .ref a31, .ref a32, .ref a33, .ref a34, .int u])), (a5, .inl (cI, 4, .inl ki)), (a6, .inl (cI, 4, .inl st))]) (va_A [(m0, .inr (9, [.int i0, .ref a1, .int (nI (cSp C)), .ref a3, .int (nI (cLa C)), .ref a5, .ref a6, .ref a7, .int (nI (cAg C)), .int (-9 : Int32), .int i10, .int i11, .int i12, .ref a13, .ref a14, .ref a15, .ref a16, .int (nI (mN T)), .ref a18, .ref a19, .ref a20, .ref a21, .ref a22, .ref a23, .ref a24, .ref a25, .int (nI (mN E)), .ref a27, .ref a28, .ref a29, .ref a30, .ref a31, .ref a32, .ref a33, .ref a34, .int i35])), (a5, .inl (cI, 4, .inl ki)), (a6, .inl (cI, 4, .inl st))] sz)) 0 0 (va_A [(m0, .inr (9, [.int i0, .ref a1, .int (nI (cSp C)), .ref a3, .int (nI (cLa C)), .ref a5, .ref a6, .ref a7, .int (nI (cAg C)), .int (-9 : Int32), .int i10, .int i11, .int i12, .ref a13, .ref a14, .ref a15, .ref a16, .int (nI (mN T)), .ref a18, .ref a19, .ref a20, .ref a21, .ref a22, .ref a23, .ref a24, .ref a25, .int (nI (mN E)), .ref a27, .ref a28, .ref a29, .ref a30, .ref a31, .ref a32, .ref a33, .ref a34, .int i35])), (a5, .inl (cI, 4, .inl ki)), (a6, .inl (cI, 4, .inl st))] sz) := by
  refine Met.ofW (cc := cX10_tell) (maxL := 4) (ret := (some .int)) (by decide) rfl ?_
  intro pP eE sS mM args below meth cC s₁ B hml hv
  obtain ⟨rfl, hsz, hP, hK, hD0⟩ := hv
  have hx := B.exec
  have hb := B.bytes
  have hr := B.returns
  have hts := atoms_spec (ws := wsX10_tell) B.pre
  have hown : sS.vm.findClass RX10 = some mM.cls := findClass_of_methodNamed B.named
  have hlocks := B.notSynchronized
  subst hsz
  have hD := hD0.self (sz := sS.heap.size)
  generalize hAe : va_A [(m0, .inr (9, [.int i0, .ref a1, .int (nI (cSp C)), .ref a3, .int (nI (cLa C)), .ref a5, .ref a6, .ref a7, .int (nI (cAg C)), .int (-9 : Int32), .int i10, .int i11, .int i12, .ref a13, .ref a14, .ref a15, .ref a16, .int (nI (mN T)), .ref a18, .ref a19, .ref a20, .ref a21, .ref a22, .ref a23, .ref a24, .ref a25, .int (nI (mN E)), .ref a27, .ref a28, .ref a29, .ref a30, .ref a31, .ref a32, .ref a33, .ref a34, .int i35])), (a5, .inl (cI, 4, .inl ki)), (a6, .inl (cI, 4, .inl st))] sS.heap.size = A at hD ⊢
  have hA : ∀ q : Nat, sS.heap.size ≤ q → A q := fun q h => by rw [← hAe]; exact Or.inr h
  have hS : va_S A sS.heap sS.heap [] := va_S.rf
  have hP : va_P D vwCl [(m0, .inr (9, [.int i0, .ref a1, .int (nI (cSp C)), .ref a3, .int (nI (cLa C)), .ref a5, .ref a6, .ref a7, .int (nI (cAg C)), .int (-9 : Int32), .int i10, .int i11, .int i12, .ref a13, .ref a14, .ref a15, .ref a16, .int (nI (mN T)), .ref a18, .ref a19, .ref a20, .ref a21, .ref a22, .ref a23, .ref a24, .ref a25, .int (nI (mN E)), .ref a27, .ref a28, .ref a29, .ref a30, .ref a31, .ref a32, .ref a33, .ref a34, .int i35])), (a5, .inl (cI, 4, .inl ki)), (a6, .inl (cI, 4, .inl st))] sS.heap := hP
  have hD : va_D A [(m0, .inr (9, [.int i0, .ref a1, .int (nI (cSp C)), .ref a3, .int (nI (cLa C)), .ref a5, .ref a6, .ref a7, .int (nI (cAg C)), .int (-9 : Int32), .int i10, .int i11, .int i12, .ref a13, .ref a14, .ref a15, .ref a16, .int (nI (mN T)), .ref a18, .ref a19, .ref a20, .ref a21, .ref a22, .ref a23, .ref a24, .ref a25, .int (nI (mN E)), .ref a27, .ref a28, .ref a29, .ref a30, .ref a31, .ref a32, .ref a33, .ref a34, .int i35])), (a5, .inl (cI, 4, .inl ki)), (a6, .inl (cI, 4, .inl st))] := hD
  have hf_16 := hts (.fieldLink RX10 16 "OldLampsModel" "kindOf" "[I") (List.mem_of_getElem? (i := 1) rfl)
  have hf_19 := hts (.fieldLink RX10 19 "OldLampsModel" "stoodAt" "[I") (List.mem_of_getElem? (i := 2) rfl)
  have hwX10 : ∀ w ∈ wsX100, w ∈ wsX10_tell := fun _ h => List.mem_cons_of_mem _ (List.mem_append_right _ h)
  have hl := lv_entry ([.ref m0, .int x1]) (n := 4) (Nat.le_of_ble_eq_true rfl)
  rw [lg_entry_eq]
  generalize (lg_sl ([.ref m0, .int x1]) ++ List.replicate (4 - (lg_sl ([.ref m0, .int x1])).length) Slot.unset).toArray = ls at hl ⊢
  have hl : lv_has ls 4 [(0, .ref m0), (1, .int x1)] := hl
  obtain ⟨QQ, hQQ⟩ : ∃ QQ : State → Prop, QQ = MQ below (kQi D (fun (r : Int32) (u : Int32) => r = sp_tell C x1 ∧ u = nx_tell C x1 i35) (fun u : Int32 => [(m0, .inr (9, [.int i0, .ref a1, .int (nI (cSp C)), .ref a3, .int (nI (cLa C)), .ref a5, .ref a6, .ref a7, .int (nI (cAg C)), .int (-9 : Int32), .int i10, .int i11, .int i12, .ref a13, .ref a14, .ref a15, .ref a16, .int (nI (mN T)), .ref a18, .ref a19, .ref a20, .ref a21, .ref a22, .ref a23, .ref a24, .ref a25, .int (nI (mN E)), .ref a27, .ref a28, .ref a29, .ref a30, .ref a31, .ref a32, .ref a33, .ref a34, .int u])), (a5, .inl (cI, 4, .inl ki)), (a6, .inl (cI, 4, .inl st))]) A) ([.ref m0, .int x1]).toArray sS 0 0 A := ⟨_, rfl⟩
  refine kk_QQ hQQ.symm ?_
  obtain ⟨hX1, hX2, hX3, hX4⟩ := okX_le hX
  refine lv_aload_n hx hb dX10_tell_0 rfl (lv_at hl 0 rfl) ?_
  refine lv_iload_n hx hb dX10_tell_1 rfl (lv_at hl 1 rfl) ?_
  have o_1 : (cLa C) ≤ 4 := by omega
  refine vp_callSi (W.runV (As := [.int x1]) (rest := []) ⟨hx, hb, hml, hown, hts⟩ (c_X10_noLamp lL D cI cS m0 a1 a3 a5 a6 a7 a13 a14 a15 a16 a18 a19 a20 a21 a22 a23 a24 a25 a27 a28 a29 a30 a31 a32 a33 a34 i0 (nI (cSp C)) (nI (cAg C)) (-9 : Int32) i10 i11 i12 (nI (mN T)) (nI (mN E)) i35 x1 (cLa C) o_1) (cwV 1 hts gX10_tell_X10_noLamp rfl rfl rfl cd_X10_noLamp ⟨Nat.le_of_ble_eq_true rfl, Nat.le_of_ble_eq_true rfl⟩) ⟨kBp_blind, va_recv hK hP (ci := 9) (q0 := 0) rfl rfl, fun U hU hW => ⟨rfl, by rw [hU]; exact hP.sub [0] rfl, va_K.moved hW.alike hK⟩⟩ rfl rfl hl.1 rfl (lv_room (Nat.le_of_ble_eq_true rfl)) dX10_tell_2 ⟨Nat.le_of_ble_eq_true rfl, Nat.le_of_ble_eq_true rfl⟩) (fun r_2 hw_2 => ?_)
  obtain rfl : r_2 = kb (!inB x1 (cLa C)) := hw_2
  refine kk_ifn_eq (tgt := 10) hx hb dX10_tell_5 (by decide) (fun hb_3 => ?_) (fun hb_3 => ?_)
  · skip
    obtain ⟨x1N, hx1N, rfl⟩ := inB_t hb_3
    have t_x1 := nI_clamp (show x1N < 2 ^ 31 by omega)
    have hk2 : cKi C x1N ≤ 2 := by
      rcases hX with h2 | ⟨-, -, -, h2, -⟩
      · omega
      · exact h2 x1N hx1N
    refine lv_aload_n hx hb dX10_tell_10 rfl (lv_at hl 0 rfl) ?_
    refine va_get (D := D) (ci := 9) (v := .ref a5) (C := RX10) (T := TX10) (N := 36) hx hb hts hwX10 hown hK hP 0 rfl rfl 5 (by decide) hf_16 (fun _ h9 => h9) rfl dX10_tell_11 ?_
    refine lv_iload_n hx hb dX10_tell_14 rfl (lv_at hl 1 rfl) ?_
    refine kk_iald hx hb hK hP 1 rfl rfl (i := x1N) (by omega) (by decide) dX10_tell_15 ?_
    refine kk_top (y := nI (cKi C x1N)) (hrk x1N hx1N) ?_
    refine lv_istore_n (lv' := [(2, .int (nI (cKi C x1N))), (0, .ref m0), (1, .int (nI x1N))]) hx hb dX10_tell_16 rfl hl (by decide) rfl (fun ls hl => ?_)
    refine lv_iload_n hx hb dX10_tell_17 rfl (lv_at hl 0 rfl) ?_
    refine lv_iconst (v := nI 2) hx hb dX10_tell_18 (by decide +kernel) ?_
    refine kk_icmp_ne (tgt := 27) hx hb dX10_tell_19 (by decide) (by omega) (by omega) (fun c_4 => ?_) (fun c_4 => ?_)
    · skip
      refine lv_iload_n hx hb dX10_tell_27 rfl (lv_at hl 0 rfl) ?_
      refine kk_if_le (tgt := 36) hx hb dX10_tell_28 (by decide) (by omega) (fun c_5 => ?_) (fun c_5 => ?_)
      · skip
        refine lv_aload_n hx hb dX10_tell_36 rfl (lv_at hl 1 rfl) ?_
        refine lv_iconst (v := nI 1) hx hb dX10_tell_37 (by decide +kernel) ?_
        have hF := va_free (wc := [(m0, .inr (9, [.int i0, .ref a1, .int (nI (cSp C)), .ref a3, .int (nI (cLa C)), .ref a5, .ref a6, .ref a7, .int (nI (cAg C)), .int (-9 : Int32), .int i10, .int i11, .int i12, .ref a13, .ref a14, .ref a15, .ref a16, .int (nI (mN T)), .ref a18, .ref a19, .ref a20, .ref a21, .ref a22, .ref a23, .ref a24, .ref a25, .int (nI (mN E)), .ref a27, .ref a28, .ref a29, .ref a30, .ref a31, .ref a32, .ref a33, .ref a34, .int i35]))]) hD hS hA [0] rfl
        refine va_callv (va_runV (As := [.int (nI 1)]) (rest := []) ⟨hx, hb, hml, hown, hts⟩ (c_X10_traced lL D cI cS _ m0 a1 a3 a5 a6 a7 a13 a14 a15 a16 a18 a19 a20 a21 a22 a23 a24 a25 a27 a28 a29 a30 a31 a32 a33 a34 i0 (nI (cSp C)) (nI (cLa C)) (nI (cAg C)) (-9 : Int32) i10 i11 i12 (nI (mN T)) (nI (mN E)) i35 1) (cwV 1 hts gX10_tell_X10_traced rfl rfl rfl cd_X10_traced ⟨Nat.le_of_ble_eq_true rfl, Nat.le_of_ble_eq_true rfl⟩) ⟨kB_blind, va_recv hK hP (ci := 9) (q0 := 0) rfl rfl, fun U hU hW => ⟨rfl, by rw [hU], by rw [hU]; exact hP.sub [0] rfl, va_K.moved hW.alike hK, (hD.sub [0] (by decide) rfl).weaken (fun _ _ _ _ => trivial)⟩⟩ rfl rfl hl.1 rfl (lv_room (Nat.le_of_ble_eq_true rfl)) dX10_tell_38 ⟨Nat.le_of_ble_eq_true rfl, Nat.le_of_ble_eq_true rfl⟩) hS (fun q _ h => hF q h) hF (fun u_6 t H1 locs ht hvm hw_6 hB hz1 hk1 hS => ?_)
        obtain ⟨hP, hD⟩ := kk_join2 (wc := [(m0, .inr (9, [.int i0, .ref a1, .int (nI (cSp C)), .ref a3, .int (nI (cLa C)), .ref a5, .ref a6, .ref a7, .int (nI (cAg C)), .int (-9 : Int32), .int i10, .int i11, .int i12, .ref a13, .ref a14, .ref a15, .ref a16, .int (nI (mN T)), .ref a18, .ref a19, .ref a20, .ref a21, .ref a22, .ref a23, .ref a24, .ref a25, .int (nI (mN E)), .ref a27, .ref a28, .ref a29, .ref a30, .ref a31, .ref a32, .ref a33, .ref a34, .int i35]))]) (w1 := [(m0, .inr (9, [.int i0, .ref a1, .int (nI (cSp C)), .ref a3, .int (nI (cLa C)), .ref a5, .ref a6, .ref a7, .int (nI (cAg C)), .int (-9 : Int32), .int i10, .int i11, .int i12, .ref a13, .ref a14, .ref a15, .ref a16, .int (nI (mN T)), .ref a18, .ref a19, .ref a20, .ref a21, .ref a22, .ref a23, .ref a24, .ref a25, .int (nI (mN E)), .ref a27, .ref a28, .ref a29, .ref a30, .ref a31, .ref a32, .ref a33, .ref a34, .int (trc i35 1)]))]) (ws' := [(m0, .inr (9, [.int i0, .ref a1, .int (nI (cSp C)), .ref a3, .int (nI (cLa C)), .ref a5, .ref a6, .ref a7, .int (nI (cAg C)), .int (-9 : Int32), .int i10, .int i11, .int i12, .ref a13, .ref a14, .ref a15, .ref a16, .int (nI (mN T)), .ref a18, .ref a19, .ref a20, .ref a21, .ref a22, .ref a23, .ref a24, .ref a25, .int (nI (mN E)), .ref a27, .ref a28, .ref a29, .ref a30, .ref a31, .ref a32, .ref a33, .ref a34, .int (trc i35 1)])), (a5, .inl (cI, 4, .inl ki)), (a6, .inl (cI, 4, .inl st))]) (wr := [(a5, .inl (cI, 4, .inl ki)), (a6, .inl (cI, 4, .inl st))]) (H1 := H1) hP hD [0] [1, 2] rfl rfl rfl rfl 3 rfl (by decide) [m0, a5, a6] rfl rfl hk1 (by rw [← ht]; exact hB)
        have hw_6 : True := hw_6
        clear hF hB hk1 hz1 hvm
        clear ht
        generalize H1 = H at hP hS ⊢
        refine lv_iload_n hx hb dX10_tell_41 rfl (lv_at hl 0 rfl) ?_
        refine lv_iconst (v := nI 2) hx hb dX10_tell_42 (by decide +kernel) ?_
        refine kk_icmp_ne (tgt := 51) hx hb dX10_tell_43 (by decide) (by omega) (by omega) (fun c_7 => ?_) (fun c_7 => ?_)
        · skip
          refine lv_aload_n hx hb dX10_tell_51 rfl (lv_at hl 1 rfl) ?_
          refine va_get (D := D) (ci := 9) (v := .ref a6) (C := RX10) (T := TX10) (N := 36) hx hb hts hwX10 hown hK hP 0 rfl rfl 6 (by decide) hf_19 (fun _ h9 => h9) rfl dX10_tell_52 ?_
          refine lv_iload_n hx hb dX10_tell_55 rfl (lv_at hl 2 rfl) ?_
          refine kk_iald hx hb hK hP 2 rfl rfl (i := x1N) (by omega) (by decide) dX10_tell_56 ?_
          refine kk_top (y := nI (cSt C x1N)) (hrs x1N hx1N) ?_
          refine lv_istore_n (lv' := [(3, .int (nI (cSt C x1N))), (2, .int (nI (cKi C x1N))), (0, .ref m0), (1, .int (nI x1N))]) hx hb dX10_tell_57 rfl hl (by decide) rfl (fun ls hl => ?_)
          refine lv_iload_n hx hb dX10_tell_58 rfl (lv_at hl 1 rfl) ?_
          refine kk_if_ne (tgt := 66) hx hb dX10_tell_59 (by decide) (by omega) (fun c_8 => ?_) (fun c_8 => ?_)
          · skip
            refine lv_iload_n hx hb dX10_tell_66 rfl (lv_at hl 1 rfl) ?_
            refine lv_iconst (v := nI 1) hx hb dX10_tell_67 (by decide +kernel) ?_
            refine kk_icmp_ne (tgt := 78) hx hb dX10_tell_68 (by decide) (by omega) (by omega) (fun c_9 => ?_) (fun c_9 => ?_)
            · skip
              refine lv_iconst (v := nI 2) hx hb dX10_tell_78 (by decide +kernel) ?_
              refine lv_iload_n hx hb dX10_tell_79 rfl (lv_at hl 0 rfl) ?_
              refine kk_imul hx hb dX10_tell_80 ?_
              refine lv_bipush (v := nI 100) hx hb dX10_tell_81 (by decide +kernel) ?_
              refine kk_iadd hx hb dX10_tell_83 ?_
              have hq : (nI ((2 * (cSt C x1N)) + 100)) = sp_tell C (nI x1N) ∧ (trc i35 1) = nx_tell C (nI x1N) i35 := by exfalso; omega
              refine kk_QQ hQQ ?_
              exact W.iret (v := nI ((2 * (cSt C x1N)) + 100)) hx hb hr (fun t ht hW => ⟨⟨nI ((2 * (cSt C x1N)) + 100), (trc i35 1), rfl, hq, by show va_P D vwCl _ t.heap; rw [ht]; exact hP⟩, hS.F ht⟩) hS.2.2 dX10_tell_84
            · skip
              refine lv_iload_n hx hb dX10_tell_71 rfl (lv_at hl 0 rfl) ?_
              refine lv_bipush (v := nI 100) hx hb dX10_tell_72 (by decide +kernel) ?_
              refine kk_iadd hx hb dX10_tell_74 ?_
              refine lv_goto (tgt := 84) hx hb dX10_tell_75 (by decide) ?_
              have hq : (nI ((cSt C x1N) + 100)) = sp_tell C (nI x1N) ∧ (trc i35 1) = nx_tell C (nI x1N) i35 := by exfalso; omega
              refine kk_QQ hQQ ?_
              exact W.iret (v := nI ((cSt C x1N) + 100)) hx hb hr (fun t ht hW => ⟨⟨nI ((cSt C x1N) + 100), (trc i35 1), rfl, hq, by show va_P D vwCl _ t.heap; rw [ht]; exact hP⟩, hS.F ht⟩) hS.2.2 dX10_tell_84
          · skip
            refine lv_iload_n hx hb dX10_tell_62 rfl (lv_at hl 0 rfl) ?_
            refine lv_goto (tgt := 84) hx hb dX10_tell_63 (by decide) ?_
            have hq : (nI (cSt C x1N)) = sp_tell C (nI x1N) ∧ (trc i35 1) = nx_tell C (nI x1N) i35 := by refine ⟨by simp only [sp_tell, hb_3, t_x1, cond_true, cond_false, if_neg (show ¬ cKi C x1N = 2 by omega), if_neg (show ¬ cKi C x1N = 1 by omega)], by simp only [nx_tell, hb_3, t_x1, cond_true, cond_false, if_neg (show ¬ cKi C x1N = 2 by omega), if_neg (show ¬ cKi C x1N = 1 by omega)]⟩
            refine kk_QQ hQQ ?_
            exact W.iret (v := nI (cSt C x1N)) hx hb hr (fun t ht hW => ⟨⟨nI (cSt C x1N), (trc i35 1), rfl, hq, by show va_P D vwCl _ t.heap; rw [ht]; exact hP⟩, hS.F ht⟩) hS.2.2 dX10_tell_84
        · skip
          refine lv_aload_n hx hb dX10_tell_46 rfl (lv_at hl 1 rfl) ?_
          refine lv_iconst (v := nI 1) hx hb dX10_tell_47 (by decide +kernel) ?_
          have hF := va_free (wc := [(m0, .inr (9, [.int i0, .ref a1, .int (nI (cSp C)), .ref a3, .int (nI (cLa C)), .ref a5, .ref a6, .ref a7, .int (nI (cAg C)), .int (-9 : Int32), .int i10, .int i11, .int i12, .ref a13, .ref a14, .ref a15, .ref a16, .int (nI (mN T)), .ref a18, .ref a19, .ref a20, .ref a21, .ref a22, .ref a23, .ref a24, .ref a25, .int (nI (mN E)), .ref a27, .ref a28, .ref a29, .ref a30, .ref a31, .ref a32, .ref a33, .ref a34, .int (trc i35 1)]))]) hD hS hA [0] rfl
          refine va_callv (va_runV (As := [.int (nI 1)]) (rest := []) ⟨hx, hb, hml, hown, hts⟩ (c_X10_traced lL D cI cS _ m0 a1 a3 a5 a6 a7 a13 a14 a15 a16 a18 a19 a20 a21 a22 a23 a24 a25 a27 a28 a29 a30 a31 a32 a33 a34 i0 (nI (cSp C)) (nI (cLa C)) (nI (cAg C)) (-9 : Int32) i10 i11 i12 (nI (mN T)) (nI (mN E)) (trc i35 1) 1) (cwV 1 hts gX10_tell_X10_traced rfl rfl rfl cd_X10_traced ⟨Nat.le_of_ble_eq_true rfl, Nat.le_of_ble_eq_true rfl⟩) ⟨kB_blind, va_recv hK hP (ci := 9) (q0 := 0) rfl rfl, fun U hU hW => ⟨rfl, by rw [hU], by rw [hU]; exact hP.sub [0] rfl, va_K.moved hW.alike hK, (hD.sub [0] (by decide) rfl).weaken (fun _ _ _ _ => trivial)⟩⟩ rfl rfl hl.1 rfl (lv_room (Nat.le_of_ble_eq_true rfl)) dX10_tell_48 ⟨Nat.le_of_ble_eq_true rfl, Nat.le_of_ble_eq_true rfl⟩) hS (fun q _ h => hF q h) hF (fun u_10 t H1 locs ht hvm hw_10 hB hz1 hk1 hS => ?_)
          obtain ⟨hP, hD⟩ := kk_join2 (wc := [(m0, .inr (9, [.int i0, .ref a1, .int (nI (cSp C)), .ref a3, .int (nI (cLa C)), .ref a5, .ref a6, .ref a7, .int (nI (cAg C)), .int (-9 : Int32), .int i10, .int i11, .int i12, .ref a13, .ref a14, .ref a15, .ref a16, .int (nI (mN T)), .ref a18, .ref a19, .ref a20, .ref a21, .ref a22, .ref a23, .ref a24, .ref a25, .int (nI (mN E)), .ref a27, .ref a28, .ref a29, .ref a30, .ref a31, .ref a32, .ref a33, .ref a34, .int (trc i35 1)]))]) (w1 := [(m0, .inr (9, [.int i0, .ref a1, .int (nI (cSp C)), .ref a3, .int (nI (cLa C)), .ref a5, .ref a6, .ref a7, .int (nI (cAg C)), .int (-9 : Int32), .int i10, .int i11, .int i12, .ref a13, .ref a14, .ref a15, .ref a16, .int (nI (mN T)), .ref a18, .ref a19, .ref a20, .ref a21, .ref a22, .ref a23, .ref a24, .ref a25, .int (nI (mN E)), .ref a27, .ref a28, .ref a29, .ref a30, .ref a31, .ref a32, .ref a33, .ref a34, .int (trc (trc i35 1) 1)]))]) (ws' := [(m0, .inr (9, [.int i0, .ref a1, .int (nI (cSp C)), .ref a3, .int (nI (cLa C)), .ref a5, .ref a6, .ref a7, .int (nI (cAg C)), .int (-9 : Int32), .int i10, .int i11, .int i12, .ref a13, .ref a14, .ref a15, .ref a16, .int (nI (mN T)), .ref a18, .ref a19, .ref a20, .ref a21, .ref a22, .ref a23, .ref a24, .ref a25, .int (nI (mN E)), .ref a27, .ref a28, .ref a29, .ref a30, .ref a31, .ref a32, .ref a33, .ref a34, .int (trc (trc i35 1) 1)])), (a5, .inl (cI, 4, .inl ki)), (a6, .inl (cI, 4, .inl st))]) (wr := [(a5, .inl (cI, 4, .inl ki)), (a6, .inl (cI, 4, .inl st))]) (H1 := H1) hP hD [0] [1, 2] rfl rfl rfl rfl 3 rfl (by decide) [m0, a5, a6] rfl rfl hk1 (by rw [← ht]; exact hB)
          have hw_10 : True := hw_10
          clear hF hB hk1 hz1 hvm
          clear ht
          generalize H1 = H at hP hS ⊢
          refine lv_aload_n hx hb dX10_tell_51 rfl (lv_at hl 1 rfl) ?_
          refine va_get (D := D) (ci := 9) (v := .ref a6) (C := RX10) (T := TX10) (N := 36) hx hb hts hwX10 hown hK hP 0 rfl rfl 6 (by decide) hf_19 (fun _ h9 => h9) rfl dX10_tell_52 ?_
          refine lv_iload_n hx hb dX10_tell_55 rfl (lv_at hl 2 rfl) ?_
          refine kk_iald hx hb hK hP 2 rfl rfl (i := x1N) (by omega) (by decide) dX10_tell_56 ?_
          refine kk_top (y := nI (cSt C x1N)) (hrs x1N hx1N) ?_
          refine lv_istore_n (lv' := [(3, .int (nI (cSt C x1N))), (2, .int (nI (cKi C x1N))), (0, .ref m0), (1, .int (nI x1N))]) hx hb dX10_tell_57 rfl hl (by decide) rfl (fun ls hl => ?_)
          refine lv_iload_n hx hb dX10_tell_58 rfl (lv_at hl 1 rfl) ?_
          refine kk_if_ne (tgt := 66) hx hb dX10_tell_59 (by decide) (by omega) (fun c_11 => ?_) (fun c_11 => ?_)
          · skip
            refine lv_iload_n hx hb dX10_tell_66 rfl (lv_at hl 1 rfl) ?_
            refine lv_iconst (v := nI 1) hx hb dX10_tell_67 (by decide +kernel) ?_
            refine kk_icmp_ne (tgt := 78) hx hb dX10_tell_68 (by decide) (by omega) (by omega) (fun c_12 => ?_) (fun c_12 => ?_)
            · skip
              refine lv_iconst (v := nI 2) hx hb dX10_tell_78 (by decide +kernel) ?_
              refine lv_iload_n hx hb dX10_tell_79 rfl (lv_at hl 0 rfl) ?_
              refine kk_imul hx hb dX10_tell_80 ?_
              refine lv_bipush (v := nI 100) hx hb dX10_tell_81 (by decide +kernel) ?_
              refine kk_iadd hx hb dX10_tell_83 ?_
              have hq : (nI ((2 * (cSt C x1N)) + 100)) = sp_tell C (nI x1N) ∧ (trc (trc i35 1) 1) = nx_tell C (nI x1N) i35 := by exfalso; omega
              refine kk_QQ hQQ ?_
              exact W.iret (v := nI ((2 * (cSt C x1N)) + 100)) hx hb hr (fun t ht hW => ⟨⟨nI ((2 * (cSt C x1N)) + 100), (trc (trc i35 1) 1), rfl, hq, by show va_P D vwCl _ t.heap; rw [ht]; exact hP⟩, hS.F ht⟩) hS.2.2 dX10_tell_84
            · skip
              refine lv_iload_n hx hb dX10_tell_71 rfl (lv_at hl 0 rfl) ?_
              refine lv_bipush (v := nI 100) hx hb dX10_tell_72 (by decide +kernel) ?_
              refine kk_iadd hx hb dX10_tell_74 ?_
              refine lv_goto (tgt := 84) hx hb dX10_tell_75 (by decide) ?_
              have hq : (nI ((cSt C x1N) + 100)) = sp_tell C (nI x1N) ∧ (trc (trc i35 1) 1) = nx_tell C (nI x1N) i35 := by exfalso; omega
              refine kk_QQ hQQ ?_
              exact W.iret (v := nI ((cSt C x1N) + 100)) hx hb hr (fun t ht hW => ⟨⟨nI ((cSt C x1N) + 100), (trc (trc i35 1) 1), rfl, hq, by show va_P D vwCl _ t.heap; rw [ht]; exact hP⟩, hS.F ht⟩) hS.2.2 dX10_tell_84
          · skip
            refine lv_iload_n hx hb dX10_tell_62 rfl (lv_at hl 0 rfl) ?_
            refine lv_goto (tgt := 84) hx hb dX10_tell_63 (by decide) ?_
            have hq : (nI (cSt C x1N)) = sp_tell C (nI x1N) ∧ (trc (trc i35 1) 1) = nx_tell C (nI x1N) i35 := by exfalso; omega
            refine kk_QQ hQQ ?_
            exact W.iret (v := nI (cSt C x1N)) hx hb hr (fun t ht hW => ⟨⟨nI (cSt C x1N), (trc (trc i35 1) 1), rfl, hq, by show va_P D vwCl _ t.heap; rw [ht]; exact hP⟩, hS.F ht⟩) hS.2.2 dX10_tell_84
      · skip
        refine lv_aload_n hx hb dX10_tell_31 rfl (lv_at hl 1 rfl) ?_
        refine lv_iconst (v := nI 2) hx hb dX10_tell_32 (by decide +kernel) ?_
        have hF := va_free (wc := [(m0, .inr (9, [.int i0, .ref a1, .int (nI (cSp C)), .ref a3, .int (nI (cLa C)), .ref a5, .ref a6, .ref a7, .int (nI (cAg C)), .int (-9 : Int32), .int i10, .int i11, .int i12, .ref a13, .ref a14, .ref a15, .ref a16, .int (nI (mN T)), .ref a18, .ref a19, .ref a20, .ref a21, .ref a22, .ref a23, .ref a24, .ref a25, .int (nI (mN E)), .ref a27, .ref a28, .ref a29, .ref a30, .ref a31, .ref a32, .ref a33, .ref a34, .int i35]))]) hD hS hA [0] rfl
        refine va_callv (va_runV (As := [.int (nI 2)]) (rest := []) ⟨hx, hb, hml, hown, hts⟩ (c_X10_traced lL D cI cS _ m0 a1 a3 a5 a6 a7 a13 a14 a15 a16 a18 a19 a20 a21 a22 a23 a24 a25 a27 a28 a29 a30 a31 a32 a33 a34 i0 (nI (cSp C)) (nI (cLa C)) (nI (cAg C)) (-9 : Int32) i10 i11 i12 (nI (mN T)) (nI (mN E)) i35 2) (cwV 1 hts gX10_tell_X10_traced rfl rfl rfl cd_X10_traced ⟨Nat.le_of_ble_eq_true rfl, Nat.le_of_ble_eq_true rfl⟩) ⟨kB_blind, va_recv hK hP (ci := 9) (q0 := 0) rfl rfl, fun U hU hW => ⟨rfl, by rw [hU], by rw [hU]; exact hP.sub [0] rfl, va_K.moved hW.alike hK, (hD.sub [0] (by decide) rfl).weaken (fun _ _ _ _ => trivial)⟩⟩ rfl rfl hl.1 rfl (lv_room (Nat.le_of_ble_eq_true rfl)) dX10_tell_33 ⟨Nat.le_of_ble_eq_true rfl, Nat.le_of_ble_eq_true rfl⟩) hS (fun q _ h => hF q h) hF (fun u_13 t H1 locs ht hvm hw_13 hB hz1 hk1 hS => ?_)
        obtain ⟨hP, hD⟩ := kk_join2 (wc := [(m0, .inr (9, [.int i0, .ref a1, .int (nI (cSp C)), .ref a3, .int (nI (cLa C)), .ref a5, .ref a6, .ref a7, .int (nI (cAg C)), .int (-9 : Int32), .int i10, .int i11, .int i12, .ref a13, .ref a14, .ref a15, .ref a16, .int (nI (mN T)), .ref a18, .ref a19, .ref a20, .ref a21, .ref a22, .ref a23, .ref a24, .ref a25, .int (nI (mN E)), .ref a27, .ref a28, .ref a29, .ref a30, .ref a31, .ref a32, .ref a33, .ref a34, .int i35]))]) (w1 := [(m0, .inr (9, [.int i0, .ref a1, .int (nI (cSp C)), .ref a3, .int (nI (cLa C)), .ref a5, .ref a6, .ref a7, .int (nI (cAg C)), .int (-9 : Int32), .int i10, .int i11, .int i12, .ref a13, .ref a14, .ref a15, .ref a16, .int (nI (mN T)), .ref a18, .ref a19, .ref a20, .ref a21, .ref a22, .ref a23, .ref a24, .ref a25, .int (nI (mN E)), .ref a27, .ref a28, .ref a29, .ref a30, .ref a31, .ref a32, .ref a33, .ref a34, .int (trc i35 2)]))]) (ws' := [(m0, .inr (9, [.int i0, .ref a1, .int (nI (cSp C)), .ref a3, .int (nI (cLa C)), .ref a5, .ref a6, .ref a7, .int (nI (cAg C)), .int (-9 : Int32), .int i10, .int i11, .int i12, .ref a13, .ref a14, .ref a15, .ref a16, .int (nI (mN T)), .ref a18, .ref a19, .ref a20, .ref a21, .ref a22, .ref a23, .ref a24, .ref a25, .int (nI (mN E)), .ref a27, .ref a28, .ref a29, .ref a30, .ref a31, .ref a32, .ref a33, .ref a34, .int (trc i35 2)])), (a5, .inl (cI, 4, .inl ki)), (a6, .inl (cI, 4, .inl st))]) (wr := [(a5, .inl (cI, 4, .inl ki)), (a6, .inl (cI, 4, .inl st))]) (H1 := H1) hP hD [0] [1, 2] rfl rfl rfl rfl 3 rfl (by decide) [m0, a5, a6] rfl rfl hk1 (by rw [← ht]; exact hB)
        have hw_13 : True := hw_13
        clear hF hB hk1 hz1 hvm
        clear ht
        generalize H1 = H at hP hS ⊢
        refine lv_aload_n hx hb dX10_tell_36 rfl (lv_at hl 1 rfl) ?_
        refine lv_iconst (v := nI 1) hx hb dX10_tell_37 (by decide +kernel) ?_
        have hF := va_free (wc := [(m0, .inr (9, [.int i0, .ref a1, .int (nI (cSp C)), .ref a3, .int (nI (cLa C)), .ref a5, .ref a6, .ref a7, .int (nI (cAg C)), .int (-9 : Int32), .int i10, .int i11, .int i12, .ref a13, .ref a14, .ref a15, .ref a16, .int (nI (mN T)), .ref a18, .ref a19, .ref a20, .ref a21, .ref a22, .ref a23, .ref a24, .ref a25, .int (nI (mN E)), .ref a27, .ref a28, .ref a29, .ref a30, .ref a31, .ref a32, .ref a33, .ref a34, .int (trc i35 2)]))]) hD hS hA [0] rfl
        refine va_callv (va_runV (As := [.int (nI 1)]) (rest := []) ⟨hx, hb, hml, hown, hts⟩ (c_X10_traced lL D cI cS _ m0 a1 a3 a5 a6 a7 a13 a14 a15 a16 a18 a19 a20 a21 a22 a23 a24 a25 a27 a28 a29 a30 a31 a32 a33 a34 i0 (nI (cSp C)) (nI (cLa C)) (nI (cAg C)) (-9 : Int32) i10 i11 i12 (nI (mN T)) (nI (mN E)) (trc i35 2) 1) (cwV 1 hts gX10_tell_X10_traced rfl rfl rfl cd_X10_traced ⟨Nat.le_of_ble_eq_true rfl, Nat.le_of_ble_eq_true rfl⟩) ⟨kB_blind, va_recv hK hP (ci := 9) (q0 := 0) rfl rfl, fun U hU hW => ⟨rfl, by rw [hU], by rw [hU]; exact hP.sub [0] rfl, va_K.moved hW.alike hK, (hD.sub [0] (by decide) rfl).weaken (fun _ _ _ _ => trivial)⟩⟩ rfl rfl hl.1 rfl (lv_room (Nat.le_of_ble_eq_true rfl)) dX10_tell_38 ⟨Nat.le_of_ble_eq_true rfl, Nat.le_of_ble_eq_true rfl⟩) hS (fun q _ h => hF q h) hF (fun u_14 t H1 locs ht hvm hw_14 hB hz1 hk1 hS => ?_)
        obtain ⟨hP, hD⟩ := kk_join2 (wc := [(m0, .inr (9, [.int i0, .ref a1, .int (nI (cSp C)), .ref a3, .int (nI (cLa C)), .ref a5, .ref a6, .ref a7, .int (nI (cAg C)), .int (-9 : Int32), .int i10, .int i11, .int i12, .ref a13, .ref a14, .ref a15, .ref a16, .int (nI (mN T)), .ref a18, .ref a19, .ref a20, .ref a21, .ref a22, .ref a23, .ref a24, .ref a25, .int (nI (mN E)), .ref a27, .ref a28, .ref a29, .ref a30, .ref a31, .ref a32, .ref a33, .ref a34, .int (trc i35 2)]))]) (w1 := [(m0, .inr (9, [.int i0, .ref a1, .int (nI (cSp C)), .ref a3, .int (nI (cLa C)), .ref a5, .ref a6, .ref a7, .int (nI (cAg C)), .int (-9 : Int32), .int i10, .int i11, .int i12, .ref a13, .ref a14, .ref a15, .ref a16, .int (nI (mN T)), .ref a18, .ref a19, .ref a20, .ref a21, .ref a22, .ref a23, .ref a24, .ref a25, .int (nI (mN E)), .ref a27, .ref a28, .ref a29, .ref a30, .ref a31, .ref a32, .ref a33, .ref a34, .int (trc (trc i35 2) 1)]))]) (ws' := [(m0, .inr (9, [.int i0, .ref a1, .int (nI (cSp C)), .ref a3, .int (nI (cLa C)), .ref a5, .ref a6, .ref a7, .int (nI (cAg C)), .int (-9 : Int32), .int i10, .int i11, .int i12, .ref a13, .ref a14, .ref a15, .ref a16, .int (nI (mN T)), .ref a18, .ref a19, .ref a20, .ref a21, .ref a22, .ref a23, .ref a24, .ref a25, .int (nI (mN E)), .ref a27, .ref a28, .ref a29, .ref a30, .ref a31, .ref a32, .ref a33, .ref a34, .int (trc (trc i35 2) 1)])), (a5, .inl (cI, 4, .inl ki)), (a6, .inl (cI, 4, .inl st))]) (wr := [(a5, .inl (cI, 4, .inl ki)), (a6, .inl (cI, 4, .inl st))]) (H1 := H1) hP hD [0] [1, 2] rfl rfl rfl rfl 3 rfl (by decide) [m0, a5, a6] rfl rfl hk1 (by rw [← ht]; exact hB)
        have hw_14 : True := hw_14
        clear hF hB hk1 hz1 hvm
        clear ht
        generalize H1 = H at hP hS ⊢
        refine lv_iload_n hx hb dX10_tell_41 rfl (lv_at hl 0 rfl) ?_
        refine lv_iconst (v := nI 2) hx hb dX10_tell_42 (by decide +kernel) ?_
        refine kk_icmp_ne (tgt := 51) hx hb dX10_tell_43 (by decide) (by omega) (by omega) (fun c_15 => ?_) (fun c_15 => ?_)
        · skip
          refine lv_aload_n hx hb dX10_tell_51 rfl (lv_at hl 1 rfl) ?_
          refine va_get (D := D) (ci := 9) (v := .ref a6) (C := RX10) (T := TX10) (N := 36) hx hb hts hwX10 hown hK hP 0 rfl rfl 6 (by decide) hf_19 (fun _ h9 => h9) rfl dX10_tell_52 ?_
          refine lv_iload_n hx hb dX10_tell_55 rfl (lv_at hl 2 rfl) ?_
          refine kk_iald hx hb hK hP 2 rfl rfl (i := x1N) (by omega) (by decide) dX10_tell_56 ?_
          refine kk_top (y := nI (cSt C x1N)) (hrs x1N hx1N) ?_
          refine lv_istore_n (lv' := [(3, .int (nI (cSt C x1N))), (2, .int (nI (cKi C x1N))), (0, .ref m0), (1, .int (nI x1N))]) hx hb dX10_tell_57 rfl hl (by decide) rfl (fun ls hl => ?_)
          refine lv_iload_n hx hb dX10_tell_58 rfl (lv_at hl 1 rfl) ?_
          refine kk_if_ne (tgt := 66) hx hb dX10_tell_59 (by decide) (by omega) (fun c_16 => ?_) (fun c_16 => ?_)
          · skip
            refine lv_iload_n hx hb dX10_tell_66 rfl (lv_at hl 1 rfl) ?_
            refine lv_iconst (v := nI 1) hx hb dX10_tell_67 (by decide +kernel) ?_
            refine kk_icmp_ne (tgt := 78) hx hb dX10_tell_68 (by decide) (by omega) (by omega) (fun c_17 => ?_) (fun c_17 => ?_)
            · skip
              refine lv_iconst (v := nI 2) hx hb dX10_tell_78 (by decide +kernel) ?_
              refine lv_iload_n hx hb dX10_tell_79 rfl (lv_at hl 0 rfl) ?_
              refine kk_imul hx hb dX10_tell_80 ?_
              refine lv_bipush (v := nI 100) hx hb dX10_tell_81 (by decide +kernel) ?_
              refine kk_iadd hx hb dX10_tell_83 ?_
              have hq : (nI ((2 * (cSt C x1N)) + 100)) = sp_tell C (nI x1N) ∧ (trc (trc i35 2) 1) = nx_tell C (nI x1N) i35 := by exfalso; omega
              refine kk_QQ hQQ ?_
              exact W.iret (v := nI ((2 * (cSt C x1N)) + 100)) hx hb hr (fun t ht hW => ⟨⟨nI ((2 * (cSt C x1N)) + 100), (trc (trc i35 2) 1), rfl, hq, by show va_P D vwCl _ t.heap; rw [ht]; exact hP⟩, hS.F ht⟩) hS.2.2 dX10_tell_84
            · skip
              refine lv_iload_n hx hb dX10_tell_71 rfl (lv_at hl 0 rfl) ?_
              refine lv_bipush (v := nI 100) hx hb dX10_tell_72 (by decide +kernel) ?_
              refine kk_iadd hx hb dX10_tell_74 ?_
              refine lv_goto (tgt := 84) hx hb dX10_tell_75 (by decide) ?_
              have hq : (nI ((cSt C x1N) + 100)) = sp_tell C (nI x1N) ∧ (trc (trc i35 2) 1) = nx_tell C (nI x1N) i35 := by refine ⟨by simp only [sp_tell, hb_3, t_x1, cond_true, cond_false, if_neg (show ¬ cKi C x1N = 2 by omega), if_pos (show cKi C x1N = 1 by omega)], by simp only [nx_tell, hb_3, t_x1, cond_true, cond_false, if_neg (show ¬ cKi C x1N = 2 by omega), if_pos (show cKi C x1N = 1 by omega)]⟩
              refine kk_QQ hQQ ?_
              exact W.iret (v := nI ((cSt C x1N) + 100)) hx hb hr (fun t ht hW => ⟨⟨nI ((cSt C x1N) + 100), (trc (trc i35 2) 1), rfl, hq, by show va_P D vwCl _ t.heap; rw [ht]; exact hP⟩, hS.F ht⟩) hS.2.2 dX10_tell_84
          · skip
            refine lv_iload_n hx hb dX10_tell_62 rfl (lv_at hl 0 rfl) ?_
            refine lv_goto (tgt := 84) hx hb dX10_tell_63 (by decide) ?_
            have hq : (nI (cSt C x1N)) = sp_tell C (nI x1N) ∧ (trc (trc i35 2) 1) = nx_tell C (nI x1N) i35 := by exfalso; omega
            refine kk_QQ hQQ ?_
            exact W.iret (v := nI (cSt C x1N)) hx hb hr (fun t ht hW => ⟨⟨nI (cSt C x1N), (trc (trc i35 2) 1), rfl, hq, by show va_P D vwCl _ t.heap; rw [ht]; exact hP⟩, hS.F ht⟩) hS.2.2 dX10_tell_84
        · skip
          refine lv_aload_n hx hb dX10_tell_46 rfl (lv_at hl 1 rfl) ?_
          refine lv_iconst (v := nI 1) hx hb dX10_tell_47 (by decide +kernel) ?_
          have hF := va_free (wc := [(m0, .inr (9, [.int i0, .ref a1, .int (nI (cSp C)), .ref a3, .int (nI (cLa C)), .ref a5, .ref a6, .ref a7, .int (nI (cAg C)), .int (-9 : Int32), .int i10, .int i11, .int i12, .ref a13, .ref a14, .ref a15, .ref a16, .int (nI (mN T)), .ref a18, .ref a19, .ref a20, .ref a21, .ref a22, .ref a23, .ref a24, .ref a25, .int (nI (mN E)), .ref a27, .ref a28, .ref a29, .ref a30, .ref a31, .ref a32, .ref a33, .ref a34, .int (trc (trc i35 2) 1)]))]) hD hS hA [0] rfl
          refine va_callv (va_runV (As := [.int (nI 1)]) (rest := []) ⟨hx, hb, hml, hown, hts⟩ (c_X10_traced lL D cI cS _ m0 a1 a3 a5 a6 a7 a13 a14 a15 a16 a18 a19 a20 a21 a22 a23 a24 a25 a27 a28 a29 a30 a31 a32 a33 a34 i0 (nI (cSp C)) (nI (cLa C)) (nI (cAg C)) (-9 : Int32) i10 i11 i12 (nI (mN T)) (nI (mN E)) (trc (trc i35 2) 1) 1) (cwV 1 hts gX10_tell_X10_traced rfl rfl rfl cd_X10_traced ⟨Nat.le_of_ble_eq_true rfl, Nat.le_of_ble_eq_true rfl⟩) ⟨kB_blind, va_recv hK hP (ci := 9) (q0 := 0) rfl rfl, fun U hU hW => ⟨rfl, by rw [hU], by rw [hU]; exact hP.sub [0] rfl, va_K.moved hW.alike hK, (hD.sub [0] (by decide) rfl).weaken (fun _ _ _ _ => trivial)⟩⟩ rfl rfl hl.1 rfl (lv_room (Nat.le_of_ble_eq_true rfl)) dX10_tell_48 ⟨Nat.le_of_ble_eq_true rfl, Nat.le_of_ble_eq_true rfl⟩) hS (fun q _ h => hF q h) hF (fun u_18 t H1 locs ht hvm hw_18 hB hz1 hk1 hS => ?_)
          obtain ⟨hP, hD⟩ := kk_join2 (wc := [(m0, .inr (9, [.int i0, .ref a1, .int (nI (cSp C)), .ref a3, .int (nI (cLa C)), .ref a5, .ref a6, .ref a7, .int (nI (cAg C)), .int (-9 : Int32), .int i10, .int i11, .int i12, .ref a13, .ref a14, .ref a15, .ref a16, .int (nI (mN T)), .ref a18, .ref a19, .ref a20, .ref a21, .ref a22, .ref a23, .ref a24, .ref a25, .int (nI (mN E)), .ref a27, .ref a28, .ref a29, .ref a30, .ref a31, .ref a32, .ref a33, .ref a34, .int (trc (trc i35 2) 1)]))]) (w1 := [(m0, .inr (9, [.int i0, .ref a1, .int (nI (cSp C)), .ref a3, .int (nI (cLa C)), .ref a5, .ref a6, .ref a7, .int (nI (cAg C)), .int (-9 : Int32), .int i10, .int i11, .int i12, .ref a13, .ref a14, .ref a15, .ref a16, .int (nI (mN T)), .ref a18, .ref a19, .ref a20, .ref a21, .ref a22, .ref a23, .ref a24, .ref a25, .int (nI (mN E)), .ref a27, .ref a28, .ref a29, .ref a30, .ref a31, .ref a32, .ref a33, .ref a34, .int (trc (trc (trc i35 2) 1) 1)]))]) (ws' := [(m0, .inr (9, [.int i0, .ref a1, .int (nI (cSp C)), .ref a3, .int (nI (cLa C)), .ref a5, .ref a6, .ref a7, .int (nI (cAg C)), .int (-9 : Int32), .int i10, .int i11, .int i12, .ref a13, .ref a14, .ref a15, .ref a16, .int (nI (mN T)), .ref a18, .ref a19, .ref a20, .ref a21, .ref a22, .ref a23, .ref a24, .ref a25, .int (nI (mN E)), .ref a27, .ref a28, .ref a29, .ref a30, .ref a31, .ref a32, .ref a33, .ref a34, .int (trc (trc (trc i35 2) 1) 1)])), (a5, .inl (cI, 4, .inl ki)), (a6, .inl (cI, 4, .inl st))]) (wr := [(a5, .inl (cI, 4, .inl ki)), (a6, .inl (cI, 4, .inl st))]) (H1 := H1) hP hD [0] [1, 2] rfl rfl rfl rfl 3 rfl (by decide) [m0, a5, a6] rfl rfl hk1 (by rw [← ht]; exact hB)
          have hw_18 : True := hw_18
          clear hF hB hk1 hz1 hvm
          clear ht
          generalize H1 = H at hP hS ⊢
          refine lv_aload_n hx hb dX10_tell_51 rfl (lv_at hl 1 rfl) ?_
          refine va_get (D := D) (ci := 9) (v := .ref a6) (C := RX10) (T := TX10) (N := 36) hx hb hts hwX10 hown hK hP 0 rfl rfl 6 (by decide) hf_19 (fun _ h9 => h9) rfl dX10_tell_52 ?_
          refine lv_iload_n hx hb dX10_tell_55 rfl (lv_at hl 2 rfl) ?_
          refine kk_iald hx hb hK hP 2 rfl rfl (i := x1N) (by omega) (by decide) dX10_tell_56 ?_
          refine kk_top (y := nI (cSt C x1N)) (hrs x1N hx1N) ?_
          refine lv_istore_n (lv' := [(3, .int (nI (cSt C x1N))), (2, .int (nI (cKi C x1N))), (0, .ref m0), (1, .int (nI x1N))]) hx hb dX10_tell_57 rfl hl (by decide) rfl (fun ls hl => ?_)
          refine lv_iload_n hx hb dX10_tell_58 rfl (lv_at hl 1 rfl) ?_
          refine kk_if_ne (tgt := 66) hx hb dX10_tell_59 (by decide) (by omega) (fun c_19 => ?_) (fun c_19 => ?_)
          · skip
            refine lv_iload_n hx hb dX10_tell_66 rfl (lv_at hl 1 rfl) ?_
            refine lv_iconst (v := nI 1) hx hb dX10_tell_67 (by decide +kernel) ?_
            refine kk_icmp_ne (tgt := 78) hx hb dX10_tell_68 (by decide) (by omega) (by omega) (fun c_20 => ?_) (fun c_20 => ?_)
            · skip
              refine lv_iconst (v := nI 2) hx hb dX10_tell_78 (by decide +kernel) ?_
              refine lv_iload_n hx hb dX10_tell_79 rfl (lv_at hl 0 rfl) ?_
              refine kk_imul hx hb dX10_tell_80 ?_
              refine lv_bipush (v := nI 100) hx hb dX10_tell_81 (by decide +kernel) ?_
              refine kk_iadd hx hb dX10_tell_83 ?_
              have hq : (nI ((2 * (cSt C x1N)) + 100)) = sp_tell C (nI x1N) ∧ (trc (trc (trc i35 2) 1) 1) = nx_tell C (nI x1N) i35 := by exfalso; omega
              refine kk_QQ hQQ ?_
              exact W.iret (v := nI ((2 * (cSt C x1N)) + 100)) hx hb hr (fun t ht hW => ⟨⟨nI ((2 * (cSt C x1N)) + 100), (trc (trc (trc i35 2) 1) 1), rfl, hq, by show va_P D vwCl _ t.heap; rw [ht]; exact hP⟩, hS.F ht⟩) hS.2.2 dX10_tell_84
            · skip
              refine lv_iload_n hx hb dX10_tell_71 rfl (lv_at hl 0 rfl) ?_
              refine lv_bipush (v := nI 100) hx hb dX10_tell_72 (by decide +kernel) ?_
              refine kk_iadd hx hb dX10_tell_74 ?_
              refine lv_goto (tgt := 84) hx hb dX10_tell_75 (by decide) ?_
              have hq : (nI ((cSt C x1N) + 100)) = sp_tell C (nI x1N) ∧ (trc (trc (trc i35 2) 1) 1) = nx_tell C (nI x1N) i35 := by exfalso; omega
              refine kk_QQ hQQ ?_
              exact W.iret (v := nI ((cSt C x1N) + 100)) hx hb hr (fun t ht hW => ⟨⟨nI ((cSt C x1N) + 100), (trc (trc (trc i35 2) 1) 1), rfl, hq, by show va_P D vwCl _ t.heap; rw [ht]; exact hP⟩, hS.F ht⟩) hS.2.2 dX10_tell_84
          · skip
            refine lv_iload_n hx hb dX10_tell_62 rfl (lv_at hl 0 rfl) ?_
            refine lv_goto (tgt := 84) hx hb dX10_tell_63 (by decide) ?_
            have hq : (nI (cSt C x1N)) = sp_tell C (nI x1N) ∧ (trc (trc (trc i35 2) 1) 1) = nx_tell C (nI x1N) i35 := by exfalso; omega
            refine kk_QQ hQQ ?_
            exact W.iret (v := nI (cSt C x1N)) hx hb hr (fun t ht hW => ⟨⟨nI (cSt C x1N), (trc (trc (trc i35 2) 1) 1), rfl, hq, by show va_P D vwCl _ t.heap; rw [ht]; exact hP⟩, hS.F ht⟩) hS.2.2 dX10_tell_84
    · skip
      refine lv_aload_n hx hb dX10_tell_22 rfl (lv_at hl 1 rfl) ?_
      refine lv_iconst (v := nI 3) hx hb dX10_tell_23 (by decide +kernel) ?_
      have hF := va_free (wc := [(m0, .inr (9, [.int i0, .ref a1, .int (nI (cSp C)), .ref a3, .int (nI (cLa C)), .ref a5, .ref a6, .ref a7, .int (nI (cAg C)), .int (-9 : Int32), .int i10, .int i11, .int i12, .ref a13, .ref a14, .ref a15, .ref a16, .int (nI (mN T)), .ref a18, .ref a19, .ref a20, .ref a21, .ref a22, .ref a23, .ref a24, .ref a25, .int (nI (mN E)), .ref a27, .ref a28, .ref a29, .ref a30, .ref a31, .ref a32, .ref a33, .ref a34, .int i35]))]) hD hS hA [0] rfl
      refine va_callv (va_runV (As := [.int (nI 3)]) (rest := []) ⟨hx, hb, hml, hown, hts⟩ (c_X10_traced lL D cI cS _ m0 a1 a3 a5 a6 a7 a13 a14 a15 a16 a18 a19 a20 a21 a22 a23 a24 a25 a27 a28 a29 a30 a31 a32 a33 a34 i0 (nI (cSp C)) (nI (cLa C)) (nI (cAg C)) (-9 : Int32) i10 i11 i12 (nI (mN T)) (nI (mN E)) i35 3) (cwV 1 hts gX10_tell_X10_traced rfl rfl rfl cd_X10_traced ⟨Nat.le_of_ble_eq_true rfl, Nat.le_of_ble_eq_true rfl⟩) ⟨kB_blind, va_recv hK hP (ci := 9) (q0 := 0) rfl rfl, fun U hU hW => ⟨rfl, by rw [hU], by rw [hU]; exact hP.sub [0] rfl, va_K.moved hW.alike hK, (hD.sub [0] (by decide) rfl).weaken (fun _ _ _ _ => trivial)⟩⟩ rfl rfl hl.1 rfl (lv_room (Nat.le_of_ble_eq_true rfl)) dX10_tell_24 ⟨Nat.le_of_ble_eq_true rfl, Nat.le_of_ble_eq_true rfl⟩) hS (fun q _ h => hF q h) hF (fun u_21 t H1 locs ht hvm hw_21 hB hz1 hk1 hS => ?_)
      obtain ⟨hP, hD⟩ := kk_join2 (wc := [(m0, .inr (9, [.int i0, .ref a1, .int (nI (cSp C)), .ref a3, .int (nI (cLa C)), .ref a5, .ref a6, .ref a7, .int (nI (cAg C)), .int (-9 : Int32), .int i10, .int i11, .int i12, .ref a13, .ref a14, .ref a15, .ref a16, .int (nI (mN T)), .ref a18, .ref a19, .ref a20, .ref a21, .ref a22, .ref a23, .ref a24, .ref a25, .int (nI (mN E)), .ref a27, .ref a28, .ref a29, .ref a30, .ref a31, .ref a32, .ref a33, .ref a34, .int i35]))]) (w1 := [(m0, .inr (9, [.int i0, .ref a1, .int (nI (cSp C)), .ref a3, .int (nI (cLa C)), .ref a5, .ref a6, .ref a7, .int (nI (cAg C)), .int (-9 : Int32), .int i10, .int i11, .int i12, .ref a13, .ref a14, .ref a15, .ref a16, .int (nI (mN T)), .ref a18, .ref a19, .ref a20, .ref a21, .ref a22, .ref a23, .ref a24, .ref a25, .int (nI (mN E)), .ref a27, .ref a28, .ref a29, .ref a30, .ref a31, .ref a32, .ref a33, .ref a34, .int (trc i35 3)]))]) (ws' := [(m0, .inr (9, [.int i0, .ref a1, .int (nI (cSp C)), .ref a3, .int (nI (cLa C)), .ref a5, .ref a6, .ref a7, .int (nI (cAg C)), .int (-9 : Int32), .int i10, .int i11, .int i12, .ref a13, .ref a14, .ref a15, .ref a16, .int (nI (mN T)), .ref a18, .ref a19, .ref a20, .ref a21, .ref a22, .ref a23, .ref a24, .ref a25, .int (nI (mN E)), .ref a27, .ref a28, .ref a29, .ref a30, .ref a31, .ref a32, .ref a33, .ref a34, .int (trc i35 3)])), (a5, .inl (cI, 4, .inl ki)), (a6, .inl (cI, 4, .inl st))]) (wr := [(a5, .inl (cI, 4, .inl ki)), (a6, .inl (cI, 4, .inl st))]) (H1 := H1) hP hD [0] [1, 2] rfl rfl rfl rfl 3 rfl (by decide) [m0, a5, a6] rfl rfl hk1 (by rw [← ht]; exact hB)
      have hw_21 : True := hw_21
      clear hF hB hk1 hz1 hvm
      clear ht
      generalize H1 = H at hP hS ⊢
      refine lv_iload_n hx hb dX10_tell_27 rfl (lv_at hl 0 rfl) ?_
      refine kk_if_le (tgt := 36) hx hb dX10_tell_28 (by decide) (by omega) (fun c_22 => ?_) (fun c_22 => ?_)
      · skip
        refine lv_aload_n hx hb dX10_tell_36 rfl (lv_at hl 1 rfl) ?_
        refine lv_iconst (v := nI 1) hx hb dX10_tell_37 (by decide +kernel) ?_
        have hF := va_free (wc := [(m0, .inr (9, [.int i0, .ref a1, .int (nI (cSp C)), .ref a3, .int (nI (cLa C)), .ref a5, .ref a6, .ref a7, .int (nI (cAg C)), .int (-9 : Int32), .int i10, .int i11, .int i12, .ref a13, .ref a14, .ref a15, .ref a16, .int (nI (mN T)), .ref a18, .ref a19, .ref a20, .ref a21, .ref a22, .ref a23, .ref a24, .ref a25, .int (nI (mN E)), .ref a27, .ref a28, .ref a29, .ref a30, .ref a31, .ref a32, .ref a33, .ref a34, .int (trc i35 3)]))]) hD hS hA [0] rfl
        refine va_callv (va_runV (As := [.int (nI 1)]) (rest := []) ⟨hx, hb, hml, hown, hts⟩ (c_X10_traced lL D cI cS _ m0 a1 a3 a5 a6 a7 a13 a14 a15 a16 a18 a19 a20 a21 a22 a23 a24 a25 a27 a28 a29 a30 a31 a32 a33 a34 i0 (nI (cSp C)) (nI (cLa C)) (nI (cAg C)) (-9 : Int32) i10 i11 i12 (nI (mN T)) (nI (mN E)) (trc i35 3) 1) (cwV 1 hts gX10_tell_X10_traced rfl rfl rfl cd_X10_traced ⟨Nat.le_of_ble_eq_true rfl, Nat.le_of_ble_eq_true rfl⟩) ⟨kB_blind, va_recv hK hP (ci := 9) (q0 := 0) rfl rfl, fun U hU hW => ⟨rfl, by rw [hU], by rw [hU]; exact hP.sub [0] rfl, va_K.moved hW.alike hK, (hD.sub [0] (by decide) rfl).weaken (fun _ _ _ _ => trivial)⟩⟩ rfl rfl hl.1 rfl (lv_room (Nat.le_of_ble_eq_true rfl)) dX10_tell_38 ⟨Nat.le_of_ble_eq_true rfl, Nat.le_of_ble_eq_true rfl⟩) hS (fun q _ h => hF q h) hF (fun u_23 t H1 locs ht hvm hw_23 hB hz1 hk1 hS => ?_)
        obtain ⟨hP, hD⟩ := kk_join2 (wc := [(m0, .inr (9, [.int i0, .ref a1, .int (nI (cSp C)), .ref a3, .int (nI (cLa C)), .ref a5, .ref a6, .ref a7, .int (nI (cAg C)), .int (-9 : Int32), .int i10, .int i11, .int i12, .ref a13, .ref a14, .ref a15, .ref a16, .int (nI (mN T)), .ref a18, .ref a19, .ref a20, .ref a21, .ref a22, .ref a23, .ref a24, .ref a25, .int (nI (mN E)), .ref a27, .ref a28, .ref a29, .ref a30, .ref a31, .ref a32, .ref a33, .ref a34, .int (trc i35 3)]))]) (w1 := [(m0, .inr (9, [.int i0, .ref a1, .int (nI (cSp C)), .ref a3, .int (nI (cLa C)), .ref a5, .ref a6, .ref a7, .int (nI (cAg C)), .int (-9 : Int32), .int i10, .int i11, .int i12, .ref a13, .ref a14, .ref a15, .ref a16, .int (nI (mN T)), .ref a18, .ref a19, .ref a20, .ref a21, .ref a22, .ref a23, .ref a24, .ref a25, .int (nI (mN E)), .ref a27, .ref a28, .ref a29, .ref a30, .ref a31, .ref a32, .ref a33, .ref a34, .int (trc (trc i35 3) 1)]))]) (ws' := [(m0, .inr (9, [.int i0, .ref a1, .int (nI (cSp C)), .ref a3, .int (nI (cLa C)), .ref a5, .ref a6, .ref a7, .int (nI (cAg C)), .int (-9 : Int32), .int i10, .int i11, .int i12, .ref a13, .ref a14, .ref a15, .ref a16, .int (nI (mN T)), .ref a18, .ref a19, .ref a20, .ref a21, .ref a22, .ref a23, .ref a24, .ref a25, .int (nI (mN E)), .ref a27, .ref a28, .ref a29, .ref a30, .ref a31, .ref a32, .ref a33, .ref a34, .int (trc (trc i35 3) 1)])), (a5, .inl (cI, 4, .inl ki)), (a6, .inl (cI, 4, .inl st))]) (wr := [(a5, .inl (cI, 4, .inl ki)), (a6, .inl (cI, 4, .inl st))]) (H1 := H1) hP hD [0] [1, 2] rfl rfl rfl rfl 3 rfl (by decide) [m0, a5, a6] rfl rfl hk1 (by rw [← ht]; exact hB)
        have hw_23 : True := hw_23
        clear hF hB hk1 hz1 hvm
        clear ht
        generalize H1 = H at hP hS ⊢
        refine lv_iload_n hx hb dX10_tell_41 rfl (lv_at hl 0 rfl) ?_
        refine lv_iconst (v := nI 2) hx hb dX10_tell_42 (by decide +kernel) ?_
        refine kk_icmp_ne (tgt := 51) hx hb dX10_tell_43 (by decide) (by omega) (by omega) (fun c_24 => ?_) (fun c_24 => ?_)
        · skip
          refine lv_aload_n hx hb dX10_tell_51 rfl (lv_at hl 1 rfl) ?_
          refine va_get (D := D) (ci := 9) (v := .ref a6) (C := RX10) (T := TX10) (N := 36) hx hb hts hwX10 hown hK hP 0 rfl rfl 6 (by decide) hf_19 (fun _ h9 => h9) rfl dX10_tell_52 ?_
          refine lv_iload_n hx hb dX10_tell_55 rfl (lv_at hl 2 rfl) ?_
          refine kk_iald hx hb hK hP 2 rfl rfl (i := x1N) (by omega) (by decide) dX10_tell_56 ?_
          refine kk_top (y := nI (cSt C x1N)) (hrs x1N hx1N) ?_
          refine lv_istore_n (lv' := [(3, .int (nI (cSt C x1N))), (2, .int (nI (cKi C x1N))), (0, .ref m0), (1, .int (nI x1N))]) hx hb dX10_tell_57 rfl hl (by decide) rfl (fun ls hl => ?_)
          refine lv_iload_n hx hb dX10_tell_58 rfl (lv_at hl 1 rfl) ?_
          refine kk_if_ne (tgt := 66) hx hb dX10_tell_59 (by decide) (by omega) (fun c_25 => ?_) (fun c_25 => ?_)
          · skip
            refine lv_iload_n hx hb dX10_tell_66 rfl (lv_at hl 1 rfl) ?_
            refine lv_iconst (v := nI 1) hx hb dX10_tell_67 (by decide +kernel) ?_
            refine kk_icmp_ne (tgt := 78) hx hb dX10_tell_68 (by decide) (by omega) (by omega) (fun c_26 => ?_) (fun c_26 => ?_)
            · skip
              refine lv_iconst (v := nI 2) hx hb dX10_tell_78 (by decide +kernel) ?_
              refine lv_iload_n hx hb dX10_tell_79 rfl (lv_at hl 0 rfl) ?_
              refine kk_imul hx hb dX10_tell_80 ?_
              refine lv_bipush (v := nI 100) hx hb dX10_tell_81 (by decide +kernel) ?_
              refine kk_iadd hx hb dX10_tell_83 ?_
              have hq : (nI ((2 * (cSt C x1N)) + 100)) = sp_tell C (nI x1N) ∧ (trc (trc i35 3) 1) = nx_tell C (nI x1N) i35 := by exfalso; omega
              refine kk_QQ hQQ ?_
              exact W.iret (v := nI ((2 * (cSt C x1N)) + 100)) hx hb hr (fun t ht hW => ⟨⟨nI ((2 * (cSt C x1N)) + 100), (trc (trc i35 3) 1), rfl, hq, by show va_P D vwCl _ t.heap; rw [ht]; exact hP⟩, hS.F ht⟩) hS.2.2 dX10_tell_84
            · skip
              refine lv_iload_n hx hb dX10_tell_71 rfl (lv_at hl 0 rfl) ?_
              refine lv_bipush (v := nI 100) hx hb dX10_tell_72 (by decide +kernel) ?_
              refine kk_iadd hx hb dX10_tell_74 ?_
              refine lv_goto (tgt := 84) hx hb dX10_tell_75 (by decide) ?_
              have hq : (nI ((cSt C x1N) + 100)) = sp_tell C (nI x1N) ∧ (trc (trc i35 3) 1) = nx_tell C (nI x1N) i35 := by exfalso; omega
              refine kk_QQ hQQ ?_
              exact W.iret (v := nI ((cSt C x1N) + 100)) hx hb hr (fun t ht hW => ⟨⟨nI ((cSt C x1N) + 100), (trc (trc i35 3) 1), rfl, hq, by show va_P D vwCl _ t.heap; rw [ht]; exact hP⟩, hS.F ht⟩) hS.2.2 dX10_tell_84
          · skip
            refine lv_iload_n hx hb dX10_tell_62 rfl (lv_at hl 0 rfl) ?_
            refine lv_goto (tgt := 84) hx hb dX10_tell_63 (by decide) ?_
            have hq : (nI (cSt C x1N)) = sp_tell C (nI x1N) ∧ (trc (trc i35 3) 1) = nx_tell C (nI x1N) i35 := by exfalso; omega
            refine kk_QQ hQQ ?_
            exact W.iret (v := nI (cSt C x1N)) hx hb hr (fun t ht hW => ⟨⟨nI (cSt C x1N), (trc (trc i35 3) 1), rfl, hq, by show va_P D vwCl _ t.heap; rw [ht]; exact hP⟩, hS.F ht⟩) hS.2.2 dX10_tell_84
        · skip
          refine lv_aload_n hx hb dX10_tell_46 rfl (lv_at hl 1 rfl) ?_
          refine lv_iconst (v := nI 1) hx hb dX10_tell_47 (by decide +kernel) ?_
          have hF := va_free (wc := [(m0, .inr (9, [.int i0, .ref a1, .int (nI (cSp C)), .ref a3, .int (nI (cLa C)), .ref a5, .ref a6, .ref a7, .int (nI (cAg C)), .int (-9 : Int32), .int i10, .int i11, .int i12, .ref a13, .ref a14, .ref a15, .ref a16, .int (nI (mN T)), .ref a18, .ref a19, .ref a20, .ref a21, .ref a22, .ref a23, .ref a24, .ref a25, .int (nI (mN E)), .ref a27, .ref a28, .ref a29, .ref a30, .ref a31, .ref a32, .ref a33, .ref a34, .int (trc (trc i35 3) 1)]))]) hD hS hA [0] rfl
          refine va_callv (va_runV (As := [.int (nI 1)]) (rest := []) ⟨hx, hb, hml, hown, hts⟩ (c_X10_traced lL D cI cS _ m0 a1 a3 a5 a6 a7 a13 a14 a15 a16 a18 a19 a20 a21 a22 a23 a24 a25 a27 a28 a29 a30 a31 a32 a33 a34 i0 (nI (cSp C)) (nI (cLa C)) (nI (cAg C)) (-9 : Int32) i10 i11 i12 (nI (mN T)) (nI (mN E)) (trc (trc i35 3) 1) 1) (cwV 1 hts gX10_tell_X10_traced rfl rfl rfl cd_X10_traced ⟨Nat.le_of_ble_eq_true rfl, Nat.le_of_ble_eq_true rfl⟩) ⟨kB_blind, va_recv hK hP (ci := 9) (q0 := 0) rfl rfl, fun U hU hW => ⟨rfl, by rw [hU], by rw [hU]; exact hP.sub [0] rfl, va_K.moved hW.alike hK, (hD.sub [0] (by decide) rfl).weaken (fun _ _ _ _ => trivial)⟩⟩ rfl rfl hl.1 rfl (lv_room (Nat.le_of_ble_eq_true rfl)) dX10_tell_48 ⟨Nat.le_of_ble_eq_true rfl, Nat.le_of_ble_eq_true rfl⟩) hS (fun q _ h => hF q h) hF (fun u_27 t H1 locs ht hvm hw_27 hB hz1 hk1 hS => ?_)
          obtain ⟨hP, hD⟩ := kk_join2 (wc := [(m0, .inr (9, [.int i0, .ref a1, .int (nI (cSp C)), .ref a3, .int (nI (cLa C)), .ref a5, .ref a6, .ref a7, .int (nI (cAg C)), .int (-9 : Int32), .int i10, .int i11, .int i12, .ref a13, .ref a14, .ref a15, .ref a16, .int (nI (mN T)), .ref a18, .ref a19, .ref a20, .ref a21, .ref a22, .ref a23, .ref a24, .ref a25, .int (nI (mN E)), .ref a27, .ref a28, .ref a29, .ref a30, .ref a31, .ref a32, .ref a33, .ref a34, .int (trc (trc i35 3) 1)]))]) (w1 := [(m0, .inr (9, [.int i0, .ref a1, .int (nI (cSp C)), .ref a3, .int (nI (cLa C)), .ref a5, .ref a6, .ref a7, .int (nI (cAg C)), .int (-9 : Int32), .int i10, .int i11, .int i12, .ref a13, .ref a14, .ref a15, .ref a16, .int (nI (mN T)), .ref a18, .ref a19, .ref a20, .ref a21, .ref a22, .ref a23, .ref a24, .ref a25, .int (nI (mN E)), .ref a27, .ref a28, .ref a29, .ref a30, .ref a31, .ref a32, .ref a33, .ref a34, .int (trc (trc (trc i35 3) 1) 1)]))]) (ws' := [(m0, .inr (9, [.int i0, .ref a1, .int (nI (cSp C)), .ref a3, .int (nI (cLa C)), .ref a5, .ref a6, .ref a7, .int (nI (cAg C)), .int (-9 : Int32), .int i10, .int i11, .int i12, .ref a13, .ref a14, .ref a15, .ref a16, .int (nI (mN T)), .ref a18, .ref a19, .ref a20, .ref a21, .ref a22, .ref a23, .ref a24, .ref a25, .int (nI (mN E)), .ref a27, .ref a28, .ref a29, .ref a30, .ref a31, .ref a32, .ref a33, .ref a34, .int (trc (trc (trc i35 3) 1) 1)])), (a5, .inl (cI, 4, .inl ki)), (a6, .inl (cI, 4, .inl st))]) (wr := [(a5, .inl (cI, 4, .inl ki)), (a6, .inl (cI, 4, .inl st))]) (H1 := H1) hP hD [0] [1, 2] rfl rfl rfl rfl 3 rfl (by decide) [m0, a5, a6] rfl rfl hk1 (by rw [← ht]; exact hB)
          have hw_27 : True := hw_27
          clear hF hB hk1 hz1 hvm
          clear ht
          generalize H1 = H at hP hS ⊢
          refine lv_aload_n hx hb dX10_tell_51 rfl (lv_at hl 1 rfl) ?_
          refine va_get (D := D) (ci := 9) (v := .ref a6) (C := RX10) (T := TX10) (N := 36) hx hb hts hwX10 hown hK hP 0 rfl rfl 6 (by decide) hf_19 (fun _ h9 => h9) rfl dX10_tell_52 ?_
          refine lv_iload_n hx hb dX10_tell_55 rfl (lv_at hl 2 rfl) ?_
          refine kk_iald hx hb hK hP 2 rfl rfl (i := x1N) (by omega) (by decide) dX10_tell_56 ?_
          refine kk_top (y := nI (cSt C x1N)) (hrs x1N hx1N) ?_
          refine lv_istore_n (lv' := [(3, .int (nI (cSt C x1N))), (2, .int (nI (cKi C x1N))), (0, .ref m0), (1, .int (nI x1N))]) hx hb dX10_tell_57 rfl hl (by decide) rfl (fun ls hl => ?_)
          refine lv_iload_n hx hb dX10_tell_58 rfl (lv_at hl 1 rfl) ?_
          refine kk_if_ne (tgt := 66) hx hb dX10_tell_59 (by decide) (by omega) (fun c_28 => ?_) (fun c_28 => ?_)
          · skip
            refine lv_iload_n hx hb dX10_tell_66 rfl (lv_at hl 1 rfl) ?_
            refine lv_iconst (v := nI 1) hx hb dX10_tell_67 (by decide +kernel) ?_
            refine kk_icmp_ne (tgt := 78) hx hb dX10_tell_68 (by decide) (by omega) (by omega) (fun c_29 => ?_) (fun c_29 => ?_)
            · skip
              refine lv_iconst (v := nI 2) hx hb dX10_tell_78 (by decide +kernel) ?_
              refine lv_iload_n hx hb dX10_tell_79 rfl (lv_at hl 0 rfl) ?_
              refine kk_imul hx hb dX10_tell_80 ?_
              refine lv_bipush (v := nI 100) hx hb dX10_tell_81 (by decide +kernel) ?_
              refine kk_iadd hx hb dX10_tell_83 ?_
              have hq : (nI ((2 * (cSt C x1N)) + 100)) = sp_tell C (nI x1N) ∧ (trc (trc (trc i35 3) 1) 1) = nx_tell C (nI x1N) i35 := by exfalso; omega
              refine kk_QQ hQQ ?_
              exact W.iret (v := nI ((2 * (cSt C x1N)) + 100)) hx hb hr (fun t ht hW => ⟨⟨nI ((2 * (cSt C x1N)) + 100), (trc (trc (trc i35 3) 1) 1), rfl, hq, by show va_P D vwCl _ t.heap; rw [ht]; exact hP⟩, hS.F ht⟩) hS.2.2 dX10_tell_84
            · skip
              refine lv_iload_n hx hb dX10_tell_71 rfl (lv_at hl 0 rfl) ?_
              refine lv_bipush (v := nI 100) hx hb dX10_tell_72 (by decide +kernel) ?_
              refine kk_iadd hx hb dX10_tell_74 ?_
              refine lv_goto (tgt := 84) hx hb dX10_tell_75 (by decide) ?_
              have hq : (nI ((cSt C x1N) + 100)) = sp_tell C (nI x1N) ∧ (trc (trc (trc i35 3) 1) 1) = nx_tell C (nI x1N) i35 := by exfalso; omega
              refine kk_QQ hQQ ?_
              exact W.iret (v := nI ((cSt C x1N) + 100)) hx hb hr (fun t ht hW => ⟨⟨nI ((cSt C x1N) + 100), (trc (trc (trc i35 3) 1) 1), rfl, hq, by show va_P D vwCl _ t.heap; rw [ht]; exact hP⟩, hS.F ht⟩) hS.2.2 dX10_tell_84
          · skip
            refine lv_iload_n hx hb dX10_tell_62 rfl (lv_at hl 0 rfl) ?_
            refine lv_goto (tgt := 84) hx hb dX10_tell_63 (by decide) ?_
            have hq : (nI (cSt C x1N)) = sp_tell C (nI x1N) ∧ (trc (trc (trc i35 3) 1) 1) = nx_tell C (nI x1N) i35 := by exfalso; omega
            refine kk_QQ hQQ ?_
            exact W.iret (v := nI (cSt C x1N)) hx hb hr (fun t ht hW => ⟨⟨nI (cSt C x1N), (trc (trc (trc i35 3) 1) 1), rfl, hq, by show va_P D vwCl _ t.heap; rw [ht]; exact hP⟩, hS.F ht⟩) hS.2.2 dX10_tell_84
      · skip
        refine lv_aload_n hx hb dX10_tell_31 rfl (lv_at hl 1 rfl) ?_
        refine lv_iconst (v := nI 2) hx hb dX10_tell_32 (by decide +kernel) ?_
        have hF := va_free (wc := [(m0, .inr (9, [.int i0, .ref a1, .int (nI (cSp C)), .ref a3, .int (nI (cLa C)), .ref a5, .ref a6, .ref a7, .int (nI (cAg C)), .int (-9 : Int32), .int i10, .int i11, .int i12, .ref a13, .ref a14, .ref a15, .ref a16, .int (nI (mN T)), .ref a18, .ref a19, .ref a20, .ref a21, .ref a22, .ref a23, .ref a24, .ref a25, .int (nI (mN E)), .ref a27, .ref a28, .ref a29, .ref a30, .ref a31, .ref a32, .ref a33, .ref a34, .int (trc i35 3)]))]) hD hS hA [0] rfl
        refine va_callv (va_runV (As := [.int (nI 2)]) (rest := []) ⟨hx, hb, hml, hown, hts⟩ (c_X10_traced lL D cI cS _ m0 a1 a3 a5 a6 a7 a13 a14 a15 a16 a18 a19 a20 a21 a22 a23 a24 a25 a27 a28 a29 a30 a31 a32 a33 a34 i0 (nI (cSp C)) (nI (cLa C)) (nI (cAg C)) (-9 : Int32) i10 i11 i12 (nI (mN T)) (nI (mN E)) (trc i35 3) 2) (cwV 1 hts gX10_tell_X10_traced rfl rfl rfl cd_X10_traced ⟨Nat.le_of_ble_eq_true rfl, Nat.le_of_ble_eq_true rfl⟩) ⟨kB_blind, va_recv hK hP (ci := 9) (q0 := 0) rfl rfl, fun U hU hW => ⟨rfl, by rw [hU], by rw [hU]; exact hP.sub [0] rfl, va_K.moved hW.alike hK, (hD.sub [0] (by decide) rfl).weaken (fun _ _ _ _ => trivial)⟩⟩ rfl rfl hl.1 rfl (lv_room (Nat.le_of_ble_eq_true rfl)) dX10_tell_33 ⟨Nat.le_of_ble_eq_true rfl, Nat.le_of_ble_eq_true rfl⟩) hS (fun q _ h => hF q h) hF (fun u_30 t H1 locs ht hvm hw_30 hB hz1 hk1 hS => ?_)
        obtain ⟨hP, hD⟩ := kk_join2 (wc := [(m0, .inr (9, [.int i0, .ref a1, .int (nI (cSp C)), .ref a3, .int (nI (cLa C)), .ref a5, .ref a6, .ref a7, .int (nI (cAg C)), .int (-9 : Int32), .int i10, .int i11, .int i12, .ref a13, .ref a14, .ref a15, .ref a16, .int (nI (mN T)), .ref a18, .ref a19, .ref a20, .ref a21, .ref a22, .ref a23, .ref a24, .ref a25, .int (nI (mN E)), .ref a27, .ref a28, .ref a29, .ref a30, .ref a31, .ref a32, .ref a33, .ref a34, .int (trc i35 3)]))]) (w1 := [(m0, .inr (9, [.int i0, .ref a1, .int (nI (cSp C)), .ref a3, .int (nI (cLa C)), .ref a5, .ref a6, .ref a7, .int (nI (cAg C)), .int (-9 : Int32), .int i10, .int i11, .int i12, .ref a13, .ref a14, .ref a15, .ref a16, .int (nI (mN T)), .ref a18, .ref a19, .ref a20, .ref a21, .ref a22, .ref a23, .ref a24, .ref a25, .int (nI (mN E)), .ref a27, .ref a28, .ref a29, .ref a30, .ref a31, .ref a32, .ref a33, .ref a34, .int (trc (trc i35 3) 2)]))]) (ws' := [(m0, .inr (9, [.int i0, .ref a1, .int (nI (cSp C)), .ref a3, .int (nI (cLa C)), .ref a5, .ref a6, .ref a7, .int (nI (cAg C)), .int (-9 : Int32), .int i10, .int i11, .int i12, .ref a13, .ref a14, .ref a15, .ref a16, .int (nI (mN T)), .ref a18, .ref a19, .ref a20, .ref a21, .ref a22, .ref a23, .ref a24, .ref a25, .int (nI (mN E)), .ref a27, .ref a28, .ref a29, .ref a30, .ref a31, .ref a32, .ref a33, .ref a34, .int (trc (trc i35 3) 2)])), (a5, .inl (cI, 4, .inl ki)), (a6, .inl (cI, 4, .inl st))]) (wr := [(a5, .inl (cI, 4, .inl ki)), (a6, .inl (cI, 4, .inl st))]) (H1 := H1) hP hD [0] [1, 2] rfl rfl rfl rfl 3 rfl (by decide) [m0, a5, a6] rfl rfl hk1 (by rw [← ht]; exact hB)
        have hw_30 : True := hw_30
        clear hF hB hk1 hz1 hvm
        clear ht
        generalize H1 = H at hP hS ⊢
        refine lv_aload_n hx hb dX10_tell_36 rfl (lv_at hl 1 rfl) ?_
        refine lv_iconst (v := nI 1) hx hb dX10_tell_37 (by decide +kernel) ?_
        have hF := va_free (wc := [(m0, .inr (9, [.int i0, .ref a1, .int (nI (cSp C)), .ref a3, .int (nI (cLa C)), .ref a5, .ref a6, .ref a7, .int (nI (cAg C)), .int (-9 : Int32), .int i10, .int i11, .int i12, .ref a13, .ref a14, .ref a15, .ref a16, .int (nI (mN T)), .ref a18, .ref a19, .ref a20, .ref a21, .ref a22, .ref a23, .ref a24, .ref a25, .int (nI (mN E)), .ref a27, .ref a28, .ref a29, .ref a30, .ref a31, .ref a32, .ref a33, .ref a34, .int (trc (trc i35 3) 2)]))]) hD hS hA [0] rfl
        refine va_callv (va_runV (As := [.int (nI 1)]) (rest := []) ⟨hx, hb, hml, hown, hts⟩ (c_X10_traced lL D cI cS _ m0 a1 a3 a5 a6 a7 a13 a14 a15 a16 a18 a19 a20 a21 a22 a23 a24 a25 a27 a28 a29 a30 a31 a32 a33 a34 i0 (nI (cSp C)) (nI (cLa C)) (nI (cAg C)) (-9 : Int32) i10 i11 i12 (nI (mN T)) (nI (mN E)) (trc (trc i35 3) 2) 1) (cwV 1 hts gX10_tell_X10_traced rfl rfl rfl cd_X10_traced ⟨Nat.le_of_ble_eq_true rfl, Nat.le_of_ble_eq_true rfl⟩) ⟨kB_blind, va_recv hK hP (ci := 9) (q0 := 0) rfl rfl, fun U hU hW => ⟨rfl, by rw [hU], by rw [hU]; exact hP.sub [0] rfl, va_K.moved hW.alike hK, (hD.sub [0] (by decide) rfl).weaken (fun _ _ _ _ => trivial)⟩⟩ rfl rfl hl.1 rfl (lv_room (Nat.le_of_ble_eq_true rfl)) dX10_tell_38 ⟨Nat.le_of_ble_eq_true rfl, Nat.le_of_ble_eq_true rfl⟩) hS (fun q _ h => hF q h) hF (fun u_31 t H1 locs ht hvm hw_31 hB hz1 hk1 hS => ?_)
        obtain ⟨hP, hD⟩ := kk_join2 (wc := [(m0, .inr (9, [.int i0, .ref a1, .int (nI (cSp C)), .ref a3, .int (nI (cLa C)), .ref a5, .ref a6, .ref a7, .int (nI (cAg C)), .int (-9 : Int32), .int i10, .int i11, .int i12, .ref a13, .ref a14, .ref a15, .ref a16, .int (nI (mN T)), .ref a18, .ref a19, .ref a20, .ref a21, .ref a22, .ref a23, .ref a24, .ref a25, .int (nI (mN E)), .ref a27, .ref a28, .ref a29, .ref a30, .ref a31, .ref a32, .ref a33, .ref a34, .int (trc (trc i35 3) 2)]))]) (w1 := [(m0, .inr (9, [.int i0, .ref a1, .int (nI (cSp C)), .ref a3, .int (nI (cLa C)), .ref a5, .ref a6, .ref a7, .int (nI (cAg C)), .int (-9 : Int32), .int i10, .int i11, .int i12, .ref a13, .ref a14, .ref a15, .ref a16, .int (nI (mN T)), .ref a18, .ref a19, .ref a20, .ref a21, .ref a22, .ref a23, .ref a24, .ref a25, .int (nI (mN E)), .ref a27, .ref a28, .ref a29, .ref a30, .ref a31, .ref a32, .ref a33, .ref a34, .int (trc (trc (trc i35 3) 2) 1)]))]) (ws' := [(m0, .inr (9, [.int i0, .ref a1, .int (nI (cSp C)), .ref a3, .int (nI (cLa C)), .ref a5, .ref a6, .ref a7, .int (nI (cAg C)), .int (-9 : Int32), .int i10, .int i11, .int i12, .ref a13, .ref a14, .ref a15, .ref a16, .int (nI (mN T)), .ref a18, .ref a19, .ref a20, .ref a21, .ref a22, .ref a23, .ref a24, .ref a25, .int (nI (mN E)), .ref a27, .ref a28, .ref a29, .ref a30, .ref a31, .ref a32, .ref a33, .ref a34, .int (trc (trc (trc i35 3) 2) 1)])), (a5, .inl (cI, 4, .inl ki)), (a6, .inl (cI, 4, .inl st))]) (wr := [(a5, .inl (cI, 4, .inl ki)), (a6, .inl (cI, 4, .inl st))]) (H1 := H1) hP hD [0] [1, 2] rfl rfl rfl rfl 3 rfl (by decide) [m0, a5, a6] rfl rfl hk1 (by rw [← ht]; exact hB)
        have hw_31 : True := hw_31
        clear hF hB hk1 hz1 hvm
        clear ht
        generalize H1 = H at hP hS ⊢
        refine lv_iload_n hx hb dX10_tell_41 rfl (lv_at hl 0 rfl) ?_
        refine lv_iconst (v := nI 2) hx hb dX10_tell_42 (by decide +kernel) ?_
        refine kk_icmp_ne (tgt := 51) hx hb dX10_tell_43 (by decide) (by omega) (by omega) (fun c_32 => ?_) (fun c_32 => ?_)
        · skip
          refine lv_aload_n hx hb dX10_tell_51 rfl (lv_at hl 1 rfl) ?_
          refine va_get (D := D) (ci := 9) (v := .ref a6) (C := RX10) (T := TX10) (N := 36) hx hb hts hwX10 hown hK hP 0 rfl rfl 6 (by decide) hf_19 (fun _ h9 => h9) rfl dX10_tell_52 ?_
          refine lv_iload_n hx hb dX10_tell_55 rfl (lv_at hl 2 rfl) ?_
          refine kk_iald hx hb hK hP 2 rfl rfl (i := x1N) (by omega) (by decide) dX10_tell_56 ?_
          refine kk_top (y := nI (cSt C x1N)) (hrs x1N hx1N) ?_
          refine lv_istore_n (lv' := [(3, .int (nI (cSt C x1N))), (2, .int (nI (cKi C x1N))), (0, .ref m0), (1, .int (nI x1N))]) hx hb dX10_tell_57 rfl hl (by decide) rfl (fun ls hl => ?_)
          refine lv_iload_n hx hb dX10_tell_58 rfl (lv_at hl 1 rfl) ?_
          refine kk_if_ne (tgt := 66) hx hb dX10_tell_59 (by decide) (by omega) (fun c_33 => ?_) (fun c_33 => ?_)
          · skip
            refine lv_iload_n hx hb dX10_tell_66 rfl (lv_at hl 1 rfl) ?_
            refine lv_iconst (v := nI 1) hx hb dX10_tell_67 (by decide +kernel) ?_
            refine kk_icmp_ne (tgt := 78) hx hb dX10_tell_68 (by decide) (by omega) (by omega) (fun c_34 => ?_) (fun c_34 => ?_)
            · skip
              refine lv_iconst (v := nI 2) hx hb dX10_tell_78 (by decide +kernel) ?_
              refine lv_iload_n hx hb dX10_tell_79 rfl (lv_at hl 0 rfl) ?_
              refine kk_imul hx hb dX10_tell_80 ?_
              refine lv_bipush (v := nI 100) hx hb dX10_tell_81 (by decide +kernel) ?_
              refine kk_iadd hx hb dX10_tell_83 ?_
              have hq : (nI ((2 * (cSt C x1N)) + 100)) = sp_tell C (nI x1N) ∧ (trc (trc (trc i35 3) 2) 1) = nx_tell C (nI x1N) i35 := by exfalso; omega
              refine kk_QQ hQQ ?_
              exact W.iret (v := nI ((2 * (cSt C x1N)) + 100)) hx hb hr (fun t ht hW => ⟨⟨nI ((2 * (cSt C x1N)) + 100), (trc (trc (trc i35 3) 2) 1), rfl, hq, by show va_P D vwCl _ t.heap; rw [ht]; exact hP⟩, hS.F ht⟩) hS.2.2 dX10_tell_84
            · skip
              refine lv_iload_n hx hb dX10_tell_71 rfl (lv_at hl 0 rfl) ?_
              refine lv_bipush (v := nI 100) hx hb dX10_tell_72 (by decide +kernel) ?_
              refine kk_iadd hx hb dX10_tell_74 ?_
              refine lv_goto (tgt := 84) hx hb dX10_tell_75 (by decide) ?_
              have hq : (nI ((cSt C x1N) + 100)) = sp_tell C (nI x1N) ∧ (trc (trc (trc i35 3) 2) 1) = nx_tell C (nI x1N) i35 := by exfalso; omega
              refine kk_QQ hQQ ?_
              exact W.iret (v := nI ((cSt C x1N) + 100)) hx hb hr (fun t ht hW => ⟨⟨nI ((cSt C x1N) + 100), (trc (trc (trc i35 3) 2) 1), rfl, hq, by show va_P D vwCl _ t.heap; rw [ht]; exact hP⟩, hS.F ht⟩) hS.2.2 dX10_tell_84
          · skip
            refine lv_iload_n hx hb dX10_tell_62 rfl (lv_at hl 0 rfl) ?_
            refine lv_goto (tgt := 84) hx hb dX10_tell_63 (by decide) ?_
            have hq : (nI (cSt C x1N)) = sp_tell C (nI x1N) ∧ (trc (trc (trc i35 3) 2) 1) = nx_tell C (nI x1N) i35 := by exfalso; omega
            refine kk_QQ hQQ ?_
            exact W.iret (v := nI (cSt C x1N)) hx hb hr (fun t ht hW => ⟨⟨nI (cSt C x1N), (trc (trc (trc i35 3) 2) 1), rfl, hq, by show va_P D vwCl _ t.heap; rw [ht]; exact hP⟩, hS.F ht⟩) hS.2.2 dX10_tell_84
        · skip
          refine lv_aload_n hx hb dX10_tell_46 rfl (lv_at hl 1 rfl) ?_
          refine lv_iconst (v := nI 1) hx hb dX10_tell_47 (by decide +kernel) ?_
          have hF := va_free (wc := [(m0, .inr (9, [.int i0, .ref a1, .int (nI (cSp C)), .ref a3, .int (nI (cLa C)), .ref a5, .ref a6, .ref a7, .int (nI (cAg C)), .int (-9 : Int32), .int i10, .int i11, .int i12, .ref a13, .ref a14, .ref a15, .ref a16, .int (nI (mN T)), .ref a18, .ref a19, .ref a20, .ref a21, .ref a22, .ref a23, .ref a24, .ref a25, .int (nI (mN E)), .ref a27, .ref a28, .ref a29, .ref a30, .ref a31, .ref a32, .ref a33, .ref a34, .int (trc (trc (trc i35 3) 2) 1)]))]) hD hS hA [0] rfl
          refine va_callv (va_runV (As := [.int (nI 1)]) (rest := []) ⟨hx, hb, hml, hown, hts⟩ (c_X10_traced lL D cI cS _ m0 a1 a3 a5 a6 a7 a13 a14 a15 a16 a18 a19 a20 a21 a22 a23 a24 a25 a27 a28 a29 a30 a31 a32 a33 a34 i0 (nI (cSp C)) (nI (cLa C)) (nI (cAg C)) (-9 : Int32) i10 i11 i12 (nI (mN T)) (nI (mN E)) (trc (trc (trc i35 3) 2) 1) 1) (cwV 1 hts gX10_tell_X10_traced rfl rfl rfl cd_X10_traced ⟨Nat.le_of_ble_eq_true rfl, Nat.le_of_ble_eq_true rfl⟩) ⟨kB_blind, va_recv hK hP (ci := 9) (q0 := 0) rfl rfl, fun U hU hW => ⟨rfl, by rw [hU], by rw [hU]; exact hP.sub [0] rfl, va_K.moved hW.alike hK, (hD.sub [0] (by decide) rfl).weaken (fun _ _ _ _ => trivial)⟩⟩ rfl rfl hl.1 rfl (lv_room (Nat.le_of_ble_eq_true rfl)) dX10_tell_48 ⟨Nat.le_of_ble_eq_true rfl, Nat.le_of_ble_eq_true rfl⟩) hS (fun q _ h => hF q h) hF (fun u_35 t H1 locs ht hvm hw_35 hB hz1 hk1 hS => ?_)
          obtain ⟨hP, hD⟩ := kk_join2 (wc := [(m0, .inr (9, [.int i0, .ref a1, .int (nI (cSp C)), .ref a3, .int (nI (cLa C)), .ref a5, .ref a6, .ref a7, .int (nI (cAg C)), .int (-9 : Int32), .int i10, .int i11, .int i12, .ref a13, .ref a14, .ref a15, .ref a16, .int (nI (mN T)), .ref a18, .ref a19, .ref a20, .ref a21, .ref a22, .ref a23, .ref a24, .ref a25, .int (nI (mN E)), .ref a27, .ref a28, .ref a29, .ref a30, .ref a31, .ref a32, .ref a33, .ref a34, .int (trc (trc (trc i35 3) 2) 1)]))]) (w1 := [(m0, .inr (9, [.int i0, .ref a1, .int (nI (cSp C)), .ref a3, .int (nI (cLa C)), .ref a5, .ref a6, .ref a7, .int (nI (cAg C)), .int (-9 : Int32), .int i10, .int i11, .int i12, .ref a13, .ref a14, .ref a15, .ref a16, .int (nI (mN T)), .ref a18, .ref a19, .ref a20, .ref a21, .ref a22, .ref a23, .ref a24, .ref a25, .int (nI (mN E)), .ref a27, .ref a28, .ref a29, .ref a30, .ref a31, .ref a32, .ref a33, .ref a34, .int (trc (trc (trc (trc i35 3) 2) 1) 1)]))]) (ws' := [(m0, .inr (9, [.int i0, .ref a1, .int (nI (cSp C)), .ref a3, .int (nI (cLa C)), .ref a5, .ref a6, .ref a7, .int (nI (cAg C)), .int (-9 : Int32), .int i10, .int i11, .int i12, .ref a13, .ref a14, .ref a15, .ref a16, .int (nI (mN T)), .ref a18, .ref a19, .ref a20, .ref a21, .ref a22, .ref a23, .ref a24, .ref a25, .int (nI (mN E)), .ref a27, .ref a28, .ref a29, .ref a30, .ref a31, .ref a32, .ref a33, .ref a34, .int (trc (trc (trc (trc i35 3) 2) 1) 1)])), (a5, .inl (cI, 4, .inl ki)), (a6, .inl (cI, 4, .inl st))]) (wr := [(a5, .inl (cI, 4, .inl ki)), (a6, .inl (cI, 4, .inl st))]) (H1 := H1) hP hD [0] [1, 2] rfl rfl rfl rfl 3 rfl (by decide) [m0, a5, a6] rfl rfl hk1 (by rw [← ht]; exact hB)
          have hw_35 : True := hw_35
          clear hF hB hk1 hz1 hvm
          clear ht
          generalize H1 = H at hP hS ⊢
          refine lv_aload_n hx hb dX10_tell_51 rfl (lv_at hl 1 rfl) ?_
          refine va_get (D := D) (ci := 9) (v := .ref a6) (C := RX10) (T := TX10) (N := 36) hx hb hts hwX10 hown hK hP 0 rfl rfl 6 (by decide) hf_19 (fun _ h9 => h9) rfl dX10_tell_52 ?_
          refine lv_iload_n hx hb dX10_tell_55 rfl (lv_at hl 2 rfl) ?_
          refine kk_iald hx hb hK hP 2 rfl rfl (i := x1N) (by omega) (by decide) dX10_tell_56 ?_
          refine kk_top (y := nI (cSt C x1N)) (hrs x1N hx1N) ?_
          refine lv_istore_n (lv' := [(3, .int (nI (cSt C x1N))), (2, .int (nI (cKi C x1N))), (0, .ref m0), (1, .int (nI x1N))]) hx hb dX10_tell_57 rfl hl (by decide) rfl (fun ls hl => ?_)
          refine lv_iload_n hx hb dX10_tell_58 rfl (lv_at hl 1 rfl) ?_
          refine kk_if_ne (tgt := 66) hx hb dX10_tell_59 (by decide) (by omega) (fun c_36 => ?_) (fun c_36 => ?_)
          · skip
            refine lv_iload_n hx hb dX10_tell_66 rfl (lv_at hl 1 rfl) ?_
            refine lv_iconst (v := nI 1) hx hb dX10_tell_67 (by decide +kernel) ?_
            refine kk_icmp_ne (tgt := 78) hx hb dX10_tell_68 (by decide) (by omega) (by omega) (fun c_37 => ?_) (fun c_37 => ?_)
            · skip
              refine lv_iconst (v := nI 2) hx hb dX10_tell_78 (by decide +kernel) ?_
              refine lv_iload_n hx hb dX10_tell_79 rfl (lv_at hl 0 rfl) ?_
              refine kk_imul hx hb dX10_tell_80 ?_
              refine lv_bipush (v := nI 100) hx hb dX10_tell_81 (by decide +kernel) ?_
              refine kk_iadd hx hb dX10_tell_83 ?_
              have hq : (nI ((2 * (cSt C x1N)) + 100)) = sp_tell C (nI x1N) ∧ (trc (trc (trc (trc i35 3) 2) 1) 1) = nx_tell C (nI x1N) i35 := by refine ⟨by simp only [sp_tell, hb_3, t_x1, cond_true, cond_false, if_pos (show cKi C x1N = 2 by omega)]; congr 1; omega, by simp only [nx_tell, hb_3, t_x1, cond_true, cond_false, if_pos (show cKi C x1N = 2 by omega)]⟩
              refine kk_QQ hQQ ?_
              exact W.iret (v := nI ((2 * (cSt C x1N)) + 100)) hx hb hr (fun t ht hW => ⟨⟨nI ((2 * (cSt C x1N)) + 100), (trc (trc (trc (trc i35 3) 2) 1) 1), rfl, hq, by show va_P D vwCl _ t.heap; rw [ht]; exact hP⟩, hS.F ht⟩) hS.2.2 dX10_tell_84
            · skip
              refine lv_iload_n hx hb dX10_tell_71 rfl (lv_at hl 0 rfl) ?_
              refine lv_bipush (v := nI 100) hx hb dX10_tell_72 (by decide +kernel) ?_
              refine kk_iadd hx hb dX10_tell_74 ?_
              refine lv_goto (tgt := 84) hx hb dX10_tell_75 (by decide) ?_
              have hq : (nI ((cSt C x1N) + 100)) = sp_tell C (nI x1N) ∧ (trc (trc (trc (trc i35 3) 2) 1) 1) = nx_tell C (nI x1N) i35 := by exfalso; omega
              refine kk_QQ hQQ ?_
              exact W.iret (v := nI ((cSt C x1N) + 100)) hx hb hr (fun t ht hW => ⟨⟨nI ((cSt C x1N) + 100), (trc (trc (trc (trc i35 3) 2) 1) 1), rfl, hq, by show va_P D vwCl _ t.heap; rw [ht]; exact hP⟩, hS.F ht⟩) hS.2.2 dX10_tell_84
          · skip
            refine lv_iload_n hx hb dX10_tell_62 rfl (lv_at hl 0 rfl) ?_
            refine lv_goto (tgt := 84) hx hb dX10_tell_63 (by decide) ?_
            have hq : (nI (cSt C x1N)) = sp_tell C (nI x1N) ∧ (trc (trc (trc (trc i35 3) 2) 1) 1) = nx_tell C (nI x1N) i35 := by exfalso; omega
            refine kk_QQ hQQ ?_
            exact W.iret (v := nI (cSt C x1N)) hx hb hr (fun t ht hW => ⟨⟨nI (cSt C x1N), (trc (trc (trc (trc i35 3) 2) 1) 1), rfl, hq, by show va_P D vwCl _ t.heap; rw [ht]; exact hP⟩, hS.F ht⟩) hS.2.2 dX10_tell_84
  · skip
    refine lv_iconst (v := (-1 : Int32)) hx hb dX10_tell_8 (by decide +kernel) ?_
    have hq : (-1 : Int32) = sp_tell C x1 ∧ i35 = nx_tell C x1 i35 := by refine ⟨by simp only [sp_tell, hb_3, cond_true, cond_false], by simp only [nx_tell, hb_3, cond_true, cond_false]⟩
    refine kk_QQ hQQ ?_
    exact W.iret (v := (-1 : Int32)) hx hb hr (fun t ht hW => ⟨⟨(-1 : Int32), i35, rfl, hq, by show va_P D vwCl _ t.heap; rw [ht]; exact hP⟩, hS.F ht⟩) hS.2.2 dX10_tell_9

abbrev rmX10_see : Room := { frames := 2, cells := 0, slots := 0, locals := 46 }
set_option maxHeartbeats 4000000 in
set_option maxRecDepth 100000 in
theorem c_X10_see (lL : Launch) (D : va_G) (cI cS : ClassId) (sz : Nat) (C : Co) (T : Mv) (E : Mv) (m0 : Nat) (a1 : Nat) (a3 : Nat) (a5 : Nat) (a6 : Nat) (a7 : Nat) (a13 : Nat) (a14 : Nat) (a15 : Nat) (a16 : Nat) (a18 : Nat) (a19 : Nat) (a20 : Nat) (a21 : Nat) (a22 : Nat) (a23 : Nat) (a24 : Nat) (a25 : Nat) (a27 : Nat) (a28 : Nat) (a29 : Nat) (a30 : Nat) (a31 : Nat) (a32 : Nat) (a33 : Nat) (a34 : Nat) (i0 : Int32) (i10 : Int32) (i11 : Int32) (i12 : Int32) (i35 : Int32) (ki : Nat → Int32) (st : Nat → Int32) (x1 : Int32) (hX : okX C T E) (hrk : ∀ k, k < cLa C → ki k = nI (cKi C k)) (hrs : ∀ k, k < cLa C → st k = nI (cSt C k)) : Met lL yX10_see wsX10_see rmX10_see (va_Pc [.ref m0, .int x1] (kB D cI cS [(m0, .inr (9, [.int i0, .ref a1, .int (nI (cSp C)), .ref a3, .int (nI (cLa C)), .ref a5, .ref a6, .ref a7, .int (nI (cAg C)), .int (-9 : Int32), .int i10, .int i11, .int i12, .ref a13, .ref a14, .ref a15, .ref a16, .int (nI (mN T)), .ref a18, .ref a19, .ref a20, .ref a21, .ref a22, .ref a23, .ref a24, .ref a25, .int (nI (mN E)), .ref a27, .ref a28, .ref a29, .ref a30, .ref a31, .ref a32, .ref a33, .ref a34, .int i35])), (a5, .inl (cI, 4, .inl ki)), (a6, .inl (cI, 4, .inl st))] sz)) (kQi D (fun (r : Int32) (u : Int32) => r = sp_see C x1 ∧ u = nx_see C x1 i35) (fun u : Int32 => [(m0, .inr (9, [.int i0, .ref a1, .int (nI (cSp C)), .ref a3, .int (nI (cLa C)), .ref a5, .ref a6, .ref a7, .int (nI (cAg C)), .int (-9 : Int32), .int i10, .int i11, .int i12, .ref a13, .ref a14, .ref a15, .ref a16, .int (nI (mN T)), .ref a18, .ref a19, .ref a20, .ref a21, .ref a22, .ref a23, .ref a24, .ref a25, .int (nI (mN E)), .ref a27, .ref a28, .ref a29, .ref a30, .ref a31, .ref a32, .ref a33, .ref a34, .int u])), (a5, .inl (cI, 4, .inl ki)), (a6, .inl (cI, 4, .inl st))]) (va_A [(m0, .inr (9, [.int i0, .ref a1, .int (nI (cSp C)), .ref a3, .int (nI (cLa C)), .ref a5, .ref a6, .ref a7, .int (nI (cAg C)), .int (-9 : Int32), .int i10, .int i11, .int i12, .ref a13, .ref a14, .ref a15, .ref a16, .int (nI (mN T)), .ref a18, .ref a19, .ref a20, .ref a21, .ref a22, .ref a23, .ref a24, .ref a25, .int (nI (mN E)), .ref a27, .ref a28, .ref a29, .ref a30, .ref a31, .ref a32, .ref a33, .ref a34, .int i35])), (a5, .inl (cI, 4, .inl ki)), (a6, .inl (cI, 4, .inl st))] sz)) 0 0 (va_A [(m0, .inr (9, [.int i0, .ref a1, .int (nI (cSp C)), .ref a3, .int (nI (cLa C)), .ref a5, .ref a6, .ref a7, .int (nI (cAg C)), .int (-9 : Int32), .int i10, .int i11, .int i12, .ref a13, .ref a14, .ref a15, .ref a16, .int (nI (mN T)), .ref a18, .ref a19, .ref a20, .ref a21, .ref a22, .ref a23, .ref a24, .ref a25, .int (nI (mN E)), .ref a27, .ref a28, .ref a29, .ref a30, .ref a31, .ref a32, .ref a33, .ref a34, .int i35])), (a5, .inl (cI, 4, .inl ki)), (a6, .inl (cI, 4, .inl st))] sz) := by
  refine Met.ofW (cc := cX10_see) (maxL := 2) (ret := (some .int)) (by decide) rfl ?_
  intro pP eE sS mM args below meth cC s₁ B hml hv
  obtain ⟨rfl, hsz, hP, hK, hD0⟩ := hv
  have hx := B.exec
  have hb := B.bytes
  have hr := B.returns
  have hts := atoms_spec (ws := wsX10_see) B.pre
  have hown : sS.vm.findClass RX10 = some mM.cls := findClass_of_methodNamed B.named
  have hlocks := B.notSynchronized
  subst hsz
  have hD := hD0.self (sz := sS.heap.size)
  generalize hAe : va_A [(m0, .inr (9, [.int i0, .ref a1, .int (nI (cSp C)), .ref a3, .int (nI (cLa C)), .ref a5, .ref a6, .ref a7, .int (nI (cAg C)), .int (-9 : Int32), .int i10, .int i11, .int i12, .ref a13, .ref a14, .ref a15, .ref a16, .int (nI (mN T)), .ref a18, .ref a19, .ref a20, .ref a21, .ref a22, .ref a23, .ref a24, .ref a25, .int (nI (mN E)), .ref a27, .ref a28, .ref a29, .ref a30, .ref a31, .ref a32, .ref a33, .ref a34, .int i35])), (a5, .inl (cI, 4, .inl ki)), (a6, .inl (cI, 4, .inl st))] sS.heap.size = A at hD ⊢
  have hA : ∀ q : Nat, sS.heap.size ≤ q → A q := fun q h => by rw [← hAe]; exact Or.inr h
  have hS : va_S A sS.heap sS.heap [] := va_S.rf
  have hP : va_P D vwCl [(m0, .inr (9, [.int i0, .ref a1, .int (nI (cSp C)), .ref a3, .int (nI (cLa C)), .ref a5, .ref a6, .ref a7, .int (nI (cAg C)), .int (-9 : Int32), .int i10, .int i11, .int i12, .ref a13, .ref a14, .ref a15, .ref a16, .int (nI (mN T)), .ref a18, .ref a19, .ref a20, .ref a21, .ref a22, .ref a23, .ref a24, .ref a25, .int (nI (mN E)), .ref a27, .ref a28, .ref a29, .ref a30, .ref a31, .ref a32, .ref a33, .ref a34, .int i35])), (a5, .inl (cI, 4, .inl ki)), (a6, .inl (cI, 4, .inl st))] sS.heap := hP
  have hD : va_D A [(m0, .inr (9, [.int i0, .ref a1, .int (nI (cSp C)), .ref a3, .int (nI (cLa C)), .ref a5, .ref a6, .ref a7, .int (nI (cAg C)), .int (-9 : Int32), .int i10, .int i11, .int i12, .ref a13, .ref a14, .ref a15, .ref a16, .int (nI (mN T)), .ref a18, .ref a19, .ref a20, .ref a21, .ref a22, .ref a23, .ref a24, .ref a25, .int (nI (mN E)), .ref a27, .ref a28, .ref a29, .ref a30, .ref a31, .ref a32, .ref a33, .ref a34, .int i35])), (a5, .inl (cI, 4, .inl ki)), (a6, .inl (cI, 4, .inl st))] := hD
  have hf_16 := hts (.fieldLink RX10 16 "OldLampsModel" "kindOf" "[I") (List.mem_of_getElem? (i := 1) rfl)
  have hwX10 : ∀ w ∈ wsX100, w ∈ wsX10_see := fun _ h => List.mem_cons_of_mem _ (List.mem_append_right _ h)
  have hl := lv_entry ([.ref m0, .int x1]) (n := 2) (Nat.le_of_ble_eq_true rfl)
  rw [lg_entry_eq]
  generalize (lg_sl ([.ref m0, .int x1]) ++ List.replicate (2 - (lg_sl ([.ref m0, .int x1])).length) Slot.unset).toArray = ls at hl ⊢
  have hl : lv_has ls 2 [(0, .ref m0), (1, .int x1)] := hl
  obtain ⟨QQ, hQQ⟩ : ∃ QQ : State → Prop, QQ = MQ below (kQi D (fun (r : Int32) (u : Int32) => r = sp_see C x1 ∧ u = nx_see C x1 i35) (fun u : Int32 => [(m0, .inr (9, [.int i0, .ref a1, .int (nI (cSp C)), .ref a3, .int (nI (cLa C)), .ref a5, .ref a6, .ref a7, .int (nI (cAg C)), .int (-9 : Int32), .int i10, .int i11, .int i12, .ref a13, .ref a14, .ref a15, .ref a16, .int (nI (mN T)), .ref a18, .ref a19, .ref a20, .ref a21, .ref a22, .ref a23, .ref a24, .ref a25, .int (nI (mN E)), .ref a27, .ref a28, .ref a29, .ref a30, .ref a31, .ref a32, .ref a33, .ref a34, .int u])), (a5, .inl (cI, 4, .inl ki)), (a6, .inl (cI, 4, .inl st))]) A) ([.ref m0, .int x1]).toArray sS 0 0 A := ⟨_, rfl⟩
  refine kk_QQ hQQ.symm ?_
  obtain ⟨hX1, hX2, hX3, hX4⟩ := okX_le hX
  refine lv_aload_n hx hb dX10_see_0 rfl (lv_at hl 0 rfl) ?_
  refine lv_iload_n hx hb dX10_see_1 rfl (lv_at hl 1 rfl) ?_
  have o_1 : (cLa C) ≤ 4 := by omega
  refine vp_callSi (W.runV (As := [.int x1]) (rest := []) ⟨hx, hb, hml, hown, hts⟩ (c_X10_noLamp lL D cI cS m0 a1 a3 a5 a6 a7 a13 a14 a15 a16 a18 a19 a20 a21 a22 a23 a24 a25 a27 a28 a29 a30 a31 a32 a33 a34 i0 (nI (cSp C)) (nI (cAg C)) (-9 : Int32) i10 i11 i12 (nI (mN T)) (nI (mN E)) i35 x1 (cLa C) o_1) (cwV 1 hts gX10_see_X10_noLamp rfl rfl rfl cd_X10_noLamp ⟨Nat.le_of_ble_eq_true rfl, Nat.le_of_ble_eq_true rfl⟩) ⟨kBp_blind, va_recv hK hP (ci := 9) (q0 := 0) rfl rfl, fun U hU hW => ⟨rfl, by rw [hU]; exact hP.sub [0] rfl, va_K.moved hW.alike hK⟩⟩ rfl rfl hl.1 rfl (lv_room (Nat.le_of_ble_eq_true rfl)) dX10_see_2 ⟨Nat.le_of_ble_eq_true rfl, Nat.le_of_ble_eq_true rfl⟩) (fun r_2 hw_2 => ?_)
  obtain rfl : r_2 = kb (!inB x1 (cLa C)) := hw_2
  refine kk_ifn_eq (tgt := 10) hx hb dX10_see_5 (by decide) (fun hb_3 => ?_) (fun hb_3 => ?_)
  · skip
    obtain ⟨x1N, hx1N, rfl⟩ := inB_t hb_3
    have t_x1 := nI_clamp (show x1N < 2 ^ 31 by omega)
    have hk2 : cKi C x1N ≤ 2 := by
      rcases hX with h2 | ⟨-, -, -, h2, -⟩
      · omega
      · exact h2 x1N hx1N
    refine lv_aload_n hx hb dX10_see_10 rfl (lv_at hl 0 rfl) ?_
    refine lv_aload_n hx hb dX10_see_11 rfl (lv_at hl 0 rfl) ?_
    refine va_get (D := D) (ci := 9) (v := .ref a5) (C := RX10) (T := TX10) (N := 36) hx hb hts hwX10 hown hK hP 0 rfl rfl 5 (by decide) hf_16 (fun _ h9 => h9) rfl dX10_see_12 ?_
    refine lv_iload_n hx hb dX10_see_15 rfl (lv_at hl 1 rfl) ?_
    refine kk_iald hx hb hK hP 1 rfl rfl (i := x1N) (by omega) (by decide) dX10_see_16 ?_
    refine kk_top (y := nI (cKi C x1N)) (hrk x1N hx1N) ?_
    refine lv_iconst (v := nI 2) hx hb dX10_see_17 (by decide +kernel) ?_
    refine kk_icmp_ne (tgt := 25) hx hb dX10_see_18 (by decide) (by omega) (by omega) (fun c_4 => ?_) (fun c_4 => ?_)
    · skip
      refine lv_iconst (v := nI 4) hx hb dX10_see_25 (by decide +kernel) ?_
      have hF := va_free (wc := [(m0, .inr (9, [.int i0, .ref a1, .int (nI (cSp C)), .ref a3, .int (nI (cLa C)), .ref a5, .ref a6, .ref a7, .int (nI (cAg C)), .int (-9 : Int32), .int i10, .int i11, .int i12, .ref a13, .ref a14, .ref a15, .ref a16, .int (nI (mN T)), .ref a18, .ref a19, .ref a20, .ref a21, .ref a22, .ref a23, .ref a24, .ref a25, .int (nI (mN E)), .ref a27, .ref a28, .ref a29, .ref a30, .ref a31, .ref a32, .ref a33, .ref a34, .int i35]))]) hD hS hA [0] rfl
      refine va_callv (va_runV (As := [.int (nI 4)]) (rest := []) ⟨hx, hb, hml, hown, hts⟩ (c_X10_traced lL D cI cS _ m0 a1 a3 a5 a6 a7 a13 a14 a15 a16 a18 a19 a20 a21 a22 a23 a24 a25 a27 a28 a29 a30 a31 a32 a33 a34 i0 (nI (cSp C)) (nI (cLa C)) (nI (cAg C)) (-9 : Int32) i10 i11 i12 (nI (mN T)) (nI (mN E)) i35 4) (cwV 1 hts gX10_see_X10_traced rfl rfl rfl cd_X10_traced ⟨Nat.le_of_ble_eq_true rfl, Nat.le_of_ble_eq_true rfl⟩) ⟨kB_blind, va_recv hK hP (ci := 9) (q0 := 0) rfl rfl, fun U hU hW => ⟨rfl, by rw [hU], by rw [hU]; exact hP.sub [0] rfl, va_K.moved hW.alike hK, (hD.sub [0] (by decide) rfl).weaken (fun _ _ _ _ => trivial)⟩⟩ rfl rfl hl.1 rfl (lv_room (Nat.le_of_ble_eq_true rfl)) dX10_see_26 ⟨Nat.le_of_ble_eq_true rfl, Nat.le_of_ble_eq_true rfl⟩) hS (fun q _ h => hF q h) hF (fun u_5 t H1 locs ht hvm hw_5 hB hz1 hk1 hS => ?_)
      obtain ⟨hP, hD⟩ := kk_join2 (wc := [(m0, .inr (9, [.int i0, .ref a1, .int (nI (cSp C)), .ref a3, .int (nI (cLa C)), .ref a5, .ref a6, .ref a7, .int (nI (cAg C)), .int (-9 : Int32), .int i10, .int i11, .int i12, .ref a13, .ref a14, .ref a15, .ref a16, .int (nI (mN T)), .ref a18, .ref a19, .ref a20, .ref a21, .ref a22, .ref a23, .ref a24, .ref a25, .int (nI (mN E)), .ref a27, .ref a28, .ref a29, .ref a30, .ref a31, .ref a32, .ref a33, .ref a34, .int i35]))]) (w1 := [(m0, .inr (9, [.int i0, .ref a1, .int (nI (cSp C)), .ref a3, .int (nI (cLa C)), .ref a5, .ref a6, .ref a7, .int (nI (cAg C)), .int (-9 : Int32), .int i10, .int i11, .int i12, .ref a13, .ref a14, .ref a15, .ref a16, .int (nI (mN T)), .ref a18, .ref a19, .ref a20, .ref a21, .ref a22, .ref a23, .ref a24, .ref a25, .int (nI (mN E)), .ref a27, .ref a28, .ref a29, .ref a30, .ref a31, .ref a32, .ref a33, .ref a34, .int (trc i35 4)]))]) (ws' := [(m0, .inr (9, [.int i0, .ref a1, .int (nI (cSp C)), .ref a3, .int (nI (cLa C)), .ref a5, .ref a6, .ref a7, .int (nI (cAg C)), .int (-9 : Int32), .int i10, .int i11, .int i12, .ref a13, .ref a14, .ref a15, .ref a16, .int (nI (mN T)), .ref a18, .ref a19, .ref a20, .ref a21, .ref a22, .ref a23, .ref a24, .ref a25, .int (nI (mN E)), .ref a27, .ref a28, .ref a29, .ref a30, .ref a31, .ref a32, .ref a33, .ref a34, .int (trc i35 4)])), (a5, .inl (cI, 4, .inl ki)), (a6, .inl (cI, 4, .inl st))]) (wr := [(a5, .inl (cI, 4, .inl ki)), (a6, .inl (cI, 4, .inl st))]) (H1 := H1) hP hD [0] [1, 2] rfl rfl rfl rfl 3 rfl (by decide) [m0, a5, a6] rfl rfl hk1 (by rw [← ht]; exact hB)
      have hw_5 : True := hw_5
      clear hF hB hk1 hz1 hvm
      clear ht
      generalize H1 = H at hP hS ⊢
      refine lv_aload_n hx hb dX10_see_29 rfl (lv_at hl 0 rfl) ?_
      refine va_get (D := D) (ci := 9) (v := .ref a5) (C := RX10) (T := TX10) (N := 36) hx hb hts hwX10 hown hK hP 0 rfl rfl 5 (by decide) hf_16 (fun _ h9 => h9) rfl dX10_see_30 ?_
      refine lv_iload_n hx hb dX10_see_33 rfl (lv_at hl 1 rfl) ?_
      refine kk_iald hx hb hK hP 1 rfl rfl (i := x1N) (by omega) (by decide) dX10_see_34 ?_
      refine kk_top (y := nI (cKi C x1N)) (hrk x1N hx1N) ?_
      refine lv_iconst (v := nI 2) hx hb dX10_see_35 (by decide +kernel) ?_
      refine kk_icmp_ne (tgt := 44) hx hb dX10_see_36 (by decide) (by omega) (by omega) (fun c_6 => ?_) (fun c_6 => ?_)
      · skip
        refine lv_iload_n hx hb dX10_see_44 rfl (lv_at hl 1 rfl) ?_
        have hq : (nI x1N) = sp_see C (nI x1N) ∧ (trc i35 4) = nx_see C (nI x1N) i35 := by refine ⟨by simp only [sp_see, hb_3, t_x1, cond_true, cond_false, if_neg (show ¬ cKi C x1N = 2 by omega)], by simp only [nx_see, hb_3, t_x1, cond_true, cond_false, if_neg (show ¬ cKi C x1N = 2 by omega)]⟩
        refine kk_QQ hQQ ?_
        exact W.iret (v := nI x1N) hx hb hr (fun t ht hW => ⟨⟨nI x1N, (trc i35 4), rfl, hq, by show va_P D vwCl _ t.heap; rw [ht]; exact hP⟩, hS.F ht⟩) hS.2.2 dX10_see_45
      · skip
        refine lv_bipush (v := nI 60) hx hb dX10_see_39 (by decide +kernel) ?_
        refine lv_goto (tgt := 45) hx hb dX10_see_41 (by decide) ?_
        have hq : (nI 60) = sp_see C (nI x1N) ∧ (trc i35 4) = nx_see C (nI x1N) i35 := by exfalso; omega
        refine kk_QQ hQQ ?_
        exact W.iret (v := nI 60) hx hb hr (fun t ht hW => ⟨⟨nI 60, (trc i35 4), rfl, hq, by show va_P D vwCl _ t.heap; rw [ht]; exact hP⟩, hS.F ht⟩) hS.2.2 dX10_see_45
    · skip
      refine lv_iconst (v := nI 5) hx hb dX10_see_21 (by decide +kernel) ?_
      refine lv_goto (tgt := 26) hx hb dX10_see_22 (by decide) ?_
      have hF := va_free (wc := [(m0, .inr (9, [.int i0, .ref a1, .int (nI (cSp C)), .ref a3, .int (nI (cLa C)), .ref a5, .ref a6, .ref a7, .int (nI (cAg C)), .int (-9 : Int32), .int i10, .int i11, .int i12, .ref a13, .ref a14, .ref a15, .ref a16, .int (nI (mN T)), .ref a18, .ref a19, .ref a20, .ref a21, .ref a22, .ref a23, .ref a24, .ref a25, .int (nI (mN E)), .ref a27, .ref a28, .ref a29, .ref a30, .ref a31, .ref a32, .ref a33, .ref a34, .int i35]))]) hD hS hA [0] rfl
      refine va_callv (va_runV (As := [.int (nI 5)]) (rest := []) ⟨hx, hb, hml, hown, hts⟩ (c_X10_traced lL D cI cS _ m0 a1 a3 a5 a6 a7 a13 a14 a15 a16 a18 a19 a20 a21 a22 a23 a24 a25 a27 a28 a29 a30 a31 a32 a33 a34 i0 (nI (cSp C)) (nI (cLa C)) (nI (cAg C)) (-9 : Int32) i10 i11 i12 (nI (mN T)) (nI (mN E)) i35 5) (cwV 1 hts gX10_see_X10_traced rfl rfl rfl cd_X10_traced ⟨Nat.le_of_ble_eq_true rfl, Nat.le_of_ble_eq_true rfl⟩) ⟨kB_blind, va_recv hK hP (ci := 9) (q0 := 0) rfl rfl, fun U hU hW => ⟨rfl, by rw [hU], by rw [hU]; exact hP.sub [0] rfl, va_K.moved hW.alike hK, (hD.sub [0] (by decide) rfl).weaken (fun _ _ _ _ => trivial)⟩⟩ rfl rfl hl.1 rfl (lv_room (Nat.le_of_ble_eq_true rfl)) dX10_see_26 ⟨Nat.le_of_ble_eq_true rfl, Nat.le_of_ble_eq_true rfl⟩) hS (fun q _ h => hF q h) hF (fun u_7 t H1 locs ht hvm hw_7 hB hz1 hk1 hS => ?_)
      obtain ⟨hP, hD⟩ := kk_join2 (wc := [(m0, .inr (9, [.int i0, .ref a1, .int (nI (cSp C)), .ref a3, .int (nI (cLa C)), .ref a5, .ref a6, .ref a7, .int (nI (cAg C)), .int (-9 : Int32), .int i10, .int i11, .int i12, .ref a13, .ref a14, .ref a15, .ref a16, .int (nI (mN T)), .ref a18, .ref a19, .ref a20, .ref a21, .ref a22, .ref a23, .ref a24, .ref a25, .int (nI (mN E)), .ref a27, .ref a28, .ref a29, .ref a30, .ref a31, .ref a32, .ref a33, .ref a34, .int i35]))]) (w1 := [(m0, .inr (9, [.int i0, .ref a1, .int (nI (cSp C)), .ref a3, .int (nI (cLa C)), .ref a5, .ref a6, .ref a7, .int (nI (cAg C)), .int (-9 : Int32), .int i10, .int i11, .int i12, .ref a13, .ref a14, .ref a15, .ref a16, .int (nI (mN T)), .ref a18, .ref a19, .ref a20, .ref a21, .ref a22, .ref a23, .ref a24, .ref a25, .int (nI (mN E)), .ref a27, .ref a28, .ref a29, .ref a30, .ref a31, .ref a32, .ref a33, .ref a34, .int (trc i35 5)]))]) (ws' := [(m0, .inr (9, [.int i0, .ref a1, .int (nI (cSp C)), .ref a3, .int (nI (cLa C)), .ref a5, .ref a6, .ref a7, .int (nI (cAg C)), .int (-9 : Int32), .int i10, .int i11, .int i12, .ref a13, .ref a14, .ref a15, .ref a16, .int (nI (mN T)), .ref a18, .ref a19, .ref a20, .ref a21, .ref a22, .ref a23, .ref a24, .ref a25, .int (nI (mN E)), .ref a27, .ref a28, .ref a29, .ref a30, .ref a31, .ref a32, .ref a33, .ref a34, .int (trc i35 5)])), (a5, .inl (cI, 4, .inl ki)), (a6, .inl (cI, 4, .inl st))]) (wr := [(a5, .inl (cI, 4, .inl ki)), (a6, .inl (cI, 4, .inl st))]) (H1 := H1) hP hD [0] [1, 2] rfl rfl rfl rfl 3 rfl (by decide) [m0, a5, a6] rfl rfl hk1 (by rw [← ht]; exact hB)
      have hw_7 : True := hw_7
      clear hF hB hk1 hz1 hvm
      clear ht
      generalize H1 = H at hP hS ⊢
      refine lv_aload_n hx hb dX10_see_29 rfl (lv_at hl 0 rfl) ?_
      refine va_get (D := D) (ci := 9) (v := .ref a5) (C := RX10) (T := TX10) (N := 36) hx hb hts hwX10 hown hK hP 0 rfl rfl 5 (by decide) hf_16 (fun _ h9 => h9) rfl dX10_see_30 ?_
      refine lv_iload_n hx hb dX10_see_33 rfl (lv_at hl 1 rfl) ?_
      refine kk_iald hx hb hK hP 1 rfl rfl (i := x1N) (by omega) (by decide) dX10_see_34 ?_
      refine kk_top (y := nI (cKi C x1N)) (hrk x1N hx1N) ?_
      refine lv_iconst (v := nI 2) hx hb dX10_see_35 (by decide +kernel) ?_
      refine kk_icmp_ne (tgt := 44) hx hb dX10_see_36 (by decide) (by omega) (by omega) (fun c_8 => ?_) (fun c_8 => ?_)
      · skip
        refine lv_iload_n hx hb dX10_see_44 rfl (lv_at hl 1 rfl) ?_
        have hq : (nI x1N) = sp_see C (nI x1N) ∧ (trc i35 5) = nx_see C (nI x1N) i35 := by exfalso; omega
        refine kk_QQ hQQ ?_
        exact W.iret (v := nI x1N) hx hb hr (fun t ht hW => ⟨⟨nI x1N, (trc i35 5), rfl, hq, by show va_P D vwCl _ t.heap; rw [ht]; exact hP⟩, hS.F ht⟩) hS.2.2 dX10_see_45
      · skip
        refine lv_bipush (v := nI 60) hx hb dX10_see_39 (by decide +kernel) ?_
        refine lv_goto (tgt := 45) hx hb dX10_see_41 (by decide) ?_
        have hq : (nI 60) = sp_see C (nI x1N) ∧ (trc i35 5) = nx_see C (nI x1N) i35 := by refine ⟨by simp only [sp_see, hb_3, t_x1, cond_true, cond_false, if_pos (show cKi C x1N = 2 by omega)], by simp only [nx_see, hb_3, t_x1, cond_true, cond_false, if_pos (show cKi C x1N = 2 by omega)]⟩
        refine kk_QQ hQQ ?_
        exact W.iret (v := nI 60) hx hb hr (fun t ht hW => ⟨⟨nI 60, (trc i35 5), rfl, hq, by show va_P D vwCl _ t.heap; rw [ht]; exact hP⟩, hS.F ht⟩) hS.2.2 dX10_see_45
  · skip
    refine lv_iconst (v := (-1 : Int32)) hx hb dX10_see_8 (by decide +kernel) ?_
    have hq : (-1 : Int32) = sp_see C x1 ∧ i35 = nx_see C x1 i35 := by refine ⟨by simp only [sp_see, hb_3, cond_true, cond_false], by simp only [nx_see, hb_3, cond_true, cond_false]⟩
    refine kk_QQ hQQ ?_
    exact W.iret (v := (-1 : Int32)) hx hb hr (fun t ht hW => ⟨⟨(-1 : Int32), i35, rfl, hq, by show va_P D vwCl _ t.heap; rw [ht]; exact hP⟩, hS.F ht⟩) hS.2.2 dX10_see_9

abbrev rmX10_as : Room := { frames := 2, cells := 0, slots := 0, locals := 46 }
set_option maxHeartbeats 4000000 in
set_option maxRecDepth 100000 in
theorem c_X10_as (lL : Launch) (D : va_G) (cI cS : ClassId) (sz : Nat) (C : Co) (T : Mv) (E : Mv) (m0 : Nat) (a1 : Nat) (a3 : Nat) (a5 : Nat) (a6 : Nat) (a7 : Nat) (a13 : Nat) (a14 : Nat) (a15 : Nat) (a16 : Nat) (a18 : Nat) (a19 : Nat) (a20 : Nat) (a21 : Nat) (a22 : Nat) (a23 : Nat) (a24 : Nat) (a25 : Nat) (a27 : Nat) (a28 : Nat) (a29 : Nat) (a30 : Nat) (a31 : Nat) (a32 : Nat) (a33 : Nat) (a34 : Nat) (i0 : Int32) (i10 : Int32) (i11 : Int32) (i12 : Int32) (i35 : Int32) (ki : Nat → Int32) (st : Nat → Int32) (x1 : Int32) (x2 : Int32) (hX : okX C T E) (hrk : ∀ k, k < cLa C → ki k = nI (cKi C k)) (hrs : ∀ k, k < cLa C → st k = nI (cSt C k)) : Met lL yX10_as wsX10_as rmX10_as (va_Pc [.ref m0, .int x1, .int x2] (kB D cI cS [(m0, .inr (9, [.int i0, .ref a1, .int (nI (cSp C)), .ref a3, .int (nI (cLa C)), .ref a5, .ref a6, .ref a7, .int (nI (cAg C)), .int (-9 : Int32), .int i10, .int i11, .int i12, .ref a13, .ref a14, .ref a15, .ref a16, .int (nI (mN T)), .ref a18, .ref a19, .ref a20, .ref a21, .ref a22, .ref a23, .ref a24, .ref a25, .int (nI (mN E)), .ref a27, .ref a28, .ref a29, .ref a30, .ref a31, .ref a32, .ref a33, .ref a34, .int i35])), (a5, .inl (cI, 4, .inl ki)), (a6, .inl (cI, 4, .inl st))] sz)) (kQi D (fun (r : Int32) (u : Int32) => r = sp_as C x1 x2 ∧ u = nx_as C x1 x2) (fun u : Int32 => [(m0, .inr (9, [.int u, .ref a1, .int (nI (cSp C)), .ref a3, .int (nI (cLa C)), .ref a5, .ref a6, .ref a7, .int (nI (cAg C)), .int (-9 : Int32), .int i10, .int i11, .int i12, .ref a13, .ref a14, .ref a15, .ref a16, .int (nI (mN T)), .ref a18, .ref a19, .ref a20, .ref a21, .ref a22, .ref a23, .ref a24, .ref a25, .int (nI (mN E)), .ref a27, .ref a28, .ref a29, .ref a30, .ref a31, .ref a32, .ref a33, .ref a34, .int i35])), (a5, .inl (cI, 4, .inl ki)), (a6, .inl (cI, 4, .inl st))]) (va_A [(m0, .inr (9, [.int i0, .ref a1, .int (nI (cSp C)), .ref a3, .int (nI (cLa C)), .ref a5, .ref a6, .ref a7, .int (nI (cAg C)), .int (-9 : Int32), .int i10, .int i11, .int i12, .ref a13, .ref a14, .ref a15, .ref a16, .int (nI (mN T)), .ref a18, .ref a19, .ref a20, .ref a21, .ref a22, .ref a23, .ref a24, .ref a25, .int (nI (mN E)), .ref a27, .ref a28, .ref a29, .ref a30, .ref a31, .ref a32, .ref a33, .ref a34, .int i35])), (a5, .inl (cI, 4, .inl ki)), (a6, .inl (cI, 4, .inl st))] sz)) 0 0 (va_A [(m0, .inr (9, [.int i0, .ref a1, .int (nI (cSp C)), .ref a3, .int (nI (cLa C)), .ref a5, .ref a6, .ref a7, .int (nI (cAg C)), .int (-9 : Int32), .int i10, .int i11, .int i12, .ref a13, .ref a14, .ref a15, .ref a16, .int (nI (mN T)), .ref a18, .ref a19, .ref a20, .ref a21, .ref a22, .ref a23, .ref a24, .ref a25, .int (nI (mN E)), .ref a27, .ref a28, .ref a29, .ref a30, .ref a31, .ref a32, .ref a33, .ref a34, .int i35])), (a5, .inl (cI, 4, .inl ki)), (a6, .inl (cI, 4, .inl st))] sz) := by
  refine Met.ofW (cc := cX10_as) (maxL := 3) (ret := (some .int)) (by decide) rfl ?_
  intro pP eE sS mM args below meth cC s₁ B hml hv
  obtain ⟨rfl, hsz, hP, hK, hD0⟩ := hv
  have hx := B.exec
  have hb := B.bytes
  have hr := B.returns
  have hts := atoms_spec (ws := wsX10_as) B.pre
  have hown : sS.vm.findClass RX10 = some mM.cls := findClass_of_methodNamed B.named
  have hlocks := B.notSynchronized
  subst hsz
  have hD := hD0.self (sz := sS.heap.size)
  generalize hAe : va_A [(m0, .inr (9, [.int i0, .ref a1, .int (nI (cSp C)), .ref a3, .int (nI (cLa C)), .ref a5, .ref a6, .ref a7, .int (nI (cAg C)), .int (-9 : Int32), .int i10, .int i11, .int i12, .ref a13, .ref a14, .ref a15, .ref a16, .int (nI (mN T)), .ref a18, .ref a19, .ref a20, .ref a21, .ref a22, .ref a23, .ref a24, .ref a25, .int (nI (mN E)), .ref a27, .ref a28, .ref a29, .ref a30, .ref a31, .ref a32, .ref a33, .ref a34, .int i35])), (a5, .inl (cI, 4, .inl ki)), (a6, .inl (cI, 4, .inl st))] sS.heap.size = A at hD ⊢
  have hA : ∀ q : Nat, sS.heap.size ≤ q → A q := fun q h => by rw [← hAe]; exact Or.inr h
  have hS : va_S A sS.heap sS.heap [] := va_S.rf
  have hP : va_P D vwCl [(m0, .inr (9, [.int i0, .ref a1, .int (nI (cSp C)), .ref a3, .int (nI (cLa C)), .ref a5, .ref a6, .ref a7, .int (nI (cAg C)), .int (-9 : Int32), .int i10, .int i11, .int i12, .ref a13, .ref a14, .ref a15, .ref a16, .int (nI (mN T)), .ref a18, .ref a19, .ref a20, .ref a21, .ref a22, .ref a23, .ref a24, .ref a25, .int (nI (mN E)), .ref a27, .ref a28, .ref a29, .ref a30, .ref a31, .ref a32, .ref a33, .ref a34, .int i35])), (a5, .inl (cI, 4, .inl ki)), (a6, .inl (cI, 4, .inl st))] sS.heap := hP
  have hD : va_D A [(m0, .inr (9, [.int i0, .ref a1, .int (nI (cSp C)), .ref a3, .int (nI (cLa C)), .ref a5, .ref a6, .ref a7, .int (nI (cAg C)), .int (-9 : Int32), .int i10, .int i11, .int i12, .ref a13, .ref a14, .ref a15, .ref a16, .int (nI (mN T)), .ref a18, .ref a19, .ref a20, .ref a21, .ref a22, .ref a23, .ref a24, .ref a25, .int (nI (mN E)), .ref a27, .ref a28, .ref a29, .ref a30, .ref a31, .ref a32, .ref a33, .ref a34, .int i35])), (a5, .inl (cI, 4, .inl ki)), (a6, .inl (cI, 4, .inl st))] := hD
  have hf_16 := hts (.fieldLink RX10 16 "OldLampsModel" "kindOf" "[I") (List.mem_of_getElem? (i := 2) rfl)
  have hk_149 := hts (.constantLong RX10 149 (2)) (List.mem_of_getElem? (i := 1) rfl)
  have hwX10 : ∀ w ∈ wsX100, w ∈ wsX10_as := fun _ h => List.mem_cons_of_mem _ (List.mem_append_right _ h)
  have hl := lv_entry ([.ref m0, .int x1, .int x2]) (n := 3) (Nat.le_of_ble_eq_true rfl)
  rw [lg_entry_eq]
  generalize (lg_sl ([.ref m0, .int x1, .int x2]) ++ List.replicate (3 - (lg_sl ([.ref m0, .int x1, .int x2])).length) Slot.unset).toArray = ls at hl ⊢
  have hl : lv_has ls 3 [(0, .ref m0), (1, .int x1), (2, .int x2)] := hl
  obtain ⟨QQ, hQQ⟩ : ∃ QQ : State → Prop, QQ = MQ below (kQi D (fun (r : Int32) (u : Int32) => r = sp_as C x1 x2 ∧ u = nx_as C x1 x2) (fun u : Int32 => [(m0, .inr (9, [.int u, .ref a1, .int (nI (cSp C)), .ref a3, .int (nI (cLa C)), .ref a5, .ref a6, .ref a7, .int (nI (cAg C)), .int (-9 : Int32), .int i10, .int i11, .int i12, .ref a13, .ref a14, .ref a15, .ref a16, .int (nI (mN T)), .ref a18, .ref a19, .ref a20, .ref a21, .ref a22, .ref a23, .ref a24, .ref a25, .int (nI (mN E)), .ref a27, .ref a28, .ref a29, .ref a30, .ref a31, .ref a32, .ref a33, .ref a34, .int i35])), (a5, .inl (cI, 4, .inl ki)), (a6, .inl (cI, 4, .inl st))]) A) ([.ref m0, .int x1, .int x2]).toArray sS 0 0 A := ⟨_, rfl⟩
  refine kk_QQ hQQ.symm ?_
  obtain ⟨hX1, hX2, hX3, hX4⟩ := okX_le hX
  refine lv_aload_n hx hb dX10_as_0 rfl (lv_at hl 0 rfl) ?_
  refine lv_iload_n hx hb dX10_as_1 rfl (lv_at hl 1 rfl) ?_
  have o_1 : (cLa C) ≤ 4 := by omega
  refine vp_callSi (W.runV (As := [.int x1]) (rest := []) ⟨hx, hb, hml, hown, hts⟩ (c_X10_noLamp lL D cI cS m0 a1 a3 a5 a6 a7 a13 a14 a15 a16 a18 a19 a20 a21 a22 a23 a24 a25 a27 a28 a29 a30 a31 a32 a33 a34 i0 (nI (cSp C)) (nI (cAg C)) (-9 : Int32) i10 i11 i12 (nI (mN T)) (nI (mN E)) i35 x1 (cLa C) o_1) (cwV 1 hts gX10_as_X10_noLamp rfl rfl rfl cd_X10_noLamp ⟨Nat.le_of_ble_eq_true rfl, Nat.le_of_ble_eq_true rfl⟩) ⟨kBp_blind, va_recv hK hP (ci := 9) (q0 := 0) rfl rfl, fun U hU hW => ⟨rfl, by rw [hU]; exact hP.sub [0] rfl, va_K.moved hW.alike hK⟩⟩ rfl rfl hl.1 rfl (lv_room (Nat.le_of_ble_eq_true rfl)) dX10_as_2 ⟨Nat.le_of_ble_eq_true rfl, Nat.le_of_ble_eq_true rfl⟩) (fun r_2 hw_2 => ?_)
  obtain rfl : r_2 = kb (!inB x1 (cLa C)) := hw_2
  refine kk_ifn_eq (tgt := 14) hx hb dX10_as_5 (by decide) (fun hb_3 => ?_) (fun hb_3 => ?_)
  · skip
    obtain ⟨x1N, hx1N, rfl⟩ := inB_t hb_3
    have t_x1 := nI_clamp (show x1N < 2 ^ 31 by omega)
    have hk2 : cKi C x1N ≤ 2 := by
      rcases hX with h2 | ⟨-, -, -, h2, -⟩
      · omega
      · exact h2 x1N hx1N
    refine lv_iload_n hx hb dX10_as_14 rfl (lv_at hl 2 rfl) ?_
    refine lv_i2l (v := x2.toInt64) hx hb dX10_as_15 rfl ?_
    refine lv_lconst (v := lN 0) hx hb dX10_as_16 (by decide +kernel) ?_
    refine lv_ldc2 (v := (2 : Int64)) hx hb hown hk_149 dX10_as_17 ?_
    refine kk_topl (y := lN 2) (by decide +kernel) ?_
    refine vp_callSi (W.runS (As := [.long x2.toInt64, .long (lN 0), .long (lN 2)]) (rest := []) ⟨hx, hb, hml, hown, hts⟩ (c_X10_in lL D cI cS x2.toInt64 (lN 0) (lN 2)) (va_cwS 3 hts gX10_as_X10_in rfl rfl rfl cd_X10_in ⟨Nat.le_of_ble_eq_true rfl, Nat.le_of_ble_eq_true rfl⟩) ⟨kBp_blind, fun U hU hW => ⟨rfl, by rw [hU]; exact hP.sub [] rfl, va_K.moved hW.alike hK⟩⟩ rfl rfl hl.1 rfl (lv_room (Nat.le_of_ble_eq_true rfl)) dX10_as_20 ⟨Nat.le_of_ble_eq_true rfl, Nat.le_of_ble_eq_true rfl⟩) (fun r_4 hw_4 => ?_)
    obtain rfl : r_4 = kb (inL x2.toInt64 (lN 0) (lN 2)) := hw_4
    refine kk_top (y := kb (wB x2 0 2)) (congrArg kb (inL_w x2 (by omega) (by omega))) ?_
    -- if wB x2 0 2
    refine kk_ifb_ne (tgt := 33) hx hb dX10_as_23 (by decide) (fun hb_5 => ?_) (fun hb_5 => ?_)
    · skip
      obtain ⟨x2N, hx2L, hx2N, rfl⟩ := wB_t hb_5
      have t_x2 := nI_clamp (show x2N < 2 ^ 31 by omega)
      refine lv_aload_n hx hb dX10_as_33 rfl (lv_at hl 0 rfl) ?_
      refine va_get (D := D) (ci := 9) (v := .ref a5) (C := RX10) (T := TX10) (N := 36) hx hb hts hwX10 hown hK hP 0 rfl rfl 5 (by decide) hf_16 (fun _ h9 => h9) rfl dX10_as_34 ?_
      refine lv_iload_n hx hb dX10_as_37 rfl (lv_at hl 1 rfl) ?_
      refine kk_iald hx hb hK hP 1 rfl rfl (i := x1N) (by omega) (by decide) dX10_as_38 ?_
      refine kk_top (y := nI (cKi C x1N)) (hrk x1N hx1N) ?_
      refine lv_iload_n hx hb dX10_as_39 rfl (lv_at hl 2 rfl) ?_
      refine kk_icmp_lt (tgt := 51) hx hb dX10_as_40 (by decide) (by omega) (by omega) (fun c_6 => ?_) (fun c_6 => ?_)
      · skip
        refine lv_aload_n hx hb dX10_as_51 rfl (lv_at hl 0 rfl) ?_
        refine lv_iconst (v := nI 2) hx hb dX10_as_52 (by decide +kernel) ?_
        have hF := va_free (wc := [(m0, .inr (9, [.int i0, .ref a1, .int (nI (cSp C)), .ref a3, .int (nI (cLa C)), .ref a5, .ref a6, .ref a7, .int (nI (cAg C)), .int (-9 : Int32), .int i10, .int i11, .int i12, .ref a13, .ref a14, .ref a15, .ref a16, .int (nI (mN T)), .ref a18, .ref a19, .ref a20, .ref a21, .ref a22, .ref a23, .ref a24, .ref a25, .int (nI (mN E)), .ref a27, .ref a28, .ref a29, .ref a30, .ref a31, .ref a32, .ref a33, .ref a34, .int i35]))]) hD hS hA [0] rfl
        refine va_calli (va_runV (As := [.int (nI 2)]) (rest := []) ⟨hx, hb, hml, hown, hts⟩ (c_X10_failed lL D cI cS _ m0 a1 a3 a5 a6 a7 a13 a14 a15 a16 a18 a19 a20 a21 a22 a23 a24 a25 a27 a28 a29 a30 a31 a32 a33 a34 i0 (nI (cSp C)) (nI (cLa C)) (nI (cAg C)) (-9 : Int32) i10 i11 i12 (nI (mN T)) (nI (mN E)) i35 (nI 2)) (cwV 1 hts gX10_as_X10_failed rfl rfl rfl cd_X10_failed ⟨Nat.le_of_ble_eq_true rfl, Nat.le_of_ble_eq_true rfl⟩) ⟨kB_blind, va_recv hK hP (ci := 9) (q0 := 0) rfl rfl, fun U hU hW => ⟨rfl, by rw [hU], by rw [hU]; exact hP.sub [0] rfl, va_K.moved hW.alike hK, (hD.sub [0] (by decide) rfl).weaken (fun _ _ _ _ => trivial)⟩⟩ rfl rfl hl.1 rfl (lv_room (Nat.le_of_ble_eq_true rfl)) dX10_as_53 ⟨Nat.le_of_ble_eq_true rfl, Nat.le_of_ble_eq_true rfl⟩) hS (fun q _ h => hF q h) hF (fun r_7 u_7 t H1 locs ht hvm hw_7 hB hz1 hk1 hS => ?_)
        obtain ⟨hP, hD⟩ := kk_join2 (wc := [(m0, .inr (9, [.int i0, .ref a1, .int (nI (cSp C)), .ref a3, .int (nI (cLa C)), .ref a5, .ref a6, .ref a7, .int (nI (cAg C)), .int (-9 : Int32), .int i10, .int i11, .int i12, .ref a13, .ref a14, .ref a15, .ref a16, .int (nI (mN T)), .ref a18, .ref a19, .ref a20, .ref a21, .ref a22, .ref a23, .ref a24, .ref a25, .int (nI (mN E)), .ref a27, .ref a28, .ref a29, .ref a30, .ref a31, .ref a32, .ref a33, .ref a34, .int i35]))]) (w1 := [(m0, .inr (9, [.int (nI 2), .ref a1, .int (nI (cSp C)), .ref a3, .int (nI (cLa C)), .ref a5, .ref a6, .ref a7, .int (nI (cAg C)), .int (-9 : Int32), .int i10, .int i11, .int i12, .ref a13, .ref a14, .ref a15, .ref a16, .int (nI (mN T)), .ref a18, .ref a19, .ref a20, .ref a21, .ref a22, .ref a23, .ref a24, .ref a25, .int (nI (mN E)), .ref a27, .ref a28, .ref a29, .ref a30, .ref a31, .ref a32, .ref a33, .ref a34, .int i35]))]) (ws' := [(m0, .inr (9, [.int (nI 2), .ref a1, .int (nI (cSp C)), .ref a3, .int (nI (cLa C)), .ref a5, .ref a6, .ref a7, .int (nI (cAg C)), .int (-9 : Int32), .int i10, .int i11, .int i12, .ref a13, .ref a14, .ref a15, .ref a16, .int (nI (mN T)), .ref a18, .ref a19, .ref a20, .ref a21, .ref a22, .ref a23, .ref a24, .ref a25, .int (nI (mN E)), .ref a27, .ref a28, .ref a29, .ref a30, .ref a31, .ref a32, .ref a33, .ref a34, .int i35])), (a5, .inl (cI, 4, .inl ki)), (a6, .inl (cI, 4, .inl st))]) (wr := [(a5, .inl (cI, 4, .inl ki)), (a6, .inl (cI, 4, .inl st))]) (H1 := H1) hP hD [0] [1, 2] rfl rfl rfl rfl 3 rfl (by decide) [m0, a5, a6] rfl rfl hk1 (by rw [← ht]; exact hB)
        have hw_7 : r_7 = (-10 : Int32) - (nI 2) ∧ True := hw_7
        clear hF hB hk1 hz1 hvm
        clear ht
        generalize H1 = H at hP hS ⊢
        obtain ⟨rfl, hw_7⟩ := hw_7
        have hq : ((-10 : Int32) - (nI 2)) = sp_as C (nI x1N) (nI x2N) ∧ (nI 2) = nx_as C (nI x1N) (nI x2N) := by refine ⟨by simp only [sp_as, hb_3, hb_5, t_x1, t_x2, cond_true, cond_false, if_neg (show ¬ x2N ≤ cKi C x1N by omega)], by simp only [nx_as, hb_3, hb_5, t_x1, t_x2, cond_true, cond_false, if_neg (show ¬ x2N ≤ cKi C x1N by omega)]⟩
        refine kk_QQ hQQ ?_
        exact W.iret (v := (-10 : Int32) - (nI 2)) hx hb hr (fun t ht hW => ⟨⟨(-10 : Int32) - (nI 2), (nI 2), rfl, hq, by show va_P D vwCl _ t.heap; rw [ht]; exact hP⟩, hS.F ht⟩) hS.2.2 dX10_as_56
      · skip
        refine lv_aload_n hx hb dX10_as_43 rfl (lv_at hl 0 rfl) ?_
        refine lv_iconst (v := nI 1) hx hb dX10_as_44 (by decide +kernel) ?_
        have hF := va_free (wc := [(m0, .inr (9, [.int i0, .ref a1, .int (nI (cSp C)), .ref a3, .int (nI (cLa C)), .ref a5, .ref a6, .ref a7, .int (nI (cAg C)), .int (-9 : Int32), .int i10, .int i11, .int i12, .ref a13, .ref a14, .ref a15, .ref a16, .int (nI (mN T)), .ref a18, .ref a19, .ref a20, .ref a21, .ref a22, .ref a23, .ref a24, .ref a25, .int (nI (mN E)), .ref a27, .ref a28, .ref a29, .ref a30, .ref a31, .ref a32, .ref a33, .ref a34, .int i35]))]) hD hS hA [0] rfl
        refine va_calli (va_runV (As := [.int (nI 1)]) (rest := []) ⟨hx, hb, hml, hown, hts⟩ (c_X10_refused lL D cI cS _ m0 a1 a3 a5 a6 a7 a13 a14 a15 a16 a18 a19 a20 a21 a22 a23 a24 a25 a27 a28 a29 a30 a31 a32 a33 a34 i0 (nI (cSp C)) (nI (cLa C)) (nI (cAg C)) (-9 : Int32) i10 i11 i12 (nI (mN T)) (nI (mN E)) i35 (nI 1)) (cwV 1 hts gX10_as_X10_refused rfl rfl rfl cd_X10_refused ⟨Nat.le_of_ble_eq_true rfl, Nat.le_of_ble_eq_true rfl⟩) ⟨kB_blind, va_recv hK hP (ci := 9) (q0 := 0) rfl rfl, fun U hU hW => ⟨rfl, by rw [hU], by rw [hU]; exact hP.sub [0] rfl, va_K.moved hW.alike hK, (hD.sub [0] (by decide) rfl).weaken (fun _ _ _ _ => trivial)⟩⟩ rfl rfl hl.1 rfl (lv_room (Nat.le_of_ble_eq_true rfl)) dX10_as_45 ⟨Nat.le_of_ble_eq_true rfl, Nat.le_of_ble_eq_true rfl⟩) hS (fun q _ h => hF q h) hF (fun r_8 u_8 t H1 locs ht hvm hw_8 hB hz1 hk1 hS => ?_)
        obtain ⟨hP, hD⟩ := kk_join2 (wc := [(m0, .inr (9, [.int i0, .ref a1, .int (nI (cSp C)), .ref a3, .int (nI (cLa C)), .ref a5, .ref a6, .ref a7, .int (nI (cAg C)), .int (-9 : Int32), .int i10, .int i11, .int i12, .ref a13, .ref a14, .ref a15, .ref a16, .int (nI (mN T)), .ref a18, .ref a19, .ref a20, .ref a21, .ref a22, .ref a23, .ref a24, .ref a25, .int (nI (mN E)), .ref a27, .ref a28, .ref a29, .ref a30, .ref a31, .ref a32, .ref a33, .ref a34, .int i35]))]) (w1 := [(m0, .inr (9, [.int (nI 0), .ref a1, .int (nI (cSp C)), .ref a3, .int (nI (cLa C)), .ref a5, .ref a6, .ref a7, .int (nI (cAg C)), .int (-9 : Int32), .int i10, .int i11, .int i12, .ref a13, .ref a14, .ref a15, .ref a16, .int (nI (mN T)), .ref a18, .ref a19, .ref a20, .ref a21, .ref a22, .ref a23, .ref a24, .ref a25, .int (nI (mN E)), .ref a27, .ref a28, .ref a29, .ref a30, .ref a31, .ref a32, .ref a33, .ref a34, .int i35]))]) (ws' := [(m0, .inr (9, [.int (nI 0), .ref a1, .int (nI (cSp C)), .ref a3, .int (nI (cLa C)), .ref a5, .ref a6, .ref a7, .int (nI (cAg C)), .int (-9 : Int32), .int i10, .int i11, .int i12, .ref a13, .ref a14, .ref a15, .ref a16, .int (nI (mN T)), .ref a18, .ref a19, .ref a20, .ref a21, .ref a22, .ref a23, .ref a24, .ref a25, .int (nI (mN E)), .ref a27, .ref a28, .ref a29, .ref a30, .ref a31, .ref a32, .ref a33, .ref a34, .int i35])), (a5, .inl (cI, 4, .inl ki)), (a6, .inl (cI, 4, .inl st))]) (wr := [(a5, .inl (cI, 4, .inl ki)), (a6, .inl (cI, 4, .inl st))]) (H1 := H1) hP hD [0] [1, 2] rfl rfl rfl rfl 3 rfl (by decide) [m0, a5, a6] rfl rfl hk1 (by rw [← ht]; exact hB)
        have hw_8 : r_8 = (nI 1) ∧ True := hw_8
        clear hF hB hk1 hz1 hvm
        clear ht
        generalize H1 = H at hP hS ⊢
        obtain ⟨rfl, hw_8⟩ := hw_8
        refine lv_goto (tgt := 56) hx hb dX10_as_48 (by decide) ?_
        have hq : (nI 1) = sp_as C (nI x1N) (nI x2N) ∧ (nI 0) = nx_as C (nI x1N) (nI x2N) := by refine ⟨by simp only [sp_as, hb_3, hb_5, t_x1, t_x2, cond_true, cond_false, if_pos (show x2N ≤ cKi C x1N by omega)], by simp only [nx_as, hb_3, hb_5, t_x1, t_x2, cond_true, cond_false, if_pos (show x2N ≤ cKi C x1N by omega)]⟩
        refine kk_QQ hQQ ?_
        exact W.iret (v := (nI 1)) hx hb hr (fun t ht hW => ⟨⟨(nI 1), (nI 0), rfl, hq, by show va_P D vwCl _ t.heap; rw [ht]; exact hP⟩, hS.F ht⟩) hS.2.2 dX10_as_56
    · skip
      refine lv_aload_n hx hb dX10_as_26 rfl (lv_at hl 0 rfl) ?_
      refine lv_bipush (v := (-2 : Int32)) hx hb dX10_as_27 (by decide +kernel) ?_
      have hF := va_free (wc := [(m0, .inr (9, [.int i0, .ref a1, .int (nI (cSp C)), .ref a3, .int (nI (cLa C)), .ref a5, .ref a6, .ref a7, .int (nI (cAg C)), .int (-9 : Int32), .int i10, .int i11, .int i12, .ref a13, .ref a14, .ref a15, .ref a16, .int (nI (mN T)), .ref a18, .ref a19, .ref a20, .ref a21, .ref a22, .ref a23, .ref a24, .ref a25, .int (nI (mN E)), .ref a27, .ref a28, .ref a29, .ref a30, .ref a31, .ref a32, .ref a33, .ref a34, .int i35]))]) hD hS hA [0] rfl
      refine va_calli (va_runV (As := [.int (-2 : Int32)]) (rest := []) ⟨hx, hb, hml, hown, hts⟩ (c_X10_refused lL D cI cS _ m0 a1 a3 a5 a6 a7 a13 a14 a15 a16 a18 a19 a20 a21 a22 a23 a24 a25 a27 a28 a29 a30 a31 a32 a33 a34 i0 (nI (cSp C)) (nI (cLa C)) (nI (cAg C)) (-9 : Int32) i10 i11 i12 (nI (mN T)) (nI (mN E)) i35 (-2 : Int32)) (cwV 1 hts gX10_as_X10_refused rfl rfl rfl cd_X10_refused ⟨Nat.le_of_ble_eq_true rfl, Nat.le_of_ble_eq_true rfl⟩) ⟨kB_blind, va_recv hK hP (ci := 9) (q0 := 0) rfl rfl, fun U hU hW => ⟨rfl, by rw [hU], by rw [hU]; exact hP.sub [0] rfl, va_K.moved hW.alike hK, (hD.sub [0] (by decide) rfl).weaken (fun _ _ _ _ => trivial)⟩⟩ rfl rfl hl.1 rfl (lv_room (Nat.le_of_ble_eq_true rfl)) dX10_as_29 ⟨Nat.le_of_ble_eq_true rfl, Nat.le_of_ble_eq_true rfl⟩) hS (fun q _ h => hF q h) hF (fun r_9 u_9 t H1 locs ht hvm hw_9 hB hz1 hk1 hS => ?_)
      obtain ⟨hP, hD⟩ := kk_join2 (wc := [(m0, .inr (9, [.int i0, .ref a1, .int (nI (cSp C)), .ref a3, .int (nI (cLa C)), .ref a5, .ref a6, .ref a7, .int (nI (cAg C)), .int (-9 : Int32), .int i10, .int i11, .int i12, .ref a13, .ref a14, .ref a15, .ref a16, .int (nI (mN T)), .ref a18, .ref a19, .ref a20, .ref a21, .ref a22, .ref a23, .ref a24, .ref a25, .int (nI (mN E)), .ref a27, .ref a28, .ref a29, .ref a30, .ref a31, .ref a32, .ref a33, .ref a34, .int i35]))]) (w1 := [(m0, .inr (9, [.int (nI 0), .ref a1, .int (nI (cSp C)), .ref a3, .int (nI (cLa C)), .ref a5, .ref a6, .ref a7, .int (nI (cAg C)), .int (-9 : Int32), .int i10, .int i11, .int i12, .ref a13, .ref a14, .ref a15, .ref a16, .int (nI (mN T)), .ref a18, .ref a19, .ref a20, .ref a21, .ref a22, .ref a23, .ref a24, .ref a25, .int (nI (mN E)), .ref a27, .ref a28, .ref a29, .ref a30, .ref a31, .ref a32, .ref a33, .ref a34, .int i35]))]) (ws' := [(m0, .inr (9, [.int (nI 0), .ref a1, .int (nI (cSp C)), .ref a3, .int (nI (cLa C)), .ref a5, .ref a6, .ref a7, .int (nI (cAg C)), .int (-9 : Int32), .int i10, .int i11, .int i12, .ref a13, .ref a14, .ref a15, .ref a16, .int (nI (mN T)), .ref a18, .ref a19, .ref a20, .ref a21, .ref a22, .ref a23, .ref a24, .ref a25, .int (nI (mN E)), .ref a27, .ref a28, .ref a29, .ref a30, .ref a31, .ref a32, .ref a33, .ref a34, .int i35])), (a5, .inl (cI, 4, .inl ki)), (a6, .inl (cI, 4, .inl st))]) (wr := [(a5, .inl (cI, 4, .inl ki)), (a6, .inl (cI, 4, .inl st))]) (H1 := H1) hP hD [0] [1, 2] rfl rfl rfl rfl 3 rfl (by decide) [m0, a5, a6] rfl rfl hk1 (by rw [← ht]; exact hB)
      have hw_9 : r_9 = (-2 : Int32) ∧ True := hw_9
      clear hF hB hk1 hz1 hvm
      clear ht
      generalize H1 = H at hP hS ⊢
      obtain ⟨rfl, hw_9⟩ := hw_9
      have hq : (-2 : Int32) = sp_as C (nI x1N) x2 ∧ (nI 0) = nx_as C (nI x1N) x2 := by refine ⟨by simp only [sp_as, hb_3, hb_5, t_x1, cond_true, cond_false], by simp only [nx_as, hb_3, hb_5, t_x1, cond_true, cond_false]⟩
      refine kk_QQ hQQ ?_
      exact W.iret (v := (-2 : Int32)) hx hb hr (fun t ht hW => ⟨⟨(-2 : Int32), (nI 0), rfl, hq, by show va_P D vwCl _ t.heap; rw [ht]; exact hP⟩, hS.F ht⟩) hS.2.2 dX10_as_32
  · skip
    refine lv_aload_n hx hb dX10_as_8 rfl (lv_at hl 0 rfl) ?_
    refine lv_iconst (v := (-1 : Int32)) hx hb dX10_as_9 (by decide +kernel) ?_
    have hF := va_free (wc := [(m0, .inr (9, [.int i0, .ref a1, .int (nI (cSp C)), .ref a3, .int (nI (cLa C)), .ref a5, .ref a6, .ref a7, .int (nI (cAg C)), .int (-9 : Int32), .int i10, .int i11, .int i12, .ref a13, .ref a14, .ref a15, .ref a16, .int (nI (mN T)), .ref a18, .ref a19, .ref a20, .ref a21, .ref a22, .ref a23, .ref a24, .ref a25, .int (nI (mN E)), .ref a27, .ref a28, .ref a29, .ref a30, .ref a31, .ref a32, .ref a33, .ref a34, .int i35]))]) hD hS hA [0] rfl
    refine va_calli (va_runV (As := [.int (-1 : Int32)]) (rest := []) ⟨hx, hb, hml, hown, hts⟩ (c_X10_refused lL D cI cS _ m0 a1 a3 a5 a6 a7 a13 a14 a15 a16 a18 a19 a20 a21 a22 a23 a24 a25 a27 a28 a29 a30 a31 a32 a33 a34 i0 (nI (cSp C)) (nI (cLa C)) (nI (cAg C)) (-9 : Int32) i10 i11 i12 (nI (mN T)) (nI (mN E)) i35 (-1 : Int32)) (cwV 1 hts gX10_as_X10_refused rfl rfl rfl cd_X10_refused ⟨Nat.le_of_ble_eq_true rfl, Nat.le_of_ble_eq_true rfl⟩) ⟨kB_blind, va_recv hK hP (ci := 9) (q0 := 0) rfl rfl, fun U hU hW => ⟨rfl, by rw [hU], by rw [hU]; exact hP.sub [0] rfl, va_K.moved hW.alike hK, (hD.sub [0] (by decide) rfl).weaken (fun _ _ _ _ => trivial)⟩⟩ rfl rfl hl.1 rfl (lv_room (Nat.le_of_ble_eq_true rfl)) dX10_as_10 ⟨Nat.le_of_ble_eq_true rfl, Nat.le_of_ble_eq_true rfl⟩) hS (fun q _ h => hF q h) hF (fun r_10 u_10 t H1 locs ht hvm hw_10 hB hz1 hk1 hS => ?_)
    obtain ⟨hP, hD⟩ := kk_join2 (wc := [(m0, .inr (9, [.int i0, .ref a1, .int (nI (cSp C)), .ref a3, .int (nI (cLa C)), .ref a5, .ref a6, .ref a7, .int (nI (cAg C)), .int (-9 : Int32), .int i10, .int i11, .int i12, .ref a13, .ref a14, .ref a15, .ref a16, .int (nI (mN T)), .ref a18, .ref a19, .ref a20, .ref a21, .ref a22, .ref a23, .ref a24, .ref a25, .int (nI (mN E)), .ref a27, .ref a28, .ref a29, .ref a30, .ref a31, .ref a32, .ref a33, .ref a34, .int i35]))]) (w1 := [(m0, .inr (9, [.int (nI 0), .ref a1, .int (nI (cSp C)), .ref a3, .int (nI (cLa C)), .ref a5, .ref a6, .ref a7, .int (nI (cAg C)), .int (-9 : Int32), .int i10, .int i11, .int i12, .ref a13, .ref a14, .ref a15, .ref a16, .int (nI (mN T)), .ref a18, .ref a19, .ref a20, .ref a21, .ref a22, .ref a23, .ref a24, .ref a25, .int (nI (mN E)), .ref a27, .ref a28, .ref a29, .ref a30, .ref a31, .ref a32, .ref a33, .ref a34, .int i35]))]) (ws' := [(m0, .inr (9, [.int (nI 0), .ref a1, .int (nI (cSp C)), .ref a3, .int (nI (cLa C)), .ref a5, .ref a6, .ref a7, .int (nI (cAg C)), .int (-9 : Int32), .int i10, .int i11, .int i12, .ref a13, .ref a14, .ref a15, .ref a16, .int (nI (mN T)), .ref a18, .ref a19, .ref a20, .ref a21, .ref a22, .ref a23, .ref a24, .ref a25, .int (nI (mN E)), .ref a27, .ref a28, .ref a29, .ref a30, .ref a31, .ref a32, .ref a33, .ref a34, .int i35])), (a5, .inl (cI, 4, .inl ki)), (a6, .inl (cI, 4, .inl st))]) (wr := [(a5, .inl (cI, 4, .inl ki)), (a6, .inl (cI, 4, .inl st))]) (H1 := H1) hP hD [0] [1, 2] rfl rfl rfl rfl 3 rfl (by decide) [m0, a5, a6] rfl rfl hk1 (by rw [← ht]; exact hB)
    have hw_10 : r_10 = (-1 : Int32) ∧ True := hw_10
    clear hF hB hk1 hz1 hvm
    clear ht
    generalize H1 = H at hP hS ⊢
    obtain ⟨rfl, hw_10⟩ := hw_10
    have hq : (-1 : Int32) = sp_as C x1 x2 ∧ (nI 0) = nx_as C x1 x2 := by refine ⟨by simp only [sp_as, hb_3, cond_true, cond_false], by simp only [nx_as, hb_3, cond_true, cond_false]⟩
    refine kk_QQ hQQ ?_
    exact W.iret (v := (-1 : Int32)) hx hb hr (fun t ht hW => ⟨⟨(-1 : Int32), (nI 0), rfl, hq, by show va_P D vwCl _ t.heap; rw [ht]; exact hP⟩, hS.F ht⟩) hS.2.2 dX10_as_13

abbrev rmX10_trace : Room := { frames := 0, cells := 0, slots := 0, locals := 0 }
set_option maxHeartbeats 4000000 in
set_option maxRecDepth 100000 in
theorem c_X10_trace (lL : Launch) (D : va_G) (cI cS : ClassId) (C : Co) (T : Mv) (E : Mv) (m0 : Nat) (a1 : Nat) (a3 : Nat) (a5 : Nat) (a6 : Nat) (a7 : Nat) (a13 : Nat) (a14 : Nat) (a15 : Nat) (a16 : Nat) (a18 : Nat) (a19 : Nat) (a20 : Nat) (a21 : Nat) (a22 : Nat) (a23 : Nat) (a24 : Nat) (a25 : Nat) (a27 : Nat) (a28 : Nat) (a29 : Nat) (a30 : Nat) (a31 : Nat) (a32 : Nat) (a33 : Nat) (a34 : Nat) (i0 : Int32) (i10 : Int32) (i11 : Int32) (i12 : Int32) (i35 : Int32) (hX : okX C T E) : Met lL yX10_trace wsX10_trace rmX10_trace (va_Pc [.ref m0] (kBp D cI cS [(m0, .inr (9, [.int i0, .ref a1, .int (nI (cSp C)), .ref a3, .int (nI (cLa C)), .ref a5, .ref a6, .ref a7, .int (nI (cAg C)), .int (-9 : Int32), .int i10, .int i11, .int i12, .ref a13, .ref a14, .ref a15, .ref a16, .int (nI (mN T)), .ref a18, .ref a19, .ref a20, .ref a21, .ref a22, .ref a23, .ref a24, .ref a25, .int (nI (mN E)), .ref a27, .ref a28, .ref a29, .ref a30, .ref a31, .ref a32, .ref a33, .ref a34, .int i35]))])) (vp_Si (fun r : Int32 => r = i35)) 0 0 (fun _ => False) := by
  refine Met.ofW (cc := cX10_trace) (maxL := 1) (ret := (some .int)) (by decide) rfl ?_
  intro pP eE sS mM args below meth cC s₁ B hml hv
  obtain ⟨rfl, hP, hK⟩ := hv
  have hx := B.exec
  have hb := B.bytes
  have hr := B.returns
  have hts := atoms_spec (ws := wsX10_trace) B.pre
  have hown : sS.vm.findClass RX10 = some mM.cls := findClass_of_methodNamed B.named
  have hlocks := B.notSynchronized
  have hP : va_P D vwCl [(m0, .inr (9, [.int i0, .ref a1, .int (nI (cSp C)), .ref a3, .int (nI (cLa C)), .ref a5, .ref a6, .ref a7, .int (nI (cAg C)), .int (-9 : Int32), .int i10, .int i11, .int i12, .ref a13, .ref a14, .ref a15, .ref a16, .int (nI (mN T)), .ref a18, .ref a19, .ref a20, .ref a21, .ref a22, .ref a23, .ref a24, .ref a25, .int (nI (mN E)), .ref a27, .ref a28, .ref a29, .ref a30, .ref a31, .ref a32, .ref a33, .ref a34, .int i35]))] sS.heap := hP
  have hf_245 := hts (.fieldLink RX10 245 "OldLampsModel" "traceNow" "I") (List.mem_of_getElem? (i := 1) rfl)
  have hwX10 : ∀ w ∈ wsX100, w ∈ wsX10_trace := fun _ h => List.mem_cons_of_mem _ (List.mem_append_right _ h)
  have hl := lv_entry ([.ref m0]) (n := 1) (Nat.le_of_ble_eq_true rfl)
  rw [lg_entry_eq]
  generalize (lg_sl ([.ref m0]) ++ List.replicate (1 - (lg_sl ([.ref m0])).length) Slot.unset).toArray = ls at hl ⊢
  have hl : lv_has ls 1 [(0, .ref m0)] := hl
  obtain ⟨QQ, hQQ⟩ : ∃ QQ : State → Prop, QQ = MQ below (vp_Si (fun r : Int32 => r = i35)) ([.ref m0]).toArray sS 0 0 (fun _ => False) := ⟨_, rfl⟩
  refine kk_QQ hQQ.symm ?_
  refine lv_aload_n hx hb dX10_trace_0 rfl (lv_at hl 0 rfl) ?_
  refine va_get (D := D) (ci := 9) (v := .int i35) (C := RX10) (T := TX10) (N := 36) hx hb hts hwX10 hown hK hP 0 rfl rfl 35 (by decide) hf_245 (fun _ h9 => h9) rfl dX10_trace_1 ?_
  have hq : i35 = i35 := by rfl
  refine kk_QQ hQQ ?_
  exact W.iret (v := i35) hx hb hr (fun t ht hW => ⟨i35, rfl, hq, ht⟩) (fun q h => by cases h) dX10_trace_4

abbrev rmX10_fault : Room := { frames := 0, cells := 0, slots := 0, locals := 0 }
set_option maxHeartbeats 4000000 in
set_option maxRecDepth 100000 in
theorem c_X10_fault (lL : Launch) (D : va_G) (cI cS : ClassId) (C : Co) (T : Mv) (E : Mv) (m0 : Nat) (a1 : Nat) (a3 : Nat) (a5 : Nat) (a6 : Nat) (a7 : Nat) (a13 : Nat) (a14 : Nat) (a15 : Nat) (a16 : Nat) (a18 : Nat) (a19 : Nat) (a20 : Nat) (a21 : Nat) (a22 : Nat) (a23 : Nat) (a24 : Nat) (a25 : Nat) (a27 : Nat) (a28 : Nat) (a29 : Nat) (a30 : Nat) (a31 : Nat) (a32 : Nat) (a33 : Nat) (a34 : Nat) (i0 : Int32) (i10 : Int32) (i11 : Int32) (i12 : Int32) (i35 : Int32) (hX : okX C T E) : Met lL yX10_fault wsX10_fault rmX10_fault (va_Pc [.ref m0] (kBp D cI cS [(m0, .inr (9, [.int i0, .ref a1, .int (nI (cSp C)), .ref a3, .int (nI (cLa C)), .ref a5, .ref a6, .ref a7, .int (nI (cAg C)), .int (-9 : Int32), .int i10, .int i11, .int i12, .ref a13, .ref a14, .ref a15, .ref a16, .int (nI (mN T)), .ref a18, .ref a19, .ref a20, .ref a21, .ref a22, .ref a23, .ref a24, .ref a25, .int (nI (mN E)), .ref a27, .ref a28, .ref a29, .ref a30, .ref a31, .ref a32, .ref a33, .ref a34, .int i35]))])) (vp_Si (fun r : Int32 => r = i0)) 0 0 (fun _ => False) := by
  refine Met.ofW (cc := cX10_fault) (maxL := 1) (ret := (some .int)) (by decide) rfl ?_
  intro pP eE sS mM args below meth cC s₁ B hml hv
  obtain ⟨rfl, hP, hK⟩ := hv
  have hx := B.exec
  have hb := B.bytes
  have hr := B.returns
  have hts := atoms_spec (ws := wsX10_fault) B.pre
  have hown : sS.vm.findClass RX10 = some mM.cls := findClass_of_methodNamed B.named
  have hlocks := B.notSynchronized
  have hP : va_P D vwCl [(m0, .inr (9, [.int i0, .ref a1, .int (nI (cSp C)), .ref a3, .int (nI (cLa C)), .ref a5, .ref a6, .ref a7, .int (nI (cAg C)), .int (-9 : Int32), .int i10, .int i11, .int i12, .ref a13, .ref a14, .ref a15, .ref a16, .int (nI (mN T)), .ref a18, .ref a19, .ref a20, .ref a21, .ref a22, .ref a23, .ref a24, .ref a25, .int (nI (mN E)), .ref a27, .ref a28, .ref a29, .ref a30, .ref a31, .ref a32, .ref a33, .ref a34, .int i35]))] sS.heap := hP
  have hf_91 := hts (.fieldLink RX10 91 "OldLampsModel" "fault" "I") (List.mem_of_getElem? (i := 1) rfl)
  have hwX10 : ∀ w ∈ wsX100, w ∈ wsX10_fault := fun _ h => List.mem_cons_of_mem _ (List.mem_append_right _ h)
  have hl := lv_entry ([.ref m0]) (n := 1) (Nat.le_of_ble_eq_true rfl)
  rw [lg_entry_eq]
  generalize (lg_sl ([.ref m0]) ++ List.replicate (1 - (lg_sl ([.ref m0])).length) Slot.unset).toArray = ls at hl ⊢
  have hl : lv_has ls 1 [(0, .ref m0)] := hl
  obtain ⟨QQ, hQQ⟩ : ∃ QQ : State → Prop, QQ = MQ below (vp_Si (fun r : Int32 => r = i0)) ([.ref m0]).toArray sS 0 0 (fun _ => False) := ⟨_, rfl⟩
  refine kk_QQ hQQ.symm ?_
  refine lv_aload_n hx hb dX10_fault_0 rfl (lv_at hl 0 rfl) ?_
  refine va_get (D := D) (ci := 9) (v := .int i0) (C := RX10) (T := TX10) (N := 36) hx hb hts hwX10 hown hK hP 0 rfl rfl 0 (by decide) hf_91 (fun _ h9 => h9) rfl dX10_fault_1 ?_
  have hq : i0 = i0 := by rfl
  refine kk_QQ hQQ ?_
  exact W.iret (v := i0) hx hb hr (fun t ht hW => ⟨i0, rfl, hq, ht⟩) (fun q h => by cases h) dX10_fault_4

abbrev rmX10_many : Room := { frames := 0, cells := 0, slots := 0, locals := 0 }
set_option maxHeartbeats 4000000 in
set_option maxRecDepth 100000 in
theorem c_X10_many (lL : Launch) (D : va_G) (cI cS : ClassId) (C : Co) (T : Mv) (E : Mv) (m0 : Nat) (a1 : Nat) (a3 : Nat) (a5 : Nat) (a6 : Nat) (a7 : Nat) (a13 : Nat) (a14 : Nat) (a15 : Nat) (a16 : Nat) (a18 : Nat) (a19 : Nat) (a20 : Nat) (a21 : Nat) (a22 : Nat) (a23 : Nat) (a24 : Nat) (a25 : Nat) (a27 : Nat) (a28 : Nat) (a29 : Nat) (a30 : Nat) (a31 : Nat) (a32 : Nat) (a33 : Nat) (a34 : Nat) (i0 : Int32) (i10 : Int32) (i11 : Int32) (i12 : Int32) (i35 : Int32) (x1 : Int32) (hX : okX C T E) : Met lL yX10_many wsX10_many rmX10_many (va_Pc [.ref m0, .int x1] (kBp D cI cS [(m0, .inr (9, [.int i0, .ref a1, .int (nI (cSp C)), .ref a3, .int (nI (cLa C)), .ref a5, .ref a6, .ref a7, .int (nI (cAg C)), .int (-9 : Int32), .int i10, .int i11, .int i12, .ref a13, .ref a14, .ref a15, .ref a16, .int (nI (mN T)), .ref a18, .ref a19, .ref a20, .ref a21, .ref a22, .ref a23, .ref a24, .ref a25, .int (nI (mN E)), .ref a27, .ref a28, .ref a29, .ref a30, .ref a31, .ref a32, .ref a33, .ref a34, .int i35]))])) (vp_Si (fun r : Int32 => r = sp_many C T E x1)) 0 0 (fun _ => False) := by
  refine Met.ofW (cc := cX10_many) (maxL := 2) (ret := (some .int)) (by decide) rfl ?_
  intro pP eE sS mM args below meth cC s₁ B hml hv
  obtain ⟨rfl, hP, hK⟩ := hv
  have hx := B.exec
  have hb := B.bytes
  have hr := B.returns
  have hts := atoms_spec (ws := wsX10_many) B.pre
  have hown : sS.vm.findClass RX10 = some mM.cls := findClass_of_methodNamed B.named
  have hlocks := B.notSynchronized
  have hP : va_P D vwCl [(m0, .inr (9, [.int i0, .ref a1, .int (nI (cSp C)), .ref a3, .int (nI (cLa C)), .ref a5, .ref a6, .ref a7, .int (nI (cAg C)), .int (-9 : Int32), .int i10, .int i11, .int i12, .ref a13, .ref a14, .ref a15, .ref a16, .int (nI (mN T)), .ref a18, .ref a19, .ref a20, .ref a21, .ref a22, .ref a23, .ref a24, .ref a25, .int (nI (mN E)), .ref a27, .ref a28, .ref a29, .ref a30, .ref a31, .ref a32, .ref a33, .ref a34, .int i35]))] sS.heap := hP
  have hf_98 := hts (.fieldLink RX10 98 "OldLampsModel" "spots" "I") (List.mem_of_getElem? (i := 2) rfl)
  have hf_105 := hts (.fieldLink RX10 105 "OldLampsModel" "lamps" "I") (List.mem_of_getElem? (i := 1) rfl)
  have hf_158 := hts (.fieldLink RX10 158 "OldLampsModel" "ageNow" "I") (List.mem_of_getElem? (i := 5) rfl)
  have hf_161 := hts (.fieldLink RX10 161 "OldLampsModel" "movesNow" "I") (List.mem_of_getElem? (i := 3) rfl)
  have hf_164 := hts (.fieldLink RX10 164 "OldLampsModel" "readings" "I") (List.mem_of_getElem? (i := 4) rfl)
  have hwX10 : ∀ w ∈ wsX100, w ∈ wsX10_many := fun _ h => List.mem_cons_of_mem _ (List.mem_append_right _ h)
  have hl := lv_entry ([.ref m0, .int x1]) (n := 2) (Nat.le_of_ble_eq_true rfl)
  rw [lg_entry_eq]
  generalize (lg_sl ([.ref m0, .int x1]) ++ List.replicate (2 - (lg_sl ([.ref m0, .int x1])).length) Slot.unset).toArray = ls at hl ⊢
  have hl : lv_has ls 2 [(0, .ref m0), (1, .int x1)] := hl
  obtain ⟨QQ, hQQ⟩ : ∃ QQ : State → Prop, QQ = MQ below (vp_Si (fun r : Int32 => r = sp_many C T E x1)) ([.ref m0, .int x1]).toArray sS 0 0 (fun _ => False) := ⟨_, rfl⟩
  refine kk_QQ hQQ.symm ?_
  obtain ⟨hX1, hX2, hX3, hX4⟩ := okX_le hX
  refine lv_iload_n hx hb dX10_many_0 rfl (lv_at hl 1 rfl) ?_
  by_cases c_1 : x1 = nI 0
  · skip
    have e_1 : x1.toInt = 0 := by rw [c_1]; exact nI_toInt (by decide)
    refine lv_tableIn (tgt := 36) (off := 35) hx hb dX10_many_1 (by rw [e_1]; decide) (by rw [e_1]; decide) (by rw [e_1]; rfl) (by decide) ?_
    refine lv_aload_n hx hb dX10_many_36 rfl (lv_at hl 0 rfl) ?_
    refine va_get (D := D) (ci := 9) (v := .int (nI (cLa C))) (C := RX10) (T := TX10) (N := 36) hx hb hts hwX10 hown hK hP 0 rfl rfl 4 (by decide) hf_105 (fun _ h9 => h9) rfl dX10_many_37 ?_
    have hq : nI (cLa C) = sp_many C T E x1 := by rw [sp_many, if_pos c_1]
    refine kk_QQ hQQ ?_
    exact W.iret (v := nI (cLa C)) hx hb hr (fun t ht hW => ⟨nI (cLa C), rfl, hq, ht⟩) (fun q h => by cases h) dX10_many_40
  by_cases c_2 : x1 = nI 1
  · skip
    have e_2 : x1.toInt = 1 := by rw [c_2]; exact nI_toInt (by decide)
    refine lv_tableIn (tgt := 41) (off := 40) hx hb dX10_many_1 (by rw [e_2]; decide) (by rw [e_2]; decide) (by rw [e_2]; rfl) (by decide) ?_
    refine lv_aload_n hx hb dX10_many_41 rfl (lv_at hl 0 rfl) ?_
    refine va_get (D := D) (ci := 9) (v := .int (nI (cSp C))) (C := RX10) (T := TX10) (N := 36) hx hb hts hwX10 hown hK hP 0 rfl rfl 2 (by decide) hf_98 (fun _ h9 => h9) rfl dX10_many_42 ?_
    have hq : nI (cSp C) = sp_many C T E x1 := by rw [sp_many, if_neg c_1, if_pos c_2]
    refine kk_QQ hQQ ?_
    exact W.iret (v := nI (cSp C)) hx hb hr (fun t ht hW => ⟨nI (cSp C), rfl, hq, ht⟩) (fun q h => by cases h) dX10_many_45
  by_cases c_3 : x1 = nI 2
  · skip
    have e_3 : x1.toInt = 2 := by rw [c_3]; exact nI_toInt (by decide)
    refine lv_tableIn (tgt := 46) (off := 45) hx hb dX10_many_1 (by rw [e_3]; decide) (by rw [e_3]; decide) (by rw [e_3]; rfl) (by decide) ?_
    refine lv_aload_n hx hb dX10_many_46 rfl (lv_at hl 0 rfl) ?_
    refine va_get (D := D) (ci := 9) (v := .int (nI (mN T))) (C := RX10) (T := TX10) (N := 36) hx hb hts hwX10 hown hK hP 0 rfl rfl 17 (by decide) hf_161 (fun _ h9 => h9) rfl dX10_many_47 ?_
    have hq : nI (mN T) = sp_many C T E x1 := by rw [sp_many, if_neg c_1, if_neg c_2, if_pos c_3]
    refine kk_QQ hQQ ?_
    exact W.iret (v := nI (mN T)) hx hb hr (fun t ht hW => ⟨nI (mN T), rfl, hq, ht⟩) (fun q h => by cases h) dX10_many_50
  by_cases c_4 : x1 = nI 3
  · skip
    have e_4 : x1.toInt = 3 := by rw [c_4]; exact nI_toInt (by decide)
    refine lv_tableIn (tgt := 51) (off := 50) hx hb dX10_many_1 (by rw [e_4]; decide) (by rw [e_4]; decide) (by rw [e_4]; rfl) (by decide) ?_
    refine lv_aload_n hx hb dX10_many_51 rfl (lv_at hl 0 rfl) ?_
    refine va_get (D := D) (ci := 9) (v := .int (nI (mN E))) (C := RX10) (T := TX10) (N := 36) hx hb hts hwX10 hown hK hP 0 rfl rfl 26 (by decide) hf_164 (fun _ h9 => h9) rfl dX10_many_52 ?_
    have hq : nI (mN E) = sp_many C T E x1 := by rw [sp_many, if_neg c_1, if_neg c_2, if_neg c_3, if_pos c_4]
    refine kk_QQ hQQ ?_
    exact W.iret (v := nI (mN E)) hx hb hr (fun t ht hW => ⟨nI (mN E), rfl, hq, ht⟩) (fun q h => by cases h) dX10_many_55
  by_cases c_5 : x1 = nI 4
  · skip
    have e_5 : x1.toInt = 4 := by rw [c_5]; exact nI_toInt (by decide)
    refine lv_tableIn (tgt := 56) (off := 55) hx hb dX10_many_1 (by rw [e_5]; decide) (by rw [e_5]; decide) (by rw [e_5]; rfl) (by decide) ?_
    refine lv_aload_n hx hb dX10_many_56 rfl (lv_at hl 0 rfl) ?_
    refine va_get (D := D) (ci := 9) (v := .int (nI (cAg C))) (C := RX10) (T := TX10) (N := 36) hx hb hts hwX10 hown hK hP 0 rfl rfl 8 (by decide) hf_158 (fun _ h9 => h9) rfl dX10_many_57 ?_
    have hq : nI (cAg C) = sp_many C T E x1 := by rw [sp_many, if_neg c_1, if_neg c_2, if_neg c_3, if_neg c_4, if_pos c_5]
    refine kk_QQ hQQ ?_
    exact W.iret (v := nI (cAg C)) hx hb hr (fun t ht hW => ⟨nI (cAg C), rfl, hq, ht⟩) (fun q h => by cases h) dX10_many_60
  have c_6 : x1.toInt < 0 ∨ 4 < x1.toInt := by
    refine Classical.byContradiction fun z => ?_
    obtain ⟨z1, z2⟩ := kk_ofInt (x := x1) (by omega)
    generalize x1.toInt.toNat = nn at z1 z2
    have z3 : nn ≤ 4 := by rw [z2, nI_toInt z1] at z; omega
    have z4 : nn = 0 ∨ nn = 1 ∨ nn = 2 ∨ nn = 3 ∨ nn = 4 := by omega
    rcases z4 with rfl | rfl | rfl | rfl | rfl <;> simp_all
  refine lv_tableOut (tgt := 61) hx hb dX10_many_1 c_6 (by decide) ?_
  refine lv_bipush (v := (-2 : Int32)) hx hb dX10_many_61 (by decide +kernel) ?_
  have hq : (-2 : Int32) = sp_many C T E x1 := by rw [sp_many, if_neg c_1, if_neg c_2, if_neg c_3, if_neg c_4, if_neg c_5]
  refine kk_QQ hQQ ?_
  exact W.iret (v := (-2 : Int32)) hx hb hr (fun t ht hW => ⟨(-2 : Int32), rfl, hq, ht⟩) (fun q h => by cases h) dX10_many_63
