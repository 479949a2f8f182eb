theorem cd_lt {f : Nat → Int32} {a n j k : Nat} (hk : k < 2 ^ 31) (h : cdT f a n j = nI k) : j < n := by
  refine Classical.byContradiction fun z => ?_
  rw [cdT_out z] at h
  exact neg9 hk h
theorem dg_lt {f : Nat → Int32} {a n j b : Nat} (h : dg (cdT f a n) j b = true) : j < n := by
  refine Classical.byContradiction fun z => ?_
  unfold dg at h
  rw [cdT_out z] at h
  have h1 : inB ((-9 : Int32) - nI 48) b = false := kk_out1 (by decide +kernel)
  rw [h1] at h
  cases h
theorem isK_lt {f : Nat → Int32} {a n j : Nat} (h : isK (cdT f a n j) = true) : j < n := by
  refine Classical.byContradiction fun z => ?_
  rw [cdT_out z] at h
  exact absurd h (by decide +kernel)
theorem kb_t {b : Bool} (h : b = true) : kb b = nI 1 := by rw [h]; rfl
theorem kb_f {b : Bool} (h : b = false) : kb b = nI 0 := by rw [h]; rfl

theorem cd_X10_codeAt : yX10_codeAt.cls = RX10 ∧ yX10_codeAt.cls ≠ "java/lang/invoke/MethodHandle" ∧ yX10_codeAt.cls ≠ "java/lang/invoke/VarHandle" ∧ (parseMethodDescriptor yX10_codeAt.desc).map (fun d => d.parameters.length) = some 2 := by decide +kernel
theorem cd_X10_figure : yX10_figure.cls = RX10 ∧ yX10_figure.cls ≠ "java/lang/invoke/MethodHandle" ∧ yX10_figure.cls ≠ "java/lang/invoke/VarHandle" ∧ (parseMethodDescriptor yX10_figure.desc).map (fun d => d.parameters.length) = some 3 := by decide +kernel
theorem cd_X10_readsLamp : yX10_readsLamp.cls = RX10 ∧ yX10_readsLamp.cls ≠ "java/lang/invoke/MethodHandle" ∧ yX10_readsLamp.cls ≠ "java/lang/invoke/VarHandle" ∧ (parseMethodDescriptor yX10_readsLamp.desc).map (fun d => d.parameters.length) = some 2 := by decide +kernel
theorem cd_X10_readsSpot : yX10_readsSpot.cls = RX10 ∧ yX10_readsSpot.cls ≠ "java/lang/invoke/MethodHandle" ∧ yX10_readsSpot.cls ≠ "java/lang/invoke/VarHandle" ∧ (parseMethodDescriptor yX10_readsSpot.desc).map (fun d => d.parameters.length) = some 2 := by decide +kernel
abbrev rmX10_codeAt : Room := { frames := 0, cells := 0, slots := 0, locals := 0 }
set_option maxHeartbeats 4000000 in
set_option maxRecDepth 100000 in
theorem c_X10_codeAt (lL : Launch) (D : va_G) (cI cS : ClassId) (m0 : Nat) (a1 : Nat) (a3 : Nat) (a5 : Nat) (a6 : Nat) (a7 : Nat) (a13 : Nat) (a14 : Nat) (a15 : Nat) (a16 : Nat) (a18 : Nat) (a19 : Nat) (a20 : Nat) (a21 : Nat) (a22 : Nat) (a23 : Nat) (a24 : Nat) (a25 : Nat) (a27 : Nat) (a28 : Nat) (a29 : Nat) (a30 : Nat) (a31 : Nat) (a32 : Nat) (a33 : Nat) (a34 : Nat) (i0 : Int32) (i2 : Int32) (i4 : Int32) (i8 : Int32) (i9 : Int32) (i11 : Int32) (i12 : Int32) (i17 : Int32) (i26 : Int32) (i35 : Int32) (zs : Nat → Int32) (fr : Nat) (nn : Nat) (ra : Nat) (hfn : fr + nn ≤ 240) : Met lL yX10_codeAt wsX10_codeAt rmX10_codeAt (va_Pc [.ref m0, .int (nI fr), .int (nI nn)] (kBp D cI cS [(m0, .inr (9, [.int i0, .ref a1, .int i2, .ref a3, .int i4, .ref a5, .ref a6, .ref a7, .int i8, .int i9, .int (nI ra), .int i11, .int i12, .ref a13, .ref a14, .ref a15, .ref a16, .int i17, .ref a18, .ref a19, .ref a20, .ref a21, .ref a22, .ref a23, .ref a24, .ref a25, .int i26, .ref a27, .ref a28, .ref a29, .ref a30, .ref a31, .ref a32, .ref a33, .ref a34, .int i35])), (a33, .inl (cI, 240, .inl zs))])) (vp_Si (fun r : Int32 => r = cdT zs fr n ra)) 0 0 (fun _ => False) := by
  refine Met.ofW (cc := cX10_codeAt) (maxL := 3) (ret := (some .int)) (by decide) rfl ?_
  intro pP eE sS mM args below meth cC s₁ B hml hv
  obtain ⟨rfl, hP, hK⟩ := hv
  have hx := B.exec
  have hb := B.bytes
  have hr := B.returns
  have hts := atoms_spec (ws := wsX10_codeAt) B.pre
  have hown : sS.vm.findClass RX10 = some mM.cls := findClass_of_methodNamed B.named
  have hlocks := B.notSynchronized
  have hP : va_P D vwCl [(m0, .inr (9, [.int i0, .ref a1, .int i2, .ref a3, .int i4, .ref a5, .ref a6, .ref a7, .int i8, .int i9, .int (nI ra), .int i11, .int i12, .ref a13, .ref a14, .ref a15, .ref a16, .int i17, .ref a18, .ref a19, .ref a20, .ref a21, .ref a22, .ref a23, .ref a24, .ref a25, .int i26, .ref a27, .ref a28, .ref a29, .ref a30, .ref a31, .ref a32, .ref a33, .ref a34, .int i35])), (a33, .inl (cI, 240, .inl zs))] sS.heap := hP
  have hf_79 := hts (.fieldLink RX10 79 "OldLampsModel" "sheet" "[I") (List.mem_of_getElem? (i := 2) rfl)
  have hf_110 := hts (.fieldLink RX10 110 "OldLampsModel" "readAt" "I") (List.mem_of_getElem? (i := 1) rfl)
  have hwX10 : ∀ w ∈ wsX100, w ∈ wsX10_codeAt := fun _ h => List.mem_cons_of_mem _ (List.mem_append_right _ h)
  have hl := lv_entry ([.ref m0, .int (nI fr), .int (nI nn)]) (n := 3) (Nat.le_of_ble_eq_true rfl)
  rw [lg_entry_eq]
  generalize (lg_sl ([.ref m0, .int (nI fr), .int (nI nn)]) ++ List.replicate (3 - (lg_sl ([.ref m0, .int (nI fr), .int (nI nn)])).length) Slot.unset).toArray = ls at hl ⊢
  have hl : lv_has ls 3 [(0, .ref m0), (1, .int (nI fr)), (2, .int (nI nn))] := hl
  obtain ⟨QQ, hQQ⟩ : ∃ QQ : State → Prop, QQ = MQ below (vp_Si (fun r : Int32 => r = cdT zs fr n ra)) ([.ref m0, .int (nI fr), .int (nI nn)]).toArray sS 0 0 (fun _ => False) := ⟨_, rfl⟩
  refine kk_QQ hQQ.symm ?_
  refine lv_aload_n hx hb dX10_codeAt_0 rfl (lv_at hl 0 rfl) ?_
  refine va_get (D := D) (ci := 9) (v := .int (nI ra)) (C := RX10) (T := TX10) (N := 36) hx hb hts hwX10 hown hK hP 0 rfl rfl 10 (by decide) hf_110 (fun _ h9 => h9) rfl dX10_codeAt_1 ?_
  refine lv_iload_n hx hb dX10_codeAt_4 rfl (lv_at hl 2 rfl) ?_
  refine kk_icmp_ge (tgt := 22) hx hb dX10_codeAt_5 (by decide) (by omega) (by omega) (fun c_1 => ?_) (fun c_1 => ?_)
  · skip
    refine lv_bipush (v := (-9 : Int32)) hx hb dX10_codeAt_22 (by decide +kernel) ?_
    have hq : (-9 : Int32) = cdT zs fr n ra := by rw [cdT_out (by omega)]
    refine kk_QQ hQQ ?_
    exact W.iret (v := (-9 : Int32)) hx hb hr (fun t ht hW => ⟨(-9 : Int32), rfl, hq, ht⟩) (fun q h => by cases h) dX10_codeAt_24
  · skip
    refine lv_aload_n hx hb dX10_codeAt_8 rfl (lv_at hl 0 rfl) ?_
    refine va_get (D := D) (ci := 9) (v := .ref a33) (C := RX10) (T := TX10) (N := 36) hx hb hts hwX10 hown hK hP 0 rfl rfl 33 (by decide) hf_79 (fun _ h9 => h9) rfl dX10_codeAt_9 ?_
    refine lv_iload_n hx hb dX10_codeAt_12 rfl (lv_at hl 1 rfl) ?_
    refine lv_aload_n hx hb dX10_codeAt_13 rfl (lv_at hl 0 rfl) ?_
    refine va_get (D := D) (ci := 9) (v := .int (nI ra)) (C := RX10) (T := TX10) (N := 36) hx hb hts hwX10 hown hK hP 0 rfl rfl 10 (by decide) hf_110 (fun _ h9 => h9) rfl dX10_codeAt_14 ?_
    refine kk_iadd hx hb dX10_codeAt_17 ?_
    refine kk_iald hx hb hK hP 1 rfl rfl (i := fr + ra) (by omega) (by decide) dX10_codeAt_18 ?_
    refine lv_goto (tgt := 24) hx hb dX10_codeAt_19 (by decide) ?_
    have hq : zs (fr + ra) = cdT zs fr n ra := by rw [cdT_in (by omega)]
    refine kk_QQ hQQ ?_
    exact W.iret (v := zs (fr + ra)) hx hb hr (fun t ht hW => ⟨zs (fr + ra), rfl, hq, ht⟩) (fun q h => by cases h) dX10_codeAt_24

abbrev rmX10_figure : Room := { frames := 1, cells := 0, slots := 0, locals := 25 }
set_option maxHeartbeats 4000000 in
set_option maxRecDepth 100000 in
theorem c_X10_figure (lL : Launch) (D : va_G) (cI cS : ClassId) (sz : Nat) (m0 : Nat) (a1 : Nat) (a3 : Nat) (a5 : Nat) (a6 : Nat) (a7 : Nat) (a13 : Nat) (a14 : Nat) (a15 : Nat) (a16 : Nat) (a18 : Nat) (a19 : Nat) (a20 : Nat) (a21 : Nat) (a22 : Nat) (a23 : Nat) (a24 : Nat) (a25 : Nat) (a27 : Nat) (a28 : Nat) (a29 : Nat) (a30 : Nat) (a31 : Nat) (a32 : Nat) (a33 : Nat) (a34 : Nat) (i0 : Int32) (i2 : Int32) (i4 : Int32) (i8 : Int32) (i9 : Int32) (i11 : Int32) (i12 : Int32) (i17 : Int32) (i26 : Int32) (i35 : Int32) (zs : Nat → Int32) (fr : Nat) (nn : Nat) (ms : Nat) (ra : Nat) (hfn : fr + nn ≤ 240) (hms : ms ≤ 9) : Met lL yX10_figure wsX10_figure rmX10_figure (va_Pc [.ref m0, .int (nI fr), .int (nI nn), .int (nI ms)] (kB D cI cS [(m0, .inr (9, [.int i0, .ref a1, .int i2, .ref a3, .int i4, .ref a5, .ref a6, .ref a7, .int i8, .int i9, .int (nI ra), .int i11, .int i12, .ref a13, .ref a14, .ref a15, .ref a16, .int i17, .ref a18, .ref a19, .ref a20, .ref a21, .ref a22, .ref a23, .ref a24, .ref a25, .int i26, .ref a27, .ref a28, .ref a29, .ref a30, .ref a31, .ref a32, .ref a33, .ref a34, .int i35])), (a33, .inl (cI, 240, .inl zs))] sz)) (kQi D (fun (r : Int32) (u : Nat) => (dg (cdT zs fr nn) ra (ms + 1) = true ∧ r = nI (dv (cdT zs fr nn) ra) ∧ u = ra + 1) ∨ (dg (cdT zs fr nn) ra (ms + 1) = false ∧ r = (-9) ∧ u = ra)) (fun u : Nat => [(m0, .inr (9, [.int i0, .ref a1, .int i2, .ref a3, .int i4, .ref a5, .ref a6, .ref a7, .int i8, .int i9, .int (nI u), .int i11, .int i12, .ref a13, .ref a14, .ref a15, .ref a16, .int i17, .ref a18, .ref a19, .ref a20, .ref a21, .ref a22, .ref a23, .ref a24, .ref a25, .int i26, .ref a27, .ref a28, .ref a29, .ref a30, .ref a31, .ref a32, .ref a33, .ref a34, .int i35])), (a33, .inl (cI, 240, .inl zs))]) (va_A [(m0, .inr (9, [.int i0, .ref a1, .int i2, .ref a3, .int i4, .ref a5, .ref a6, .ref a7, .int i8, .int i9, .int (nI ra), .int i11, .int i12, .ref a13, .ref a14, .ref a15, .ref a16, .int i17, .ref a18, .ref a19, .ref a20, .ref a21, .ref a22, .ref a23, .ref a24, .ref a25, .int i26, .ref a27, .ref a28, .ref a29, .ref a30, .ref a31, .ref a32, .ref a33, .ref a34, .int i35])), (a33, .inl (cI, 240, .inl zs))] sz)) 0 0 (va_A [(m0, .inr (9, [.int i0, .ref a1, .int i2, .ref a3, .int i4, .ref a5, .ref a6, .ref a7, .int i8, .int i9, .int (nI ra), .int i11, .int i12, .ref a13, .ref a14, .ref a15, .ref a16, .int i17, .ref a18, .ref a19, .ref a20, .ref a21, .ref a22, .ref a23, .ref a24, .ref a25, .int i26, .ref a27, .ref a28, .ref a29, .ref a30, .ref a31, .ref a32, .ref a33, .ref a34, .int i35])), (a33, .inl (cI, 240, .inl zs))] sz) := by
  refine Met.ofW (cc := cX10_figure) (maxL := 6) (ret := (some .int)) (by decide) rfl ?_
  intro pP eE sS mM args below meth cC s₁ B hml hv
  obtain ⟨rfl, hsz, hP, hK, hD0⟩ := hv
  have hx := B.exec
  have hb := B.bytes
  have hr := B.returns
  have hts := atoms_spec (ws := wsX10_figure) B.pre
  have hown : sS.vm.findClass RX10 = some mM.cls := findClass_of_methodNamed B.named
  have hlocks := B.notSynchronized
  subst hsz
  have hD := hD0.self (sz := sS.heap.size)
  generalize hAe : va_A [(m0, .inr (9, [.int i0, .ref a1, .int i2, .ref a3, .int i4, .ref a5, .ref a6, .ref a7, .int i8, .int i9, .int (nI ra), .int i11, .int i12, .ref a13, .ref a14, .ref a15, .ref a16, .int i17, .ref a18, .ref a19, .ref a20, .ref a21, .ref a22, .ref a23, .ref a24, .ref a25, .int i26, .ref a27, .ref a28, .ref a29, .ref a30, .ref a31, .ref a32, .ref a33, .ref a34, .int i35])), (a33, .inl (cI, 240, .inl zs))] sS.heap.size = A at hD ⊢
  have hA : ∀ q : Nat, sS.heap.size ≤ q → A q := fun q h => by rw [← hAe]; exact Or.inr h
  have hS : va_S A sS.heap sS.heap [] := va_S.rf
  have hP : va_P D vwCl [(m0, .inr (9, [.int i0, .ref a1, .int i2, .ref a3, .int i4, .ref a5, .ref a6, .ref a7, .int i8, .int i9, .int (nI ra), .int i11, .int i12, .ref a13, .ref a14, .ref a15, .ref a16, .int i17, .ref a18, .ref a19, .ref a20, .ref a21, .ref a22, .ref a23, .ref a24, .ref a25, .int i26, .ref a27, .ref a28, .ref a29, .ref a30, .ref a31, .ref a32, .ref a33, .ref a34, .int i35])), (a33, .inl (cI, 240, .inl zs))] sS.heap := hP
  have hD : va_D A [(m0, .inr (9, [.int i0, .ref a1, .int i2, .ref a3, .int i4, .ref a5, .ref a6, .ref a7, .int i8, .int i9, .int (nI ra), .int i11, .int i12, .ref a13, .ref a14, .ref a15, .ref a16, .int i17, .ref a18, .ref a19, .ref a20, .ref a21, .ref a22, .ref a23, .ref a24, .ref a25, .int i26, .ref a27, .ref a28, .ref a29, .ref a30, .ref a31, .ref a32, .ref a33, .ref a34, .int i35])), (a33, .inl (cI, 240, .inl zs))] := hD
  have hf_110 := hts (.fieldLink RX10 110 "OldLampsModel" "readAt" "I") (List.mem_of_getElem? (i := 1) rfl)
  have hwX10 : ∀ w ∈ wsX100, w ∈ wsX10_figure := fun _ h => List.mem_cons_of_mem _ (List.mem_append_right _ h)
  have hl := lv_entry ([.ref m0, .int (nI fr), .int (nI nn), .int (nI ms)]) (n := 6) (Nat.le_of_ble_eq_true rfl)
  rw [lg_entry_eq]
  generalize (lg_sl ([.ref m0, .int (nI fr), .int (nI nn), .int (nI ms)]) ++ List.replicate (6 - (lg_sl ([.ref m0, .int (nI fr), .int (nI nn), .int (nI ms)])).length) Slot.unset).toArray = ls at hl ⊢
  have hl : lv_has ls 6 [(0, .ref m0), (1, .int (nI fr)), (2, .int (nI nn)), (3, .int (nI ms))] := hl
  obtain ⟨QQ, hQQ⟩ : ∃ QQ : State → Prop, QQ = MQ below (kQi D (fun (r : Int32) (u : Nat) => (dg (cdT zs fr nn) ra (ms + 1) = true ∧ r = nI (dv (cdT zs fr nn) ra) ∧ u = ra + 1) ∨ (dg (cdT zs fr nn) ra (ms + 1) = false ∧ r = (-9) ∧ u = ra)) (fun u : Nat => [(m0, .inr (9, [.int i0, .ref a1, .int i2, .ref a3, .int i4, .ref a5, .ref a6, .ref a7, .int i8, .int i9, .int (nI u), .int i11, .int i12, .ref a13, .ref a14, .ref a15, .ref a16, .int i17, .ref a18, .ref a19, .ref a20, .ref a21, .ref a22, .ref a23, .ref a24, .ref a25, .int i26, .ref a27, .ref a28, .ref a29, .ref a30, .ref a31, .ref a32, .ref a33, .ref a34, .int i35])), (a33, .inl (cI, 240, .inl zs))]) A) ([.ref m0, .int (nI fr), .int (nI nn), .int (nI ms)]).toArray sS 0 0 A := ⟨_, rfl⟩
  refine kk_QQ hQQ.symm ?_
  refine lv_aload_n hx hb dX10_figure_0 rfl (lv_at hl 0 rfl) ?_
  refine lv_iload_n hx hb dX10_figure_1 rfl (lv_at hl 1 rfl) ?_
  refine lv_iload_n hx hb dX10_figure_2 rfl (lv_at hl 2 rfl) ?_
  have o_1 : fr + nn ≤ 240 := by omega
  refine vp_callSi (W.runV (As := [.int (nI fr), .int (nI nn)]) (rest := []) ⟨hx, hb, hml, hown, hts⟩ (c_X10_codeAt lL D cI cS m0 a1 a3 a5 a6 a7 a13 a14 a15 a16 a18 a19 a20 a21 a22 a23 a24 a25 a27 a28 a29 a30 a31 a32 a33 a34 i0 i2 i4 i8 i9 i11 i12 i17 i26 i35 zs fr nn ra o_1) (cwV 2 hts gX10_figure_X10_codeAt rfl rfl rfl cd_X10_codeAt ⟨Nat.le_of_ble_eq_true rfl, Nat.le_of_ble_eq_true rfl⟩) ⟨kBp_blind, va_recv hK hP (ci := 9) (q0 := 0) rfl rfl, fun U hU hW => ⟨rfl, by rw [hU]; exact hP.sub [0, 1] rfl, va_K.moved hW.alike hK⟩⟩ rfl rfl hl.1 rfl (lv_room (Nat.le_of_ble_eq_true rfl)) dX10_figure_3 ⟨Nat.le_of_ble_eq_true rfl, Nat.le_of_ble_eq_true rfl⟩) (fun r_2 hw_2 => ?_)
  obtain rfl : r_2 = cdT zs fr n ra := hw_2
  refine lv_bipush (v := nI 48) hx hb dX10_figure_6 (by decide +kernel) ?_
  refine lv_isub hx hb dX10_figure_8 ?_
  refine lv_istore (lv' := [(4, .int ((cdT zs fr n ra) - (nI 48))), (0, .ref m0), (1, .int (nI fr)), (2, .int (nI nn)), (3, .int (nI ms))]) hx hb dX10_figure_9 hl (by decide) rfl (fun ls hl => ?_)
  refine lv_iload hx hb dX10_figure_11 (lv_at hl 0 rfl) ?_
  refine lv_i2l (v := ((cdT zs fr n ra) - (nI 48)).toInt64) hx hb dX10_figure_13 rfl ?_
  refine lv_lconst (v := lN 0) hx hb dX10_figure_14 (by decide +kernel) ?_
  refine lv_iload_n hx hb dX10_figure_15 rfl (lv_at hl 4 rfl) ?_
  refine lv_i2l (v := lN ms) hx hb dX10_figure_16 (nI_l (by omega)) ?_
  refine vp_callSi (W.runS (As := [.long (((cdT zs fr n ra) - (nI 48)).toInt64), .long (lN 0), .long (lN ms)]) (rest := []) ⟨hx, hb, hml, hown, hts⟩ (c_X10_in lL D cI cS (((cdT zs fr n ra) - (nI 48)).toInt64) (lN 0) (lN ms)) (va_cwS 3 hts gX10_figure_X10_in rfl rfl rfl cd_X10_in ⟨Nat.le_of_ble_eq_true rfl, Nat.le_of_ble_eq_true rfl⟩) ⟨kBp_blind, fun U hU hW => ⟨rfl, by rw [hU]; exact hP.sub [] rfl, va_K.moved hW.alike hK⟩⟩ rfl rfl hl.1 rfl (lv_room (Nat.le_of_ble_eq_true rfl)) dX10_figure_17 ⟨Nat.le_of_ble_eq_true rfl, Nat.le_of_ble_eq_true rfl⟩) (fun r_3 hw_3 => ?_)
  obtain rfl : r_3 = kb (inL (((cdT zs fr n ra) - (nI 48)).toInt64) (lN 0) (lN ms)) := hw_3
  refine kk_top (y := kb (inB ((cdT zs fr n ra) - (nI 48)) (ms + 1))) (congrArg kb (inL_b ((cdT zs fr n ra) - (nI 48)) (by omega))) ?_
  refine lv_istore (lv' := [(5, .int (kb (inB ((cdT zs fr n ra) - (nI 48)) (ms + 1)))), (4, .int ((cdT zs fr n ra) - (nI 48))), (0, .ref m0), (1, .int (nI fr)), (2, .int (nI nn)), (3, .int (nI ms))]) hx hb dX10_figure_20 hl (by decide) rfl (fun ls hl => ?_)
  refine lv_aload_n hx hb dX10_figure_22 rfl (lv_at hl 2 rfl) ?_
  refine lv_dup hx hb dX10_figure_23 rfl ?_
  refine va_get (D := D) (ci := 9) (v := .int (nI ra)) (C := RX10) (T := TX10) (N := 36) hx hb hts hwX10 hown hK hP 0 rfl rfl 10 (by decide) hf_110 (fun _ h9 => h9) rfl dX10_figure_24 ?_
  refine lv_iload hx hb dX10_figure_27 (lv_at hl 0 rfl) ?_
  -- if inB ((cdT zs fr n ra) - (nI 48)) (ms + 1)
  refine kk_ifb_eq (tgt := 36) hx hb dX10_figure_29 (by decide) (fun hb_4 => ?_) (fun hb_4 => ?_)
  · skip
    refine lv_iconst (v := nI 0) hx hb dX10_figure_36 (by decide +kernel) ?_
    refine kk_iadd hx hb dX10_figure_37 ?_
    refine va_put (D := D) (ci := 9) (v := .int (nI (ra + 0))) (ty := .int) (C := RX10) (T := TX10) (N := 36) hx hb hts hwX10 tyX10 tyX10_ok nmX10 hown hK hP hD hS 0 rfl rfl 10 (by decide) hf_110 (fun _ h9 => h9) rfl (by decide +kernel) rfl rfl (Nat.le_of_ble_eq_true rfl) dX10_figure_38 (fun H locs hP hD hS => ?_)
    have hP : va_P D vwCl [(m0, .inr (9, [.int i0, .ref a1, .int i2, .ref a3, .int i4, .ref a5, .ref a6, .ref a7, .int i8, .int i9, .int (nI (ra + 0)), .int i11, .int i12, .ref a13, .ref a14, .ref a15, .ref a16, .int i17, .ref a18, .ref a19, .ref a20, .ref a21, .ref a22, .ref a23, .ref a24, .ref a25, .int i26, .ref a27, .ref a28, .ref a29, .ref a30, .ref a31, .ref a32, .ref a33, .ref a34, .int i35])), (a33, .inl (cI, 240, .inl zs))] H := hP
    have hD : va_D A [(m0, .inr (9, [.int i0, .ref a1, .int i2, .ref a3, .int i4, .ref a5, .ref a6, .ref a7, .int i8, .int i9, .int (nI (ra + 0)), .int i11, .int i12, .ref a13, .ref a14, .ref a15, .ref a16, .int i17, .ref a18, .ref a19, .ref a20, .ref a21, .ref a22, .ref a23, .ref a24, .ref a25, .int i26, .ref a27, .ref a28, .ref a29, .ref a30, .ref a31, .ref a32, .ref a33, .ref a34, .int i35])), (a33, .inl (cI, 240, .inl zs))] := hD
    refine lv_iload hx hb dX10_figure_41 (lv_at hl 0 rfl) ?_
    -- if inB ((cdT zs fr n ra) - (nI 48)) (ms + 1)
    refine kk_ifb_eq (tgt := 51) hx hb dX10_figure_43 (by decide) (fun hb_5 => ?_) (fun hb_5 => ?_)
    · skip
      refine lv_bipush (v := (-9 : Int32)) hx hb dX10_figure_51 (by decide +kernel) ?_
      have hq : (dg (cdT zs fr nn) ra (ms + 1) = true ∧ (-9 : Int32) = nI (dv (cdT zs fr nn) ra) ∧ (ra + 0) = ra + 1) ∨ (dg (cdT zs fr nn) ra (ms + 1) = false ∧ (-9 : Int32) = (-9) ∧ (ra + 0) = ra) := by exact Or.inr ⟨hb_4, rfl, rfl⟩
      refine kk_QQ hQQ ?_
      exact W.iret (v := (-9 : Int32)) hx hb hr (fun t ht hW => ⟨⟨(-9 : Int32), (ra + 0), rfl, hq, by show va_P D vwCl _ t.heap; rw [ht]; exact hP⟩, hS.F ht⟩) hS.2.2 dX10_figure_53
    · skip
      exact absurd (hb_4.symm.trans hb_5) (by decide)
  · skip
    refine lv_iconst (v := nI 1) hx hb dX10_figure_32 (by decide +kernel) ?_
    refine lv_goto (tgt := 37) hx hb dX10_figure_33 (by decide) ?_
    refine kk_iadd hx hb dX10_figure_37 ?_
    refine va_put (D := D) (ci := 9) (v := .int (nI (ra + 1))) (ty := .int) (C := RX10) (T := TX10) (N := 36) hx hb hts hwX10 tyX10 tyX10_ok nmX10 hown hK hP hD hS 0 rfl rfl 10 (by decide) hf_110 (fun _ h9 => h9) rfl (by decide +kernel) rfl rfl (Nat.le_of_ble_eq_true rfl) dX10_figure_38 (fun H locs hP hD hS => ?_)
    have hP : va_P D vwCl [(m0, .inr (9, [.int i0, .ref a1, .int i2, .ref a3, .int i4, .ref a5, .ref a6, .ref a7, .int i8, .int i9, .int (nI (ra + 1)), .int i11, .int i12, .ref a13, .ref a14, .ref a15, .ref a16, .int i17, .ref a18, .ref a19, .ref a20, .ref a21, .ref a22, .ref a23, .ref a24, .ref a25, .int i26, .ref a27, .ref a28, .ref a29, .ref a30, .ref a31, .ref a32, .ref a33, .ref a34, .int i35])), (a33, .inl (cI, 240, .inl zs))] H := hP
    have hD : va_D A [(m0, .inr (9, [.int i0, .ref a1, .int i2, .ref a3, .int i4, .ref a5, .ref a6, .ref a7, .int i8, .int i9, .int (nI (ra + 1)), .int i11, .int i12, .ref a13, .ref a14, .ref a15, .ref a16, .int i17, .ref a18, .ref a19, .ref a20, .ref a21, .ref a22, .ref a23, .ref a24, .ref a25, .int i26, .ref a27, .ref a28, .ref a29, .ref a30, .ref a31, .ref a32, .ref a33, .ref a34, .int i35])), (a33, .inl (cI, 240, .inl zs))] := hD
    refine lv_iload hx hb dX10_figure_41 (lv_at hl 0 rfl) ?_
    -- if inB ((cdT zs fr n ra) - (nI 48)) (ms + 1)
    refine kk_ifb_eq (tgt := 51) hx hb dX10_figure_43 (by decide) (fun hb_6 => ?_) (fun hb_6 => ?_)
    · skip
      exact absurd (hb_4.symm.trans hb_6) (by decide)
    · skip
      refine lv_iload hx hb dX10_figure_46 (lv_at hl 1 rfl) ?_
      refine lv_goto (tgt := 53) hx hb dX10_figure_48 (by decide) ?_
      have hq : (dg (cdT zs fr nn) ra (ms + 1) = true ∧ ((cdT zs fr n ra) - (nI 48)) = nI (dv (cdT zs fr nn) ra) ∧ (ra + 1) = ra + 1) ∨ (dg (cdT zs fr nn) ra (ms + 1) = false ∧ ((cdT zs fr n ra) - (nI 48)) = (-9) ∧ (ra + 1) = ra) := by exact Or.inl ⟨hb_4, (dg_t (c := (cdT zs fr nn)) (j := ra) hb_4).2, rfl⟩
      refine kk_QQ hQQ ?_
      exact W.iret (v := (cdT zs fr n ra) - (nI 48)) hx hb hr (fun t ht hW => ⟨⟨(cdT zs fr n ra) - (nI 48), (ra + 1), rfl, hq, by show va_P D vwCl _ t.heap; rw [ht]; exact hP⟩, hS.F ht⟩) hS.2.2 dX10_figure_53

abbrev rmX10_readsSpot : Room := { frames := 2, cells := 0, slots := 0, locals := 50 }
set_option maxHeartbeats 4000000 in
set_option maxRecDepth 100000 in
theorem c_X10_readsSpot (lL : Launch) (D : va_G) (cI cS : ClassId) (sz : Nat) (m0 : Nat) (a1 : Nat) (a3 : Nat) (a5 : Nat) (a6 : Nat) (a7 : Nat) (a13 : Nat) (a14 : Nat) (a15 : Nat) (a16 : Nat) (a18 : Nat) (a19 : Nat) (a20 : Nat) (a21 : Nat) (a22 : Nat) (a23 : Nat) (a24 : Nat) (a25 : Nat) (a27 : Nat) (a28 : Nat) (a29 : Nat) (a30 : Nat) (a31 : Nat) (a32 : Nat) (a33 : Nat) (a34 : Nat) (i0 : Int32) (i2 : Int32) (i4 : Int32) (i8 : Int32) (i9 : Int32) (i12 : Int32) (i17 : Int32) (i26 : Int32) (i35 : Int32) (qh : Nat → Int32) (zs : Nat → Int32) (fr : Nat) (nn : Nat) (ra : Nat) (rs : Nat) (hfn : fr + nn ≤ 240) (hrs : rs ≤ 4) : Met lL yX10_readsSpot wsX10_readsSpot rmX10_readsSpot (va_Pc [.ref m0, .int (nI fr), .int (nI nn)] (kB D cI cS [(m0, .inr (9, [.int i0, .ref a1, .int i2, .ref a3, .int i4, .ref a5, .ref a6, .ref a7, .int i8, .int i9, .int (nI ra), .int (nI rs), .int i12, .ref a13, .ref a14, .ref a15, .ref a16, .int i17, .ref a18, .ref a19, .ref a20, .ref a21, .ref a22, .ref a23, .ref a24, .ref a25, .int i26, .ref a27, .ref a28, .ref a29, .ref a30, .ref a31, .ref a32, .ref a33, .ref a34, .int i35])), (a14, .inl (cI, 4, .inl qh)), (a33, .inl (cI, 240, .inl zs))] sz)) (kQi D (fun (r : Int32) (u : Nat × Nat × (Nat → Int32)) => (rs < 4 ∧ (cdT zs fr nn) ra = nI 59 ∧ dg (cdT zs fr nn) (ra + 1) 10 = true ∧ r = nI 1 ∧ u.1 = ra + 2 ∧ u.2.1 = rs + 1 ∧ u.2.2 = upd qh rs (nI (dv (cdT zs fr nn) (ra + 1)))) ∨ (r = nI 0 ∧ u.2.1 = rs ∧ u.2.2 = qh ∧ ((¬ (rs < 4 ∧ (cdT zs fr nn) ra = nI 59) ∧ u.1 = ra) ∨ (rs < 4 ∧ (cdT zs fr nn) ra = nI 59 ∧ dg (cdT zs fr nn) (ra + 1) 10 = false ∧ u.1 = ra + 1)))) (fun u : Nat × Nat × (Nat → Int32) => [(m0, .inr (9, [.int i0, .ref a1, .int i2, .ref a3, .int i4, .ref a5, .ref a6, .ref a7, .int i8, .int i9, .int (nI u.1), .int (nI u.2.1), .int i12, .ref a13, .ref a14, .ref a15, .ref a16, .int i17, .ref a18, .ref a19, .ref a20, .ref a21, .ref a22, .ref a23, .ref a24, .ref a25, .int i26, .ref a27, .ref a28, .ref a29, .ref a30, .ref a31, .ref a32, .ref a33, .ref a34, .int i35])), (a14, .inl (cI, 4, .inl u.2.2)), (a33, .inl (cI, 240, .inl zs))]) (va_A [(m0, .inr (9, [.int i0, .ref a1, .int i2, .ref a3, .int i4, .ref a5, .ref a6, .ref a7, .int i8, .int i9, .int (nI ra), .int (nI rs), .int i12, .ref a13, .ref a14, .ref a15, .ref a16, .int i17, .ref a18, .ref a19, .ref a20, .ref a21, .ref a22, .ref a23, .ref a24, .ref a25, .int i26, .ref a27, .ref a28, .ref a29, .ref a30, .ref a31, .ref a32, .ref a33, .ref a34, .int i35])), (a14, .inl (cI, 4, .inl qh)), (a33, .inl (cI, 240, .inl zs))] sz)) 0 0 (va_A [(m0, .inr (9, [.int i0, .ref a1, .int i2, .ref a3, .int i4, .ref a5, .ref a6, .ref a7, .int i8, .int i9, .int (nI ra), .int (nI rs), .int i12, .ref a13, .ref a14, .ref a15, .ref a16, .int i17, .ref a18, .ref a19, .ref a20, .ref a21, .ref a22, .ref a23, .ref a24, .ref a25, .int i26, .ref a27, .ref a28, .ref a29, .ref a30, .ref a31, .ref a32, .ref a33, .ref a34, .int i35])), (a14, .inl (cI, 4, .inl qh)), (a33, .inl (cI, 240, .inl zs))] sz) := by
  refine Met.ofW (cc := cX10_readsSpot) (maxL := 4) (ret := (some .boolean)) (by decide) rfl ?_
  intro pP eE sS mM args below meth cC s₁ B hml hv
  obtain ⟨rfl, hsz, hP, hK, hD0⟩ := hv
  have hx := B.exec
  have hb := B.bytes
  have hr := B.returns
  have hts := atoms_spec (ws := wsX10_readsSpot) B.pre
  have hown : sS.vm.findClass RX10 = some mM.cls := findClass_of_methodNamed B.named
  have hlocks := B.notSynchronized
  subst hsz
  have hD := hD0.self (sz := sS.heap.size)
  generalize hAe : va_A [(m0, .inr (9, [.int i0, .ref a1, .int i2, .ref a3, .int i4, .ref a5, .ref a6, .ref a7, .int i8, .int i9, .int (nI ra), .int (nI rs), .int i12, .ref a13, .ref a14, .ref a15, .ref a16, .int i17, .ref a18, .ref a19, .ref a20, .ref a21, .ref a22, .ref a23, .ref a24, .ref a25, .int i26, .ref a27, .ref a28, .ref a29, .ref a30, .ref a31, .ref a32, .ref a33, .ref a34, .int i35])), (a14, .inl (cI, 4, .inl qh)), (a33, .inl (cI, 240, .inl zs))] sS.heap.size = A at hD ⊢
  have hA : ∀ q : Nat, sS.heap.size ≤ q → A q := fun q h => by rw [← hAe]; exact Or.inr h
  have hS : va_S A sS.heap sS.heap [] := va_S.rf
  have hP : va_P D vwCl [(m0, .inr (9, [.int i0, .ref a1, .int i2, .ref a3, .int i4, .ref a5, .ref a6, .ref a7, .int i8, .int i9, .int (nI ra), .int (nI rs), .int i12, .ref a13, .ref a14, .ref a15, .ref a16, .int i17, .ref a18, .ref a19, .ref a20, .ref a21, .ref a22, .ref a23, .ref a24, .ref a25, .int i26, .ref a27, .ref a28, .ref a29, .ref a30, .ref a31, .ref a32, .ref a33, .ref a34, .int i35])), (a14, .inl (cI, 4, .inl qh)), (a33, .inl (cI, 240, .inl zs))] sS.heap := hP
  have hD : va_D A [(m0, .inr (9, [.int i0, .ref a1, .int i2, .ref a3, .int i4, .ref a5, .ref a6, .ref a7, .int i8, .int i9, .int (nI ra), .int (nI rs), .int i12, .ref a13, .ref a14, .ref a15, .ref a16, .int i17, .ref a18, .ref a19, .ref a20, .ref a21, .ref a22, .ref a23, .ref a24, .ref a25, .int i26, .ref a27, .ref a28, .ref a29, .ref a30, .ref a31, .ref a32, .ref a33, .ref a34, .int i35])), (a14, .inl (cI, 4, .inl qh)), (a33, .inl (cI, 240, .inl zs))] := hD
  have hf_28 := hts (.fieldLink RX10 28 "OldLampsModel" "readShade" "[I") (List.mem_of_getElem? (i := 3) rfl)
  have hf_110 := hts (.fieldLink RX10 110 "OldLampsModel" "readAt" "I") (List.mem_of_getElem? (i := 2) rfl)
  have hf_117 := hts (.fieldLink RX10 117 "OldLampsModel" "readSpots" "I") (List.mem_of_getElem? (i := 1) rfl)
  have hwX10 : ∀ w ∈ wsX100, w ∈ wsX10_readsSpot := fun _ h => List.mem_cons_of_mem _ (List.mem_append_right _ h)
  have hl := lv_entry ([.ref m0, .int (nI fr), .int (nI nn)]) (n := 4) (Nat.le_of_ble_eq_true rfl)
  rw [lg_entry_eq]
  generalize (lg_sl ([.ref m0, .int (nI fr), .int (nI nn)]) ++ List.replicate (4 - (lg_sl ([.ref m0, .int (nI fr), .int (nI nn)])).length) Slot.unset).toArray = ls at hl ⊢
  have hl : lv_has ls 4 [(0, .ref m0), (1, .int (nI fr)), (2, .int (nI nn))] := hl
  obtain ⟨QQ, hQQ⟩ : ∃ QQ : State → Prop, QQ = MQ below (kQi D (fun (r : Int32) (u : Nat × Nat × (Nat → Int32)) => (rs < 4 ∧ (cdT zs fr nn) ra = nI 59 ∧ dg (cdT zs fr nn) (ra + 1) 10 = true ∧ r = nI 1 ∧ u.1 = ra + 2 ∧ u.2.1 = rs + 1 ∧ u.2.2 = upd qh rs (nI (dv (cdT zs fr nn) (ra + 1)))) ∨ (r = nI 0 ∧ u.2.1 = rs ∧ u.2.2 = qh ∧ ((¬ (rs < 4 ∧ (cdT zs fr nn) ra = nI 59) ∧ u.1 = ra) ∨ (rs < 4 ∧ (cdT zs fr nn) ra = nI 59 ∧ dg (cdT zs fr nn) (ra + 1) 10 = false ∧ u.1 = ra + 1)))) (fun u : Nat × Nat × (Nat → Int32) => [(m0, .inr (9, [.int i0, .ref a1, .int i2, .ref a3, .int i4, .ref a5, .ref a6, .ref a7, .int i8, .int i9, .int (nI u.1), .int (nI u.2.1), .int i12, .ref a13, .ref a14, .ref a15, .ref a16, .int i17, .ref a18, .ref a19, .ref a20, .ref a21, .ref a22, .ref a23, .ref a24, .ref a25, .int i26, .ref a27, .ref a28, .ref a29, .ref a30, .ref a31, .ref a32, .ref a33, .ref a34, .int i35])), (a14, .inl (cI, 4, .inl u.2.2)), (a33, .inl (cI, 240, .inl zs))]) A) ([.ref m0, .int (nI fr), .int (nI nn)]).toArray sS 0 0 A := ⟨_, rfl⟩
  refine kk_QQ hQQ.symm ?_
  refine lv_aload_n hx hb dX10_readsSpot_0 rfl (lv_at hl 0 rfl) ?_
  refine va_get (D := D) (ci := 9) (v := .int (nI rs)) (C := RX10) (T := TX10) (N := 36) hx hb hts hwX10 hown hK hP 0 rfl rfl 11 (by decide) hf_117 (fun _ h9 => h9) rfl dX10_readsSpot_1 ?_
  refine lv_iconst (v := nI 4) hx hb dX10_readsSpot_4 (by decide +kernel) ?_
  refine kk_icmp_eq (tgt := 19) hx hb dX10_readsSpot_5 (by decide) (by omega) (by omega) (fun c_1 => ?_) (fun c_1 => ?_)
  · skip
    refine lv_iconst (v := nI 0) hx hb dX10_readsSpot_19 (by decide +kernel) ?_
    have hq : (rs < 4 ∧ (cdT zs fr nn) ra = nI 59 ∧ dg (cdT zs fr nn) (ra + 1) 10 = true ∧ (nI 0) = nI 1 ∧ ra = ra + 2 ∧ rs = rs + 1 ∧ qh = upd qh rs (nI (dv (cdT zs fr nn) (ra + 1)))) ∨ ((nI 0) = nI 0 ∧ rs = rs ∧ qh = qh ∧ ((¬ (rs < 4 ∧ (cdT zs fr nn) ra = nI 59) ∧ ra = ra) ∨ (rs < 4 ∧ (cdT zs fr nn) ra = nI 59 ∧ dg (cdT zs fr nn) (ra + 1) 10 = false ∧ ra = ra + 1))) := by exact Or.inr ⟨rfl, rfl, rfl, Or.inl ⟨fun z => by omega, rfl⟩⟩
    refine kk_QQ hQQ ?_
    exact W.zret (v := nI 0) (ty := .boolean) hx hb hr (by decide +kernel) (fun t ht hW => ⟨⟨nI 0, (ra, rs, qh), rfl, hq, by show va_P D vwCl _ t.heap; rw [ht]; exact hP⟩, hS.F ht⟩) hS.2.2 dX10_readsSpot_20
  · skip
    refine lv_aload_n hx hb dX10_readsSpot_8 rfl (lv_at hl 0 rfl) ?_
    refine lv_iload_n hx hb dX10_readsSpot_9 rfl (lv_at hl 1 rfl) ?_
    refine lv_iload_n hx hb dX10_readsSpot_10 rfl (lv_at hl 2 rfl) ?_
    have o_2 : fr + nn ≤ 240 := by omega
    refine vp_callSi (W.runV (As := [.int (nI fr), .int (nI nn)]) (rest := []) ⟨hx, hb, hml, hown, hts⟩ (c_X10_codeAt lL D cI cS m0 a1 a3 a5 a6 a7 a13 a14 a15 a16 a18 a19 a20 a21 a22 a23 a24 a25 a27 a28 a29 a30 a31 a32 a33 a34 i0 i2 i4 i8 i9 (nI rs) i12 i17 i26 i35 zs fr nn ra o_2) (cwV 2 hts gX10_readsSpot_X10_codeAt rfl rfl rfl cd_X10_codeAt ⟨Nat.le_of_ble_eq_true rfl, Nat.le_of_ble_eq_true rfl⟩) ⟨kBp_blind, va_recv hK hP (ci := 9) (q0 := 0) rfl rfl, fun U hU hW => ⟨rfl, by rw [hU]; exact hP.sub [0, 2] rfl, va_K.moved hW.alike hK⟩⟩ rfl rfl hl.1 rfl (lv_room (Nat.le_of_ble_eq_true rfl)) dX10_readsSpot_11 ⟨Nat.le_of_ble_eq_true rfl, Nat.le_of_ble_eq_true rfl⟩) (fun r_3 hw_3 => ?_)
    obtain rfl : r_3 = cdT zs fr n ra := hw_3
    refine lv_bipush (v := nI 59) hx hb dX10_readsSpot_14 (by decide +kernel) ?_
    refine lv_icmp_eq (tgt := 21) hx hb dX10_readsSpot_16 (by decide) (fun c_4 => ?_) (fun c_4 => ?_)
    · skip
      refine lv_aload_n hx hb dX10_readsSpot_21 rfl (lv_at hl 0 rfl) ?_
      refine lv_dup hx hb dX10_readsSpot_22 rfl ?_
      refine va_get (D := D) (ci := 9) (v := .int (nI ra)) (C := RX10) (T := TX10) (N := 36) hx hb hts hwX10 hown hK hP 0 rfl rfl 10 (by decide) hf_110 (fun _ h9 => h9) rfl dX10_readsSpot_23 ?_
      refine lv_iconst (v := nI 1) hx hb dX10_readsSpot_26 (by decide +kernel) ?_
      refine kk_iadd hx hb dX10_readsSpot_27 ?_
      refine va_put (D := D) (ci := 9) (v := .int (nI (ra + 1))) (ty := .int) (C := RX10) (T := TX10) (N := 36) hx hb hts hwX10 tyX10 tyX10_ok nmX10 hown hK hP hD hS 0 rfl rfl 10 (by decide) hf_110 (fun _ h9 => h9) rfl (by decide +kernel) rfl rfl (Nat.le_of_ble_eq_true rfl) dX10_readsSpot_28 (fun H locs hP hD hS => ?_)
      have hP : va_P D vwCl [(m0, .inr (9, [.int i0, .ref a1, .int i2, .ref a3, .int i4, .ref a5, .ref a6, .ref a7, .int i8, .int i9, .int (nI (ra + 1)), .int (nI rs), .int i12, .ref a13, .ref a14, .ref a15, .ref a16, .int i17, .ref a18, .ref a19, .ref a20, .ref a21, .ref a22, .ref a23, .ref a24, .ref a25, .int i26, .ref a27, .ref a28, .ref a29, .ref a30, .ref a31, .ref a32, .ref a33, .ref a34, .int i35])), (a14, .inl (cI, 4, .inl qh)), (a33, .inl (cI, 240, .inl zs))] H := hP
      have hD : va_D A [(m0, .inr (9, [.int i0, .ref a1, .int i2, .ref a3, .int i4, .ref a5, .ref a6, .ref a7, .int i8, .int i9, .int (nI (ra + 1)), .int (nI rs), .int i12, .ref a13, .ref a14, .ref a15, .ref a16, .int i17, .ref a18, .ref a19, .ref a20, .ref a21, .ref a22, .ref a23, .ref a24, .ref a25, .int i26, .ref a27, .ref a28, .ref a29, .ref a30, .ref a31, .ref a32, .ref a33, .ref a34, .int i35])), (a14, .inl (cI, 4, .inl qh)), (a33, .inl (cI, 240, .inl zs))] := hD
      refine lv_aload_n hx hb dX10_readsSpot_31 rfl (lv_at hl 0 rfl) ?_
      refine lv_iload_n hx hb dX10_readsSpot_32 rfl (lv_at hl 1 rfl) ?_
      refine lv_iload_n hx hb dX10_readsSpot_33 rfl (lv_at hl 2 rfl) ?_
      refine lv_bipush (v := nI 9) hx hb dX10_readsSpot_34 (by decide +kernel) ?_
      have o_5 : fr + nn ≤ 240 := by omega
      have o_6 : 9 ≤ 9 := by omega
      have hF := va_free (wc := [(m0, .inr (9, [.int i0, .ref a1, .int i2, .ref a3, .int i4, .ref a5, .ref a6, .ref a7, .int i8, .int i9, .int (nI (ra + 1)), .int (nI rs), .int i12, .ref a13, .ref a14, .ref a15, .ref a16, .int i17, .ref a18, .ref a19, .ref a20, .ref a21, .ref a22, .ref a23, .ref a24, .ref a25, .int i26, .ref a27, .ref a28, .ref a29, .ref a30, .ref a31, .ref a32, .ref a33, .ref a34, .int i35])), (a33, .inl (cI, 240, .inl zs))]) hD hS hA [0, 2] rfl
      refine va_calli (va_runV (As := [.int (nI fr), .int (nI nn), .int (nI 9)]) (rest := []) ⟨hx, hb, hml, hown, hts⟩ (c_X10_figure lL D cI cS _ m0 a1 a3 a5 a6 a7 a13 a14 a15 a16 a18 a19 a20 a21 a22 a23 a24 a25 a27 a28 a29 a30 a31 a32 a33 a34 i0 i2 i4 i8 i9 (nI rs) i12 i17 i26 i35 zs fr nn 9 (ra + 1) o_5 o_6) (cwV 3 hts gX10_readsSpot_X10_figure rfl rfl rfl cd_X10_figure ⟨Nat.le_of_ble_eq_true rfl, Nat.le_of_ble_eq_true rfl⟩) ⟨kB_blind, va_recv hK hP (ci := 9) (q0 := 0) rfl rfl, fun U hU hW => ⟨rfl, by rw [hU], by rw [hU]; exact hP.sub [0, 2] rfl, va_K.moved hW.alike hK, (hD.sub [0, 2] (by decide) rfl).weaken (fun _ _ _ _ => trivial)⟩⟩ rfl rfl hl.1 rfl (lv_room (Nat.le_of_ble_eq_true rfl)) dX10_readsSpot_36 ⟨Nat.le_of_ble_eq_true rfl, Nat.le_of_ble_eq_true rfl⟩) hS (fun q _ h => hF q h) hF (fun r_7 u_7 t H1 locs ht hvm hw_7 hB hz1 hk1 hS => ?_)
      obtain ⟨hP, hD⟩ := kk_join2 (wc := [(m0, .inr (9, [.int i0, .ref a1, .int i2, .ref a3, .int i4, .ref a5, .ref a6, .ref a7, .int i8, .int i9, .int (nI (ra + 1)), .int (nI rs), .int i12, .ref a13, .ref a14, .ref a15, .ref a16, .int i17, .ref a18, .ref a19, .ref a20, .ref a21, .ref a22, .ref a23, .ref a24, .ref a25, .int i26, .ref a27, .ref a28, .ref a29, .ref a30, .ref a31, .ref a32, .ref a33, .ref a34, .int i35])), (a33, .inl (cI, 240, .inl zs))]) (w1 := [(m0, .inr (9, [.int i0, .ref a1, .int i2, .ref a3, .int i4, .ref a5, .ref a6, .ref a7, .int i8, .int i9, .int (nI u_7), .int (nI rs), .int i12, .ref a13, .ref a14, .ref a15, .ref a16, .int i17, .ref a18, .ref a19, .ref a20, .ref a21, .ref a22, .ref a23, .ref a24, .ref a25, .int i26, .ref a27, .ref a28, .ref a29, .ref a30, .ref a31, .ref a32, .ref a33, .ref a34, .int i35])), (a33, .inl (cI, 240, .inl zs))]) (ws' := [(m0, .inr (9, [.int i0, .ref a1, .int i2, .ref a3, .int i4, .ref a5, .ref a6, .ref a7, .int i8, .int i9, .int (nI u_7), .int (nI rs), .int i12, .ref a13, .ref a14, .ref a15, .ref a16, .int i17, .ref a18, .ref a19, .ref a20, .ref a21, .ref a22, .ref a23, .ref a24, .ref a25, .int i26, .ref a27, .ref a28, .ref a29, .ref a30, .ref a31, .ref a32, .ref a33, .ref a34, .int i35])), (a14, .inl (cI, 4, .inl qh)), (a33, .inl (cI, 240, .inl zs))]) (wr := [(a14, .inl (cI, 4, .inl qh))]) (H1 := H1) hP hD [0, 2] [1] rfl rfl rfl rfl 3 rfl (by decide) [m0, a14, a33] rfl rfl hk1 (by rw [← ht]; exact hB)
      have hw_7 : (dg (cdT zs fr nn) (ra + 1) (9 + 1) = true ∧ r_7 = nI (dv (cdT zs fr nn) (ra + 1)) ∧ u_7 = (ra + 1) + 1) ∨ (dg (cdT zs fr nn) (ra + 1) (9 + 1) = false ∧ r_7 = (-9) ∧ u_7 = (ra + 1)) := hw_7
      clear hF hB hk1 hz1 hvm
      clear ht
      generalize H1 = H at hP hS ⊢
      rcases hw_7 with ⟨q1, q2, q3⟩ | ⟨q1, q2, q3⟩
      · skip
        have q2 := q2.symm
        have q3 := q3.symm
        subst q2 q3
        have qd := (dg_t q1).1
        refine lv_istore_n (lv' := [(3, .int (nI (dv (cdT zs fr nn) (ra + 1)))), (0, .ref m0), (1, .int (nI fr)), (2, .int (nI nn))]) hx hb dX10_readsSpot_39 rfl hl (by decide) rfl (fun ls hl => ?_)
        refine lv_iload_n hx hb dX10_readsSpot_40 rfl (lv_at hl 0 rfl) ?_
        refine kk_if_ge (tgt := 46) hx hb dX10_readsSpot_41 (by decide) (by omega) ?_
        refine lv_aload_n hx hb dX10_readsSpot_46 rfl (lv_at hl 1 rfl) ?_
        refine va_get (D := D) (ci := 9) (v := .ref a14) (C := RX10) (T := TX10) (N := 36) hx hb hts hwX10 hown hK hP 0 rfl rfl 14 (by decide) hf_28 (fun _ h9 => h9) rfl dX10_readsSpot_47 ?_
        refine lv_aload_n hx hb dX10_readsSpot_50 rfl (lv_at hl 1 rfl) ?_
        refine va_get (D := D) (ci := 9) (v := .int (nI rs)) (C := RX10) (T := TX10) (N := 36) hx hb hts hwX10 hown hK hP 0 rfl rfl 11 (by decide) hf_117 (fun _ h9 => h9) rfl dX10_readsSpot_51 ?_
        refine lv_iload_n hx hb dX10_readsSpot_54 rfl (lv_at hl 0 rfl) ?_
        refine kk_iast hx hb hK hP hD hS 1 rfl rfl (i := rs) (by omega) (by decide) dX10_readsSpot_55 (fun H locs hP hD hS => ?_)
        have hP : va_P D vwCl [(m0, .inr (9, [.int i0, .ref a1, .int i2, .ref a3, .int i4, .ref a5, .ref a6, .ref a7, .int i8, .int i9, .int (nI (ra + 1 + 1)), .int (nI rs), .int i12, .ref a13, .ref a14, .ref a15, .ref a16, .int i17, .ref a18, .ref a19, .ref a20, .ref a21, .ref a22, .ref a23, .ref a24, .ref a25, .int i26, .ref a27, .ref a28, .ref a29, .ref a30, .ref a31, .ref a32, .ref a33, .ref a34, .int i35])), (a14, .inl (cI, 4, .inl (upd qh rs (nI (dv (cdT zs fr nn) (ra + 1)))))), (a33, .inl (cI, 240, .inl zs))] H := hP
        have hD : va_D A [(m0, .inr (9, [.int i0, .ref a1, .int i2, .ref a3, .int i4, .ref a5, .ref a6, .ref a7, .int i8, .int i9, .int (nI (ra + 1 + 1)), .int (nI rs), .int i12, .ref a13, .ref a14, .ref a15, .ref a16, .int i17, .ref a18, .ref a19, .ref a20, .ref a21, .ref a22, .ref a23, .ref a24, .ref a25, .int i26, .ref a27, .ref a28, .ref a29, .ref a30, .ref a31, .ref a32, .ref a33, .ref a34, .int i35])), (a14, .inl (cI, 4, .inl (upd qh rs (nI (dv (cdT zs fr nn) (ra + 1)))))), (a33, .inl (cI, 240, .inl zs))] := hD
        refine lv_aload_n hx hb dX10_readsSpot_56 rfl (lv_at hl 1 rfl) ?_
        refine lv_dup hx hb dX10_readsSpot_57 rfl ?_
        refine va_get (D := D) (ci := 9) (v := .int (nI rs)) (C := RX10) (T := TX10) (N := 36) hx hb hts hwX10 hown hK hP 0 rfl rfl 11 (by decide) hf_117 (fun _ h9 => h9) rfl dX10_readsSpot_58 ?_
        refine lv_iconst (v := nI 1) hx hb dX10_readsSpot_61 (by decide +kernel) ?_
        refine kk_iadd hx hb dX10_readsSpot_62 ?_
        refine va_put (D := D) (ci := 9) (v := .int (nI (rs + 1))) (ty := .int) (C := RX10) (T := TX10) (N := 36) hx hb hts hwX10 tyX10 tyX10_ok nmX10 hown hK hP hD hS 0 rfl rfl 11 (by decide) hf_117 (fun _ h9 => h9) rfl (by decide +kernel) rfl rfl (Nat.le_of_ble_eq_true rfl) dX10_readsSpot_63 (fun H locs hP hD hS => ?_)
        have hP : va_P D vwCl [(m0, .inr (9, [.int i0, .ref a1, .int i2, .ref a3, .int i4, .ref a5, .ref a6, .ref a7, .int i8, .int i9, .int (nI (ra + 1 + 1)), .int (nI (rs + 1)), .int i12, .ref a13, .ref a14, .ref a15, .ref a16, .int i17, .ref a18, .ref a19, .ref a20, .ref a21, .ref a22, .ref a23, .ref a24, .ref a25, .int i26, .ref a27, .ref a28, .ref a29, .ref a30, .ref a31, .ref a32, .ref a33, .ref a34, .int i35])), (a14, .inl (cI, 4, .inl (upd qh rs (nI (dv (cdT zs fr nn) (ra + 1)))))), (a33, .inl (cI, 240, .inl zs))] H := hP
        have hD : va_D A [(m0, .inr (9, [.int i0, .ref a1, .int i2, .ref a3, .int i4, .ref a5, .ref a6, .ref a7, .int i8, .int i9, .int (nI (ra + 1 + 1)), .int (nI (rs + 1)), .int i12, .ref a13, .ref a14, .ref a15, .ref a16, .int i17, .ref a18, .ref a19, .ref a20, .ref a21, .ref a22, .ref a23, .ref a24, .ref a25, .int i26, .ref a27, .ref a28, .ref a29, .ref a30, .ref a31, .ref a32, .ref a33, .ref a34, .int i35])), (a14, .inl (cI, 4, .inl (upd qh rs (nI (dv (cdT zs fr nn) (ra + 1)))))), (a33, .inl (cI, 240, .inl zs))] := hD
        refine lv_iconst (v := nI 1) hx hb dX10_readsSpot_66 (by decide +kernel) ?_
        have hq : (rs < 4 ∧ (cdT zs fr nn) ra = nI 59 ∧ dg (cdT zs fr nn) (ra + 1) 10 = true ∧ (nI 1) = nI 1 ∧ (ra + 1 + 1) = ra + 2 ∧ (rs + 1) = rs + 1 ∧ (upd qh rs (nI (dv (cdT zs fr nn) (ra + 1)))) = upd qh rs (nI (dv (cdT zs fr nn) (ra + 1)))) ∨ ((nI 1) = nI 0 ∧ (rs + 1) = rs ∧ (upd qh rs (nI (dv (cdT zs fr nn) (ra + 1)))) = qh ∧ ((¬ (rs < 4 ∧ (cdT zs fr nn) ra = nI 59) ∧ (ra + 1 + 1) = ra) ∨ (rs < 4 ∧ (cdT zs fr nn) ra = nI 59 ∧ dg (cdT zs fr nn) (ra + 1) 10 = false ∧ (ra + 1 + 1) = ra + 1))) := by exact Or.inl ⟨by omega, c_4, q1, rfl, rfl, rfl, rfl⟩
        refine kk_QQ hQQ ?_
        exact W.zret (v := nI 1) (ty := .boolean) hx hb hr (by decide +kernel) (fun t ht hW => ⟨⟨nI 1, ((ra + 1 + 1), rs + 1, upd qh rs (nI (dv (cdT zs fr nn) (ra + 1)))), rfl, hq, by show va_P D vwCl _ t.heap; rw [ht]; exact hP⟩, hS.F ht⟩) hS.2.2 dX10_readsSpot_67
      · skip
        have q2 := q2.symm
        have q3 := q3.symm
        subst q2 q3
        refine lv_istore_n (lv' := [(3, .int (-9 : Int32)), (0, .ref m0), (1, .int (nI fr)), (2, .int (nI nn))]) hx hb dX10_readsSpot_39 rfl hl (by decide) rfl (fun ls hl => ?_)
        refine lv_iload_n hx hb dX10_readsSpot_40 rfl (lv_at hl 0 rfl) ?_
        refine lv_if_ge (tgt := 46) hx hb dX10_readsSpot_41 (by decide) (fun h => absurd h (by decide)) (fun h => ?_)
        refine lv_iconst (v := nI 0) hx hb dX10_readsSpot_44 (by decide +kernel) ?_
        have hq : (rs < 4 ∧ (cdT zs fr nn) ra = nI 59 ∧ dg (cdT zs fr nn) (ra + 1) 10 = true ∧ (nI 0) = nI 1 ∧ (ra + 1) = ra + 2 ∧ rs = rs + 1 ∧ qh = upd qh rs (nI (dv (cdT zs fr nn) (ra + 1)))) ∨ ((nI 0) = nI 0 ∧ rs = rs ∧ qh = qh ∧ ((¬ (rs < 4 ∧ (cdT zs fr nn) ra = nI 59) ∧ (ra + 1) = ra) ∨ (rs < 4 ∧ (cdT zs fr nn) ra = nI 59 ∧ dg (cdT zs fr nn) (ra + 1) 10 = false ∧ (ra + 1) = ra + 1))) := by exact Or.inr ⟨rfl, rfl, rfl, Or.inr ⟨by omega, c_4, q1, rfl⟩⟩
        refine kk_QQ hQQ ?_
        exact W.zret (v := nI 0) (ty := .boolean) hx hb hr (by decide +kernel) (fun t ht hW => ⟨⟨nI 0, ((ra + 1), rs, qh), rfl, hq, by show va_P D vwCl _ t.heap; rw [ht]; exact hP⟩, hS.F ht⟩) hS.2.2 dX10_readsSpot_45
    · skip
      refine lv_iconst (v := nI 0) hx hb dX10_readsSpot_19 (by decide +kernel) ?_
      have hq : (rs < 4 ∧ (cdT zs fr nn) ra = nI 59 ∧ dg (cdT zs fr nn) (ra + 1) 10 = true ∧ (nI 0) = nI 1 ∧ ra = ra + 2 ∧ rs = rs + 1 ∧ qh = upd qh rs (nI (dv (cdT zs fr nn) (ra + 1)))) ∨ ((nI 0) = nI 0 ∧ rs = rs ∧ qh = qh ∧ ((¬ (rs < 4 ∧ (cdT zs fr nn) ra = nI 59) ∧ ra = ra) ∨ (rs < 4 ∧ (cdT zs fr nn) ra = nI 59 ∧ dg (cdT zs fr nn) (ra + 1) 10 = false ∧ ra = ra + 1))) := by exact Or.inr ⟨rfl, rfl, rfl, Or.inl ⟨fun z => c_4 z.2, rfl⟩⟩
      refine kk_QQ hQQ ?_
      exact W.zret (v := nI 0) (ty := .boolean) hx hb hr (by decide +kernel) (fun t ht hW => ⟨⟨nI 0, (ra, rs, qh), rfl, hq, by show va_P D vwCl _ t.heap; rw [ht]; exact hP⟩, hS.F ht⟩) hS.2.2 dX10_readsSpot_20

abbrev rmX10_readsLamp : Room := { frames := 2, cells := 0, slots := 0, locals := 50 }
set_option maxHeartbeats 4000000 in
set_option maxRecDepth 100000 in
theorem c_X10_readsLamp (lL : Launch) (D : va_G) (cI cS : ClassId) (sz : Nat) (m0 : Nat) (a1 : Nat) (a3 : Nat) (a5 : Nat) (a6 : Nat) (a7 : Nat) (a13 : Nat) (a14 : Nat) (a15 : Nat) (a16 : Nat) (a18 : Nat) (a19 : Nat) (a20 : Nat) (a21 : Nat) (a22 : Nat) (a23 : Nat) (a24 : Nat) (a25 : Nat) (a27 : Nat) (a28 : Nat) (a29 : Nat) (a30 : Nat) (a31 : Nat) (a32 : Nat) (a33 : Nat) (a34 : Nat) (i0 : Int32) (i2 : Int32) (i4 : Int32) (i8 : Int32) (i9 : Int32) (i17 : Int32) (i26 : Int32) (i35 : Int32) (qk : Nat → Int32) (qt : Nat → Int32) (zs : Nat → Int32) (fr : Nat) (nn : Nat) (ra : Nat) (rs : Nat) (rq : Nat) (hfn : fr + nn ≤ 240) (hrs : rs ≤ 4) (hrs0 : 0 < rs) (hrq : rq ≤ 4) : Met lL yX10_readsLamp wsX10_readsLamp rmX10_readsLamp (va_Pc [.ref m0, .int (nI fr), .int (nI nn)] (kB D cI cS [(m0, .inr (9, [.int i0, .ref a1, .int i2, .ref a3, .int i4, .ref a5, .ref a6, .ref a7, .int i8, .int i9, .int (nI ra), .int (nI rs), .int (nI rq), .ref a13, .ref a14, .ref a15, .ref a16, .int i17, .ref a18, .ref a19, .ref a20, .ref a21, .ref a22, .ref a23, .ref a24, .ref a25, .int i26, .ref a27, .ref a28, .ref a29, .ref a30, .ref a31, .ref a32, .ref a33, .ref a34, .int i35])), (a15, .inl (cI, 4, .inl qk)), (a16, .inl (cI, 4, .inl qt)), (a33, .inl (cI, 240, .inl zs))] sz)) (kQi D (fun (r : Int32) (u : Nat × Nat × (Nat → Int32) × (Nat → Int32)) => (rq < 4 ∧ (cdT zs fr nn) ra = nI 44 ∧ isK ((cdT zs fr nn) (ra + 1)) = true ∧ dg (cdT zs fr nn) (ra + 2) rs = true ∧ r = nI 1 ∧ u.1 = ra + 3 ∧ u.2.1 = rq + 1 ∧ u.2.2.1 = upd qk rq (nI (kdOf ((cdT zs fr nn) (ra + 1)))) ∧ u.2.2.2 = upd qt rq (nI (dv (cdT zs fr nn) (ra + 2)))) ∨ (r = nI 0 ∧ u.2.1 = rq ∧ u.2.2.1 = qk ∧ u.2.2.2 = qt ∧ ((¬ (rq < 4 ∧ (cdT zs fr nn) ra = nI 44) ∧ u.1 = ra) ∨ (rq < 4 ∧ (cdT zs fr nn) ra = nI 44 ∧ isK ((cdT zs fr nn) (ra + 1)) = false ∧ u.1 = ra + 1) ∨ (rq < 4 ∧ (cdT zs fr nn) ra = nI 44 ∧ isK ((cdT zs fr nn) (ra + 1)) = true ∧ dg (cdT zs fr nn) (ra + 2) rs = false ∧ u.1 = ra + 2)))) (fun u : Nat × Nat × (Nat → Int32) × (Nat → Int32) => [(m0, .inr (9, [.int i0, .ref a1, .int i2, .ref a3, .int i4, .ref a5, .ref a6, .ref a7, .int i8, .int i9, .int (nI u.1), .int (nI rs), .int (nI u.2.1), .ref a13, .ref a14, .ref a15, .ref a16, .int i17, .ref a18, .ref a19, .ref a20, .ref a21, .ref a22, .ref a23, .ref a24, .ref a25, .int i26, .ref a27, .ref a28, .ref a29, .ref a30, .ref a31, .ref a32, .ref a33, .ref a34, .int i35])), (a15, .inl (cI, 4, .inl u.2.2.1)), (a16, .inl (cI, 4, .inl u.2.2.2)), (a33, .inl (cI, 240, .inl zs))]) (va_A [(m0, .inr (9, [.int i0, .ref a1, .int i2, .ref a3, .int i4, .ref a5, .ref a6, .ref a7, .int i8, .int i9, .int (nI ra), .int (nI rs), .int (nI rq), .ref a13, .ref a14, .ref a15, .ref a16, .int i17, .ref a18, .ref a19, .ref a20, .ref a21, .ref a22, .ref a23, .ref a24, .ref a25, .int i26, .ref a27, .ref a28, .ref a29, .ref a30, .ref a31, .ref a32, .ref a33, .ref a34, .int i35])), (a15, .inl (cI, 4, .inl qk)), (a16, .inl (cI, 4, .inl qt)), (a33, .inl (cI, 240, .inl zs))] sz)) 0 0 (va_A [(m0, .inr (9, [.int i0, .ref a1, .int i2, .ref a3, .int i4, .ref a5, .ref a6, .ref a7, .int i8, .int i9, .int (nI ra), .int (nI rs), .int (nI rq), .ref a13, .ref a14, .ref a15, .ref a16, .int i17, .ref a18, .ref a19, .ref a20, .ref a21, .ref a22, .ref a23, .ref a24, .ref a25, .int i26, .ref a27, .ref a28, .ref a29, .ref a30, .ref a31, .ref a32, .ref a33, .ref a34, .int i35])), (a15, .inl (cI, 4, .inl qk)), (a16, .inl (cI, 4, .inl qt)), (a33, .inl (cI, 240, .inl zs))] sz) := by
  refine Met.ofW (cc := cX10_readsLamp) (maxL := 5) (ret := (some .boolean)) (by decide) rfl ?_
  intro pP eE sS mM args below meth cC s₁ B hml hv
  obtain ⟨rfl, hsz, hP, hK, hD0⟩ := hv
  have hx := B.exec
  have hb := B.bytes
  have hr := B.returns
  have hts := atoms_spec (ws := wsX10_readsLamp) B.pre
  have hown : sS.vm.findClass RX10 = some mM.cls := findClass_of_methodNamed B.named
  have hlocks := B.notSynchronized
  subst hsz
  have hD := hD0.self (sz := sS.heap.size)
  generalize hAe : va_A [(m0, .inr (9, [.int i0, .ref a1, .int i2, .ref a3, .int i4, .ref a5, .ref a6, .ref a7, .int i8, .int i9, .int (nI ra), .int (nI rs), .int (nI rq), .ref a13, .ref a14, .ref a15, .ref a16, .int i17, .ref a18, .ref a19, .ref a20, .ref a21, .ref a22, .ref a23, .ref a24, .ref a25, .int i26, .ref a27, .ref a28, .ref a29, .ref a30, .ref a31, .ref a32, .ref a33, .ref a34, .int i35])), (a15, .inl (cI, 4, .inl qk)), (a16, .inl (cI, 4, .inl qt)), (a33, .inl (cI, 240, .inl zs))] sS.heap.size = A at hD ⊢
  have hA : ∀ q : Nat, sS.heap.size ≤ q → A q := fun q h => by rw [← hAe]; exact Or.inr h
  have hS : va_S A sS.heap sS.heap [] := va_S.rf
  have hP : va_P D vwCl [(m0, .inr (9, [.int i0, .ref a1, .int i2, .ref a3, .int i4, .ref a5, .ref a6, .ref a7, .int i8, .int i9, .int (nI ra), .int (nI rs), .int (nI rq), .ref a13, .ref a14, .ref a15, .ref a16, .int i17, .ref a18, .ref a19, .ref a20, .ref a21, .ref a22, .ref a23, .ref a24, .ref a25, .int i26, .ref a27, .ref a28, .ref a29, .ref a30, .ref a31, .ref a32, .ref a33, .ref a34, .int i35])), (a15, .inl (cI, 4, .inl qk)), (a16, .inl (cI, 4, .inl qt)), (a33, .inl (cI, 240, .inl zs))] sS.heap := hP
  have hD : va_D A [(m0, .inr (9, [.int i0, .ref a1, .int i2, .ref a3, .int i4, .ref a5, .ref a6, .ref a7, .int i8, .int i9, .int (nI ra), .int (nI rs), .int (nI rq), .ref a13, .ref a14, .ref a15, .ref a16, .int i17, .ref a18, .ref a19, .ref a20, .ref a21, .ref a22, .ref a23, .ref a24, .ref a25, .int i26, .ref a27, .ref a28, .ref a29, .ref a30, .ref a31, .ref a32, .ref a33, .ref a34, .int i35])), (a15, .inl (cI, 4, .inl qk)), (a16, .inl (cI, 4, .inl qt)), (a33, .inl (cI, 240, .inl zs))] := hD
  have hf_31 := hts (.fieldLink RX10 31 "OldLampsModel" "readKind" "[I") (List.mem_of_getElem? (i := 4) rfl)
  have hf_34 := hts (.fieldLink RX10 34 "OldLampsModel" "readStood" "[I") (List.mem_of_getElem? (i := 5) rfl)
  have hf_110 := hts (.fieldLink RX10 110 "OldLampsModel" "readAt" "I") (List.mem_of_getElem? (i := 2) rfl)
  have hf_117 := hts (.fieldLink RX10 117 "OldLampsModel" "readSpots" "I") (List.mem_of_getElem? (i := 3) rfl)
  have hf_124 := hts (.fieldLink RX10 124 "OldLampsModel" "readLamps" "I") (List.mem_of_getElem? (i := 1) rfl)
  have hwX10 : ∀ w ∈ wsX100, w ∈ wsX10_readsLamp := fun _ h => List.mem_cons_of_mem _ (List.mem_append_right _ h)
  have hl := lv_entry ([.ref m0, .int (nI fr), .int (nI nn)]) (n := 5) (Nat.le_of_ble_eq_true rfl)
  rw [lg_entry_eq]
  generalize (lg_sl ([.ref m0, .int (nI fr), .int (nI nn)]) ++ List.replicate (5 - (lg_sl ([.ref m0, .int (nI fr), .int (nI nn)])).length) Slot.unset).toArray = ls at hl ⊢
  have hl : lv_has ls 5 [(0, .ref m0), (1, .int (nI fr)), (2, .int (nI nn))] := hl
  obtain ⟨QQ, hQQ⟩ : ∃ QQ : State → Prop, QQ = MQ below (kQi D (fun (r : Int32) (u : Nat × Nat × (Nat → Int32) × (Nat → Int32)) => (rq < 4 ∧ (cdT zs fr nn) ra = nI 44 ∧ isK ((cdT zs fr nn) (ra + 1)) = true ∧ dg (cdT zs fr nn) (ra + 2) rs = true ∧ r = nI 1 ∧ u.1 = ra + 3 ∧ u.2.1 = rq + 1 ∧ u.2.2.1 = upd qk rq (nI (kdOf ((cdT zs fr nn) (ra + 1)))) ∧ u.2.2.2 = upd qt rq (nI (dv (cdT zs fr nn) (ra + 2)))) ∨ (r = nI 0 ∧ u.2.1 = rq ∧ u.2.2.1 = qk ∧ u.2.2.2 = qt ∧ ((¬ (rq < 4 ∧ (cdT zs fr nn) ra = nI 44) ∧ u.1 = ra) ∨ (rq < 4 ∧ (cdT zs fr nn) ra = nI 44 ∧ isK ((cdT zs fr nn) (ra + 1)) = false ∧ u.1 = ra + 1) ∨ (rq < 4 ∧ (cdT zs fr nn) ra = nI 44 ∧ isK ((cdT zs fr nn) (ra + 1)) = true ∧ dg (cdT zs fr nn) (ra + 2) rs = false ∧ u.1 = ra + 2)))) (fun u : Nat × Nat × (Nat → Int32) × (Nat → Int32) => [(m0, .inr (9, [.int i0, .ref a1, .int i2, .ref a3, .int i4, .ref a5, .ref a6, .ref a7, .int i8, .int i9, .int (nI u.1), .int (nI rs), .int (nI u.2.1), .ref a13, .ref a14, .ref a15, .ref a16, .int i17, .ref a18, .ref a19, .ref a20, .ref a21, .ref a22, .ref a23, .ref a24, .ref a25, .int i26, .ref a27, .ref a28, .ref a29, .ref a30, .ref a31, .ref a32, .ref a33, .ref a34, .int i35])), (a15, .inl (cI, 4, .inl u.2.2.1)), (a16, .inl (cI, 4, .inl u.2.2.2)), (a33, .inl (cI, 240, .inl zs))]) A) ([.ref m0, .int (nI fr), .int (nI nn)]).toArray sS 0 0 A := ⟨_, rfl⟩
  refine kk_QQ hQQ.symm ?_
  refine lv_aload_n hx hb dX10_readsLamp_0 rfl (lv_at hl 0 rfl) ?_
  refine va_get (D := D) (ci := 9) (v := .int (nI rq)) (C := RX10) (T := TX10) (N := 36) hx hb hts hwX10 hown hK hP 0 rfl rfl 12 (by decide) hf_124 (fun _ h9 => h9) rfl dX10_readsLamp_1 ?_
  refine lv_iconst (v := nI 4) hx hb dX10_readsLamp_4 (by decide +kernel) ?_
  refine kk_icmp_eq (tgt := 19) hx hb dX10_readsLamp_5 (by decide) (by omega) (by omega) (fun c_1 => ?_) (fun c_1 => ?_)
  · skip
    refine lv_iconst (v := nI 0) hx hb dX10_readsLamp_19 (by decide +kernel) ?_
    have hq : (rq < 4 ∧ (cdT zs fr nn) ra = nI 44 ∧ isK ((cdT zs fr nn) (ra + 1)) = true ∧ dg (cdT zs fr nn) (ra + 2) rs = true ∧ (nI 0) = nI 1 ∧ ra = ra + 3 ∧ rq = rq + 1 ∧ qk = upd qk rq (nI (kdOf ((cdT zs fr nn) (ra + 1)))) ∧ qt = upd qt rq (nI (dv (cdT zs fr nn) (ra + 2)))) ∨ ((nI 0) = nI 0 ∧ rq = rq ∧ qk = qk ∧ qt = qt ∧ ((¬ (rq < 4 ∧ (cdT zs fr nn) ra = nI 44) ∧ ra = ra) ∨ (rq < 4 ∧ (cdT zs fr nn) ra = nI 44 ∧ isK ((cdT zs fr nn) (ra + 1)) = false ∧ ra = ra + 1) ∨ (rq < 4 ∧ (cdT zs fr nn) ra = nI 44 ∧ isK ((cdT zs fr nn) (ra + 1)) = true ∧ dg (cdT zs fr nn) (ra + 2) rs = false ∧ ra = ra + 2))) := by exact Or.inr ⟨rfl, rfl, rfl, rfl, Or.inl ⟨fun z => by omega, rfl⟩⟩
    refine kk_QQ hQQ ?_
    exact W.zret (v := nI 0) (ty := .boolean) hx hb hr (by decide +kernel) (fun t ht hW => ⟨⟨nI 0, (ra, rq, qk, qt), rfl, hq, by show va_P D vwCl _ t.heap; rw [ht]; exact hP⟩, hS.F ht⟩) hS.2.2 dX10_readsLamp_20
  · skip
    refine lv_aload_n hx hb dX10_readsLamp_8 rfl (lv_at hl 0 rfl) ?_
    refine lv_iload_n hx hb dX10_readsLamp_9 rfl (lv_at hl 1 rfl) ?_
    refine lv_iload_n hx hb dX10_readsLamp_10 rfl (lv_at hl 2 rfl) ?_
    have o_2 : fr + nn ≤ 240 := by omega
    refine vp_callSi (W.runV (As := [.int (nI fr), .int (nI nn)]) (rest := []) ⟨hx, hb, hml, hown, hts⟩ (c_X10_codeAt lL D cI cS m0 a1 a3 a5 a6 a7 a13 a14 a15 a16 a18 a19 a20 a21 a22 a23 a24 a25 a27 a28 a29 a30 a31 a32 a33 a34 i0 i2 i4 i8 i9 (nI rs) (nI rq) i17 i26 i35 zs fr nn ra o_2) (cwV 2 hts gX10_readsLamp_X10_codeAt rfl rfl rfl cd_X10_codeAt ⟨Nat.le_of_ble_eq_true rfl, Nat.le_of_ble_eq_true rfl⟩) ⟨kBp_blind, va_recv hK hP (ci := 9) (q0 := 0) rfl rfl, fun U hU hW => ⟨rfl, by rw [hU]; exact hP.sub [0, 3] rfl, va_K.moved hW.alike hK⟩⟩ rfl rfl hl.1 rfl (lv_room (Nat.le_of_ble_eq_true rfl)) dX10_readsLamp_11 ⟨Nat.le_of_ble_eq_true rfl, Nat.le_of_ble_eq_true rfl⟩) (fun r_3 hw_3 => ?_)
    obtain rfl : r_3 = cdT zs fr n ra := hw_3
    refine lv_bipush (v := nI 44) hx hb dX10_readsLamp_14 (by decide +kernel) ?_
    refine lv_icmp_eq (tgt := 21) hx hb dX10_readsLamp_16 (by decide) (fun c_4 => ?_) (fun c_4 => ?_)
    · skip
      refine lv_aload_n hx hb dX10_readsLamp_21 rfl (lv_at hl 0 rfl) ?_
      refine lv_dup hx hb dX10_readsLamp_22 rfl ?_
      refine va_get (D := D) (ci := 9) (v := .int (nI ra)) (C := RX10) (T := TX10) (N := 36) hx hb hts hwX10 hown hK hP 0 rfl rfl 10 (by decide) hf_110 (fun _ h9 => h9) rfl dX10_readsLamp_23 ?_
      refine lv_iconst (v := nI 1) hx hb dX10_readsLamp_26 (by decide +kernel) ?_
      refine kk_iadd hx hb dX10_readsLamp_27 ?_
      refine va_put (D := D) (ci := 9) (v := .int (nI (ra + 1))) (ty := .int) (C := RX10) (T := TX10) (N := 36) hx hb hts hwX10 tyX10 tyX10_ok nmX10 hown hK hP hD hS 0 rfl rfl 10 (by decide) hf_110 (fun _ h9 => h9) rfl (by decide +kernel) rfl rfl (Nat.le_of_ble_eq_true rfl) dX10_readsLamp_28 (fun H locs hP hD hS => ?_)
      have hP : va_P D vwCl [(m0, .inr (9, [.int i0, .ref a1, .int i2, .ref a3, .int i4, .ref a5, .ref a6, .ref a7, .int i8, .int i9, .int (nI (ra + 1)), .int (nI rs), .int (nI rq), .ref a13, .ref a14, .ref a15, .ref a16, .int i17, .ref a18, .ref a19, .ref a20, .ref a21, .ref a22, .ref a23, .ref a24, .ref a25, .int i26, .ref a27, .ref a28, .ref a29, .ref a30, .ref a31, .ref a32, .ref a33, .ref a34, .int i35])), (a15, .inl (cI, 4, .inl qk)), (a16, .inl (cI, 4, .inl qt)), (a33, .inl (cI, 240, .inl zs))] H := hP
      have hD : va_D A [(m0, .inr (9, [.int i0, .ref a1, .int i2, .ref a3, .int i4, .ref a5, .ref a6, .ref a7, .int i8, .int i9, .int (nI (ra + 1)), .int (nI rs), .int (nI rq), .ref a13, .ref a14, .ref a15, .ref a16, .int i17, .ref a18, .ref a19, .ref a20, .ref a21, .ref a22, .ref a23, .ref a24, .ref a25, .int i26, .ref a27, .ref a28, .ref a29, .ref a30, .ref a31, .ref a32, .ref a33, .ref a34, .int i35])), (a15, .inl (cI, 4, .inl qk)), (a16, .inl (cI, 4, .inl qt)), (a33, .inl (cI, 240, .inl zs))] := hD
      refine lv_aload_n hx hb dX10_readsLamp_31 rfl (lv_at hl 0 rfl) ?_
      refine lv_iload_n hx hb dX10_readsLamp_32 rfl (lv_at hl 1 rfl) ?_
      refine lv_iload_n hx hb dX10_readsLamp_33 rfl (lv_at hl 2 rfl) ?_
      have o_5 : fr + nn ≤ 240 := by omega
      refine vp_callSi (W.runV (As := [.int (nI fr), .int (nI nn)]) (rest := []) ⟨hx, hb, hml, hown, hts⟩ (c_X10_codeAt lL D cI cS m0 a1 a3 a5 a6 a7 a13 a14 a15 a16 a18 a19 a20 a21 a22 a23 a24 a25 a27 a28 a29 a30 a31 a32 a33 a34 i0 i2 i4 i8 i9 (nI rs) (nI rq) i17 i26 i35 zs fr nn (ra + 1) o_5) (cwV 2 hts gX10_readsLamp_X10_codeAt rfl rfl rfl cd_X10_codeAt ⟨Nat.le_of_ble_eq_true rfl, Nat.le_of_ble_eq_true rfl⟩) ⟨kBp_blind, va_recv hK hP (ci := 9) (q0 := 0) rfl rfl, fun U hU hW => ⟨rfl, by rw [hU]; exact hP.sub [0, 3] rfl, va_K.moved hW.alike hK⟩⟩ rfl rfl hl.1 rfl (lv_room (Nat.le_of_ble_eq_true rfl)) dX10_readsLamp_34 ⟨Nat.le_of_ble_eq_true rfl, Nat.le_of_ble_eq_true rfl⟩) (fun r_6 hw_6 => ?_)
      obtain rfl : r_6 = cdT zs fr n (ra + 1) := hw_6
      refine lv_istore_n (lv' := [(3, .int (cdT zs fr n (ra + 1))), (0, .ref m0), (1, .int (nI fr)), (2, .int (nI nn))]) hx hb dX10_readsLamp_37 rfl hl (by decide) rfl (fun ls hl => ?_)
      refine lv_iload_n hx hb dX10_readsLamp_38 rfl (lv_at hl 0 rfl) ?_
      refine lv_bipush (v := nI 108) hx hb dX10_readsLamp_39 (by decide +kernel) ?_
      refine lv_icmp_eq (tgt := 58) hx hb dX10_readsLamp_41 (by decide) (fun c_7 => ?_) (fun c_7 => ?_)
      · skip
        refine lv_aload_n hx hb dX10_readsLamp_58 rfl (lv_at hl 1 rfl) ?_
        refine lv_dup hx hb dX10_readsLamp_59 rfl ?_
        refine va_get (D := D) (ci := 9) (v := .int (nI (ra + 1))) (C := RX10) (T := TX10) (N := 36) hx hb hts hwX10 hown hK hP 0 rfl rfl 10 (by decide) hf_110 (fun _ h9 => h9) rfl dX10_readsLamp_60 ?_
        refine lv_iconst (v := nI 1) hx hb dX10_readsLamp_63 (by decide +kernel) ?_
        refine kk_iadd hx hb dX10_readsLamp_64 ?_
        refine va_put (D := D) (ci := 9) (v := .int (nI ((ra + 1) + 1))) (ty := .int) (C := RX10) (T := TX10) (N := 36) hx hb hts hwX10 tyX10 tyX10_ok nmX10 hown hK hP hD hS 0 rfl rfl 10 (by decide) hf_110 (fun _ h9 => h9) rfl (by decide +kernel) rfl rfl (Nat.le_of_ble_eq_true rfl) dX10_readsLamp_65 (fun H locs hP hD hS => ?_)
        have hP : va_P D vwCl [(m0, .inr (9, [.int i0, .ref a1, .int i2, .ref a3, .int i4, .ref a5, .ref a6, .ref a7, .int i8, .int i9, .int (nI ((ra + 1) + 1)), .int (nI rs), .int (nI rq), .ref a13, .ref a14, .ref a15, .ref a16, .int i17, .ref a18, .ref a19, .ref a20, .ref a21, .ref a22, .ref a23, .ref a24, .ref a25, .int i26, .ref a27, .ref a28, .ref a29, .ref a30, .ref a31, .ref a32, .ref a33, .ref a34, .int i35])), (a15, .inl (cI, 4, .inl qk)), (a16, .inl (cI, 4, .inl qt)), (a33, .inl (cI, 240, .inl zs))] H := hP
        have hD : va_D A [(m0, .inr (9, [.int i0, .ref a1, .int i2, .ref a3, .int i4, .ref a5, .ref a6, .ref a7, .int i8, .int i9, .int (nI ((ra + 1) + 1)), .int (nI rs), .int (nI rq), .ref a13, .ref a14, .ref a15, .ref a16, .int i17, .ref a18, .ref a19, .ref a20, .ref a21, .ref a22, .ref a23, .ref a24, .ref a25, .int i26, .ref a27, .ref a28, .ref a29, .ref a30, .ref a31, .ref a32, .ref a33, .ref a34, .int i35])), (a15, .inl (cI, 4, .inl qk)), (a16, .inl (cI, 4, .inl qt)), (a33, .inl (cI, 240, .inl zs))] := hD
        refine lv_aload_n hx hb dX10_readsLamp_68 rfl (lv_at hl 1 rfl) ?_
        refine lv_iload_n hx hb dX10_readsLamp_69 rfl (lv_at hl 2 rfl) ?_
        refine lv_iload_n hx hb dX10_readsLamp_70 rfl (lv_at hl 3 rfl) ?_
        refine lv_aload_n hx hb dX10_readsLamp_71 rfl (lv_at hl 1 rfl) ?_
        refine va_get (D := D) (ci := 9) (v := .int (nI rs)) (C := RX10) (T := TX10) (N := 36) hx hb hts hwX10 hown hK hP 0 rfl rfl 11 (by decide) hf_117 (fun _ h9 => h9) rfl dX10_readsLamp_72 ?_
        refine lv_iconst (v := nI 1) hx hb dX10_readsLamp_75 (by decide +kernel) ?_
        refine kk_isub hx hb dX10_readsLamp_76 (by omega) ?_
        have o_8 : fr + nn ≤ 240 := by omega
        have o_9 : (rs - 1) ≤ 9 := by omega
        have hF := va_free (wc := [(m0, .inr (9, [.int i0, .ref a1, .int i2, .ref a3, .int i4, .ref a5, .ref a6, .ref a7, .int i8, .int i9, .int (nI ((ra + 1) + 1)), .int (nI rs), .int (nI rq), .ref a13, .ref a14, .ref a15, .ref a16, .int i17, .ref a18, .ref a19, .ref a20, .ref a21, .ref a22, .ref a23, .ref a24, .ref a25, .int i26, .ref a27, .ref a28, .ref a29, .ref a30, .ref a31, .ref a32, .ref a33, .ref a34, .int i35])), (a33, .inl (cI, 240, .inl zs))]) hD hS hA [0, 3] rfl
        refine va_calli (va_runV (As := [.int (nI fr), .int (nI nn), .int (nI (rs - 1))]) (rest := []) ⟨hx, hb, hml, hown, hts⟩ (c_X10_figure lL D cI cS _ m0 a1 a3 a5 a6 a7 a13 a14 a15 a16 a18 a19 a20 a21 a22 a23 a24 a25 a27 a28 a29 a30 a31 a32 a33 a34 i0 i2 i4 i8 i9 (nI rs) (nI rq) i17 i26 i35 zs fr nn (rs - 1) ((ra + 1) + 1) o_8 o_9) (cwV 3 hts gX10_readsLamp_X10_figure rfl rfl rfl cd_X10_figure ⟨Nat.le_of_ble_eq_true rfl, Nat.le_of_ble_eq_true rfl⟩) ⟨kB_blind, va_recv hK hP (ci := 9) (q0 := 0) rfl rfl, fun U hU hW => ⟨rfl, by rw [hU], by rw [hU]; exact hP.sub [0, 3] rfl, va_K.moved hW.alike hK, (hD.sub [0, 3] (by decide) rfl).weaken (fun _ _ _ _ => trivial)⟩⟩ rfl rfl hl.1 rfl (lv_room (Nat.le_of_ble_eq_true rfl)) dX10_readsLamp_77 ⟨Nat.le_of_ble_eq_true rfl, Nat.le_of_ble_eq_true rfl⟩) hS (fun q _ h => hF q h) hF (fun r_10 u_10 t H1 locs ht hvm hw_10 hB hz1 hk1 hS => ?_)
        obtain ⟨hP, hD⟩ := kk_join2 (wc := [(m0, .inr (9, [.int i0, .ref a1, .int i2, .ref a3, .int i4, .ref a5, .ref a6, .ref a7, .int i8, .int i9, .int (nI ((ra + 1) + 1)), .int (nI rs), .int (nI rq), .ref a13, .ref a14, .ref a15, .ref a16, .int i17, .ref a18, .ref a19, .ref a20, .ref a21, .ref a22, .ref a23, .ref a24, .ref a25, .int i26, .ref a27, .ref a28, .ref a29, .ref a30, .ref a31, .ref a32, .ref a33, .ref a34, .int i35])), (a33, .inl (cI, 240, .inl zs))]) (w1 := [(m0, .inr (9, [.int i0, .ref a1, .int i2, .ref a3, .int i4, .ref a5, .ref a6, .ref a7, .int i8, .int i9, .int (nI u_10), .int (nI rs), .int (nI rq), .ref a13, .ref a14, .ref a15, .ref a16, .int i17, .ref a18, .ref a19, .ref a20, .ref a21, .ref a22, .ref a23, .ref a24, .ref a25, .int i26, .ref a27, .ref a28, .ref a29, .ref a30, .ref a31, .ref a32, .ref a33, .ref a34, .int i35])), (a33, .inl (cI, 240, .inl zs))]) (ws' := [(m0, .inr (9, [.int i0, .ref a1, .int i2, .ref a3, .int i4, .ref a5, .ref a6, .ref a7, .int i8, .int i9, .int (nI u_10), .int (nI rs), .int (nI rq), .ref a13, .ref a14, .ref a15, .ref a16, .int i17, .ref a18, .ref a19, .ref a20, .ref a21, .ref a22, .ref a23, .ref a24, .ref a25, .int i26, .ref a27, .ref a28, .ref a29, .ref a30, .ref a31, .ref a32, .ref a33, .ref a34, .int i35])), (a15, .inl (cI, 4, .inl qk)), (a16, .inl (cI, 4, .inl qt)), (a33, .inl (cI, 240, .inl zs))]) (wr := [(a15, .inl (cI, 4, .inl qk)), (a16, .inl (cI, 4, .inl qt))]) (H1 := H1) hP hD [0, 3] [1, 2] rfl rfl rfl rfl 4 rfl (by decide) [m0, a15, a16, a33] rfl rfl hk1 (by rw [← ht]; exact hB)
        have hw_10 : (dg (cdT zs fr nn) ((ra + 1) + 1) ((rs - 1) + 1) = true ∧ r_10 = nI (dv (cdT zs fr nn) ((ra + 1) + 1)) ∧ u_10 = ((ra + 1) + 1) + 1) ∨ (dg (cdT zs fr nn) ((ra + 1) + 1) ((rs - 1) + 1) = false ∧ r_10 = (-9) ∧ u_10 = ((ra + 1) + 1)) := hw_10
        clear hF hB hk1 hz1 hvm
        clear ht
        generalize H1 = H at hP hS ⊢
        rcases hw_10 with ⟨q1, q2, q3⟩ | ⟨q1, q2, q3⟩
        · skip
          have q2 := q2.symm
          have q3 := q3.symm
          subst q2 q3
          have qd := (dg_t q1).1
          refine lv_istore (lv' := [(4, .int (nI (dv (cdT zs fr nn) ((ra + 1) + 1)))), (3, .int (cdT zs fr n (ra + 1))), (0, .ref m0), (1, .int (nI fr)), (2, .int (nI nn))]) hx hb dX10_readsLamp_80 hl (by decide) rfl (fun ls hl => ?_)
          refine lv_iload hx hb dX10_readsLamp_82 (lv_at hl 0 rfl) ?_
          refine kk_if_ge (tgt := 89) hx hb dX10_readsLamp_84 (by decide) (by omega) ?_
          refine lv_aload_n hx hb dX10_readsLamp_89 rfl (lv_at hl 2 rfl) ?_
          refine va_get (D := D) (ci := 9) (v := .ref a15) (C := RX10) (T := TX10) (N := 36) hx hb hts hwX10 hown hK hP 0 rfl rfl 15 (by decide) hf_31 (fun _ h9 => h9) rfl dX10_readsLamp_90 ?_
          refine lv_aload_n hx hb dX10_readsLamp_93 rfl (lv_at hl 2 rfl) ?_
          refine va_get (D := D) (ci := 9) (v := .int (nI rq)) (C := RX10) (T := TX10) (N := 36) hx hb hts hwX10 hown hK hP 0 rfl rfl 12 (by decide) hf_124 (fun _ h9 => h9) rfl dX10_readsLamp_94 ?_
          refine lv_iload_n hx hb dX10_readsLamp_97 rfl (lv_at hl 1 rfl) ?_
          refine lv_bipush (v := nI 108) hx hb dX10_readsLamp_98 (by decide +kernel) ?_
          refine lv_icmp_ne (tgt := 107) hx hb dX10_readsLamp_100 (by decide) (fun c_11 => ?_) (fun c_11 => ?_)
          · skip
            exact absurd c_7 c_11
          · skip
            refine lv_iconst (v := nI 0) hx hb dX10_readsLamp_103 (by decide +kernel) ?_
            refine lv_goto (tgt := 118) hx hb dX10_readsLamp_104 (by decide) ?_
            refine kk_iast hx hb hK hP hD hS 1 rfl rfl (i := rq) (by omega) (by decide) dX10_readsLamp_118 (fun H locs hP hD hS => ?_)
            have hP : va_P D vwCl [(m0, .inr (9, [.int i0, .ref a1, .int i2, .ref a3, .int i4, .ref a5, .ref a6, .ref a7, .int i8, .int i9, .int (nI ((ra + 1) + 1 + 1)), .int (nI rs), .int (nI rq), .ref a13, .ref a14, .ref a15, .ref a16, .int i17, .ref a18, .ref a19, .ref a20, .ref a21, .ref a22, .ref a23, .ref a24, .ref a25, .int i26, .ref a27, .ref a28, .ref a29, .ref a30, .ref a31, .ref a32, .ref a33, .ref a34, .int i35])), (a15, .inl (cI, 4, .inl (upd qk rq (nI 0)))), (a16, .inl (cI, 4, .inl qt)), (a33, .inl (cI, 240, .inl zs))] H := hP
            have hD : va_D A [(m0, .inr (9, [.int i0, .ref a1, .int i2, .ref a3, .int i4, .ref a5, .ref a6, .ref a7, .int i8, .int i9, .int (nI ((ra + 1) + 1 + 1)), .int (nI rs), .int (nI rq), .ref a13, .ref a14, .ref a15, .ref a16, .int i17, .ref a18, .ref a19, .ref a20, .ref a21, .ref a22, .ref a23, .ref a24, .ref a25, .int i26, .ref a27, .ref a28, .ref a29, .ref a30, .ref a31, .ref a32, .ref a33, .ref a34, .int i35])), (a15, .inl (cI, 4, .inl (upd qk rq (nI 0)))), (a16, .inl (cI, 4, .inl qt)), (a33, .inl (cI, 240, .inl zs))] := hD
            refine lv_aload_n hx hb dX10_readsLamp_119 rfl (lv_at hl 2 rfl) ?_
            refine va_get (D := D) (ci := 9) (v := .ref a16) (C := RX10) (T := TX10) (N := 36) hx hb hts hwX10 hown hK hP 0 rfl rfl 16 (by decide) hf_34 (fun _ h9 => h9) rfl dX10_readsLamp_120 ?_
            refine lv_aload_n hx hb dX10_readsLamp_123 rfl (lv_at hl 2 rfl) ?_
            refine va_get (D := D) (ci := 9) (v := .int (nI rq)) (C := RX10) (T := TX10) (N := 36) hx hb hts hwX10 hown hK hP 0 rfl rfl 12 (by decide) hf_124 (fun _ h9 => h9) rfl dX10_readsLamp_124 ?_
            refine lv_iload hx hb dX10_readsLamp_127 (lv_at hl 0 rfl) ?_
            refine kk_iast hx hb hK hP hD hS 2 rfl rfl (i := rq) (by omega) (by decide) dX10_readsLamp_129 (fun H locs hP hD hS => ?_)
            have hP : va_P D vwCl [(m0, .inr (9, [.int i0, .ref a1, .int i2, .ref a3, .int i4, .ref a5, .ref a6, .ref a7, .int i8, .int i9, .int (nI ((ra + 1) + 1 + 1)), .int (nI rs), .int (nI rq), .ref a13, .ref a14, .ref a15, .ref a16, .int i17, .ref a18, .ref a19, .ref a20, .ref a21, .ref a22, .ref a23, .ref a24, .ref a25, .int i26, .ref a27, .ref a28, .ref a29, .ref a30, .ref a31, .ref a32, .ref a33, .ref a34, .int i35])), (a15, .inl (cI, 4, .inl (upd qk rq (nI 0)))), (a16, .inl (cI, 4, .inl (upd qt rq (nI (dv (cdT zs fr nn) ((ra + 1) + 1)))))), (a33, .inl (cI, 240, .inl zs))] H := hP
            have hD : va_D A [(m0, .inr (9, [.int i0, .ref a1, .int i2, .ref a3, .int i4, .ref a5, .ref a6, .ref a7, .int i8, .int i9, .int (nI ((ra + 1) + 1 + 1)), .int (nI rs), .int (nI rq), .ref a13, .ref a14, .ref a15, .ref a16, .int i17, .ref a18, .ref a19, .ref a20, .ref a21, .ref a22, .ref a23, .ref a24, .ref a25, .int i26, .ref a27, .ref a28, .ref a29, .ref a30, .ref a31, .ref a32, .ref a33, .ref a34, .int i35])), (a15, .inl (cI, 4, .inl (upd qk rq (nI 0)))), (a16, .inl (cI, 4, .inl (upd qt rq (nI (dv (cdT zs fr nn) ((ra + 1) + 1)))))), (a33, .inl (cI, 240, .inl zs))] := hD
            refine lv_aload_n hx hb dX10_readsLamp_130 rfl (lv_at hl 2 rfl) ?_
            refine lv_dup hx hb dX10_readsLamp_131 rfl ?_
            refine va_get (D := D) (ci := 9) (v := .int (nI rq)) (C := RX10) (T := TX10) (N := 36) hx hb hts hwX10 hown hK hP 0 rfl rfl 12 (by decide) hf_124 (fun _ h9 => h9) rfl dX10_readsLamp_132 ?_
            refine lv_iconst (v := nI 1) hx hb dX10_readsLamp_135 (by decide +kernel) ?_
            refine kk_iadd hx hb dX10_readsLamp_136 ?_
            refine va_put (D := D) (ci := 9) (v := .int (nI (rq + 1))) (ty := .int) (C := RX10) (T := TX10) (N := 36) hx hb hts hwX10 tyX10 tyX10_ok nmX10 hown hK hP hD hS 0 rfl rfl 12 (by decide) hf_124 (fun _ h9 => h9) rfl (by decide +kernel) rfl rfl (Nat.le_of_ble_eq_true rfl) dX10_readsLamp_137 (fun H locs hP hD hS => ?_)
            have hP : va_P D vwCl [(m0, .inr (9, [.int i0, .ref a1, .int i2, .ref a3, .int i4, .ref a5, .ref a6, .ref a7, .int i8, .int i9, .int (nI ((ra + 1) + 1 + 1)), .int (nI rs), .int (nI (rq + 1)), .ref a13, .ref a14, .ref a15, .ref a16, .int i17, .ref a18, .ref a19, .ref a20, .ref a21, .ref a22, .ref a23, .ref a24, .ref a25, .int i26, .ref a27, .ref a28, .ref a29, .ref a30, .ref a31, .ref a32, .ref a33, .ref a34, .int i35])), (a15, .inl (cI, 4, .inl (upd qk rq (nI 0)))), (a16, .inl (cI, 4, .inl (upd qt rq (nI (dv (cdT zs fr nn) ((ra + 1) + 1)))))), (a33, .inl (cI, 240, .inl zs))] H := hP
            have hD : va_D A [(m0, .inr (9, [.int i0, .ref a1, .int i2, .ref a3, .int i4, .ref a5, .ref a6, .ref a7, .int i8, .int i9, .int (nI ((ra + 1) + 1 + 1)), .int (nI rs), .int (nI (rq + 1)), .ref a13, .ref a14, .ref a15, .ref a16, .int i17, .ref a18, .ref a19, .ref a20, .ref a21, .ref a22, .ref a23, .ref a24, .ref a25, .int i26, .ref a27, .ref a28, .ref a29, .ref a30, .ref a31, .ref a32, .ref a33, .ref a34, .int i35])), (a15, .inl (cI, 4, .inl (upd qk rq (nI 0)))), (a16, .inl (cI, 4, .inl (upd qt rq (nI (dv (cdT zs fr nn) ((ra + 1) + 1)))))), (a33, .inl (cI, 240, .inl zs))] := hD
            refine lv_iconst (v := nI 1) hx hb dX10_readsLamp_140 (by decide +kernel) ?_
            have hq : (rq < 4 ∧ (cdT zs fr nn) ra = nI 44 ∧ isK ((cdT zs fr nn) (ra + 1)) = true ∧ dg (cdT zs fr nn) (ra + 2) rs = true ∧ (nI 1) = nI 1 ∧ ((ra + 1) + 1 + 1) = ra + 3 ∧ (rq + 1) = rq + 1 ∧ (upd qk rq (nI 0)) = upd qk rq (nI (kdOf ((cdT zs fr nn) (ra + 1)))) ∧ (upd qt rq (nI (dv (cdT zs fr nn) ((ra + 1) + 1)))) = upd qt rq (nI (dv (cdT zs fr nn) (ra + 2)))) ∨ ((nI 1) = nI 0 ∧ (rq + 1) = rq ∧ (upd qk rq (nI 0)) = qk ∧ (upd qt rq (nI (dv (cdT zs fr nn) ((ra + 1) + 1)))) = qt ∧ ((¬ (rq < 4 ∧ (cdT zs fr nn) ra = nI 44) ∧ ((ra + 1) + 1 + 1) = ra) ∨ (rq < 4 ∧ (cdT zs fr nn) ra = nI 44 ∧ isK ((cdT zs fr nn) (ra + 1)) = false ∧ ((ra + 1) + 1 + 1) = ra + 1) ∨ (rq < 4 ∧ (cdT zs fr nn) ra = nI 44 ∧ isK ((cdT zs fr nn) (ra + 1)) = true ∧ dg (cdT zs fr nn) (ra + 2) rs = false ∧ ((ra + 1) + 1 + 1) = ra + 2))) := by
              rw [show rs - 1 + 1 = rs by omega] at q1
              exact Or.inl ⟨by omega, c_4, (isK_0 c_7).1, q1, rfl, rfl, rfl, by rw [(isK_0 c_7).2], rfl⟩
            refine kk_QQ hQQ ?_
            exact W.zret (v := nI 1) (ty := .boolean) hx hb hr (by decide +kernel) (fun t ht hW => ⟨⟨nI 1, (((ra + 1) + 1 + 1), rq + 1, upd qk rq (nI 0), upd qt rq (nI (dv (cdT zs fr nn) ((ra + 1) + 1)))), rfl, hq, by show va_P D vwCl _ t.heap; rw [ht]; exact hP⟩, hS.F ht⟩) hS.2.2 dX10_readsLamp_141
        · skip
          have q2 := q2.symm
          have q3 := q3.symm
          subst q2 q3
          refine lv_istore (lv' := [(4, .int (-9 : Int32)), (3, .int (cdT zs fr n (ra + 1))), (0, .ref m0), (1, .int (nI fr)), (2, .int (nI nn))]) hx hb dX10_readsLamp_80 hl (by decide) rfl (fun ls hl => ?_)
          refine lv_iload hx hb dX10_readsLamp_82 (lv_at hl 0 rfl) ?_
          refine lv_if_ge (tgt := 89) hx hb dX10_readsLamp_84 (by decide) (fun h => absurd h (by decide)) (fun h => ?_)
          refine lv_iconst (v := nI 0) hx hb dX10_readsLamp_87 (by decide +kernel) ?_
          have hq : (rq < 4 ∧ (cdT zs fr nn) ra = nI 44 ∧ isK ((cdT zs fr nn) (ra + 1)) = true ∧ dg (cdT zs fr nn) (ra + 2) rs = true ∧ (nI 0) = nI 1 ∧ ((ra + 1) + 1) = ra + 3 ∧ rq = rq + 1 ∧ qk = upd qk rq (nI (kdOf ((cdT zs fr nn) (ra + 1)))) ∧ qt = upd qt rq (nI (dv (cdT zs fr nn) (ra + 2)))) ∨ ((nI 0) = nI 0 ∧ rq = rq ∧ qk = qk ∧ qt = qt ∧ ((¬ (rq < 4 ∧ (cdT zs fr nn) ra = nI 44) ∧ ((ra + 1) + 1) = ra) ∨ (rq < 4 ∧ (cdT zs fr nn) ra = nI 44 ∧ isK ((cdT zs fr nn) (ra + 1)) = false ∧ ((ra + 1) + 1) = ra + 1) ∨ (rq < 4 ∧ (cdT zs fr nn) ra = nI 44 ∧ isK ((cdT zs fr nn) (ra + 1)) = true ∧ dg (cdT zs fr nn) (ra + 2) rs = false ∧ ((ra + 1) + 1) = ra + 2))) := by
            rw [show rs - 1 + 1 = rs by omega] at q1
            exact Or.inr ⟨rfl, rfl, rfl, rfl, Or.inr (Or.inr ⟨by omega, c_4, (isK_0 c_7).1, q1, rfl⟩)⟩
          refine kk_QQ hQQ ?_
          exact W.zret (v := nI 0) (ty := .boolean) hx hb hr (by decide +kernel) (fun t ht hW => ⟨⟨nI 0, (((ra + 1) + 1), rq, qk, qt), rfl, hq, by show va_P D vwCl _ t.heap; rw [ht]; exact hP⟩, hS.F ht⟩) hS.2.2 dX10_readsLamp_88
      · skip
        refine lv_iload_n hx hb dX10_readsLamp_44 rfl (lv_at hl 0 rfl) ?_
        refine lv_bipush (v := nI 109) hx hb dX10_readsLamp_45 (by decide +kernel) ?_
        refine lv_icmp_eq (tgt := 58) hx hb dX10_readsLamp_47 (by decide) (fun c_12 => ?_) (fun c_12 => ?_)
        · skip
          refine lv_aload_n hx hb dX10_readsLamp_58 rfl (lv_at hl 1 rfl) ?_
          refine lv_dup hx hb dX10_readsLamp_59 rfl ?_
          refine va_get (D := D) (ci := 9) (v := .int (nI (ra + 1))) (C := RX10) (T := TX10) (N := 36) hx hb hts hwX10 hown hK hP 0 rfl rfl 10 (by decide) hf_110 (fun _ h9 => h9) rfl dX10_readsLamp_60 ?_
          refine lv_iconst (v := nI 1) hx hb dX10_readsLamp_63 (by decide +kernel) ?_
          refine kk_iadd hx hb dX10_readsLamp_64 ?_
          refine va_put (D := D) (ci := 9) (v := .int (nI ((ra + 1) + 1))) (ty := .int) (C := RX10) (T := TX10) (N := 36) hx hb hts hwX10 tyX10 tyX10_ok nmX10 hown hK hP hD hS 0 rfl rfl 10 (by decide) hf_110 (fun _ h9 => h9) rfl (by decide +kernel) rfl rfl (Nat.le_of_ble_eq_true rfl) dX10_readsLamp_65 (fun H locs hP hD hS => ?_)
          have hP : va_P D vwCl [(m0, .inr (9, [.int i0, .ref a1, .int i2, .ref a3, .int i4, .ref a5, .ref a6, .ref a7, .int i8, .int i9, .int (nI ((ra + 1) + 1)), .int (nI rs), .int (nI rq), .ref a13, .ref a14, .ref a15, .ref a16, .int i17, .ref a18, .ref a19, .ref a20, .ref a21, .ref a22, .ref a23, .ref a24, .ref a25, .int i26, .ref a27, .ref a28, .ref a29, .ref a30, .ref a31, .ref a32, .ref a33, .ref a34, .int i35])), (a15, .inl (cI, 4, .inl qk)), (a16, .inl (cI, 4, .inl qt)), (a33, .inl (cI, 240, .inl zs))] H := hP
          have hD : va_D A [(m0, .inr (9, [.int i0, .ref a1, .int i2, .ref a3, .int i4, .ref a5, .ref a6, .ref a7, .int i8, .int i9, .int (nI ((ra + 1) + 1)), .int (nI rs), .int (nI rq), .ref a13, .ref a14, .ref a15, .ref a16, .int i17, .ref a18, .ref a19, .ref a20, .ref a21, .ref a22, .ref a23, .ref a24, .ref a25, .int i26, .ref a27, .ref a28, .ref a29, .ref a30, .ref a31, .ref a32, .ref a33, .ref a34, .int i35])), (a15, .inl (cI, 4, .inl qk)), (a16, .inl (cI, 4, .inl qt)), (a33, .inl (cI, 240, .inl zs))] := hD
          refine lv_aload_n hx hb dX10_readsLamp_68 rfl (lv_at hl 1 rfl) ?_
          refine lv_iload_n hx hb dX10_readsLamp_69 rfl (lv_at hl 2 rfl) ?_
          refine lv_iload_n hx hb dX10_readsLamp_70 rfl (lv_at hl 3 rfl) ?_
          refine lv_aload_n hx hb dX10_readsLamp_71 rfl (lv_at hl 1 rfl) ?_
          refine va_get (D := D) (ci := 9) (v := .int (nI rs)) (C := RX10) (T := TX10) (N := 36) hx hb hts hwX10 hown hK hP 0 rfl rfl 11 (by decide) hf_117 (fun _ h9 => h9) rfl dX10_readsLamp_72 ?_
          refine lv_iconst (v := nI 1) hx hb dX10_readsLamp_75 (by decide +kernel) ?_
          refine kk_isub hx hb dX10_readsLamp_76 (by omega) ?_
          have o_13 : fr + nn ≤ 240 := by omega
          have o_14 : (rs - 1) ≤ 9 := by omega
          have hF := va_free (wc := [(m0, .inr (9, [.int i0, .ref a1, .int i2, .ref a3, .int i4, .ref a5, .ref a6, .ref a7, .int i8, .int i9, .int (nI ((ra + 1) + 1)), .int (nI rs), .int (nI rq), .ref a13, .ref a14, .ref a15, .ref a16, .int i17, .ref a18, .ref a19, .ref a20, .ref a21, .ref a22, .ref a23, .ref a24, .ref a25, .int i26, .ref a27, .ref a28, .ref a29, .ref a30, .ref a31, .ref a32, .ref a33, .ref a34, .int i35])), (a33, .inl (cI, 240, .inl zs))]) hD hS hA [0, 3] rfl
          refine va_calli (va_runV (As := [.int (nI fr), .int (nI nn), .int (nI (rs - 1))]) (rest := []) ⟨hx, hb, hml, hown, hts⟩ (c_X10_figure lL D cI cS _ m0 a1 a3 a5 a6 a7 a13 a14 a15 a16 a18 a19 a20 a21 a22 a23 a24 a25 a27 a28 a29 a30 a31 a32 a33 a34 i0 i2 i4 i8 i9 (nI rs) (nI rq) i17 i26 i35 zs fr nn (rs - 1) ((ra + 1) + 1) o_13 o_14) (cwV 3 hts gX10_readsLamp_X10_figure rfl rfl rfl cd_X10_figure ⟨Nat.le_of_ble_eq_true rfl, Nat.le_of_ble_eq_true rfl⟩) ⟨kB_blind, va_recv hK hP (ci := 9) (q0 := 0) rfl rfl, fun U hU hW => ⟨rfl, by rw [hU], by rw [hU]; exact hP.sub [0, 3] rfl, va_K.moved hW.alike hK, (hD.sub [0, 3] (by decide) rfl).weaken (fun _ _ _ _ => trivial)⟩⟩ rfl rfl hl.1 rfl (lv_room (Nat.le_of_ble_eq_true rfl)) dX10_readsLamp_77 ⟨Nat.le_of_ble_eq_true rfl, Nat.le_of_ble_eq_true rfl⟩) hS (fun q _ h => hF q h) hF (fun r_15 u_15 t H1 locs ht hvm hw_15 hB hz1 hk1 hS => ?_)
          obtain ⟨hP, hD⟩ := kk_join2 (wc := [(m0, .inr (9, [.int i0, .ref a1, .int i2, .ref a3, .int i4, .ref a5, .ref a6, .ref a7, .int i8, .int i9, .int (nI ((ra + 1) + 1)), .int (nI rs), .int (nI rq), .ref a13, .ref a14, .ref a15, .ref a16, .int i17, .ref a18, .ref a19, .ref a20, .ref a21, .ref a22, .ref a23, .ref a24, .ref a25, .int i26, .ref a27, .ref a28, .ref a29, .ref a30, .ref a31, .ref a32, .ref a33, .ref a34, .int i35])), (a33, .inl (cI, 240, .inl zs))]) (w1 := [(m0, .inr (9, [.int i0, .ref a1, .int i2, .ref a3, .int i4, .ref a5, .ref a6, .ref a7, .int i8, .int i9, .int (nI u_15), .int (nI rs), .int (nI rq), .ref a13, .ref a14, .ref a15, .ref a16, .int i17, .ref a18, .ref a19, .ref a20, .ref a21, .ref a22, .ref a23, .ref a24, .ref a25, .int i26, .ref a27, .ref a28, .ref a29, .ref a30, .ref a31, .ref a32, .ref a33, .ref a34, .int i35])), (a33, .inl (cI, 240, .inl zs))]) (ws' := [(m0, .inr (9, [.int i0, .ref a1, .int i2, .ref a3, .int i4, .ref a5, .ref a6, .ref a7, .int i8, .int i9, .int (nI u_15), .int (nI rs), .int (nI rq), .ref a13, .ref a14, .ref a15, .ref a16, .int i17, .ref a18, .ref a19, .ref a20, .ref a21, .ref a22, .ref a23, .ref a24, .ref a25, .int i26, .ref a27, .ref a28, .ref a29, .ref a30, .ref a31, .ref a32, .ref a33, .ref a34, .int i35])), (a15, .inl (cI, 4, .inl qk)), (a16, .inl (cI, 4, .inl qt)), (a33, .inl (cI, 240, .inl zs))]) (wr := [(a15, .inl (cI, 4, .inl qk)), (a16, .inl (cI, 4, .inl qt))]) (H1 := H1) hP hD [0, 3] [1, 2] rfl rfl rfl rfl 4 rfl (by decide) [m0, a15, a16, a33] rfl rfl hk1 (by rw [← ht]; exact hB)
          have hw_15 : (dg (cdT zs fr nn) ((ra + 1) + 1) ((rs - 1) + 1) = true ∧ r_15 = nI (dv (cdT zs fr nn) ((ra + 1) + 1)) ∧ u_15 = ((ra + 1) + 1) + 1) ∨ (dg (cdT zs fr nn) ((ra + 1) + 1) ((rs - 1) + 1) = false ∧ r_15 = (-9) ∧ u_15 = ((ra + 1) + 1)) := hw_15
          clear hF hB hk1 hz1 hvm
          clear ht
          generalize H1 = H at hP hS ⊢
          rcases hw_15 with ⟨q1, q2, q3⟩ | ⟨q1, q2, q3⟩
          · skip
            have q2 := q2.symm
            have q3 := q3.symm
            subst q2 q3
            have qd := (dg_t q1).1
            refine lv_istore (lv' := [(4, .int (nI (dv (cdT zs fr nn) ((ra + 1) + 1)))), (3, .int (cdT zs fr n (ra + 1))), (0, .ref m0), (1, .int (nI fr)), (2, .int (nI nn))]) hx hb dX10_readsLamp_80 hl (by decide) rfl (fun ls hl => ?_)
            refine lv_iload hx hb dX10_readsLamp_82 (lv_at hl 0 rfl) ?_
            refine kk_if_ge (tgt := 89) hx hb dX10_readsLamp_84 (by decide) (by omega) ?_
            refine lv_aload_n hx hb dX10_readsLamp_89 rfl (lv_at hl 2 rfl) ?_
            refine va_get (D := D) (ci := 9) (v := .ref a15) (C := RX10) (T := TX10) (N := 36) hx hb hts hwX10 hown hK hP 0 rfl rfl 15 (by decide) hf_31 (fun _ h9 => h9) rfl dX10_readsLamp_90 ?_
            refine lv_aload_n hx hb dX10_readsLamp_93 rfl (lv_at hl 2 rfl) ?_
            refine va_get (D := D) (ci := 9) (v := .int (nI rq)) (C := RX10) (T := TX10) (N := 36) hx hb hts hwX10 hown hK hP 0 rfl rfl 12 (by decide) hf_124 (fun _ h9 => h9) rfl dX10_readsLamp_94 ?_
            refine lv_iload_n hx hb dX10_readsLamp_97 rfl (lv_at hl 1 rfl) ?_
            refine lv_bipush (v := nI 108) hx hb dX10_readsLamp_98 (by decide +kernel) ?_
            refine lv_icmp_ne (tgt := 107) hx hb dX10_readsLamp_100 (by decide) (fun c_16 => ?_) (fun c_16 => ?_)
            · skip
              refine lv_iload_n hx hb dX10_readsLamp_107 rfl (lv_at hl 1 rfl) ?_
              refine lv_bipush (v := nI 109) hx hb dX10_readsLamp_108 (by decide +kernel) ?_
              refine lv_icmp_ne (tgt := 117) hx hb dX10_readsLamp_110 (by decide) (fun c_17 => ?_) (fun c_17 => ?_)
              · skip
                exact absurd c_12 c_17
              · skip
                refine lv_iconst (v := nI 1) hx hb dX10_readsLamp_113 (by decide +kernel) ?_
                refine lv_goto (tgt := 118) hx hb dX10_readsLamp_114 (by decide) ?_
                refine kk_iast hx hb hK hP hD hS 1 rfl rfl (i := rq) (by omega) (by decide) dX10_readsLamp_118 (fun H locs hP hD hS => ?_)
                have hP : va_P D vwCl [(m0, .inr (9, [.int i0, .ref a1, .int i2, .ref a3, .int i4, .ref a5, .ref a6, .ref a7, .int i8, .int i9, .int (nI ((ra + 1) + 1 + 1)), .int (nI rs), .int (nI rq), .ref a13, .ref a14, .ref a15, .ref a16, .int i17, .ref a18, .ref a19, .ref a20, .ref a21, .ref a22, .ref a23, .ref a24, .ref a25, .int i26, .ref a27, .ref a28, .ref a29, .ref a30, .ref a31, .ref a32, .ref a33, .ref a34, .int i35])), (a15, .inl (cI, 4, .inl (upd qk rq (nI 1)))), (a16, .inl (cI, 4, .inl qt)), (a33, .inl (cI, 240, .inl zs))] H := hP
                have hD : va_D A [(m0, .inr (9, [.int i0, .ref a1, .int i2, .ref a3, .int i4, .ref a5, .ref a6, .ref a7, .int i8, .int i9, .int (nI ((ra + 1) + 1 + 1)), .int (nI rs), .int (nI rq), .ref a13, .ref a14, .ref a15, .ref a16, .int i17, .ref a18, .ref a19, .ref a20, .ref a21, .ref a22, .ref a23, .ref a24, .ref a25, .int i26, .ref a27, .ref a28, .ref a29, .ref a30, .ref a31, .ref a32, .ref a33, .ref a34, .int i35])), (a15, .inl (cI, 4, .inl (upd qk rq (nI 1)))), (a16, .inl (cI, 4, .inl qt)), (a33, .inl (cI, 240, .inl zs))] := hD
                refine lv_aload_n hx hb dX10_readsLamp_119 rfl (lv_at hl 2 rfl) ?_
                refine va_get (D := D) (ci := 9) (v := .ref a16) (C := RX10) (T := TX10) (N := 36) hx hb hts hwX10 hown hK hP 0 rfl rfl 16 (by decide) hf_34 (fun _ h9 => h9) rfl dX10_readsLamp_120 ?_
                refine lv_aload_n hx hb dX10_readsLamp_123 rfl (lv_at hl 2 rfl) ?_
                refine va_get (D := D) (ci := 9) (v := .int (nI rq)) (C := RX10) (T := TX10) (N := 36) hx hb hts hwX10 hown hK hP 0 rfl rfl 12 (by decide) hf_124 (fun _ h9 => h9) rfl dX10_readsLamp_124 ?_
                refine lv_iload hx hb dX10_readsLamp_127 (lv_at hl 0 rfl) ?_
                refine kk_iast hx hb hK hP hD hS 2 rfl rfl (i := rq) (by omega) (by decide) dX10_readsLamp_129 (fun H locs hP hD hS => ?_)
                have hP : va_P D vwCl [(m0, .inr (9, [.int i0, .ref a1, .int i2, .ref a3, .int i4, .ref a5, .ref a6, .ref a7, .int i8, .int i9, .int (nI ((ra + 1) + 1 + 1)), .int (nI rs), .int (nI rq), .ref a13, .ref a14, .ref a15, .ref a16, .int i17, .ref a18, .ref a19, .ref a20, .ref a21, .ref a22, .ref a23, .ref a24, .ref a25, .int i26, .ref a27, .ref a28, .ref a29, .ref a30, .ref a31, .ref a32, .ref a33, .ref a34, .int i35])), (a15, .inl (cI, 4, .inl (upd qk rq (nI 1)))), (a16, .inl (cI, 4, .inl (upd qt rq (nI (dv (cdT zs fr nn) ((ra + 1) + 1)))))), (a33, .inl (cI, 240, .inl zs))] H := hP
                have hD : va_D A [(m0, .inr (9, [.int i0, .ref a1, .int i2, .ref a3, .int i4, .ref a5, .ref a6, .ref a7, .int i8, .int i9, .int (nI ((ra + 1) + 1 + 1)), .int (nI rs), .int (nI rq), .ref a13, .ref a14, .ref a15, .ref a16, .int i17, .ref a18, .ref a19, .ref a20, .ref a21, .ref a22, .ref a23, .ref a24, .ref a25, .int i26, .ref a27, .ref a28, .ref a29, .ref a30, .ref a31, .ref a32, .ref a33, .ref a34, .int i35])), (a15, .inl (cI, 4, .inl (upd qk rq (nI 1)))), (a16, .inl (cI, 4, .inl (upd qt rq (nI (dv (cdT zs fr nn) ((ra + 1) + 1)))))), (a33, .inl (cI, 240, .inl zs))] := hD
                refine lv_aload_n hx hb dX10_readsLamp_130 rfl (lv_at hl 2 rfl) ?_
                refine lv_dup hx hb dX10_readsLamp_131 rfl ?_
                refine va_get (D := D) (ci := 9) (v := .int (nI rq)) (C := RX10) (T := TX10) (N := 36) hx hb hts hwX10 hown hK hP 0 rfl rfl 12 (by decide) hf_124 (fun _ h9 => h9) rfl dX10_readsLamp_132 ?_
                refine lv_iconst (v := nI 1) hx hb dX10_readsLamp_135 (by decide +kernel) ?_
                refine kk_iadd hx hb dX10_readsLamp_136 ?_
                refine va_put (D := D) (ci := 9) (v := .int (nI (rq + 1))) (ty := .int) (C := RX10) (T := TX10) (N := 36) hx hb hts hwX10 tyX10 tyX10_ok nmX10 hown hK hP hD hS 0 rfl rfl 12 (by decide) hf_124 (fun _ h9 => h9) rfl (by decide +kernel) rfl rfl (Nat.le_of_ble_eq_true rfl) dX10_readsLamp_137 (fun H locs hP hD hS => ?_)
                have hP : va_P D vwCl [(m0, .inr (9, [.int i0, .ref a1, .int i2, .ref a3, .int i4, .ref a5, .ref a6, .ref a7, .int i8, .int i9, .int (nI ((ra + 1) + 1 + 1)), .int (nI rs), .int (nI (rq + 1)), .ref a13, .ref a14, .ref a15, .ref a16, .int i17, .ref a18, .ref a19, .ref a20, .ref a21, .ref a22, .ref a23, .ref a24, .ref a25, .int i26, .ref a27, .ref a28, .ref a29, .ref a30, .ref a31, .ref a32, .ref a33, .ref a34, .int i35])), (a15, .inl (cI, 4, .inl (upd qk rq (nI 1)))), (a16, .inl (cI, 4, .inl (upd qt rq (nI (dv (cdT zs fr nn) ((ra + 1) + 1)))))), (a33, .inl (cI, 240, .inl zs))] H := hP
                have hD : va_D A [(m0, .inr (9, [.int i0, .ref a1, .int i2, .ref a3, .int i4, .ref a5, .ref a6, .ref a7, .int i8, .int i9, .int (nI ((ra + 1) + 1 + 1)), .int (nI rs), .int (nI (rq + 1)), .ref a13, .ref a14, .ref a15, .ref a16, .int i17, .ref a18, .ref a19, .ref a20, .ref a21, .ref a22, .ref a23, .ref a24, .ref a25, .int i26, .ref a27, .ref a28, .ref a29, .ref a30, .ref a31, .ref a32, .ref a33, .ref a34, .int i35])), (a15, .inl (cI, 4, .inl (upd qk rq (nI 1)))), (a16, .inl (cI, 4, .inl (upd qt rq (nI (dv (cdT zs fr nn) ((ra + 1) + 1)))))), (a33, .inl (cI, 240, .inl zs))] := hD
                refine lv_iconst (v := nI 1) hx hb dX10_readsLamp_140 (by decide +kernel) ?_
                have hq : (rq < 4 ∧ (cdT zs fr nn) ra = nI 44 ∧ isK ((cdT zs fr nn) (ra + 1)) = true ∧ dg (cdT zs fr nn) (ra + 2) rs = true ∧ (nI 1) = nI 1 ∧ ((ra + 1) + 1 + 1) = ra + 3 ∧ (rq + 1) = rq + 1 ∧ (upd qk rq (nI 1)) = upd qk rq (nI (kdOf ((cdT zs fr nn) (ra + 1)))) ∧ (upd qt rq (nI (dv (cdT zs fr nn) ((ra + 1) + 1)))) = upd qt rq (nI (dv (cdT zs fr nn) (ra + 2)))) ∨ ((nI 1) = nI 0 ∧ (rq + 1) = rq ∧ (upd qk rq (nI 1)) = qk ∧ (upd qt rq (nI (dv (cdT zs fr nn) ((ra + 1) + 1)))) = qt ∧ ((¬ (rq < 4 ∧ (cdT zs fr nn) ra = nI 44) ∧ ((ra + 1) + 1 + 1) = ra) ∨ (rq < 4 ∧ (cdT zs fr nn) ra = nI 44 ∧ isK ((cdT zs fr nn) (ra + 1)) = false ∧ ((ra + 1) + 1 + 1) = ra + 1) ∨ (rq < 4 ∧ (cdT zs fr nn) ra = nI 44 ∧ isK ((cdT zs fr nn) (ra + 1)) = true ∧ dg (cdT zs fr nn) (ra + 2) rs = false ∧ ((ra + 1) + 1 + 1) = ra + 2))) := by
                  rw [show rs - 1 + 1 = rs by omega] at q1
                  exact Or.inl ⟨by omega, c_4, (isK_1 c_7 c_12).1, q1, rfl, rfl, rfl, by rw [(isK_1 c_7 c_12).2], rfl⟩
                refine kk_QQ hQQ ?_
                exact W.zret (v := nI 1) (ty := .boolean) hx hb hr (by decide +kernel) (fun t ht hW => ⟨⟨nI 1, (((ra + 1) + 1 + 1), rq + 1, upd qk rq (nI 1), upd qt rq (nI (dv (cdT zs fr nn) ((ra + 1) + 1)))), rfl, hq, by show va_P D vwCl _ t.heap; rw [ht]; exact hP⟩, hS.F ht⟩) hS.2.2 dX10_readsLamp_141
            · skip
              exact absurd c_16 c_7
          · skip
            have q2 := q2.symm
            have q3 := q3.symm
            subst q2 q3
            refine lv_istore (lv' := [(4, .int (-9 : Int32)), (3, .int (cdT zs fr n (ra + 1))), (0, .ref m0), (1, .int (nI fr)), (2, .int (nI nn))]) hx hb dX10_readsLamp_80 hl (by decide) rfl (fun ls hl => ?_)
            refine lv_iload hx hb dX10_readsLamp_82 (lv_at hl 0 rfl) ?_
            refine lv_if_ge (tgt := 89) hx hb dX10_readsLamp_84 (by decide) (fun h => absurd h (by decide)) (fun h => ?_)
            refine lv_iconst (v := nI 0) hx hb dX10_readsLamp_87 (by decide +kernel) ?_
            have hq : (rq < 4 ∧ (cdT zs fr nn) ra = nI 44 ∧ isK ((cdT zs fr nn) (ra + 1)) = true ∧ dg (cdT zs fr nn) (ra + 2) rs = true ∧ (nI 0) = nI 1 ∧ ((ra + 1) + 1) = ra + 3 ∧ rq = rq + 1 ∧ qk = upd qk rq (nI (kdOf ((cdT zs fr nn) (ra + 1)))) ∧ qt = upd qt rq (nI (dv (cdT zs fr nn) (ra + 2)))) ∨ ((nI 0) = nI 0 ∧ rq = rq ∧ qk = qk ∧ qt = qt ∧ ((¬ (rq < 4 ∧ (cdT zs fr nn) ra = nI 44) ∧ ((ra + 1) + 1) = ra) ∨ (rq < 4 ∧ (cdT zs fr nn) ra = nI 44 ∧ isK ((cdT zs fr nn) (ra + 1)) = false ∧ ((ra + 1) + 1) = ra + 1) ∨ (rq < 4 ∧ (cdT zs fr nn) ra = nI 44 ∧ isK ((cdT zs fr nn) (ra + 1)) = true ∧ dg (cdT zs fr nn) (ra + 2) rs = false ∧ ((ra + 1) + 1) = ra + 2))) := by
              rw [show rs - 1 + 1 = rs by omega] at q1
              exact Or.inr ⟨rfl, rfl, rfl, rfl, Or.inr (Or.inr ⟨by omega, c_4, (isK_1 c_7 c_12).1, q1, rfl⟩)⟩
            refine kk_QQ hQQ ?_
            exact W.zret (v := nI 0) (ty := .boolean) hx hb hr (by decide +kernel) (fun t ht hW => ⟨⟨nI 0, (((ra + 1) + 1), rq, qk, qt), rfl, hq, by show va_P D vwCl _ t.heap; rw [ht]; exact hP⟩, hS.F ht⟩) hS.2.2 dX10_readsLamp_88
        · skip
          refine lv_iload_n hx hb dX10_readsLamp_50 rfl (lv_at hl 0 rfl) ?_
          refine lv_bipush (v := nI 102) hx hb dX10_readsLamp_51 (by decide +kernel) ?_
          refine lv_icmp_eq (tgt := 58) hx hb dX10_readsLamp_53 (by decide) (fun c_18 => ?_) (fun c_18 => ?_)
          · skip
            refine lv_aload_n hx hb dX10_readsLamp_58 rfl (lv_at hl 1 rfl) ?_
            refine lv_dup hx hb dX10_readsLamp_59 rfl ?_
            refine va_get (D := D) (ci := 9) (v := .int (nI (ra + 1))) (C := RX10) (T := TX10) (N := 36) hx hb hts hwX10 hown hK hP 0 rfl rfl 10 (by decide) hf_110 (fun _ h9 => h9) rfl dX10_readsLamp_60 ?_
            refine lv_iconst (v := nI 1) hx hb dX10_readsLamp_63 (by decide +kernel) ?_
            refine kk_iadd hx hb dX10_readsLamp_64 ?_
            refine va_put (D := D) (ci := 9) (v := .int (nI ((ra + 1) + 1))) (ty := .int) (C := RX10) (T := TX10) (N := 36) hx hb hts hwX10 tyX10 tyX10_ok nmX10 hown hK hP hD hS 0 rfl rfl 10 (by decide) hf_110 (fun _ h9 => h9) rfl (by decide +kernel) rfl rfl (Nat.le_of_ble_eq_true rfl) dX10_readsLamp_65 (fun H locs hP hD hS => ?_)
            have hP : va_P D vwCl [(m0, .inr (9, [.int i0, .ref a1, .int i2, .ref a3, .int i4, .ref a5, .ref a6, .ref a7, .int i8, .int i9, .int (nI ((ra + 1) + 1)), .int (nI rs), .int (nI rq), .ref a13, .ref a14, .ref a15, .ref a16, .int i17, .ref a18, .ref a19, .ref a20, .ref a21, .ref a22, .ref a23, .ref a24, .ref a25, .int i26, .ref a27, .ref a28, .ref a29, .ref a30, .ref a31, .ref a32, .ref a33, .ref a34, .int i35])), (a15, .inl (cI, 4, .inl qk)), (a16, .inl (cI, 4, .inl qt)), (a33, .inl (cI, 240, .inl zs))] H := hP
            have hD : va_D A [(m0, .inr (9, [.int i0, .ref a1, .int i2, .ref a3, .int i4, .ref a5, .ref a6, .ref a7, .int i8, .int i9, .int (nI ((ra + 1) + 1)), .int (nI rs), .int (nI rq), .ref a13, .ref a14, .ref a15, .ref a16, .int i17, .ref a18, .ref a19, .ref a20, .ref a21, .ref a22, .ref a23, .ref a24, .ref a25, .int i26, .ref a27, .ref a28, .ref a29, .ref a30, .ref a31, .ref a32, .ref a33, .ref a34, .int i35])), (a15, .inl (cI, 4, .inl qk)), (a16, .inl (cI, 4, .inl qt)), (a33, .inl (cI, 240, .inl zs))] := hD
            refine lv_aload_n hx hb dX10_readsLamp_68 rfl (lv_at hl 1 rfl) ?_
            refine lv_iload_n hx hb dX10_readsLamp_69 rfl (lv_at hl 2 rfl) ?_
            refine lv_iload_n hx hb dX10_readsLamp_70 rfl (lv_at hl 3 rfl) ?_
            refine lv_aload_n hx hb dX10_readsLamp_71 rfl (lv_at hl 1 rfl) ?_
            refine va_get (D := D) (ci := 9) (v := .int (nI rs)) (C := RX10) (T := TX10) (N := 36) hx hb hts hwX10 hown hK hP 0 rfl rfl 11 (by decide) hf_117 (fun _ h9 => h9) rfl dX10_readsLamp_72 ?_
            refine lv_iconst (v := nI 1) hx hb dX10_readsLamp_75 (by decide +kernel) ?_
            refine kk_isub hx hb dX10_readsLamp_76 (by omega) ?_
            have o_19 : fr + nn ≤ 240 := by omega
            have o_20 : (rs - 1) ≤ 9 := by omega
            have hF := va_free (wc := [(m0, .inr (9, [.int i0, .ref a1, .int i2, .ref a3, .int i4, .ref a5, .ref a6, .ref a7, .int i8, .int i9, .int (nI ((ra + 1) + 1)), .int (nI rs), .int (nI rq), .ref a13, .ref a14, .ref a15, .ref a16, .int i17, .ref a18, .ref a19, .ref a20, .ref a21, .ref a22, .ref a23, .ref a24, .ref a25, .int i26, .ref a27, .ref a28, .ref a29, .ref a30, .ref a31, .ref a32, .ref a33, .ref a34, .int i35])), (a33, .inl (cI, 240, .inl zs))]) hD hS hA [0, 3] rfl
            refine va_calli (va_runV (As := [.int (nI fr), .int (nI nn), .int (nI (rs - 1))]) (rest := []) ⟨hx, hb, hml, hown, hts⟩ (c_X10_figure lL D cI cS _ m0 a1 a3 a5 a6 a7 a13 a14 a15 a16 a18 a19 a20 a21 a22 a23 a24 a25 a27 a28 a29 a30 a31 a32 a33 a34 i0 i2 i4 i8 i9 (nI rs) (nI rq) i17 i26 i35 zs fr nn (rs - 1) ((ra + 1) + 1) o_19 o_20) (cwV 3 hts gX10_readsLamp_X10_figure rfl rfl rfl cd_X10_figure ⟨Nat.le_of_ble_eq_true rfl, Nat.le_of_ble_eq_true rfl⟩) ⟨kB_blind, va_recv hK hP (ci := 9) (q0 := 0) rfl rfl, fun U hU hW => ⟨rfl, by rw [hU], by rw [hU]; exact hP.sub [0, 3] rfl, va_K.moved hW.alike hK, (hD.sub [0, 3] (by decide) rfl).weaken (fun _ _ _ _ => trivial)⟩⟩ rfl rfl hl.1 rfl (lv_room (Nat.le_of_ble_eq_true rfl)) dX10_readsLamp_77 ⟨Nat.le_of_ble_eq_true rfl, Nat.le_of_ble_eq_true rfl⟩) hS (fun q _ h => hF q h) hF (fun r_21 u_21 t H1 locs ht hvm hw_21 hB hz1 hk1 hS => ?_)
            obtain ⟨hP, hD⟩ := kk_join2 (wc := [(m0, .inr (9, [.int i0, .ref a1, .int i2, .ref a3, .int i4, .ref a5, .ref a6, .ref a7, .int i8, .int i9, .int (nI ((ra + 1) + 1)), .int (nI rs), .int (nI rq), .ref a13, .ref a14, .ref a15, .ref a16, .int i17, .ref a18, .ref a19, .ref a20, .ref a21, .ref a22, .ref a23, .ref a24, .ref a25, .int i26, .ref a27, .ref a28, .ref a29, .ref a30, .ref a31, .ref a32, .ref a33, .ref a34, .int i35])), (a33, .inl (cI, 240, .inl zs))]) (w1 := [(m0, .inr (9, [.int i0, .ref a1, .int i2, .ref a3, .int i4, .ref a5, .ref a6, .ref a7, .int i8, .int i9, .int (nI u_21), .int (nI rs), .int (nI rq), .ref a13, .ref a14, .ref a15, .ref a16, .int i17, .ref a18, .ref a19, .ref a20, .ref a21, .ref a22, .ref a23, .ref a24, .ref a25, .int i26, .ref a27, .ref a28, .ref a29, .ref a30, .ref a31, .ref a32, .ref a33, .ref a34, .int i35])), (a33, .inl (cI, 240, .inl zs))]) (ws' := [(m0, .inr (9, [.int i0, .ref a1, .int i2, .ref a3, .int i4, .ref a5, .ref a6, .ref a7, .int i8, .int i9, .int (nI u_21), .int (nI rs), .int (nI rq), .ref a13, .ref a14, .ref a15, .ref a16, .int i17, .ref a18, .ref a19, .ref a20, .ref a21, .ref a22, .ref a23, .ref a24, .ref a25, .int i26, .ref a27, .ref a28, .ref a29, .ref a30, .ref a31, .ref a32, .ref a33, .ref a34, .int i35])), (a15, .inl (cI, 4, .inl qk)), (a16, .inl (cI, 4, .inl qt)), (a33, .inl (cI, 240, .inl zs))]) (wr := [(a15, .inl (cI, 4, .inl qk)), (a16, .inl (cI, 4, .inl qt))]) (H1 := H1) hP hD [0, 3] [1, 2] rfl rfl rfl rfl 4 rfl (by decide) [m0, a15, a16, a33] rfl rfl hk1 (by rw [← ht]; exact hB)
            have hw_21 : (dg (cdT zs fr nn) ((ra + 1) + 1) ((rs - 1) + 1) = true ∧ r_21 = nI (dv (cdT zs fr nn) ((ra + 1) + 1)) ∧ u_21 = ((ra + 1) + 1) + 1) ∨ (dg (cdT zs fr nn) ((ra + 1) + 1) ((rs - 1) + 1) = false ∧ r_21 = (-9) ∧ u_21 = ((ra + 1) + 1)) := hw_21
            clear hF hB hk1 hz1 hvm
            clear ht
            generalize H1 = H at hP hS ⊢
            rcases hw_21 with ⟨q1, q2, q3⟩ | ⟨q1, q2, q3⟩
            · skip
              have q2 := q2.symm
              have q3 := q3.symm
              subst q2 q3
              have qd := (dg_t q1).1
              refine lv_istore (lv' := [(4, .int (nI (dv (cdT zs fr nn) ((ra + 1) + 1)))), (3, .int (cdT zs fr n (ra + 1))), (0, .ref m0), (1, .int (nI fr)), (2, .int (nI nn))]) hx hb dX10_readsLamp_80 hl (by decide) rfl (fun ls hl => ?_)
              refine lv_iload hx hb dX10_readsLamp_82 (lv_at hl 0 rfl) ?_
              refine kk_if_ge (tgt := 89) hx hb dX10_readsLamp_84 (by decide) (by omega) ?_
              refine lv_aload_n hx hb dX10_readsLamp_89 rfl (lv_at hl 2 rfl) ?_
              refine va_get (D := D) (ci := 9) (v := .ref a15) (C := RX10) (T := TX10) (N := 36) hx hb hts hwX10 hown hK hP 0 rfl rfl 15 (by decide) hf_31 (fun _ h9 => h9) rfl dX10_readsLamp_90 ?_
              refine lv_aload_n hx hb dX10_readsLamp_93 rfl (lv_at hl 2 rfl) ?_
              refine va_get (D := D) (ci := 9) (v := .int (nI rq)) (C := RX10) (T := TX10) (N := 36) hx hb hts hwX10 hown hK hP 0 rfl rfl 12 (by decide) hf_124 (fun _ h9 => h9) rfl dX10_readsLamp_94 ?_
              refine lv_iload_n hx hb dX10_readsLamp_97 rfl (lv_at hl 1 rfl) ?_
              refine lv_bipush (v := nI 108) hx hb dX10_readsLamp_98 (by decide +kernel) ?_
              refine lv_icmp_ne (tgt := 107) hx hb dX10_readsLamp_100 (by decide) (fun c_22 => ?_) (fun c_22 => ?_)
              · skip
                refine lv_iload_n hx hb dX10_readsLamp_107 rfl (lv_at hl 1 rfl) ?_
                refine lv_bipush (v := nI 109) hx hb dX10_readsLamp_108 (by decide +kernel) ?_
                refine lv_icmp_ne (tgt := 117) hx hb dX10_readsLamp_110 (by decide) (fun c_23 => ?_) (fun c_23 => ?_)
                · skip
                  refine lv_iconst (v := nI 2) hx hb dX10_readsLamp_117 (by decide +kernel) ?_
                  refine kk_iast hx hb hK hP hD hS 1 rfl rfl (i := rq) (by omega) (by decide) dX10_readsLamp_118 (fun H locs hP hD hS => ?_)
                  have hP : va_P D vwCl [(m0, .inr (9, [.int i0, .ref a1, .int i2, .ref a3, .int i4, .ref a5, .ref a6, .ref a7, .int i8, .int i9, .int (nI ((ra + 1) + 1 + 1)), .int (nI rs), .int (nI rq), .ref a13, .ref a14, .ref a15, .ref a16, .int i17, .ref a18, .ref a19, .ref a20, .ref a21, .ref a22, .ref a23, .ref a24, .ref a25, .int i26, .ref a27, .ref a28, .ref a29, .ref a30, .ref a31, .ref a32, .ref a33, .ref a34, .int i35])), (a15, .inl (cI, 4, .inl (upd qk rq (nI 2)))), (a16, .inl (cI, 4, .inl qt)), (a33, .inl (cI, 240, .inl zs))] H := hP
                  have hD : va_D A [(m0, .inr (9, [.int i0, .ref a1, .int i2, .ref a3, .int i4, .ref a5, .ref a6, .ref a7, .int i8, .int i9, .int (nI ((ra + 1) + 1 + 1)), .int (nI rs), .int (nI rq), .ref a13, .ref a14, .ref a15, .ref a16, .int i17, .ref a18, .ref a19, .ref a20, .ref a21, .ref a22, .ref a23, .ref a24, .ref a25, .int i26, .ref a27, .ref a28, .ref a29, .ref a30, .ref a31, .ref a32, .ref a33, .ref a34, .int i35])), (a15, .inl (cI, 4, .inl (upd qk rq (nI 2)))), (a16, .inl (cI, 4, .inl qt)), (a33, .inl (cI, 240, .inl zs))] := hD
                  refine lv_aload_n hx hb dX10_readsLamp_119 rfl (lv_at hl 2 rfl) ?_
                  refine va_get (D := D) (ci := 9) (v := .ref a16) (C := RX10) (T := TX10) (N := 36) hx hb hts hwX10 hown hK hP 0 rfl rfl 16 (by decide) hf_34 (fun _ h9 => h9) rfl dX10_readsLamp_120 ?_
                  refine lv_aload_n hx hb dX10_readsLamp_123 rfl (lv_at hl 2 rfl) ?_
                  refine va_get (D := D) (ci := 9) (v := .int (nI rq)) (C := RX10) (T := TX10) (N := 36) hx hb hts hwX10 hown hK hP 0 rfl rfl 12 (by decide) hf_124 (fun _ h9 => h9) rfl dX10_readsLamp_124 ?_
                  refine lv_iload hx hb dX10_readsLamp_127 (lv_at hl 0 rfl) ?_
                  refine kk_iast hx hb hK hP hD hS 2 rfl rfl (i := rq) (by omega) (by decide) dX10_readsLamp_129 (fun H locs hP hD hS => ?_)
                  have hP : va_P D vwCl [(m0, .inr (9, [.int i0, .ref a1, .int i2, .ref a3, .int i4, .ref a5, .ref a6, .ref a7, .int i8, .int i9, .int (nI ((ra + 1) + 1 + 1)), .int (nI rs), .int (nI rq), .ref a13, .ref a14, .ref a15, .ref a16, .int i17, .ref a18, .ref a19, .ref a20, .ref a21, .ref a22, .ref a23, .ref a24, .ref a25, .int i26, .ref a27, .ref a28, .ref a29, .ref a30, .ref a31, .ref a32, .ref a33, .ref a34, .int i35])), (a15, .inl (cI, 4, .inl (upd qk rq (nI 2)))), (a16, .inl (cI, 4, .inl (upd qt rq (nI (dv (cdT zs fr nn) ((ra + 1) + 1)))))), (a33, .inl (cI, 240, .inl zs))] H := hP
                  have hD : va_D A [(m0, .inr (9, [.int i0, .ref a1, .int i2, .ref a3, .int i4, .ref a5, .ref a6, .ref a7, .int i8, .int i9, .int (nI ((ra + 1) + 1 + 1)), .int (nI rs), .int (nI rq), .ref a13, .ref a14, .ref a15, .ref a16, .int i17, .ref a18, .ref a19, .ref a20, .ref a21, .ref a22, .ref a23, .ref a24, .ref a25, .int i26, .ref a27, .ref a28, .ref a29, .ref a30, .ref a31, .ref a32, .ref a33, .ref a34, .int i35])), (a15, .inl (cI, 4, .inl (upd qk rq (nI 2)))), (a16, .inl (cI, 4, .inl (upd qt rq (nI (dv (cdT zs fr nn) ((ra + 1) + 1)))))), (a33, .inl (cI, 240, .inl zs))] := hD
                  refine lv_aload_n hx hb dX10_readsLamp_130 rfl (lv_at hl 2 rfl) ?_
                  refine lv_dup hx hb dX10_readsLamp_131 rfl ?_
                  refine va_get (D := D) (ci := 9) (v := .int (nI rq)) (C := RX10) (T := TX10) (N := 36) hx hb hts hwX10 hown hK hP 0 rfl rfl 12 (by decide) hf_124 (fun _ h9 => h9) rfl dX10_readsLamp_132 ?_
                  refine lv_iconst (v := nI 1) hx hb dX10_readsLamp_135 (by decide +kernel) ?_
                  refine kk_iadd hx hb dX10_readsLamp_136 ?_
                  refine va_put (D := D) (ci := 9) (v := .int (nI (rq + 1))) (ty := .int) (C := RX10) (T := TX10) (N := 36) hx hb hts hwX10 tyX10 tyX10_ok nmX10 hown hK hP hD hS 0 rfl rfl 12 (by decide) hf_124 (fun _ h9 => h9) rfl (by decide +kernel) rfl rfl (Nat.le_of_ble_eq_true rfl) dX10_readsLamp_137 (fun H locs hP hD hS => ?_)
                  have hP : va_P D vwCl [(m0, .inr (9, [.int i0, .ref a1, .int i2, .ref a3, .int i4, .ref a5, .ref a6, .ref a7, .int i8, .int i9, .int (nI ((ra + 1) + 1 + 1)), .int (nI rs), .int (nI (rq + 1)), .ref a13, .ref a14, .ref a15, .ref a16, .int i17, .ref a18, .ref a19, .ref a20, .ref a21, .ref a22, .ref a23, .ref a24, .ref a25, .int i26, .ref a27, .ref a28, .ref a29, .ref a30, .ref a31, .ref a32, .ref a33, .ref a34, .int i35])), (a15, .inl (cI, 4, .inl (upd qk rq (nI 2)))), (a16, .inl (cI, 4, .inl (upd qt rq (nI (dv (cdT zs fr nn) ((ra + 1) + 1)))))), (a33, .inl (cI, 240, .inl zs))] H := hP
                  have hD : va_D A [(m0, .inr (9, [.int i0, .ref a1, .int i2, .ref a3, .int i4, .ref a5, .ref a6, .ref a7, .int i8, .int i9, .int (nI ((ra + 1) + 1 + 1)), .int (nI rs), .int (nI (rq + 1)), .ref a13, .ref a14, .ref a15, .ref a16, .int i17, .ref a18, .ref a19, .ref a20, .ref a21, .ref a22, .ref a23, .ref a24, .ref a25, .int i26, .ref a27, .ref a28, .ref a29, .ref a30, .ref a31, .ref a32, .ref a33, .ref a34, .int i35])), (a15, .inl (cI, 4, .inl (upd qk rq (nI 2)))), (a16, .inl (cI, 4, .inl (upd qt rq (nI (dv (cdT zs fr nn) ((ra + 1) + 1)))))), (a33, .inl (cI, 240, .inl zs))] := hD
                  refine lv_iconst (v := nI 1) hx hb dX10_readsLamp_140 (by decide +kernel) ?_
                  have hq : (rq < 4 ∧ (cdT zs fr nn) ra = nI 44 ∧ isK ((cdT zs fr nn) (ra + 1)) = true ∧ dg (cdT zs fr nn) (ra + 2) rs = true ∧ (nI 1) = nI 1 ∧ ((ra + 1) + 1 + 1) = ra + 3 ∧ (rq + 1) = rq + 1 ∧ (upd qk rq (nI 2)) = upd qk rq (nI (kdOf ((cdT zs fr nn) (ra + 1)))) ∧ (upd qt rq (nI (dv (cdT zs fr nn) ((ra + 1) + 1)))) = upd qt rq (nI (dv (cdT zs fr nn) (ra + 2)))) ∨ ((nI 1) = nI 0 ∧ (rq + 1) = rq ∧ (upd qk rq (nI 2)) = qk ∧ (upd qt rq (nI (dv (cdT zs fr nn) ((ra + 1) + 1)))) = qt ∧ ((¬ (rq < 4 ∧ (cdT zs fr nn) ra = nI 44) ∧ ((ra + 1) + 1 + 1) = ra) ∨ (rq < 4 ∧ (cdT zs fr nn) ra = nI 44 ∧ isK ((cdT zs fr nn) (ra + 1)) = false ∧ ((ra + 1) + 1 + 1) = ra + 1) ∨ (rq < 4 ∧ (cdT zs fr nn) ra = nI 44 ∧ isK ((cdT zs fr nn) (ra + 1)) = true ∧ dg (cdT zs fr nn) (ra + 2) rs = false ∧ ((ra + 1) + 1 + 1) = ra + 2))) := by
                    rw [show rs - 1 + 1 = rs by omega] at q1
                    exact Or.inl ⟨by omega, c_4, (isK_2 c_7 c_12 c_18).1, q1, rfl, rfl, rfl, by rw [(isK_2 c_7 c_12 c_18).2], rfl⟩
                  refine kk_QQ hQQ ?_
                  exact W.zret (v := nI 1) (ty := .boolean) hx hb hr (by decide +kernel) (fun t ht hW => ⟨⟨nI 1, (((ra + 1) + 1 + 1), rq + 1, upd qk rq (nI 2), upd qt rq (nI (dv (cdT zs fr nn) ((ra + 1) + 1)))), rfl, hq, by show va_P D vwCl _ t.heap; rw [ht]; exact hP⟩, hS.F ht⟩) hS.2.2 dX10_readsLamp_141
                · skip
                  exact absurd c_23 c_12
              · skip
                exact absurd c_22 c_7
            · skip
              have q2 := q2.symm
              have q3 := q3.symm
              subst q2 q3
              refine lv_istore (lv' := [(4, .int (-9 : Int32)), (3, .int (cdT zs fr n (ra + 1))), (0, .ref m0), (1, .int (nI fr)), (2, .int (nI nn))]) hx hb dX10_readsLamp_80 hl (by decide) rfl (fun ls hl => ?_)
              refine lv_iload hx hb dX10_readsLamp_82 (lv_at hl 0 rfl) ?_
              refine lv_if_ge (tgt := 89) hx hb dX10_readsLamp_84 (by decide) (fun h => absurd h (by decide)) (fun h => ?_)
              refine lv_iconst (v := nI 0) hx hb dX10_readsLamp_87 (by decide +kernel) ?_
              have hq : (rq < 4 ∧ (cdT zs fr nn) ra = nI 44 ∧ isK ((cdT zs fr nn) (ra + 1)) = true ∧ dg (cdT zs fr nn) (ra + 2) rs = true ∧ (nI 0) = nI 1 ∧ ((ra + 1) + 1) = ra + 3 ∧ rq = rq + 1 ∧ qk = upd qk rq (nI (kdOf ((cdT zs fr nn) (ra + 1)))) ∧ qt = upd qt rq (nI (dv (cdT zs fr nn) (ra + 2)))) ∨ ((nI 0) = nI 0 ∧ rq = rq ∧ qk = qk ∧ qt = qt ∧ ((¬ (rq < 4 ∧ (cdT zs fr nn) ra = nI 44) ∧ ((ra + 1) + 1) = ra) ∨ (rq < 4 ∧ (cdT zs fr nn) ra = nI 44 ∧ isK ((cdT zs fr nn) (ra + 1)) = false ∧ ((ra + 1) + 1) = ra + 1) ∨ (rq < 4 ∧ (cdT zs fr nn) ra = nI 44 ∧ isK ((cdT zs fr nn) (ra + 1)) = true ∧ dg (cdT zs fr nn) (ra + 2) rs = false ∧ ((ra + 1) + 1) = ra + 2))) := by
                rw [show rs - 1 + 1 = rs by omega] at q1
                exact Or.inr ⟨rfl, rfl, rfl, rfl, Or.inr (Or.inr ⟨by omega, c_4, (isK_2 c_7 c_12 c_18).1, q1, rfl⟩)⟩
              refine kk_QQ hQQ ?_
              exact W.zret (v := nI 0) (ty := .boolean) hx hb hr (by decide +kernel) (fun t ht hW => ⟨⟨nI 0, (((ra + 1) + 1), rq, qk, qt), rfl, hq, by show va_P D vwCl _ t.heap; rw [ht]; exact hP⟩, hS.F ht⟩) hS.2.2 dX10_readsLamp_88
          · skip
            refine lv_iconst (v := nI 0) hx hb dX10_readsLamp_56 (by decide +kernel) ?_
            have hq : (rq < 4 ∧ (cdT zs fr nn) ra = nI 44 ∧ isK ((cdT zs fr nn) (ra + 1)) = true ∧ dg (cdT zs fr nn) (ra + 2) rs = true ∧ (nI 0) = nI 1 ∧ (ra + 1) = ra + 3 ∧ rq = rq + 1 ∧ qk = upd qk rq (nI (kdOf ((cdT zs fr nn) (ra + 1)))) ∧ qt = upd qt rq (nI (dv (cdT zs fr nn) (ra + 2)))) ∨ ((nI 0) = nI 0 ∧ rq = rq ∧ qk = qk ∧ qt = qt ∧ ((¬ (rq < 4 ∧ (cdT zs fr nn) ra = nI 44) ∧ (ra + 1) = ra) ∨ (rq < 4 ∧ (cdT zs fr nn) ra = nI 44 ∧ isK ((cdT zs fr nn) (ra + 1)) = false ∧ (ra + 1) = ra + 1) ∨ (rq < 4 ∧ (cdT zs fr nn) ra = nI 44 ∧ isK ((cdT zs fr nn) (ra + 1)) = true ∧ dg (cdT zs fr nn) (ra + 2) rs = false ∧ (ra + 1) = ra + 2))) := by exact Or.inr ⟨rfl, rfl, rfl, rfl, Or.inr (Or.inl ⟨by omega, c_4, isK_n c_7 c_12 c_18, rfl⟩)⟩
            refine kk_QQ hQQ ?_
            exact W.zret (v := nI 0) (ty := .boolean) hx hb hr (by decide +kernel) (fun t ht hW => ⟨⟨nI 0, (ra + 1, rq, qk, qt), rfl, hq, by show va_P D vwCl _ t.heap; rw [ht]; exact hP⟩, hS.F ht⟩) hS.2.2 dX10_readsLamp_57
    · skip
      refine lv_iconst (v := nI 0) hx hb dX10_readsLamp_19 (by decide +kernel) ?_
      have hq : (rq < 4 ∧ (cdT zs fr nn) ra = nI 44 ∧ isK ((cdT zs fr nn) (ra + 1)) = true ∧ dg (cdT zs fr nn) (ra + 2) rs = true ∧ (nI 0) = nI 1 ∧ ra = ra + 3 ∧ rq = rq + 1 ∧ qk = upd qk rq (nI (kdOf ((cdT zs fr nn) (ra + 1)))) ∧ qt = upd qt rq (nI (dv (cdT zs fr nn) (ra + 2)))) ∨ ((nI 0) = nI 0 ∧ rq = rq ∧ qk = qk ∧ qt = qt ∧ ((¬ (rq < 4 ∧ (cdT zs fr nn) ra = nI 44) ∧ ra = ra) ∨ (rq < 4 ∧ (cdT zs fr nn) ra = nI 44 ∧ isK ((cdT zs fr nn) (ra + 1)) = false ∧ ra = ra + 1) ∨ (rq < 4 ∧ (cdT zs fr nn) ra = nI 44 ∧ isK ((cdT zs fr nn) (ra + 1)) = true ∧ dg (cdT zs fr nn) (ra + 2) rs = false ∧ ra = ra + 2))) := by exact Or.inr ⟨rfl, rfl, rfl, rfl, Or.inl ⟨fun z => c_4 z.2, rfl⟩⟩
      refine kk_QQ hQQ ?_
      exact W.zret (v := nI 0) (ty := .boolean) hx hb hr (by decide +kernel) (fun t ht hW => ⟨⟨nI 0, (ra, rq, qk, qt), rfl, hq, by show va_P D vwCl _ t.heap; rw [ht]; exact hP⟩, hS.F ht⟩) hS.2.2 dX10_readsLamp_20

abbrev rmX10_readsCoast : Room := { frames := 3, cells := 0, slots := 0, locals := 74 }
set_option maxHeartbeats 4000000 in
set_option maxRecDepth 100000 in
theorem c_X10_readsCoast (lL : Launch) (D : va_G) (cI cS : ClassId) (sz : Nat) (m0 : Nat) (a1 : Nat) (a3 : Nat) (a5 : Nat) (a6 : Nat) (a7 : Nat) (a13 : Nat) (a14 : Nat) (a15 : Nat) (a16 : Nat) (a18 : Nat) (a19 : Nat) (a20 : Nat) (a21 : Nat) (a22 : Nat) (a23 : Nat) (a24 : Nat) (a25 : Nat) (a27 : Nat) (a28 : Nat) (a29 : Nat) (a30 : Nat) (a31 : Nat) (a32 : Nat) (a33 : Nat) (a34 : Nat) (i0 : Int32) (i2 : Int32) (i4 : Int32) (i8 : Int32) (i9 : Int32) (i10 : Int32) (i11 : Int32) (i12 : Int32) (i17 : Int32) (i26 : Int32) (i35 : Int32) (qs : Nat → Int32) (qh : Nat → Int32) (qk : Nat → Int32) (qt : Nat → Int32) (zs : Nat → Int32) (fr : Nat) (nn : Nat) (hfn : fr + nn ≤ 240) : Met lL yX10_readsCoast wsX10_readsCoast rmX10_readsCoast (va_Pc [.ref m0, .int (nI fr), .int (nI nn)] (kB D cI cS [(m0, .inr (9, [.int i0, .ref a1, .int i2, .ref a3, .int i4, .ref a5, .ref a6, .ref a7, .int i8, .int i9, .int i10, .int i11, .int i12, .ref a13, .ref a14, .ref a15, .ref a16, .int i17, .ref a18, .ref a19, .ref a20, .ref a21, .ref a22, .ref a23, .ref a24, .ref a25, .int i26, .ref a27, .ref a28, .ref a29, .ref a30, .ref a31, .ref a32, .ref a33, .ref a34, .int i35])), (a13, .inl (cI, 6, .inl qs)), (a14, .inl (cI, 4, .inl qh)), (a15, .inl (cI, 4, .inl qk)), (a16, .inl (cI, 4, .inl qt)), (a33, .inl (cI, 240, .inl zs))] sz)) (kQi D (fun (r : Int32) (u : Nat × Nat × Nat × (Nat → Int32) × (Nat → Int32) × (Nat → Int32) × (Nat → Int32)) => r = kb (rdT (cdT zs fr nn) nn).1 ∧ u.1 = (rdT (cdT zs fr nn) nn).2 ∧ ((rdT (cdT zs fr nn) nn).1 = true → u.2.1 = rSp (cdT zs fr nn) ∧ u.2.2.1 = rLa (cdT zs fr nn) ∧ (∀ j, j < 6 → u.2.2.2.1 j = nI (dv (cdT zs fr nn) (1 + j))) ∧ (∀ j, j < rSp (cdT zs fr nn) → u.2.2.2.2.1 j = nI (dv (cdT zs fr nn) (8 + 2 * j))) ∧ (∀ j, j < rLa (cdT zs fr nn) → u.2.2.2.2.2.1 j = nI (kdOf ((cdT zs fr nn) (aLa (cdT zs fr nn) + 3 * j + 1)))) ∧ ∀ j, j < rLa (cdT zs fr nn) → u.2.2.2.2.2.2 j = nI (dv (cdT zs fr nn) (aLa (cdT zs fr nn) + 3 * j + 2)))) (fun u : Nat × Nat × Nat × (Nat → Int32) × (Nat → Int32) × (Nat → Int32) × (Nat → Int32) => [(m0, .inr (9, [.int i0, .ref a1, .int i2, .ref a3, .int i4, .ref a5, .ref a6, .ref a7, .int i8, .int i9, .int (nI u.1), .int (nI u.2.1), .int (nI u.2.2.1), .ref a13, .ref a14, .ref a15, .ref a16, .int i17, .ref a18, .ref a19, .ref a20, .ref a21, .ref a22, .ref a23, .ref a24, .ref a25, .int i26, .ref a27, .ref a28, .ref a29, .ref a30, .ref a31, .ref a32, .ref a33, .ref a34, .int i35])), (a13, .inl (cI, 6, .inl u.2.2.2.1)), (a14, .inl (cI, 4, .inl u.2.2.2.2.1)), (a15, .inl (cI, 4, .inl u.2.2.2.2.2.1)), (a16, .inl (cI, 4, .inl u.2.2.2.2.2.2)), (a33, .inl (cI, 240, .inl zs))]) (va_A [(m0, .inr (9, [.int i0, .ref a1, .int i2, .ref a3, .int i4, .ref a5, .ref a6, .ref a7, .int i8, .int i9, .int i10, .int i11, .int i12, .ref a13, .ref a14, .ref a15, .ref a16, .int i17, .ref a18, .ref a19, .ref a20, .ref a21, .ref a22, .ref a23, .ref a24, .ref a25, .int i26, .ref a27, .ref a28, .ref a29, .ref a30, .ref a31, .ref a32, .ref a33, .ref a34, .int i35])), (a13, .inl (cI, 6, .inl qs)), (a14, .inl (cI, 4, .inl qh)), (a15, .inl (cI, 4, .inl qk)), (a16, .inl (cI, 4, .inl qt)), (a33, .inl (cI, 240, .inl zs))] sz)) 0 0 (va_A [(m0, .inr (9, [.int i0, .ref a1, .int i2, .ref a3, .int i4, .ref a5, .ref a6, .ref a7, .int i8, .int i9, .int i10, .int i11, .int i12, .ref a13, .ref a14, .ref a15, .ref a16, .int i17, .ref a18, .ref a19, .ref a20, .ref a21, .ref a22, .ref a23, .ref a24, .ref a25, .int i26, .ref a27, .ref a28, .ref a29, .ref a30, .ref a31, .ref a32, .ref a33, .ref a34, .int i35])), (a13, .inl (cI, 6, .inl qs)), (a14, .inl (cI, 4, .inl qh)), (a15, .inl (cI, 4, .inl qk)), (a16, .inl (cI, 4, .inl qt)), (a33, .inl (cI, 240, .inl zs))] sz) := by
  refine Met.ofW (cc := cX10_readsCoast) (maxL := 5) (ret := (some .boolean)) (by decide) rfl ?_
  intro pP eE sS mM args below meth cC s₁ B hml hv
  obtain ⟨rfl, hsz, hP, hK, hD0⟩ := hv
  have hx := B.exec
  have hb := B.bytes
  have hr := B.returns
  have hts := atoms_spec (ws := wsX10_readsCoast) B.pre
  have hown : sS.vm.findClass RX10 = some mM.cls := findClass_of_methodNamed B.named
  have hlocks := B.notSynchronized
  subst hsz
  have hD := hD0.self (sz := sS.heap.size)
  generalize hAe : va_A [(m0, .inr (9, [.int i0, .ref a1, .int i2, .ref a3, .int i4, .ref a5, .ref a6, .ref a7, .int i8, .int i9, .int i10, .int i11, .int i12, .ref a13, .ref a14, .ref a15, .ref a16, .int i17, .ref a18, .ref a19, .ref a20, .ref a21, .ref a22, .ref a23, .ref a24, .ref a25, .int i26, .ref a27, .ref a28, .ref a29, .ref a30, .ref a31, .ref a32, .ref a33, .ref a34, .int i35])), (a13, .inl (cI, 6, .inl qs)), (a14, .inl (cI, 4, .inl qh)), (a15, .inl (cI, 4, .inl qk)), (a16, .inl (cI, 4, .inl qt)), (a33, .inl (cI, 240, .inl zs))] sS.heap.size = A at hD ⊢
  have hA : ∀ q : Nat, sS.heap.size ≤ q → A q := fun q h => by rw [← hAe]; exact Or.inr h
  have hS : va_S A sS.heap sS.heap [] := va_S.rf
  have hP : va_P D vwCl [(m0, .inr (9, [.int i0, .ref a1, .int i2, .ref a3, .int i4, .ref a5, .ref a6, .ref a7, .int i8, .int i9, .int i10, .int i11, .int i12, .ref a13, .ref a14, .ref a15, .ref a16, .int i17, .ref a18, .ref a19, .ref a20, .ref a21, .ref a22, .ref a23, .ref a24, .ref a25, .int i26, .ref a27, .ref a28, .ref a29, .ref a30, .ref a31, .ref a32, .ref a33, .ref a34, .int i35])), (a13, .inl (cI, 6, .inl qs)), (a14, .inl (cI, 4, .inl qh)), (a15, .inl (cI, 4, .inl qk)), (a16, .inl (cI, 4, .inl qt)), (a33, .inl (cI, 240, .inl zs))] sS.heap := hP
  have hD : va_D A [(m0, .inr (9, [.int i0, .ref a1, .int i2, .ref a3, .int i4, .ref a5, .ref a6, .ref a7, .int i8, .int i9, .int i10, .int i11, .int i12, .ref a13, .ref a14, .ref a15, .ref a16, .int i17, .ref a18, .ref a19, .ref a20, .ref a21, .ref a22, .ref a23, .ref a24, .ref a25, .int i26, .ref a27, .ref a28, .ref a29, .ref a30, .ref a31, .ref a32, .ref a33, .ref a34, .int i35])), (a13, .inl (cI, 6, .inl qs)), (a14, .inl (cI, 4, .inl qh)), (a15, .inl (cI, 4, .inl qk)), (a16, .inl (cI, 4, .inl qt)), (a33, .inl (cI, 240, .inl zs))] := hD
  have hf_25 := hts (.fieldLink RX10 25 "OldLampsModel" "readSky" "[I") (List.mem_of_getElem? (i := 4) rfl)
  have hf_110 := hts (.fieldLink RX10 110 "OldLampsModel" "readAt" "I") (List.mem_of_getElem? (i := 1) rfl)
  have hf_117 := hts (.fieldLink RX10 117 "OldLampsModel" "readSpots" "I") (List.mem_of_getElem? (i := 2) rfl)
  have hf_124 := hts (.fieldLink RX10 124 "OldLampsModel" "readLamps" "I") (List.mem_of_getElem? (i := 3) rfl)
  have hwX10 : ∀ w ∈ wsX100, w ∈ wsX10_readsCoast := fun _ h => List.mem_cons_of_mem _ (List.mem_append_right _ h)
  have hl := lv_entry ([.ref m0, .int (nI fr), .int (nI nn)]) (n := 5) (Nat.le_of_ble_eq_true rfl)
  rw [lg_entry_eq]
  generalize (lg_sl ([.ref m0, .int (nI fr), .int (nI nn)]) ++ List.replicate (5 - (lg_sl ([.ref m0, .int (nI fr), .int (nI nn)])).length) Slot.unset).toArray = ls at hl ⊢
  have hl : lv_has ls 5 [(0, .ref m0), (1, .int (nI fr)), (2, .int (nI nn))] := hl
  obtain ⟨QQ, hQQ⟩ : ∃ QQ : State → Prop, QQ = MQ below (kQi D (fun (r : Int32) (u : Nat × Nat × Nat × (Nat → Int32) × (Nat → Int32) × (Nat → Int32) × (Nat → Int32)) => r = kb (rdT (cdT zs fr nn) nn).1 ∧ u.1 = (rdT (cdT zs fr nn) nn).2 ∧ ((rdT (cdT zs fr nn) nn).1 = true → u.2.1 = rSp (cdT zs fr nn) ∧ u.2.2.1 = rLa (cdT zs fr nn) ∧ (∀ j, j < 6 → u.2.2.2.1 j = nI (dv (cdT zs fr nn) (1 + j))) ∧ (∀ j, j < rSp (cdT zs fr nn) → u.2.2.2.2.1 j = nI (dv (cdT zs fr nn) (8 + 2 * j))) ∧ (∀ j, j < rLa (cdT zs fr nn) → u.2.2.2.2.2.1 j = nI (kdOf ((cdT zs fr nn) (aLa (cdT zs fr nn) + 3 * j + 1)))) ∧ ∀ j, j < rLa (cdT zs fr nn) → u.2.2.2.2.2.2 j = nI (dv (cdT zs fr nn) (aLa (cdT zs fr nn) + 3 * j + 2)))) (fun u : Nat × Nat × Nat × (Nat → Int32) × (Nat → Int32) × (Nat → Int32) × (Nat → Int32) => [(m0, .inr (9, [.int i0, .ref a1, .int i2, .ref a3, .int i4, .ref a5, .ref a6, .ref a7, .int i8, .int i9, .int (nI u.1), .int (nI u.2.1), .int (nI u.2.2.1), .ref a13, .ref a14, .ref a15, .ref a16, .int i17, .ref a18, .ref a19, .ref a20, .ref a21, .ref a22, .ref a23, .ref a24, .ref a25, .int i26, .ref a27, .ref a28, .ref a29, .ref a30, .ref a31, .ref a32, .ref a33, .ref a34, .int i35])), (a13, .inl (cI, 6, .inl u.2.2.2.1)), (a14, .inl (cI, 4, .inl u.2.2.2.2.1)), (a15, .inl (cI, 4, .inl u.2.2.2.2.2.1)), (a16, .inl (cI, 4, .inl u.2.2.2.2.2.2)), (a33, .inl (cI, 240, .inl zs))]) A) ([.ref m0, .int (nI fr), .int (nI nn)]).toArray sS 0 0 A := ⟨_, rfl⟩
  refine kk_QQ hQQ.symm ?_
  refine lv_aload_n hx hb dX10_readsCoast_0 rfl (lv_at hl 0 rfl) ?_
  refine lv_iconst (v := nI 0) hx hb dX10_readsCoast_1 (by decide +kernel) ?_
  refine va_put (D := D) (ci := 9) (v := .int (nI 0)) (ty := .int) (C := RX10) (T := TX10) (N := 36) hx hb hts hwX10 tyX10 tyX10_ok nmX10 hown hK hP hD hS 0 rfl rfl 10 (by decide) hf_110 (fun _ h9 => h9) rfl (by decide +kernel) rfl rfl (Nat.le_of_ble_eq_true rfl) dX10_readsCoast_2 (fun H locs hP hD hS => ?_)
  have hP : va_P D vwCl [(m0, .inr (9, [.int i0, .ref a1, .int i2, .ref a3, .int i4, .ref a5, .ref a6, .ref a7, .int i8, .int i9, .int (nI 0), .int i11, .int i12, .ref a13, .ref a14, .ref a15, .ref a16, .int i17, .ref a18, .ref a19, .ref a20, .ref a21, .ref a22, .ref a23, .ref a24, .ref a25, .int i26, .ref a27, .ref a28, .ref a29, .ref a30, .ref a31, .ref a32, .ref a33, .ref a34, .int i35])), (a13, .inl (cI, 6, .inl qs)), (a14, .inl (cI, 4, .inl qh)), (a15, .inl (cI, 4, .inl qk)), (a16, .inl (cI, 4, .inl qt)), (a33, .inl (cI, 240, .inl zs))] H := hP
  have hD : va_D A [(m0, .inr (9, [.int i0, .ref a1, .int i2, .ref a3, .int i4, .ref a5, .ref a6, .ref a7, .int i8, .int i9, .int (nI 0), .int i11, .int i12, .ref a13, .ref a14, .ref a15, .ref a16, .int i17, .ref a18, .ref a19, .ref a20, .ref a21, .ref a22, .ref a23, .ref a24, .ref a25, .int i26, .ref a27, .ref a28, .ref a29, .ref a30, .ref a31, .ref a32, .ref a33, .ref a34, .int i35])), (a13, .inl (cI, 6, .inl qs)), (a14, .inl (cI, 4, .inl qh)), (a15, .inl (cI, 4, .inl qk)), (a16, .inl (cI, 4, .inl qt)), (a33, .inl (cI, 240, .inl zs))] := hD
  refine lv_aload_n hx hb dX10_readsCoast_5 rfl (lv_at hl 0 rfl) ?_
  refine lv_iconst (v := nI 0) hx hb dX10_readsCoast_6 (by decide +kernel) ?_
  refine va_put (D := D) (ci := 9) (v := .int (nI 0)) (ty := .int) (C := RX10) (T := TX10) (N := 36) hx hb hts hwX10 tyX10 tyX10_ok nmX10 hown hK hP hD hS 0 rfl rfl 11 (by decide) hf_117 (fun _ h9 => h9) rfl (by decide +kernel) rfl rfl (Nat.le_of_ble_eq_true rfl) dX10_readsCoast_7 (fun H locs hP hD hS => ?_)
  have hP : va_P D vwCl [(m0, .inr (9, [.int i0, .ref a1, .int i2, .ref a3, .int i4, .ref a5, .ref a6, .ref a7, .int i8, .int i9, .int (nI 0), .int (nI 0), .int i12, .ref a13, .ref a14, .ref a15, .ref a16, .int i17, .ref a18, .ref a19, .ref a20, .ref a21, .ref a22, .ref a23, .ref a24, .ref a25, .int i26, .ref a27, .ref a28, .ref a29, .ref a30, .ref a31, .ref a32, .ref a33, .ref a34, .int i35])), (a13, .inl (cI, 6, .inl qs)), (a14, .inl (cI, 4, .inl qh)), (a15, .inl (cI, 4, .inl qk)), (a16, .inl (cI, 4, .inl qt)), (a33, .inl (cI, 240, .inl zs))] H := hP
  have hD : va_D A [(m0, .inr (9, [.int i0, .ref a1, .int i2, .ref a3, .int i4, .ref a5, .ref a6, .ref a7, .int i8, .int i9, .int (nI 0), .int (nI 0), .int i12, .ref a13, .ref a14, .ref a15, .ref a16, .int i17, .ref a18, .ref a19, .ref a20, .ref a21, .ref a22, .ref a23, .ref a24, .ref a25, .int i26, .ref a27, .ref a28, .ref a29, .ref a30, .ref a31, .ref a32, .ref a33, .ref a34, .int i35])), (a13, .inl (cI, 6, .inl qs)), (a14, .inl (cI, 4, .inl qh)), (a15, .inl (cI, 4, .inl qk)), (a16, .inl (cI, 4, .inl qt)), (a33, .inl (cI, 240, .inl zs))] := hD
  refine lv_aload_n hx hb dX10_readsCoast_10 rfl (lv_at hl 0 rfl) ?_
  refine lv_iconst (v := nI 0) hx hb dX10_readsCoast_11 (by decide +kernel) ?_
  refine va_put (D := D) (ci := 9) (v := .int (nI 0)) (ty := .int) (C := RX10) (T := TX10) (N := 36) hx hb hts hwX10 tyX10 tyX10_ok nmX10 hown hK hP hD hS 0 rfl rfl 12 (by decide) hf_124 (fun _ h9 => h9) rfl (by decide +kernel) rfl rfl (Nat.le_of_ble_eq_true rfl) dX10_readsCoast_12 (fun H locs hP hD hS => ?_)
  have hP : va_P D vwCl [(m0, .inr (9, [.int i0, .ref a1, .int i2, .ref a3, .int i4, .ref a5, .ref a6, .ref a7, .int i8, .int i9, .int (nI 0), .int (nI 0), .int (nI 0), .ref a13, .ref a14, .ref a15, .ref a16, .int i17, .ref a18, .ref a19, .ref a20, .ref a21, .ref a22, .ref a23, .ref a24, .ref a25, .int i26, .ref a27, .ref a28, .ref a29, .ref a30, .ref a31, .ref a32, .ref a33, .ref a34, .int i35])), (a13, .inl (cI, 6, .inl qs)), (a14, .inl (cI, 4, .inl qh)), (a15, .inl (cI, 4, .inl qk)), (a16, .inl (cI, 4, .inl qt)), (a33, .inl (cI, 240, .inl zs))] H := hP
  have hD : va_D A [(m0, .inr (9, [.int i0, .ref a1, .int i2, .ref a3, .int i4, .ref a5, .ref a6, .ref a7, .int i8, .int i9, .int (nI 0), .int (nI 0), .int (nI 0), .ref a13, .ref a14, .ref a15, .ref a16, .int i17, .ref a18, .ref a19, .ref a20, .ref a21, .ref a22, .ref a23, .ref a24, .ref a25, .int i26, .ref a27, .ref a28, .ref a29, .ref a30, .ref a31, .ref a32, .ref a33, .ref a34, .int i35])), (a13, .inl (cI, 6, .inl qs)), (a14, .inl (cI, 4, .inl qh)), (a15, .inl (cI, 4, .inl qk)), (a16, .inl (cI, 4, .inl qt)), (a33, .inl (cI, 240, .inl zs))] := hD
  refine lv_aload_n hx hb dX10_readsCoast_15 rfl (lv_at hl 0 rfl) ?_
  refine lv_iload_n hx hb dX10_readsCoast_16 rfl (lv_at hl 1 rfl) ?_
  refine lv_iload_n hx hb dX10_readsCoast_17 rfl (lv_at hl 2 rfl) ?_
  have o_1 : fr + nn ≤ 240 := by omega
  refine vp_callSi (W.runV (As := [.int (nI fr), .int (nI nn)]) (rest := []) ⟨hx, hb, hml, hown, hts⟩ (c_X10_codeAt lL D cI cS m0 a1 a3 a5 a6 a7 a13 a14 a15 a16 a18 a19 a20 a21 a22 a23 a24 a25 a27 a28 a29 a30 a31 a32 a33 a34 i0 i2 i4 i8 i9 (nI 0) (nI 0) i17 i26 i35 zs fr nn 0 o_1) (cwV 2 hts gX10_readsCoast_X10_codeAt rfl rfl rfl cd_X10_codeAt ⟨Nat.le_of_ble_eq_true rfl, Nat.le_of_ble_eq_true rfl⟩) ⟨kBp_blind, va_recv hK hP (ci := 9) (q0 := 0) rfl rfl, fun U hU hW => ⟨rfl, by rw [hU]; exact hP.sub [0, 5] rfl, va_K.moved hW.alike hK⟩⟩ rfl rfl hl.1 rfl (lv_room (Nat.le_of_ble_eq_true rfl)) dX10_readsCoast_18 ⟨Nat.le_of_ble_eq_true rfl, Nat.le_of_ble_eq_true rfl⟩) (fun r_2 hw_2 => ?_)
  obtain rfl : r_2 = cdT zs fr n 0 := hw_2
  refine lv_bipush (v := nI 111) hx hb dX10_readsCoast_21 (by decide +kernel) ?_
  refine lv_icmp_ne (tgt := 30) hx hb dX10_readsCoast_23 (by decide) (fun c_3 => ?_) (fun c_3 => ?_)
  · skip
    refine lv_iconst (v := nI 0) hx hb dX10_readsCoast_30 (by decide +kernel) ?_
    refine lv_istore_n (lv' := [(3, .int (nI 0)), (0, .ref m0), (1, .int (nI fr)), (2, .int (nI nn))]) hx hb dX10_readsCoast_31 rfl hl (by decide) rfl (fun ls hl => ?_)
    refine lv_aload_n hx hb dX10_readsCoast_32 rfl (lv_at hl 1 rfl) ?_
    refine lv_dup hx hb dX10_readsCoast_33 rfl ?_
    refine va_get (D := D) (ci := 9) (v := .int (nI 0)) (C := RX10) (T := TX10) (N := 36) hx hb hts hwX10 hown hK hP 0 rfl rfl 10 (by decide) hf_110 (fun _ h9 => h9) rfl dX10_readsCoast_34 ?_
    refine lv_iload_n hx hb dX10_readsCoast_37 rfl (lv_at hl 0 rfl) ?_
    refine kk_if_eq (x := 0) (tgt := 45) hx hb dX10_readsCoast_38 (by decide) (by decide) (fun h => ?_) (fun h => absurd h (by decide))
    refine lv_iconst (v := nI 0) hx hb dX10_readsCoast_45 (by decide +kernel) ?_
    refine kk_iadd hx hb dX10_readsCoast_46 ?_
    refine va_put (D := D) (ci := 9) (v := .int (nI (0 + 0))) (ty := .int) (C := RX10) (T := TX10) (N := 36) hx hb hts hwX10 tyX10 tyX10_ok nmX10 hown hK hP hD hS 0 rfl rfl 10 (by decide) hf_110 (fun _ h9 => h9) rfl (by decide +kernel) rfl rfl (Nat.le_of_ble_eq_true rfl) dX10_readsCoast_47 (fun H locs hP hD hS => ?_)
    have hP : va_P D vwCl [(m0, .inr (9, [.int i0, .ref a1, .int i2, .ref a3, .int i4, .ref a5, .ref a6, .ref a7, .int i8, .int i9, .int (nI (0 + 0)), .int (nI 0), .int (nI 0), .ref a13, .ref a14, .ref a15, .ref a16, .int i17, .ref a18, .ref a19, .ref a20, .ref a21, .ref a22, .ref a23, .ref a24, .ref a25, .int i26, .ref a27, .ref a28, .ref a29, .ref a30, .ref a31, .ref a32, .ref a33, .ref a34, .int i35])), (a13, .inl (cI, 6, .inl qs)), (a14, .inl (cI, 4, .inl qh)), (a15, .inl (cI, 4, .inl qk)), (a16, .inl (cI, 4, .inl qt)), (a33, .inl (cI, 240, .inl zs))] H := hP
    have hD : va_D A [(m0, .inr (9, [.int i0, .ref a1, .int i2, .ref a3, .int i4, .ref a5, .ref a6, .ref a7, .int i8, .int i9, .int (nI (0 + 0)), .int (nI 0), .int (nI 0), .ref a13, .ref a14, .ref a15, .ref a16, .int i17, .ref a18, .ref a19, .ref a20, .ref a21, .ref a22, .ref a23, .ref a24, .ref a25, .int i26, .ref a27, .ref a28, .ref a29, .ref a30, .ref a31, .ref a32, .ref a33, .ref a34, .int i35])), (a13, .inl (cI, 6, .inl qs)), (a14, .inl (cI, 4, .inl qh)), (a15, .inl (cI, 4, .inl qk)), (a16, .inl (cI, 4, .inl qt)), (a33, .inl (cI, 240, .inl zs))] := hD
    refine lv_iconst (v := nI 0) hx hb dX10_readsCoast_50 (by decide +kernel) ?_
    refine lv_istore (lv' := [(4, .int (nI 0)), (3, .int (nI 0)), (0, .ref m0), (1, .int (nI fr)), (2, .int (nI nn))]) hx hb dX10_readsCoast_51 hl (by decide) rfl (fun ls hl => ?_)
    refine lv_iload hx hb dX10_readsCoast_53 (lv_at hl 0 rfl) ?_
    refine lv_bipush (v := nI 6) hx hb dX10_readsCoast_55 (by decide +kernel) ?_
    refine kk_icmp_ge (tgt := 101) hx hb dX10_readsCoast_57 (by decide) (by decide) (by decide) (fun h => absurd h (by decide)) (fun h => ?_)
    refine lv_iload_n hx hb dX10_readsCoast_60 rfl (lv_at hl 1 rfl) ?_
    refine kk_if_eq (x := 0) (tgt := 101) hx hb dX10_readsCoast_61 (by decide) (by decide) (fun h => ?_) (fun h => absurd h (by decide))
    refine lv_iload_n hx hb dX10_readsCoast_101 rfl (lv_at hl 1 rfl) ?_
    refine kk_if_eq (x := 0) (tgt := 133) hx hb dX10_readsCoast_102 (by decide) (by decide) (fun h => ?_) (fun h => absurd h (by decide))
    refine lv_iload_n hx hb dX10_readsCoast_133 rfl (lv_at hl 1 rfl) ?_
    refine kk_if_eq (x := 0) (tgt := 162) hx hb dX10_readsCoast_134 (by decide) (by decide) (fun h => ?_) (fun h => absurd h (by decide))
    refine lv_iload_n hx hb dX10_readsCoast_162 rfl (lv_at hl 1 rfl) ?_
    have hq : (nI 0) = kb (rdT (cdT zs fr nn) nn).1 ∧ (0 + 0) = (rdT (cdT zs fr nn) nn).2 ∧ ((rdT (cdT zs fr nn) nn).1 = true → 0 = rSp (cdT zs fr nn) ∧ 0 = rLa (cdT zs fr nn) ∧ (∀ j, j < 6 → qs j = nI (dv (cdT zs fr nn) (1 + j))) ∧ (∀ j, j < rSp (cdT zs fr nn) → qh j = nI (dv (cdT zs fr nn) (8 + 2 * j))) ∧ (∀ j, j < rLa (cdT zs fr nn) → qk j = nI (kdOf ((cdT zs fr nn) (aLa (cdT zs fr nn) + 3 * j + 1)))) ∧ ∀ j, j < rLa (cdT zs fr nn) → qt j = nI (dv (cdT zs fr nn) (aLa (cdT zs fr nn) + 3 * j + 2))) := by
      have e := rdT_o (n := nn) c_3
      refine ⟨?_, ?_, fun h => ?_⟩
      · rw [e]; rfl
      · rw [e]
      · rw [e] at h; cases h
    refine kk_QQ hQQ ?_
    exact W.zret (v := nI 0) (ty := .boolean) hx hb hr (by decide +kernel) (fun t ht hW => ⟨⟨nI 0, (0 + 0, 0, 0, qs, qh, qk, qt), rfl, hq, by show va_P D vwCl _ t.heap; rw [ht]; exact hP⟩, hS.F ht⟩) hS.2.2 dX10_readsCoast_163
  · skip
    refine lv_iconst (v := nI 1) hx hb dX10_readsCoast_26 (by decide +kernel) ?_
    refine lv_goto (tgt := 31) hx hb dX10_readsCoast_27 (by decide) ?_
    refine lv_istore_n (lv' := [(3, .int (nI 1)), (0, .ref m0), (1, .int (nI fr)), (2, .int (nI nn))]) hx hb dX10_readsCoast_31 rfl hl (by decide) rfl (fun ls hl => ?_)
    refine lv_aload_n hx hb dX10_readsCoast_32 rfl (lv_at hl 1 rfl) ?_
    refine lv_dup hx hb dX10_readsCoast_33 rfl ?_
    refine va_get (D := D) (ci := 9) (v := .int (nI 0)) (C := RX10) (T := TX10) (N := 36) hx hb hts hwX10 hown hK hP 0 rfl rfl 10 (by decide) hf_110 (fun _ h9 => h9) rfl dX10_readsCoast_34 ?_
    refine lv_iload_n hx hb dX10_readsCoast_37 rfl (lv_at hl 0 rfl) ?_
    refine kk_if_eq (x := 1) (tgt := 45) hx hb dX10_readsCoast_38 (by decide) (by decide) (fun h => absurd h (by decide)) (fun h => ?_)
    refine lv_iconst (v := nI 1) hx hb dX10_readsCoast_41 (by decide +kernel) ?_
    refine lv_goto (tgt := 46) hx hb dX10_readsCoast_42 (by decide) ?_
    refine kk_iadd hx hb dX10_readsCoast_46 ?_
    refine va_put (D := D) (ci := 9) (v := .int (nI (0 + 1))) (ty := .int) (C := RX10) (T := TX10) (N := 36) hx hb hts hwX10 tyX10 tyX10_ok nmX10 hown hK hP hD hS 0 rfl rfl 10 (by decide) hf_110 (fun _ h9 => h9) rfl (by decide +kernel) rfl rfl (Nat.le_of_ble_eq_true rfl) dX10_readsCoast_47 (fun H locs hP hD hS => ?_)
    have hP : va_P D vwCl [(m0, .inr (9, [.int i0, .ref a1, .int i2, .ref a3, .int i4, .ref a5, .ref a6, .ref a7, .int i8, .int i9, .int (nI (0 + 1)), .int (nI 0), .int (nI 0), .ref a13, .ref a14, .ref a15, .ref a16, .int i17, .ref a18, .ref a19, .ref a20, .ref a21, .ref a22, .ref a23, .ref a24, .ref a25, .int i26, .ref a27, .ref a28, .ref a29, .ref a30, .ref a31, .ref a32, .ref a33, .ref a34, .int i35])), (a13, .inl (cI, 6, .inl qs)), (a14, .inl (cI, 4, .inl qh)), (a15, .inl (cI, 4, .inl qk)), (a16, .inl (cI, 4, .inl qt)), (a33, .inl (cI, 240, .inl zs))] H := hP
    have hD : va_D A [(m0, .inr (9, [.int i0, .ref a1, .int i2, .ref a3, .int i4, .ref a5, .ref a6, .ref a7, .int i8, .int i9, .int (nI (0 + 1)), .int (nI 0), .int (nI 0), .ref a13, .ref a14, .ref a15, .ref a16, .int i17, .ref a18, .ref a19, .ref a20, .ref a21, .ref a22, .ref a23, .ref a24, .ref a25, .int i26, .ref a27, .ref a28, .ref a29, .ref a30, .ref a31, .ref a32, .ref a33, .ref a34, .int i35])), (a13, .inl (cI, 6, .inl qs)), (a14, .inl (cI, 4, .inl qh)), (a15, .inl (cI, 4, .inl qk)), (a16, .inl (cI, 4, .inl qt)), (a33, .inl (cI, 240, .inl zs))] := hD
    refine lv_iconst (v := nI 0) hx hb dX10_readsCoast_50 (by decide +kernel) ?_
    refine lv_istore (lv' := [(4, .int (nI 0)), (3, .int (nI 1)), (0, .ref m0), (1, .int (nI fr)), (2, .int (nI nn))]) hx hb dX10_readsCoast_51 hl (by decide) rfl (fun ls hl => ?_)
    have L_53 : ∀ (n_53 : Nat) (k : Nat) (b : Bool) (a : Nat) (qsX : Nat → Int32), (k ≤ 6) → (b = true → a = 1 + k ∧ a ≤ nn ∧ (∀ j, j < k → dg (cdT zs fr nn) (1 + j) 10 = true) ∧ ∀ j, j < k → qsX j = nI (dv (cdT zs fr nn) (1 + j))) → (b = false → rdT (cdT zs fr nn) nn = (false, a)) → 7 ≤ k + n_53 → ∀ (H : Heap) (locs : List Loc), va_P D vwCl [(m0, .inr (9, [.int i0, .ref a1, .int i2, .ref a3, .int i4, .ref a5, .ref a6, .ref a7, .int i8, .int i9, .int (nI a), .int (nI 0), .int (nI 0), .ref a13, .ref a14, .ref a15, .ref a16, .int i17, .ref a18, .ref a19, .ref a20, .ref a21, .ref a22, .ref a23, .ref a24, .ref a25, .int i26, .ref a27, .ref a28, .ref a29, .ref a30, .ref a31, .ref a32, .ref a33, .ref a34, .int i35])), (a13, .inl (cI, 6, .inl qsX)), (a14, .inl (cI, 4, .inl qh)), (a15, .inl (cI, 4, .inl qk)), (a16, .inl (cI, 4, .inl qt)), (a33, .inl (cI, 240, .inl zs))] H → va_D A [(m0, .inr (9, [.int i0, .ref a1, .int i2, .ref a3, .int i4, .ref a5, .ref a6, .ref a7, .int i8, .int i9, .int (nI a), .int (nI 0), .int (nI 0), .ref a13, .ref a14, .ref a15, .ref a16, .int i17, .ref a18, .ref a19, .ref a20, .ref a21, .ref a22, .ref a23, .ref a24, .ref a25, .int i26, .ref a27, .ref a28, .ref a29, .ref a30, .ref a31, .ref a32, .ref a33, .ref a34, .int i35])), (a13, .inl (cI, 6, .inl qsX)), (a14, .inl (cI, 4, .inl qh)), (a15, .inl (cI, 4, .inl qk)), (a16, .inl (cI, 4, .inl qt)), (a33, .inl (cI, 240, .inl zs))] → va_S A sS.heap H locs → ∀ (ls : Array Slot), lv_has ls 5 [(4, .int (nI k)), (3, .int (kb b)), (0, .ref m0), (1, .int (nI fr)), (2, .int (nI nn))] → W pP lL eE (headSpec wsX10_readsCoast rmX10_readsCoast).room sS mM ([.ref m0, .int (nI fr), .int (nI nn)]).toArray below meth cC H locs 0 0 QQ (F0 mM 53 ls []) := by
      intro n_53
      induction n_53 with
      | zero =>
        intro k b a qsX hk6 hw1 hw0 hn_53 H locs hP hD hS ls hl
        exact absurd hn_53 (by omega)
      | succ n_53 ih_53 =>
        intro k b a qsX hk6 hw1 hw0 hn_53 H locs hP hD hS ls hl
        refine lv_iload hx hb dX10_readsCoast_53 (lv_at hl 0 rfl) ?_
        refine lv_bipush (v := nI 6) hx hb dX10_readsCoast_55 (by decide +kernel) ?_
        refine kk_icmp_ge (tgt := 101) hx hb dX10_readsCoast_57 (by decide) (by omega) (by omega) (fun c_4 => ?_) (fun c_4 => ?_)
        · skip
          rcases (show b = true ∨ b = false by cases b <;> simp) with hbt | hbt
          · skip
            subst hbt
            have hl : lv_has ls 5 [(4, .int (nI k)), (3, .int (nI 1)), (0, .ref m0), (1, .int (nI fr)), (2, .int (nI nn))] := hl
            have hw := hw1 rfl
            have hsky : oSk (cdT zs fr nn) := ⟨c_3, fun j hj => hw.2.2.1 j (by omega)⟩
            have hqs : ∀ j, j < 6 → qsX j = nI (dv (cdT zs fr nn) (1 + j)) := fun j hj => hw.2.2.2 j (by omega)
            have ha7 : a = 7 := by have := hw.1; omega
            have ha7n : a ≤ nn := hw.2.1
            have L_101 : ∀ (n_101 : Nat) (b : Bool) (s : Nat) (a : Nat) (qhX : Nat → Int32), (s ≤ 4) → (b = true → a = 7 + 2 * s ∧ a ≤ nn ∧ (∀ j, j < s → pSp (cdT zs fr nn) j = true) ∧ ∀ j, j < s → qhX j = nI (dv (cdT zs fr nn) (8 + 2 * j))) → (b = false → rdT (cdT zs fr nn) nn = (false, a)) → (bif b then 5 - s else 0) < n_101 → ∀ (H : Heap) (locs : List Loc), va_P D vwCl [(m0, .inr (9, [.int i0, .ref a1, .int i2, .ref a3, .int i4, .ref a5, .ref a6, .ref a7, .int i8, .int i9, .int (nI a), .int (nI s), .int (nI 0), .ref a13, .ref a14, .ref a15, .ref a16, .int i17, .ref a18, .ref a19, .ref a20, .ref a21, .ref a22, .ref a23, .ref a24, .ref a25, .int i26, .ref a27, .ref a28, .ref a29, .ref a30, .ref a31, .ref a32, .ref a33, .ref a34, .int i35])), (a13, .inl (cI, 6, .inl qsX)), (a14, .inl (cI, 4, .inl qhX)), (a15, .inl (cI, 4, .inl qk)), (a16, .inl (cI, 4, .inl qt)), (a33, .inl (cI, 240, .inl zs))] H → va_D A [(m0, .inr (9, [.int i0, .ref a1, .int i2, .ref a3, .int i4, .ref a5, .ref a6, .ref a7, .int i8, .int i9, .int (nI a), .int (nI s), .int (nI 0), .ref a13, .ref a14, .ref a15, .ref a16, .int i17, .ref a18, .ref a19, .ref a20, .ref a21, .ref a22, .ref a23, .ref a24, .ref a25, .int i26, .ref a27, .ref a28, .ref a29, .ref a30, .ref a31, .ref a32, .ref a33, .ref a34, .int i35])), (a13, .inl (cI, 6, .inl qsX)), (a14, .inl (cI, 4, .inl qhX)), (a15, .inl (cI, 4, .inl qk)), (a16, .inl (cI, 4, .inl qt)), (a33, .inl (cI, 240, .inl zs))] → va_S A sS.heap H locs → ∀ (ls : Array Slot), lv_has ls 5 [(3, .int (kb b)), (0, .ref m0), (1, .int (nI fr)), (2, .int (nI nn))] → W pP lL eE (headSpec wsX10_readsCoast rmX10_readsCoast).room sS mM ([.ref m0, .int (nI fr), .int (nI nn)]).toArray below meth cC H locs 0 0 QQ (F0 mM 101 ls []) := by
              intro n_101
              induction n_101 with
              | zero =>
                intro b s a qhX hsle hs1 hs0 hn_101 H locs hP hD hS ls hl
                exact absurd hn_101 (by omega)
              | succ n_101 ih_101 =>
                intro b s a qhX hsle hs1 hs0 hn_101 H locs hP hD hS ls hl
                refine lv_iload_n hx hb dX10_readsCoast_101 rfl (lv_at hl 0 rfl) ?_
                -- if b
                refine kk_ifb_eq (tgt := 133) hx hb dX10_readsCoast_102 (by decide) (fun hb_5 => ?_) (fun hb_5 => ?_)
                · skip
                  subst hb_5
                  have hl : lv_has ls 5 [(3, .int (nI 0)), (0, .ref m0), (1, .int (nI fr)), (2, .int (nI nn))] := hl
                  have hfail := hs0 rfl
                  refine lv_iload_n hx hb dX10_readsCoast_133 rfl (lv_at hl 0 rfl) ?_
                  refine kk_if_eq (x := 0) (tgt := 162) hx hb dX10_readsCoast_134 (by decide) (by decide) (fun h => ?_) (fun h => absurd h (by decide))
                  refine lv_iload_n hx hb dX10_readsCoast_162 rfl (lv_at hl 0 rfl) ?_
                  have hq : (nI 0) = kb (rdT (cdT zs fr nn) nn).1 ∧ a = (rdT (cdT zs fr nn) nn).2 ∧ ((rdT (cdT zs fr nn) nn).1 = true → s = rSp (cdT zs fr nn) ∧ 0 = rLa (cdT zs fr nn) ∧ (∀ j, j < 6 → qsX j = nI (dv (cdT zs fr nn) (1 + j))) ∧ (∀ j, j < rSp (cdT zs fr nn) → qhX j = nI (dv (cdT zs fr nn) (8 + 2 * j))) ∧ (∀ j, j < rLa (cdT zs fr nn) → qk j = nI (kdOf ((cdT zs fr nn) (aLa (cdT zs fr nn) + 3 * j + 1)))) ∧ ∀ j, j < rLa (cdT zs fr nn) → qt j = nI (dv (cdT zs fr nn) (aLa (cdT zs fr nn) + 3 * j + 2))) := by
                    refine ⟨?_, ?_, fun h => ?_⟩
                    · rw [hfail]; rfl
                    · rw [hfail]
                    · rw [hfail] at h; cases h
                  refine kk_QQ hQQ ?_
                  exact W.zret (v := nI 0) (ty := .boolean) hx hb hr (by decide +kernel) (fun t ht hW => ⟨⟨nI 0, (a, s, 0, qsX, qhX, qk, qt), rfl, hq, by show va_P D vwCl _ t.heap; rw [ht]; exact hP⟩, hS.F ht⟩) hS.2.2 dX10_readsCoast_163
                · skip
                  subst hb_5
                  have hl : lv_has ls 5 [(3, .int (nI 1)), (0, .ref m0), (1, .int (nI fr)), (2, .int (nI nn))] := hl
                  have hs := hs1 rfl
                  have hs1v := hs
                  have hs := hsle
                  refine lv_aload_n hx hb dX10_readsCoast_105 rfl (lv_at hl 1 rfl) ?_
                  refine va_get (D := D) (ci := 9) (v := .int (nI s)) (C := RX10) (T := TX10) (N := 36) hx hb hts hwX10 hown hK hP 0 rfl rfl 11 (by decide) hf_117 (fun _ h9 => h9) rfl dX10_readsCoast_106 ?_
                  refine kk_if_eq (tgt := 123) hx hb dX10_readsCoast_109 (by decide) (by omega) (fun c_6 => ?_) (fun c_6 => ?_)
                  · skip
                    have hc59 : 0 < s → (cdT zs fr nn) a = nI 59 := fun z => by omega
                    refine lv_aload_n hx hb dX10_readsCoast_123 rfl (lv_at hl 1 rfl) ?_
                    refine lv_iload_n hx hb dX10_readsCoast_124 rfl (lv_at hl 2 rfl) ?_
                    refine lv_iload_n hx hb dX10_readsCoast_125 rfl (lv_at hl 3 rfl) ?_
                    have o_7 : fr + nn ≤ 240 := by omega
                    have o_8 : s ≤ 4 := by exact hsle
                    have hF := va_free (wc := [(m0, .inr (9, [.int i0, .ref a1, .int i2, .ref a3, .int i4, .ref a5, .ref a6, .ref a7, .int i8, .int i9, .int (nI a), .int (nI s), .int (nI 0), .ref a13, .ref a14, .ref a15, .ref a16, .int i17, .ref a18, .ref a19, .ref a20, .ref a21, .ref a22, .ref a23, .ref a24, .ref a25, .int i26, .ref a27, .ref a28, .ref a29, .ref a30, .ref a31, .ref a32, .ref a33, .ref a34, .int i35])), (a14, .inl (cI, 4, .inl qhX)), (a33, .inl (cI, 240, .inl zs))]) hD hS hA [0, 2, 5] rfl
                    refine va_calli (va_runV (As := [.int (nI fr), .int (nI nn)]) (rest := []) ⟨hx, hb, hml, hown, hts⟩ (c_X10_readsSpot lL D cI cS _ m0 a1 a3 a5 a6 a7 a13 a14 a15 a16 a18 a19 a20 a21 a22 a23 a24 a25 a27 a28 a29 a30 a31 a32 a33 a34 i0 i2 i4 i8 i9 (nI 0) i17 i26 i35 qhX zs fr nn a s o_7 o_8) (cwV 2 hts gX10_readsCoast_X10_readsSpot rfl rfl rfl cd_X10_readsSpot ⟨Nat.le_of_ble_eq_true rfl, Nat.le_of_ble_eq_true rfl⟩) ⟨kB_blind, va_recv hK hP (ci := 9) (q0 := 0) rfl rfl, fun U hU hW => ⟨rfl, by rw [hU], by rw [hU]; exact hP.sub [0, 2, 5] rfl, va_K.moved hW.alike hK, (hD.sub [0, 2, 5] (by decide) rfl).weaken (fun _ _ _ _ => trivial)⟩⟩ rfl rfl hl.1 rfl (lv_room (Nat.le_of_ble_eq_true rfl)) dX10_readsCoast_126 ⟨Nat.le_of_ble_eq_true rfl, Nat.le_of_ble_eq_true rfl⟩) hS (fun q _ h => hF q h) hF (fun r_9 u_9 t H1 locs ht hvm hw_9 hB hz1 hk1 hS => ?_)
                    obtain ⟨ra2_9, rs2_9, qh2_9⟩ := u_9
                    obtain ⟨hP, hD⟩ := kk_join2 (wc := [(m0, .inr (9, [.int i0, .ref a1, .int i2, .ref a3, .int i4, .ref a5, .ref a6, .ref a7, .int i8, .int i9, .int (nI a), .int (nI s), .int (nI 0), .ref a13, .ref a14, .ref a15, .ref a16, .int i17, .ref a18, .ref a19, .ref a20, .ref a21, .ref a22, .ref a23, .ref a24, .ref a25, .int i26, .ref a27, .ref a28, .ref a29, .ref a30, .ref a31, .ref a32, .ref a33, .ref a34, .int i35])), (a14, .inl (cI, 4, .inl qhX)), (a33, .inl (cI, 240, .inl zs))]) (w1 := [(m0, .inr (9, [.int i0, .ref a1, .int i2, .ref a3, .int i4, .ref a5, .ref a6, .ref a7, .int i8, .int i9, .int (nI ra2_9), .int (nI rs2_9), .int (nI 0), .ref a13, .ref a14, .ref a15, .ref a16, .int i17, .ref a18, .ref a19, .ref a20, .ref a21, .ref a22, .ref a23, .ref a24, .ref a25, .int i26, .ref a27, .ref a28, .ref a29, .ref a30, .ref a31, .ref a32, .ref a33, .ref a34, .int i35])), (a14, .inl (cI, 4, .inl qh2_9)), (a33, .inl (cI, 240, .inl zs))]) (ws' := [(m0, .inr (9, [.int i0, .ref a1, .int i2, .ref a3, .int i4, .ref a5, .ref a6, .ref a7, .int i8, .int i9, .int (nI ra2_9), .int (nI rs2_9), .int (nI 0), .ref a13, .ref a14, .ref a15, .ref a16, .int i17, .ref a18, .ref a19, .ref a20, .ref a21, .ref a22, .ref a23, .ref a24, .ref a25, .int i26, .ref a27, .ref a28, .ref a29, .ref a30, .ref a31, .ref a32, .ref a33, .ref a34, .int i35])), (a13, .inl (cI, 6, .inl qsX)), (a14, .inl (cI, 4, .inl qh2_9)), (a15, .inl (cI, 4, .inl qk)), (a16, .inl (cI, 4, .inl qt)), (a33, .inl (cI, 240, .inl zs))]) (wr := [(a13, .inl (cI, 6, .inl qsX)), (a15, .inl (cI, 4, .inl qk)), (a16, .inl (cI, 4, .inl qt))]) (H1 := H1) hP hD [0, 2, 5] [1, 3, 4] rfl rfl rfl rfl 6 rfl (by decide) [m0, a13, a14, a15, a16, a33] rfl rfl hk1 (by rw [← ht]; exact hB)
                    have hw_9 : (s < 4 ∧ (cdT zs fr nn) a = nI 59 ∧ dg (cdT zs fr nn) (a + 1) 10 = true ∧ r_9 = nI 1 ∧ ra2_9 = a + 2 ∧ rs2_9 = s + 1 ∧ qh2_9 = upd qhX s (nI (dv (cdT zs fr nn) (a + 1)))) ∨ (r_9 = nI 0 ∧ rs2_9 = s ∧ qh2_9 = qhX ∧ ((¬ (s < 4 ∧ (cdT zs fr nn) a = nI 59) ∧ ra2_9 = a) ∨ (s < 4 ∧ (cdT zs fr nn) a = nI 59 ∧ dg (cdT zs fr nn) (a + 1) 10 = false ∧ ra2_9 = a + 1))) := hw_9
                    clear hF hB hk1 hz1 hvm
                    clear ht
                    generalize H1 = H at hP hS ⊢
                    rcases hw_9 with ⟨q1, q2, q3, q4, q5, q6, q7⟩ | ⟨q4, q5, q6, q7⟩
                    · skip
                      have q4 := q4.symm
                      have q5 := q5.symm
                      have q6 := q6.symm
                      have q7 := q7.symm
                      subst q4 q5 q6 q7
                      refine lv_istore_n (lv' := [(3, .int (nI 1)), (0, .ref m0), (1, .int (nI fr)), (2, .int (nI nn))]) hx hb dX10_readsCoast_129 rfl hl (by decide) rfl (fun ls hl => ?_)
                      refine lv_goto (tgt := 101) hx hb dX10_readsCoast_130 (by decide) ?_
                      have o_10 : (s + 1) ≤ 4 := by omega
                      have o_11 : true = true → (a + 2) = 7 + 2 * (s + 1) ∧ (a + 2) ≤ nn ∧ (∀ j, j < (s + 1) → pSp (cdT zs fr nn) j = true) ∧ ∀ j, j < (s + 1) → (upd qhX s (nI (dv (cdT zs fr nn) (a + 1)))) j = nI (dv (cdT zs fr nn) (8 + 2 * j)) := by
                        intro _
                        obtain ⟨w1, w2, w3, w4⟩ := hs1v
                        have hlt := dg_lt q3
                        refine ⟨by omega, by omega, fun j hj => ?_, fun j hj => ?_⟩
                        · by_cases e : j = s
                          · subst e
                            exact pSp_t (by rw [w1] at q2; exact q2) (by rw [w1, show 7 + 2 * j + 1 = 8 + 2 * j by omega] at q3; exact q3)
                          · exact w3 j (by omega)
                        · by_cases e : j = s
                          · subst e
                            rw [up_at, w1, show 7 + 2 * j + 1 = 8 + 2 * j by omega]
                          · rw [up_ne _ _ e]; exact w4 j (by omega)
                      have o_12 : true = false → rdT (cdT zs fr nn) nn = (false, (a + 2)) := by intro z; cases z
                      have o_13 : (bif true then 5 - (s + 1) else 0) < n_101 := by first | exact Nat.lt_of_lt_of_le (show 5 - (s + 1) < 5 - s by omega) (Nat.le_of_lt_succ hn_101) | exact Nat.lt_of_lt_of_le (show 0 < 5 - s by omega) (Nat.le_of_lt_succ hn_101)
                      exact ih_101 true (s + 1) (a + 2) (upd qhX s (nI (dv (cdT zs fr nn) (a + 1)))) o_10 o_11 o_12 o_13 _ _ hP hD hS ls (lv_sub hl [0, 1, 2, 3] rfl)
                    · skip
                      have q4 := q4.symm
                      have q5 := q5.symm
                      have q6 := q6.symm
                      subst q4 q5 q6
                      refine lv_istore_n (lv' := [(3, .int (nI 0)), (0, .ref m0), (1, .int (nI fr)), (2, .int (nI nn))]) hx hb dX10_readsCoast_129 rfl hl (by decide) rfl (fun ls hl => ?_)
                      refine lv_goto (tgt := 101) hx hb dX10_readsCoast_130 (by decide) ?_
                      refine lv_iload_n hx hb dX10_readsCoast_101 rfl (lv_at hl 0 rfl) ?_
                      refine kk_if_eq (x := 0) (tgt := 133) hx hb dX10_readsCoast_102 (by decide) (by decide) (fun h => ?_) (fun h => absurd h (by decide))
                      refine lv_iload_n hx hb dX10_readsCoast_133 rfl (lv_at hl 0 rfl) ?_
                      refine kk_if_eq (x := 0) (tgt := 162) hx hb dX10_readsCoast_134 (by decide) (by decide) (fun h => ?_) (fun h => absurd h (by decide))
                      refine lv_iload_n hx hb dX10_readsCoast_162 rfl (lv_at hl 0 rfl) ?_
                      have hq : (nI 0) = kb (rdT (cdT zs fr nn) nn).1 ∧ ra2_9 = (rdT (cdT zs fr nn) nn).2 ∧ ((rdT (cdT zs fr nn) nn).1 = true → s = rSp (cdT zs fr nn) ∧ 0 = rLa (cdT zs fr nn) ∧ (∀ j, j < 6 → qsX j = nI (dv (cdT zs fr nn) (1 + j))) ∧ (∀ j, j < rSp (cdT zs fr nn) → qhX j = nI (dv (cdT zs fr nn) (8 + 2 * j))) ∧ (∀ j, j < rLa (cdT zs fr nn) → qk j = nI (kdOf ((cdT zs fr nn) (aLa (cdT zs fr nn) + 3 * j + 1)))) ∧ ∀ j, j < rLa (cdT zs fr nn) → qt j = nI (dv (cdT zs fr nn) (aLa (cdT zs fr nn) + 3 * j + 2))) := by
                        obtain ⟨w1, w2, w3, w4, w5⟩ := hk1v
                        have e_n : a = nn := by omega
                        have hx := rdT_end (n := nn) hosp (k := k) (by omega) hk w3 (Or.inr (fun z => by
                          have h9 := cd_lt (by decide) z
                          omega))
                        have e := hx.2
                        rw [decide_eq_true (by omega)] at e
                        refine ⟨?_, ?_, fun _ => ⟨?_, ?_, ?_, ?_, ?_, ?_⟩⟩
                        · rw [e]; rfl
                        · rw [e, ← w1]
                        · exact hse.symm
                        · exact hx.1.symm
                        · exact hqs
                        · rw [hse]; exact hqh
                        · rw [hx.1]; exact w4
                        · rw [hx.1]; exact w5
                      refine kk_QQ hQQ ?_
                      exact W.zret (v := nI 0) (ty := .boolean) hx hb hr (by decide +kernel) (fun t ht hW => ⟨⟨nI 0, (ra2_9, s, 0, qsX, qhX, qk, qt), rfl, hq, by show va_P D vwCl _ t.heap; rw [ht]; exact hP⟩, hS.F ht⟩) hS.2.2 dX10_readsCoast_163
                  · skip
                    refine lv_aload_n hx hb dX10_readsCoast_112 rfl (lv_at hl 1 rfl) ?_
                    refine lv_iload_n hx hb dX10_readsCoast_113 rfl (lv_at hl 2 rfl) ?_
                    refine lv_iload_n hx hb dX10_readsCoast_114 rfl (lv_at hl 3 rfl) ?_
                    have o_14 : fr + nn ≤ 240 := by omega
                    refine vp_callSi (W.runV (As := [.int (nI fr), .int (nI nn)]) (rest := []) ⟨hx, hb, hml, hown, hts⟩ (c_X10_codeAt lL D cI cS m0 a1 a3 a5 a6 a7 a13 a14 a15 a16 a18 a19 a20 a21 a22 a23 a24 a25 a27 a28 a29 a30 a31 a32 a33 a34 i0 i2 i4 i8 i9 (nI s) (nI 0) i17 i26 i35 zs fr nn a o_14) (cwV 2 hts gX10_readsCoast_X10_codeAt rfl rfl rfl cd_X10_codeAt ⟨Nat.le_of_ble_eq_true rfl, Nat.le_of_ble_eq_true rfl⟩) ⟨kBp_blind, va_recv hK hP (ci := 9) (q0 := 0) rfl rfl, fun U hU hW => ⟨rfl, by rw [hU]; exact hP.sub [0, 5] rfl, va_K.moved hW.alike hK⟩⟩ rfl rfl hl.1 rfl (lv_room (Nat.le_of_ble_eq_true rfl)) dX10_readsCoast_115 ⟨Nat.le_of_ble_eq_true rfl, Nat.le_of_ble_eq_true rfl⟩) (fun r_15 hw_15 => ?_)
                    obtain rfl : r_15 = cdT zs fr n a := hw_15
                    refine lv_bipush (v := nI 59) hx hb dX10_readsCoast_118 (by decide +kernel) ?_
                    refine lv_icmp_ne (tgt := 133) hx hb dX10_readsCoast_120 (by decide) (fun c_16 => ?_) (fun c_16 => ?_)
                    · skip
                      obtain ⟨hse, hosp⟩ := oSp_of hsky (s := s) (by omega) hsle hs1v.2.2.1 (Or.inr (by rw [← hs1v.1]; exact c_16))
                      have hqh := hs1v.2.2.2
                      have hal7 : a = aLa (cdT zs fr nn) := by rw [aLa, hse]; exact hs1v.1
                      have haln := hs1v.2.1
                      have hs0 : 0 < s := by omega
                      have L_133 : ∀ (n_133 : Nat) (b : Bool) (k : Nat) (a : Nat) (qkX : Nat → Int32) (qtX : Nat → Int32), (k ≤ 4) → (b = true → a = aLa (cdT zs fr nn) + 3 * k ∧ a ≤ nn ∧ (∀ j, j < k → pLa (cdT zs fr nn) j = true) ∧ (∀ j, j < k → qkX j = nI (kdOf ((cdT zs fr nn) (aLa (cdT zs fr nn) + 3 * j + 1)))) ∧ ∀ j, j < k → qtX j = nI (dv (cdT zs fr nn) (aLa (cdT zs fr nn) + 3 * j + 2))) → (b = false → rdT (cdT zs fr nn) nn = (false, a)) → (bif b then 5 - k else 0) < n_133 → ∀ (H : Heap) (locs : List Loc), va_P D vwCl [(m0, .inr (9, [.int i0, .ref a1, .int i2, .ref a3, .int i4, .ref a5, .ref a6, .ref a7, .int i8, .int i9, .int (nI a), .int (nI s), .int (nI k), .ref a13, .ref a14, .ref a15, .ref a16, .int i17, .ref a18, .ref a19, .ref a20, .ref a21, .ref a22, .ref a23, .ref a24, .ref a25, .int i26, .ref a27, .ref a28, .ref a29, .ref a30, .ref a31, .ref a32, .ref a33, .ref a34, .int i35])), (a13, .inl (cI, 6, .inl qsX)), (a14, .inl (cI, 4, .inl qhX)), (a15, .inl (cI, 4, .inl qkX)), (a16, .inl (cI, 4, .inl qtX)), (a33, .inl (cI, 240, .inl zs))] H → va_D A [(m0, .inr (9, [.int i0, .ref a1, .int i2, .ref a3, .int i4, .ref a5, .ref a6, .ref a7, .int i8, .int i9, .int (nI a), .int (nI s), .int (nI k), .ref a13, .ref a14, .ref a15, .ref a16, .int i17, .ref a18, .ref a19, .ref a20, .ref a21, .ref a22, .ref a23, .ref a24, .ref a25, .int i26, .ref a27, .ref a28, .ref a29, .ref a30, .ref a31, .ref a32, .ref a33, .ref a34, .int i35])), (a13, .inl (cI, 6, .inl qsX)), (a14, .inl (cI, 4, .inl qhX)), (a15, .inl (cI, 4, .inl qkX)), (a16, .inl (cI, 4, .inl qtX)), (a33, .inl (cI, 240, .inl zs))] → va_S A sS.heap H locs → ∀ (ls : Array Slot), lv_has ls 5 [(3, .int (kb b)), (0, .ref m0), (1, .int (nI fr)), (2, .int (nI nn))] → W pP lL eE (headSpec wsX10_readsCoast rmX10_readsCoast).room sS mM ([.ref m0, .int (nI fr), .int (nI nn)]).toArray below meth cC H locs 0 0 QQ (F0 mM 133 ls []) := by
                        intro n_133
                        induction n_133 with
                        | zero =>
                          intro b k a qkX qtX hkle hk1 hk0 hn_133 H locs hP hD hS ls hl
                          exact absurd hn_133 (by omega)
                        | succ n_133 ih_133 =>
                          intro b k a qkX qtX hkle hk1 hk0 hn_133 H locs hP hD hS ls hl
                          refine lv_iload_n hx hb dX10_readsCoast_133 rfl (lv_at hl 0 rfl) ?_
                          -- if b
                          refine kk_ifb_eq (tgt := 162) hx hb dX10_readsCoast_134 (by decide) (fun hb_17 => ?_) (fun hb_17 => ?_)
                          · skip
                            subst hb_17
                            have hl : lv_has ls 5 [(3, .int (nI 0)), (0, .ref m0), (1, .int (nI fr)), (2, .int (nI nn))] := hl
                            have hfail := hk0 rfl
                            refine lv_iload_n hx hb dX10_readsCoast_162 rfl (lv_at hl 0 rfl) ?_
                            have hq : (nI 0) = kb (rdT (cdT zs fr nn) nn).1 ∧ a = (rdT (cdT zs fr nn) nn).2 ∧ ((rdT (cdT zs fr nn) nn).1 = true → s = rSp (cdT zs fr nn) ∧ k = rLa (cdT zs fr nn) ∧ (∀ j, j < 6 → qsX j = nI (dv (cdT zs fr nn) (1 + j))) ∧ (∀ j, j < rSp (cdT zs fr nn) → qhX j = nI (dv (cdT zs fr nn) (8 + 2 * j))) ∧ (∀ j, j < rLa (cdT zs fr nn) → qkX j = nI (kdOf ((cdT zs fr nn) (aLa (cdT zs fr nn) + 3 * j + 1)))) ∧ ∀ j, j < rLa (cdT zs fr nn) → qtX j = nI (dv (cdT zs fr nn) (aLa (cdT zs fr nn) + 3 * j + 2))) := by
                              refine ⟨?_, ?_, fun h => ?_⟩
                              · rw [hfail]; rfl
                              · rw [hfail]
                              · rw [hfail] at h; cases h
                            refine kk_QQ hQQ ?_
                            exact W.zret (v := nI 0) (ty := .boolean) hx hb hr (by decide +kernel) (fun t ht hW => ⟨⟨nI 0, (a, s, k, qsX, qhX, qkX, qtX), rfl, hq, by show va_P D vwCl _ t.heap; rw [ht]; exact hP⟩, hS.F ht⟩) hS.2.2 dX10_readsCoast_163
                          · skip
                            subst hb_17
                            have hl : lv_has ls 5 [(3, .int (nI 1)), (0, .ref m0), (1, .int (nI fr)), (2, .int (nI nn))] := hl
                            have hk := hk1 rfl
                            have hk1v := hk
                            have hk := hkle
                            refine lv_aload_n hx hb dX10_readsCoast_137 rfl (lv_at hl 1 rfl) ?_
                            refine va_get (D := D) (ci := 9) (v := .int (nI k)) (C := RX10) (T := TX10) (N := 36) hx hb hts hwX10 hown hK hP 0 rfl rfl 12 (by decide) hf_124 (fun _ h9 => h9) rfl dX10_readsCoast_138 ?_
                            refine kk_if_eq (tgt := 152) hx hb dX10_readsCoast_141 (by decide) (by omega) (fun c_18 => ?_) (fun c_18 => ?_)
                            · skip
                              have hlt9 : 0 < k → a < nn := fun z => by omega
                              refine lv_aload_n hx hb dX10_readsCoast_152 rfl (lv_at hl 1 rfl) ?_
                              refine lv_iload_n hx hb dX10_readsCoast_153 rfl (lv_at hl 2 rfl) ?_
                              refine lv_iload_n hx hb dX10_readsCoast_154 rfl (lv_at hl 3 rfl) ?_
                              have o_19 : fr + nn ≤ 240 := by omega
                              have o_20 : s ≤ 4 := by exact hsle
                              have o_21 : 0 < s := by exact hs0
                              have o_22 : k ≤ 4 := by exact hkle
                              have hF := va_free (wc := [(m0, .inr (9, [.int i0, .ref a1, .int i2, .ref a3, .int i4, .ref a5, .ref a6, .ref a7, .int i8, .int i9, .int (nI a), .int (nI s), .int (nI k), .ref a13, .ref a14, .ref a15, .ref a16, .int i17, .ref a18, .ref a19, .ref a20, .ref a21, .ref a22, .ref a23, .ref a24, .ref a25, .int i26, .ref a27, .ref a28, .ref a29, .ref a30, .ref a31, .ref a32, .ref a33, .ref a34, .int i35])), (a15, .inl (cI, 4, .inl qkX)), (a16, .inl (cI, 4, .inl qtX)), (a33, .inl (cI, 240, .inl zs))]) hD hS hA [0, 3, 4, 5] rfl
                              refine va_calli (va_runV (As := [.int (nI fr), .int (nI nn)]) (rest := []) ⟨hx, hb, hml, hown, hts⟩ (c_X10_readsLamp lL D cI cS _ m0 a1 a3 a5 a6 a7 a13 a14 a15 a16 a18 a19 a20 a21 a22 a23 a24 a25 a27 a28 a29 a30 a31 a32 a33 a34 i0 i2 i4 i8 i9 i17 i26 i35 qkX qtX zs fr nn a s k o_19 o_20 o_21 o_22) (cwV 2 hts gX10_readsCoast_X10_readsLamp rfl rfl rfl cd_X10_readsLamp ⟨Nat.le_of_ble_eq_true rfl, Nat.le_of_ble_eq_true rfl⟩) ⟨kB_blind, va_recv hK hP (ci := 9) (q0 := 0) rfl rfl, fun U hU hW => ⟨rfl, by rw [hU], by rw [hU]; exact hP.sub [0, 3, 4, 5] rfl, va_K.moved hW.alike hK, (hD.sub [0, 3, 4, 5] (by decide) rfl).weaken (fun _ _ _ _ => trivial)⟩⟩ rfl rfl hl.1 rfl (lv_room (Nat.le_of_ble_eq_true rfl)) dX10_readsCoast_155 ⟨Nat.le_of_ble_eq_true rfl, Nat.le_of_ble_eq_true rfl⟩) hS (fun q _ h => hF q h) hF (fun r_23 u_23 t H1 locs ht hvm hw_23 hB hz1 hk1 hS => ?_)
                              obtain ⟨ra2_23, rq2_23, qk2_23, qt2_23⟩ := u_23
                              obtain ⟨hP, hD⟩ := kk_join2 (wc := [(m0, .inr (9, [.int i0, .ref a1, .int i2, .ref a3, .int i4, .ref a5, .ref a6, .ref a7, .int i8, .int i9, .int (nI a), .int (nI s), .int (nI k), .ref a13, .ref a14, .ref a15, .ref a16, .int i17, .ref a18, .ref a19, .ref a20, .ref a21, .ref a22, .ref a23, .ref a24, .ref a25, .int i26, .ref a27, .ref a28, .ref a29, .ref a30, .ref a31, .ref a32, .ref a33, .ref a34, .int i35])), (a15, .inl (cI, 4, .inl qkX)), (a16, .inl (cI, 4, .inl qtX)), (a33, .inl (cI, 240, .inl zs))]) (w1 := [(m0, .inr (9, [.int i0, .ref a1, .int i2, .ref a3, .int i4, .ref a5, .ref a6, .ref a7, .int i8, .int i9, .int (nI ra2_23), .int (nI s), .int (nI rq2_23), .ref a13, .ref a14, .ref a15, .ref a16, .int i17, .ref a18, .ref a19, .ref a20, .ref a21, .ref a22, .ref a23, .ref a24, .ref a25, .int i26, .ref a27, .ref a28, .ref a29, .ref a30, .ref a31, .ref a32, .ref a33, .ref a34, .int i35])), (a15, .inl (cI, 4, .inl qk2_23)), (a16, .inl (cI, 4, .inl qt2_23)), (a33, .inl (cI, 240, .inl zs))]) (ws' := [(m0, .inr (9, [.int i0, .ref a1, .int i2, .ref a3, .int i4, .ref a5, .ref a6, .ref a7, .int i8, .int i9, .int (nI ra2_23), .int (nI s), .int (nI rq2_23), .ref a13, .ref a14, .ref a15, .ref a16, .int i17, .ref a18, .ref a19, .ref a20, .ref a21, .ref a22, .ref a23, .ref a24, .ref a25, .int i26, .ref a27, .ref a28, .ref a29, .ref a30, .ref a31, .ref a32, .ref a33, .ref a34, .int i35])), (a13, .inl (cI, 6, .inl qsX)), (a14, .inl (cI, 4, .inl qhX)), (a15, .inl (cI, 4, .inl qk2_23)), (a16, .inl (cI, 4, .inl qt2_23)), (a33, .inl (cI, 240, .inl zs))]) (wr := [(a13, .inl (cI, 6, .inl qsX)), (a14, .inl (cI, 4, .inl qhX))]) (H1 := H1) hP hD [0, 3, 4, 5] [1, 2] rfl rfl rfl rfl 6 rfl (by decide) [m0, a13, a14, a15, a16, a33] rfl rfl hk1 (by rw [← ht]; exact hB)
                              have hw_23 : (k < 4 ∧ (cdT zs fr nn) a = nI 44 ∧ isK ((cdT zs fr nn) (a + 1)) = true ∧ dg (cdT zs fr nn) (a + 2) s = true ∧ r_23 = nI 1 ∧ ra2_23 = a + 3 ∧ rq2_23 = k + 1 ∧ qk2_23 = upd qkX k (nI (kdOf ((cdT zs fr nn) (a + 1)))) ∧ qt2_23 = upd qtX k (nI (dv (cdT zs fr nn) (a + 2)))) ∨ (r_23 = nI 0 ∧ rq2_23 = k ∧ qk2_23 = qkX ∧ qt2_23 = qtX ∧ ((¬ (k < 4 ∧ (cdT zs fr nn) a = nI 44) ∧ ra2_23 = a) ∨ (k < 4 ∧ (cdT zs fr nn) a = nI 44 ∧ isK ((cdT zs fr nn) (a + 1)) = false ∧ ra2_23 = a + 1) ∨ (k < 4 ∧ (cdT zs fr nn) a = nI 44 ∧ isK ((cdT zs fr nn) (a + 1)) = true ∧ dg (cdT zs fr nn) (a + 2) s = false ∧ ra2_23 = a + 2))) := hw_23
                              clear hF hB hk1 hz1 hvm
                              clear ht
                              generalize H1 = H at hP hS ⊢
                              rcases hw_23 with ⟨q1, q2, q3, q4, q5, q6, q7, q8, q9⟩ | ⟨q5, q6, q7, q8, q9⟩
                              · skip
                                have q5 := q5.symm
                                have q6 := q6.symm
                                have q7 := q7.symm
                                have q8 := q8.symm
                                have q9 := q9.symm
                                subst q5 q6 q7 q8 q9
                                refine lv_istore_n (lv' := [(3, .int (nI 1)), (0, .ref m0), (1, .int (nI fr)), (2, .int (nI nn))]) hx hb dX10_readsCoast_158 rfl hl (by decide) rfl (fun ls hl => ?_)
                                refine lv_goto (tgt := 133) hx hb dX10_readsCoast_159 (by decide) ?_
                                have o_24 : (k + 1) ≤ 4 := by omega
                                have o_25 : true = true → (a + 3) = aLa (cdT zs fr nn) + 3 * (k + 1) ∧ (a + 3) ≤ nn ∧ (∀ j, j < (k + 1) → pLa (cdT zs fr nn) j = true) ∧ (∀ j, j < (k + 1) → (upd qkX k (nI (kdOf ((cdT zs fr nn) (a + 1))))) j = nI (kdOf ((cdT zs fr nn) (aLa (cdT zs fr nn) + 3 * j + 1)))) ∧ ∀ j, j < (k + 1) → (upd qtX k (nI (dv (cdT zs fr nn) (a + 2)))) j = nI (dv (cdT zs fr nn) (aLa (cdT zs fr nn) + 3 * j + 2)) := by
                                  intro _
                                  obtain ⟨w1, w2, w3, w4, w5⟩ := hk1v
                                  have hlt := dg_lt q4
                                  refine ⟨by omega, by omega, fun j hj => ?_, fun j hj => ?_, fun j hj => ?_⟩
                                  · by_cases e : j = k
                                    · subst e
                                      exact pLa_t (by rw [w1] at q2; exact q2) (by rw [w1] at q3; exact q3) (by rw [w1, ← hse] at q4; exact q4)
                                    · exact w3 j (by omega)
                                  · by_cases e : j = k
                                    · subst e; rw [up_at, w1]
                                    · rw [up_ne _ _ e]; exact w4 j (by omega)
                                  · by_cases e : j = k
                                    · subst e; rw [up_at, w1]
                                    · rw [up_ne _ _ e]; exact w5 j (by omega)
                                have o_26 : true = false → rdT (cdT zs fr nn) nn = (false, (a + 3)) := by intro z; cases z
                                have o_27 : (bif true then 5 - (k + 1) else 0) < n_133 := by first | exact Nat.lt_of_lt_of_le (show 5 - (k + 1) < 5 - k by omega) (Nat.le_of_lt_succ hn_133) | exact Nat.lt_of_lt_of_le (show 0 < 5 - k by omega) (Nat.le_of_lt_succ hn_133)
                                exact ih_133 true (k + 1) (a + 3) (upd qkX k (nI (kdOf ((cdT zs fr nn) (a + 1))))) (upd qtX k (nI (dv (cdT zs fr nn) (a + 2)))) o_24 o_25 o_26 o_27 _ _ hP hD hS ls (lv_sub hl [0, 1, 2, 3] rfl)
                              · skip
                                have q5 := q5.symm
                                have q6 := q6.symm
                                have q7 := q7.symm
                                have q8 := q8.symm
                                subst q5 q6 q7 q8
                                refine lv_istore_n (lv' := [(3, .int (nI 0)), (0, .ref m0), (1, .int (nI fr)), (2, .int (nI nn))]) hx hb dX10_readsCoast_158 rfl hl (by decide) rfl (fun ls hl => ?_)
                                refine lv_goto (tgt := 133) hx hb dX10_readsCoast_159 (by decide) ?_
                                refine lv_iload_n hx hb dX10_readsCoast_133 rfl (lv_at hl 0 rfl) ?_
                                refine kk_if_eq (x := 0) (tgt := 162) hx hb dX10_readsCoast_134 (by decide) (by decide) (fun h => ?_) (fun h => absurd h (by decide))
                                refine lv_iload_n hx hb dX10_readsCoast_162 rfl (lv_at hl 0 rfl) ?_
                                have hq : (nI 0) = kb (rdT (cdT zs fr nn) nn).1 ∧ ra2_23 = (rdT (cdT zs fr nn) nn).2 ∧ ((rdT (cdT zs fr nn) nn).1 = true → s = rSp (cdT zs fr nn) ∧ k = rLa (cdT zs fr nn) ∧ (∀ j, j < 6 → qsX j = nI (dv (cdT zs fr nn) (1 + j))) ∧ (∀ j, j < rSp (cdT zs fr nn) → qhX j = nI (dv (cdT zs fr nn) (8 + 2 * j))) ∧ (∀ j, j < rLa (cdT zs fr nn) → qkX j = nI (kdOf ((cdT zs fr nn) (aLa (cdT zs fr nn) + 3 * j + 1)))) ∧ ∀ j, j < rLa (cdT zs fr nn) → qtX j = nI (dv (cdT zs fr nn) (aLa (cdT zs fr nn) + 3 * j + 2))) := by
                                  obtain ⟨w1, w2, w3, w4, w5⟩ := hk1v
                                  have e_n : a = nn := by omega
                                  have hx := rdT_end (n := nn) hosp (k := k) (by omega) hk w3 (Or.inr (fun z => by
                                    have h9 := cd_lt (by decide) z
                                    omega))
                                  have e := hx.2
                                  rw [decide_eq_true (by omega)] at e
                                  refine ⟨?_, ?_, fun _ => ⟨?_, ?_, ?_, ?_, ?_, ?_⟩⟩
                                  · rw [e]; rfl
                                  · rw [e, ← w1]
                                  · exact hse.symm
                                  · exact hx.1.symm
                                  · exact hqs
                                  · rw [hse]; exact hqh
                                  · rw [hx.1]; exact w4
                                  · rw [hx.1]; exact w5
                                refine kk_QQ hQQ ?_
                                exact W.zret (v := nI 0) (ty := .boolean) hx hb hr (by decide +kernel) (fun t ht hW => ⟨⟨nI 0, (ra2_23, s, k, qsX, qhX, qkX, qtX), rfl, hq, by show va_P D vwCl _ t.heap; rw [ht]; exact hP⟩, hS.F ht⟩) hS.2.2 dX10_readsCoast_163
                            · skip
                              refine lv_aload_n hx hb dX10_readsCoast_144 rfl (lv_at hl 1 rfl) ?_
                              refine va_get (D := D) (ci := 9) (v := .int (nI a)) (C := RX10) (T := TX10) (N := 36) hx hb hts hwX10 hown hK hP 0 rfl rfl 10 (by decide) hf_110 (fun _ h9 => h9) rfl dX10_readsCoast_145 ?_
                              refine lv_iload_n hx hb dX10_readsCoast_148 rfl (lv_at hl 3 rfl) ?_
                              refine kk_icmp_ge (tgt := 162) hx hb dX10_readsCoast_149 (by decide) (by omega) (by omega) (fun c_28 => ?_) (fun c_28 => ?_)
                              · skip
                                refine lv_iload_n hx hb dX10_readsCoast_162 rfl (lv_at hl 0 rfl) ?_
                                have hq : (nI 1) = kb (rdT (cdT zs fr nn) nn).1 ∧ a = (rdT (cdT zs fr nn) nn).2 ∧ ((rdT (cdT zs fr nn) nn).1 = true → s = rSp (cdT zs fr nn) ∧ k = rLa (cdT zs fr nn) ∧ (∀ j, j < 6 → qsX j = nI (dv (cdT zs fr nn) (1 + j))) ∧ (∀ j, j < rSp (cdT zs fr nn) → qhX j = nI (dv (cdT zs fr nn) (8 + 2 * j))) ∧ (∀ j, j < rLa (cdT zs fr nn) → qkX j = nI (kdOf ((cdT zs fr nn) (aLa (cdT zs fr nn) + 3 * j + 1)))) ∧ ∀ j, j < rLa (cdT zs fr nn) → qtX j = nI (dv (cdT zs fr nn) (aLa (cdT zs fr nn) + 3 * j + 2))) := by
                                  obtain ⟨w1, w2, w3, w4, w5⟩ := hk1v
                                  have e_n : a = nn := by omega
                                  have hx := rdT_end (n := nn) hosp (k := k) (by omega) hk w3 (Or.inr (fun z => by
                                    have h9 := cd_lt (by decide) z
                                    omega))
                                  have e := hx.2
                                  rw [decide_eq_true (by omega)] at e
                                  refine ⟨?_, ?_, fun _ => ⟨?_, ?_, ?_, ?_, ?_, ?_⟩⟩
                                  · rw [e]; rfl
                                  · rw [e, ← w1]
                                  · exact hse.symm
                                  · exact hx.1.symm
                                  · exact hqs
                                  · rw [hse]; exact hqh
                                  · rw [hx.1]; exact w4
                                  · rw [hx.1]; exact w5
                                refine kk_QQ hQQ ?_
                                exact W.zret (v := nI 1) (ty := .boolean) hx hb hr (by decide +kernel) (fun t ht hW => ⟨⟨nI 1, (a, s, k, qsX, qhX, qkX, qtX), rfl, hq, by show va_P D vwCl _ t.heap; rw [ht]; exact hP⟩, hS.F ht⟩) hS.2.2 dX10_readsCoast_163
                              · skip
                                have hlt9 : 0 < k → a < nn := fun _ => by omega
                                refine lv_aload_n hx hb dX10_readsCoast_152 rfl (lv_at hl 1 rfl) ?_
                                refine lv_iload_n hx hb dX10_readsCoast_153 rfl (lv_at hl 2 rfl) ?_
                                refine lv_iload_n hx hb dX10_readsCoast_154 rfl (lv_at hl 3 rfl) ?_
                                have o_29 : fr + nn ≤ 240 := by omega
                                have o_30 : s ≤ 4 := by exact hsle
                                have o_31 : 0 < s := by exact hs0
                                have o_32 : k ≤ 4 := by exact hkle
                                have hF := va_free (wc := [(m0, .inr (9, [.int i0, .ref a1, .int i2, .ref a3, .int i4, .ref a5, .ref a6, .ref a7, .int i8, .int i9, .int (nI a), .int (nI s), .int (nI k), .ref a13, .ref a14, .ref a15, .ref a16, .int i17, .ref a18, .ref a19, .ref a20, .ref a21, .ref a22, .ref a23, .ref a24, .ref a25, .int i26, .ref a27, .ref a28, .ref a29, .ref a30, .ref a31, .ref a32, .ref a33, .ref a34, .int i35])), (a15, .inl (cI, 4, .inl qkX)), (a16, .inl (cI, 4, .inl qtX)), (a33, .inl (cI, 240, .inl zs))]) hD hS hA [0, 3, 4, 5] rfl
                                refine va_calli (va_runV (As := [.int (nI fr), .int (nI nn)]) (rest := []) ⟨hx, hb, hml, hown, hts⟩ (c_X10_readsLamp lL D cI cS _ m0 a1 a3 a5 a6 a7 a13 a14 a15 a16 a18 a19 a20 a21 a22 a23 a24 a25 a27 a28 a29 a30 a31 a32 a33 a34 i0 i2 i4 i8 i9 i17 i26 i35 qkX qtX zs fr nn a s k o_29 o_30 o_31 o_32) (cwV 2 hts gX10_readsCoast_X10_readsLamp rfl rfl rfl cd_X10_readsLamp ⟨Nat.le_of_ble_eq_true rfl, Nat.le_of_ble_eq_true rfl⟩) ⟨kB_blind, va_recv hK hP (ci := 9) (q0 := 0) rfl rfl, fun U hU hW => ⟨rfl, by rw [hU], by rw [hU]; exact hP.sub [0, 3, 4, 5] rfl, va_K.moved hW.alike hK, (hD.sub [0, 3, 4, 5] (by decide) rfl).weaken (fun _ _ _ _ => trivial)⟩⟩ rfl rfl hl.1 rfl (lv_room (Nat.le_of_ble_eq_true rfl)) dX10_readsCoast_155 ⟨Nat.le_of_ble_eq_true rfl, Nat.le_of_ble_eq_true rfl⟩) hS (fun q _ h => hF q h) hF (fun r_33 u_33 t H1 locs ht hvm hw_33 hB hz1 hk1 hS => ?_)
                                obtain ⟨ra2_33, rq2_33, qk2_33, qt2_33⟩ := u_33
                                obtain ⟨hP, hD⟩ := kk_join2 (wc := [(m0, .inr (9, [.int i0, .ref a1, .int i2, .ref a3, .int i4, .ref a5, .ref a6, .ref a7, .int i8, .int i9, .int (nI a), .int (nI s), .int (nI k), .ref a13, .ref a14, .ref a15, .ref a16, .int i17, .ref a18, .ref a19, .ref a20, .ref a21, .ref a22, .ref a23, .ref a24, .ref a25, .int i26, .ref a27, .ref a28, .ref a29, .ref a30, .ref a31, .ref a32, .ref a33, .ref a34, .int i35])), (a15, .inl (cI, 4, .inl qkX)), (a16, .inl (cI, 4, .inl qtX)), (a33, .inl (cI, 240, .inl zs))]) (w1 := [(m0, .inr (9, [.int i0, .ref a1, .int i2, .ref a3, .int i4, .ref a5, .ref a6, .ref a7, .int i8, .int i9, .int (nI ra2_33), .int (nI s), .int (nI rq2_33), .ref a13, .ref a14, .ref a15, .ref a16, .int i17, .ref a18, .ref a19, .ref a20, .ref a21, .ref a22, .ref a23, .ref a24, .ref a25, .int i26, .ref a27, .ref a28, .ref a29, .ref a30, .ref a31, .ref a32, .ref a33, .ref a34, .int i35])), (a15, .inl (cI, 4, .inl qk2_33)), (a16, .inl (cI, 4, .inl qt2_33)), (a33, .inl (cI, 240, .inl zs))]) (ws' := [(m0, .inr (9, [.int i0, .ref a1, .int i2, .ref a3, .int i4, .ref a5, .ref a6, .ref a7, .int i8, .int i9, .int (nI ra2_33), .int (nI s), .int (nI rq2_33), .ref a13, .ref a14, .ref a15, .ref a16, .int i17, .ref a18, .ref a19, .ref a20, .ref a21, .ref a22, .ref a23, .ref a24, .ref a25, .int i26, .ref a27, .ref a28, .ref a29, .ref a30, .ref a31, .ref a32, .ref a33, .ref a34, .int i35])), (a13, .inl (cI, 6, .inl qsX)), (a14, .inl (cI, 4, .inl qhX)), (a15, .inl (cI, 4, .inl qk2_33)), (a16, .inl (cI, 4, .inl qt2_33)), (a33, .inl (cI, 240, .inl zs))]) (wr := [(a13, .inl (cI, 6, .inl qsX)), (a14, .inl (cI, 4, .inl qhX))]) (H1 := H1) hP hD [0, 3, 4, 5] [1, 2] rfl rfl rfl rfl 6 rfl (by decide) [m0, a13, a14, a15, a16, a33] rfl rfl hk1 (by rw [← ht]; exact hB)
                                have hw_33 : (k < 4 ∧ (cdT zs fr nn) a = nI 44 ∧ isK ((cdT zs fr nn) (a + 1)) = true ∧ dg (cdT zs fr nn) (a + 2) s = true ∧ r_33 = nI 1 ∧ ra2_33 = a + 3 ∧ rq2_33 = k + 1 ∧ qk2_33 = upd qkX k (nI (kdOf ((cdT zs fr nn) (a + 1)))) ∧ qt2_33 = upd qtX k (nI (dv (cdT zs fr nn) (a + 2)))) ∨ (r_33 = nI 0 ∧ rq2_33 = k ∧ qk2_33 = qkX ∧ qt2_33 = qtX ∧ ((¬ (k < 4 ∧ (cdT zs fr nn) a = nI 44) ∧ ra2_33 = a) ∨ (k < 4 ∧ (cdT zs fr nn) a = nI 44 ∧ isK ((cdT zs fr nn) (a + 1)) = false ∧ ra2_33 = a + 1) ∨ (k < 4 ∧ (cdT zs fr nn) a = nI 44 ∧ isK ((cdT zs fr nn) (a + 1)) = true ∧ dg (cdT zs fr nn) (a + 2) s = false ∧ ra2_33 = a + 2))) := hw_33
                                clear hF hB hk1 hz1 hvm
                                clear ht
                                generalize H1 = H at hP hS ⊢
                                rcases hw_33 with ⟨q1, q2, q3, q4, q5, q6, q7, q8, q9⟩ | ⟨q5, q6, q7, q8, q9⟩
                                · skip
                                  have q5 := q5.symm
                                  have q6 := q6.symm
                                  have q7 := q7.symm
                                  have q8 := q8.symm
                                  have q9 := q9.symm
                                  subst q5 q6 q7 q8 q9
                                  refine lv_istore_n (lv' := [(3, .int (nI 1)), (0, .ref m0), (1, .int (nI fr)), (2, .int (nI nn))]) hx hb dX10_readsCoast_158 rfl hl (by decide) rfl (fun ls hl => ?_)
                                  refine lv_goto (tgt := 133) hx hb dX10_readsCoast_159 (by decide) ?_
                                  have o_34 : (k + 1) ≤ 4 := by omega
                                  have o_35 : true = true → (a + 3) = aLa (cdT zs fr nn) + 3 * (k + 1) ∧ (a + 3) ≤ nn ∧ (∀ j, j < (k + 1) → pLa (cdT zs fr nn) j = true) ∧ (∀ j, j < (k + 1) → (upd qkX k (nI (kdOf ((cdT zs fr nn) (a + 1))))) j = nI (kdOf ((cdT zs fr nn) (aLa (cdT zs fr nn) + 3 * j + 1)))) ∧ ∀ j, j < (k + 1) → (upd qtX k (nI (dv (cdT zs fr nn) (a + 2)))) j = nI (dv (cdT zs fr nn) (aLa (cdT zs fr nn) + 3 * j + 2)) := by
                                    intro _
                                    obtain ⟨w1, w2, w3, w4, w5⟩ := hk1v
                                    have hlt := dg_lt q4
                                    refine ⟨by omega, by omega, fun j hj => ?_, fun j hj => ?_, fun j hj => ?_⟩
                                    · by_cases e : j = k
                                      · subst e
                                        exact pLa_t (by rw [w1] at q2; exact q2) (by rw [w1] at q3; exact q3) (by rw [w1, ← hse] at q4; exact q4)
                                      · exact w3 j (by omega)
                                    · by_cases e : j = k
                                      · subst e; rw [up_at, w1]
                                      · rw [up_ne _ _ e]; exact w4 j (by omega)
                                    · by_cases e : j = k
                                      · subst e; rw [up_at, w1]
                                      · rw [up_ne _ _ e]; exact w5 j (by omega)
                                  have o_36 : true = false → rdT (cdT zs fr nn) nn = (false, (a + 3)) := by intro z; cases z
                                  have o_37 : (bif true then 5 - (k + 1) else 0) < n_133 := by first | exact Nat.lt_of_lt_of_le (show 5 - (k + 1) < 5 - k by omega) (Nat.le_of_lt_succ hn_133) | exact Nat.lt_of_lt_of_le (show 0 < 5 - k by omega) (Nat.le_of_lt_succ hn_133)
                                  exact ih_133 true (k + 1) (a + 3) (upd qkX k (nI (kdOf ((cdT zs fr nn) (a + 1))))) (upd qtX k (nI (dv (cdT zs fr nn) (a + 2)))) o_34 o_35 o_36 o_37 _ _ hP hD hS ls (lv_sub hl [0, 1, 2, 3] rfl)
                                · skip
                                  have q5 := q5.symm
                                  have q6 := q6.symm
                                  have q7 := q7.symm
                                  have q8 := q8.symm
                                  subst q5 q6 q7 q8
                                  refine lv_istore_n (lv' := [(3, .int (nI 0)), (0, .ref m0), (1, .int (nI fr)), (2, .int (nI nn))]) hx hb dX10_readsCoast_158 rfl hl (by decide) rfl (fun ls hl => ?_)
                                  refine lv_goto (tgt := 133) hx hb dX10_readsCoast_159 (by decide) ?_
                                  refine lv_iload_n hx hb dX10_readsCoast_133 rfl (lv_at hl 0 rfl) ?_
                                  refine kk_if_eq (x := 0) (tgt := 162) hx hb dX10_readsCoast_134 (by decide) (by decide) (fun h => ?_) (fun h => absurd h (by decide))
                                  refine lv_iload_n hx hb dX10_readsCoast_162 rfl (lv_at hl 0 rfl) ?_
                                  have hq : (nI 0) = kb (rdT (cdT zs fr nn) nn).1 ∧ ra2_33 = (rdT (cdT zs fr nn) nn).2 ∧ ((rdT (cdT zs fr nn) nn).1 = true → s = rSp (cdT zs fr nn) ∧ k = rLa (cdT zs fr nn) ∧ (∀ j, j < 6 → qsX j = nI (dv (cdT zs fr nn) (1 + j))) ∧ (∀ j, j < rSp (cdT zs fr nn) → qhX j = nI (dv (cdT zs fr nn) (8 + 2 * j))) ∧ (∀ j, j < rLa (cdT zs fr nn) → qkX j = nI (kdOf ((cdT zs fr nn) (aLa (cdT zs fr nn) + 3 * j + 1)))) ∧ ∀ j, j < rLa (cdT zs fr nn) → qtX j = nI (dv (cdT zs fr nn) (aLa (cdT zs fr nn) + 3 * j + 2))) := by
                                    obtain ⟨w1, w2, w3, w4, w5⟩ := hk1v
                                    have e_n : a = nn := by omega
                                    have hx := rdT_end (n := nn) hosp (k := k) (by omega) hk w3 (Or.inr (fun z => by
                                      have h9 := cd_lt (by decide) z
                                      omega))
                                    have e := hx.2
                                    rw [decide_eq_true (by omega)] at e
                                    refine ⟨?_, ?_, fun _ => ⟨?_, ?_, ?_, ?_, ?_, ?_⟩⟩
                                    · rw [e]; rfl
                                    · rw [e, ← w1]
                                    · exact hse.symm
                                    · exact hx.1.symm
                                    · exact hqs
                                    · rw [hse]; exact hqh
                                    · rw [hx.1]; exact w4
                                    · rw [hx.1]; exact w5
                                  refine kk_QQ hQQ ?_
                                  exact W.zret (v := nI 0) (ty := .boolean) hx hb hr (by decide +kernel) (fun t ht hW => ⟨⟨nI 0, (ra2_33, s, k, qsX, qhX, qkX, qtX), rfl, hq, by show va_P D vwCl _ t.heap; rw [ht]; exact hP⟩, hS.F ht⟩) hS.2.2 dX10_readsCoast_163
                      have o_38 : 0 ≤ 4 := by omega
                      have o_39 : true = true → a = aLa (cdT zs fr nn) + 3 * 0 ∧ a ≤ nn ∧ (∀ j, j < 0 → pLa (cdT zs fr nn) j = true) ∧ (∀ j, j < 0 → qk j = nI (kdOf ((cdT zs fr nn) (aLa (cdT zs fr nn) + 3 * j + 1)))) ∧ ∀ j, j < 0 → qt j = nI (dv (cdT zs fr nn) (aLa (cdT zs fr nn) + 3 * j + 2)) := by exact fun _ => ⟨by omega, haln, fun j hj => by omega, fun j hj => by omega, fun j hj => by omega⟩
                      have o_40 : true = false → rdT (cdT zs fr nn) nn = (false, a) := by intro z; cases z
                      have o_41 : (bif true then 5 - 0 else 0) < 6 := by exact (show 5 - 0 < 6 by omega)
                      exact L_133 6 true 0 a qk qt o_38 o_39 o_40 o_41 _ _ hP hD hS ls (lv_sub hl [0, 1, 2, 3] rfl)
                    · skip
                      have hc59 : 0 < s → (cdT zs fr nn) a = nI 59 := fun _ => c_16
                      refine lv_aload_n hx hb dX10_readsCoast_123 rfl (lv_at hl 1 rfl) ?_
                      refine lv_iload_n hx hb dX10_readsCoast_124 rfl (lv_at hl 2 rfl) ?_
                      refine lv_iload_n hx hb dX10_readsCoast_125 rfl (lv_at hl 3 rfl) ?_
                      have o_42 : fr + nn ≤ 240 := by omega
                      have o_43 : s ≤ 4 := by exact hsle
                      have hF := va_free (wc := [(m0, .inr (9, [.int i0, .ref a1, .int i2, .ref a3, .int i4, .ref a5, .ref a6, .ref a7, .int i8, .int i9, .int (nI a), .int (nI s), .int (nI 0), .ref a13, .ref a14, .ref a15, .ref a16, .int i17, .ref a18, .ref a19, .ref a20, .ref a21, .ref a22, .ref a23, .ref a24, .ref a25, .int i26, .ref a27, .ref a28, .ref a29, .ref a30, .ref a31, .ref a32, .ref a33, .ref a34, .int i35])), (a14, .inl (cI, 4, .inl qhX)), (a33, .inl (cI, 240, .inl zs))]) hD hS hA [0, 2, 5] rfl
                      refine va_calli (va_runV (As := [.int (nI fr), .int (nI nn)]) (rest := []) ⟨hx, hb, hml, hown, hts⟩ (c_X10_readsSpot lL D cI cS _ m0 a1 a3 a5 a6 a7 a13 a14 a15 a16 a18 a19 a20 a21 a22 a23 a24 a25 a27 a28 a29 a30 a31 a32 a33 a34 i0 i2 i4 i8 i9 (nI 0) i17 i26 i35 qhX zs fr nn a s o_42 o_43) (cwV 2 hts gX10_readsCoast_X10_readsSpot rfl rfl rfl cd_X10_readsSpot ⟨Nat.le_of_ble_eq_true rfl, Nat.le_of_ble_eq_true rfl⟩) ⟨kB_blind, va_recv hK hP (ci := 9) (q0 := 0) rfl rfl, fun U hU hW => ⟨rfl, by rw [hU], by rw [hU]; exact hP.sub [0, 2, 5] rfl, va_K.moved hW.alike hK, (hD.sub [0, 2, 5] (by decide) rfl).weaken (fun _ _ _ _ => trivial)⟩⟩ rfl rfl hl.1 rfl (lv_room (Nat.le_of_ble_eq_true rfl)) dX10_readsCoast_126 ⟨Nat.le_of_ble_eq_true rfl, Nat.le_of_ble_eq_true rfl⟩) hS (fun q _ h => hF q h) hF (fun r_44 u_44 t H1 locs ht hvm hw_44 hB hz1 hk1 hS => ?_)
                      obtain ⟨ra2_44, rs2_44, qh2_44⟩ := u_44
                      obtain ⟨hP, hD⟩ := kk_join2 (wc := [(m0, .inr (9, [.int i0, .ref a1, .int i2, .ref a3, .int i4, .ref a5, .ref a6, .ref a7, .int i8, .int i9, .int (nI a), .int (nI s), .int (nI 0), .ref a13, .ref a14, .ref a15, .ref a16, .int i17, .ref a18, .ref a19, .ref a20, .ref a21, .ref a22, .ref a23, .ref a24, .ref a25, .int i26, .ref a27, .ref a28, .ref a29, .ref a30, .ref a31, .ref a32, .ref a33, .ref a34, .int i35])), (a14, .inl (cI, 4, .inl qhX)), (a33, .inl (cI, 240, .inl zs))]) (w1 := [(m0, .inr (9, [.int i0, .ref a1, .int i2, .ref a3, .int i4, .ref a5, .ref a6, .ref a7, .int i8, .int i9, .int (nI ra2_44), .int (nI rs2_44), .int (nI 0), .ref a13, .ref a14, .ref a15, .ref a16, .int i17, .ref a18, .ref a19, .ref a20, .ref a21, .ref a22, .ref a23, .ref a24, .ref a25, .int i26, .ref a27, .ref a28, .ref a29, .ref a30, .ref a31, .ref a32, .ref a33, .ref a34, .int i35])), (a14, .inl (cI, 4, .inl qh2_44)), (a33, .inl (cI, 240, .inl zs))]) (ws' := [(m0, .inr (9, [.int i0, .ref a1, .int i2, .ref a3, .int i4, .ref a5, .ref a6, .ref a7, .int i8, .int i9, .int (nI ra2_44), .int (nI rs2_44), .int (nI 0), .ref a13, .ref a14, .ref a15, .ref a16, .int i17, .ref a18, .ref a19, .ref a20, .ref a21, .ref a22, .ref a23, .ref a24, .ref a25, .int i26, .ref a27, .ref a28, .ref a29, .ref a30, .ref a31, .ref a32, .ref a33, .ref a34, .int i35])), (a13, .inl (cI, 6, .inl qsX)), (a14, .inl (cI, 4, .inl qh2_44)), (a15, .inl (cI, 4, .inl qk)), (a16, .inl (cI, 4, .inl qt)), (a33, .inl (cI, 240, .inl zs))]) (wr := [(a13, .inl (cI, 6, .inl qsX)), (a15, .inl (cI, 4, .inl qk)), (a16, .inl (cI, 4, .inl qt))]) (H1 := H1) hP hD [0, 2, 5] [1, 3, 4] rfl rfl rfl rfl 6 rfl (by decide) [m0, a13, a14, a15, a16, a33] rfl rfl hk1 (by rw [← ht]; exact hB)
                      have hw_44 : (s < 4 ∧ (cdT zs fr nn) a = nI 59 ∧ dg (cdT zs fr nn) (a + 1) 10 = true ∧ r_44 = nI 1 ∧ ra2_44 = a + 2 ∧ rs2_44 = s + 1 ∧ qh2_44 = upd qhX s (nI (dv (cdT zs fr nn) (a + 1)))) ∨ (r_44 = nI 0 ∧ rs2_44 = s ∧ qh2_44 = qhX ∧ ((¬ (s < 4 ∧ (cdT zs fr nn) a = nI 59) ∧ ra2_44 = a) ∨ (s < 4 ∧ (cdT zs fr nn) a = nI 59 ∧ dg (cdT zs fr nn) (a + 1) 10 = false ∧ ra2_44 = a + 1))) := hw_44
                      clear hF hB hk1 hz1 hvm
                      clear ht
                      generalize H1 = H at hP hS ⊢
                      rcases hw_44 with ⟨q1, q2, q3, q4, q5, q6, q7⟩ | ⟨q4, q5, q6, q7⟩
                      · skip
                        have q4 := q4.symm
                        have q5 := q5.symm
                        have q6 := q6.symm
                        have q7 := q7.symm
                        subst q4 q5 q6 q7
                        refine lv_istore_n (lv' := [(3, .int (nI 1)), (0, .ref m0), (1, .int (nI fr)), (2, .int (nI nn))]) hx hb dX10_readsCoast_129 rfl hl (by decide) rfl (fun ls hl => ?_)
                        refine lv_goto (tgt := 101) hx hb dX10_readsCoast_130 (by decide) ?_
                        have o_45 : (s + 1) ≤ 4 := by omega
                        have o_46 : true = true → (a + 2) = 7 + 2 * (s + 1) ∧ (a + 2) ≤ nn ∧ (∀ j, j < (s + 1) → pSp (cdT zs fr nn) j = true) ∧ ∀ j, j < (s + 1) → (upd qhX s (nI (dv (cdT zs fr nn) (a + 1)))) j = nI (dv (cdT zs fr nn) (8 + 2 * j)) := by
                          intro _
                          obtain ⟨w1, w2, w3, w4⟩ := hs1v
                          have hlt := dg_lt q3
                          refine ⟨by omega, by omega, fun j hj => ?_, fun j hj => ?_⟩
                          · by_cases e : j = s
                            · subst e
                              exact pSp_t (by rw [w1] at q2; exact q2) (by rw [w1, show 7 + 2 * j + 1 = 8 + 2 * j by omega] at q3; exact q3)
                            · exact w3 j (by omega)
                          · by_cases e : j = s
                            · subst e
                              rw [up_at, w1, show 7 + 2 * j + 1 = 8 + 2 * j by omega]
                            · rw [up_ne _ _ e]; exact w4 j (by omega)
                        have o_47 : true = false → rdT (cdT zs fr nn) nn = (false, (a + 2)) := by intro z; cases z
                        have o_48 : (bif true then 5 - (s + 1) else 0) < n_101 := by first | exact Nat.lt_of_lt_of_le (show 5 - (s + 1) < 5 - s by omega) (Nat.le_of_lt_succ hn_101) | exact Nat.lt_of_lt_of_le (show 0 < 5 - s by omega) (Nat.le_of_lt_succ hn_101)
                        exact ih_101 true (s + 1) (a + 2) (upd qhX s (nI (dv (cdT zs fr nn) (a + 1)))) o_45 o_46 o_47 o_48 _ _ hP hD hS ls (lv_sub hl [0, 1, 2, 3] rfl)
                      · skip
                        have q4 := q4.symm
                        have q5 := q5.symm
                        have q6 := q6.symm
                        subst q4 q5 q6
                        refine lv_istore_n (lv' := [(3, .int (nI 0)), (0, .ref m0), (1, .int (nI fr)), (2, .int (nI nn))]) hx hb dX10_readsCoast_129 rfl hl (by decide) rfl (fun ls hl => ?_)
                        refine lv_goto (tgt := 101) hx hb dX10_readsCoast_130 (by decide) ?_
                        refine lv_iload_n hx hb dX10_readsCoast_101 rfl (lv_at hl 0 rfl) ?_
                        refine kk_if_eq (x := 0) (tgt := 133) hx hb dX10_readsCoast_102 (by decide) (by decide) (fun h => ?_) (fun h => absurd h (by decide))
                        refine lv_iload_n hx hb dX10_readsCoast_133 rfl (lv_at hl 0 rfl) ?_
                        refine kk_if_eq (x := 0) (tgt := 162) hx hb dX10_readsCoast_134 (by decide) (by decide) (fun h => ?_) (fun h => absurd h (by decide))
                        refine lv_iload_n hx hb dX10_readsCoast_162 rfl (lv_at hl 0 rfl) ?_
                        have hq : (nI 0) = kb (rdT (cdT zs fr nn) nn).1 ∧ ra2_44 = (rdT (cdT zs fr nn) nn).2 ∧ ((rdT (cdT zs fr nn) nn).1 = true → s = rSp (cdT zs fr nn) ∧ 0 = rLa (cdT zs fr nn) ∧ (∀ j, j < 6 → qsX j = nI (dv (cdT zs fr nn) (1 + j))) ∧ (∀ j, j < rSp (cdT zs fr nn) → qhX j = nI (dv (cdT zs fr nn) (8 + 2 * j))) ∧ (∀ j, j < rLa (cdT zs fr nn) → qk j = nI (kdOf ((cdT zs fr nn) (aLa (cdT zs fr nn) + 3 * j + 1)))) ∧ ∀ j, j < rLa (cdT zs fr nn) → qt j = nI (dv (cdT zs fr nn) (aLa (cdT zs fr nn) + 3 * j + 2))) := by
                          obtain ⟨w1, w2, w3, w4, w5⟩ := hk1v
                          have e_n : a = nn := by omega
                          have hx := rdT_end (n := nn) hosp (k := k) (by omega) hk w3 (Or.inr (fun z => by
                            have h9 := cd_lt (by decide) z
                            omega))
                          have e := hx.2
                          rw [decide_eq_true (by omega)] at e
                          refine ⟨?_, ?_, fun _ => ⟨?_, ?_, ?_, ?_, ?_, ?_⟩⟩
                          · rw [e]; rfl
                          · rw [e, ← w1]
                          · exact hse.symm
                          · exact hx.1.symm
                          · exact hqs
                          · rw [hse]; exact hqh
                          · rw [hx.1]; exact w4
                          · rw [hx.1]; exact w5
                        refine kk_QQ hQQ ?_
                        exact W.zret (v := nI 0) (ty := .boolean) hx hb hr (by decide +kernel) (fun t ht hW => ⟨⟨nI 0, (ra2_44, s, 0, qsX, qhX, qk, qt), rfl, hq, by show va_P D vwCl _ t.heap; rw [ht]; exact hP⟩, hS.F ht⟩) hS.2.2 dX10_readsCoast_163
            have o_49 : 0 ≤ 4 := by omega
            have o_50 : true = true → a = 7 + 2 * 0 ∧ a ≤ nn ∧ (∀ j, j < 0 → pSp (cdT zs fr nn) j = true) ∧ ∀ j, j < 0 → qh j = nI (dv (cdT zs fr nn) (8 + 2 * j)) := by exact fun _ => ⟨by have := hw.1; omega, hw.2.1, fun j hj => by omega, fun j hj => by omega⟩
            have o_51 : true = false → rdT (cdT zs fr nn) nn = (false, a) := by intro z; cases z
            have o_52 : (bif true then 5 - 0 else 0) < 6 := by exact (show 5 - 0 < 6 by omega)
            exact L_101 6 true 0 a qh o_49 o_50 o_51 o_52 _ _ hP hD hS ls (lv_sub hl [1, 2, 3, 4] rfl)
          · skip
            subst hbt
            have hl : lv_has ls 5 [(4, .int (nI k)), (3, .int (nI 0)), (0, .ref m0), (1, .int (nI fr)), (2, .int (nI nn))] := hl
            have hfail := hw0 rfl
            refine lv_iload_n hx hb dX10_readsCoast_101 rfl (lv_at hl 1 rfl) ?_
            refine kk_if_eq (x := 0) (tgt := 133) hx hb dX10_readsCoast_102 (by decide) (by decide) (fun h => ?_) (fun h => absurd h (by decide))
            refine lv_iload_n hx hb dX10_readsCoast_133 rfl (lv_at hl 1 rfl) ?_
            refine kk_if_eq (x := 0) (tgt := 162) hx hb dX10_readsCoast_134 (by decide) (by decide) (fun h => ?_) (fun h => absurd h (by decide))
            refine lv_iload_n hx hb dX10_readsCoast_162 rfl (lv_at hl 1 rfl) ?_
            have hq : (nI 0) = kb (rdT (cdT zs fr nn) nn).1 ∧ a = (rdT (cdT zs fr nn) nn).2 ∧ ((rdT (cdT zs fr nn) nn).1 = true → 0 = rSp (cdT zs fr nn) ∧ 0 = rLa (cdT zs fr nn) ∧ (∀ j, j < 6 → qsX j = nI (dv (cdT zs fr nn) (1 + j))) ∧ (∀ j, j < rSp (cdT zs fr nn) → qh j = nI (dv (cdT zs fr nn) (8 + 2 * j))) ∧ (∀ j, j < rLa (cdT zs fr nn) → qk j = nI (kdOf ((cdT zs fr nn) (aLa (cdT zs fr nn) + 3 * j + 1)))) ∧ ∀ j, j < rLa (cdT zs fr nn) → qt j = nI (dv (cdT zs fr nn) (aLa (cdT zs fr nn) + 3 * j + 2))) := by
              refine ⟨?_, ?_, fun h => ?_⟩
              · rw [hfail]; rfl
              · rw [hfail]
              · rw [hfail] at h; cases h
            refine kk_QQ hQQ ?_
            exact W.zret (v := nI 0) (ty := .boolean) hx hb hr (by decide +kernel) (fun t ht hW => ⟨⟨nI 0, (a, 0, 0, qsX, qh, qk, qt), rfl, hq, by show va_P D vwCl _ t.heap; rw [ht]; exact hP⟩, hS.F ht⟩) hS.2.2 dX10_readsCoast_163
        · skip
          refine lv_iload_n hx hb dX10_readsCoast_60 rfl (lv_at hl 1 rfl) ?_
          -- if b
          refine kk_ifb_eq (tgt := 101) hx hb dX10_readsCoast_61 (by decide) (fun hb_53 => ?_) (fun hb_53 => ?_)
          · skip
            subst hb_53
            have hl : lv_has ls 5 [(4, .int (nI k)), (3, .int (nI 0)), (0, .ref m0), (1, .int (nI fr)), (2, .int (nI nn))] := hl
            have hfail := hw0 rfl
            refine lv_iload_n hx hb dX10_readsCoast_101 rfl (lv_at hl 1 rfl) ?_
            refine kk_if_eq (x := 0) (tgt := 133) hx hb dX10_readsCoast_102 (by decide) (by decide) (fun h => ?_) (fun h => absurd h (by decide))
            refine lv_iload_n hx hb dX10_readsCoast_133 rfl (lv_at hl 1 rfl) ?_
            refine kk_if_eq (x := 0) (tgt := 162) hx hb dX10_readsCoast_134 (by decide) (by decide) (fun h => ?_) (fun h => absurd h (by decide))
            refine lv_iload_n hx hb dX10_readsCoast_162 rfl (lv_at hl 1 rfl) ?_
            have hq : (nI 0) = kb (rdT (cdT zs fr nn) nn).1 ∧ a = (rdT (cdT zs fr nn) nn).2 ∧ ((rdT (cdT zs fr nn) nn).1 = true → 0 = rSp (cdT zs fr nn) ∧ 0 = rLa (cdT zs fr nn) ∧ (∀ j, j < 6 → qsX j = nI (dv (cdT zs fr nn) (1 + j))) ∧ (∀ j, j < rSp (cdT zs fr nn) → qh j = nI (dv (cdT zs fr nn) (8 + 2 * j))) ∧ (∀ j, j < rLa (cdT zs fr nn) → qk j = nI (kdOf ((cdT zs fr nn) (aLa (cdT zs fr nn) + 3 * j + 1)))) ∧ ∀ j, j < rLa (cdT zs fr nn) → qt j = nI (dv (cdT zs fr nn) (aLa (cdT zs fr nn) + 3 * j + 2))) := by
              refine ⟨?_, ?_, fun h => ?_⟩
              · rw [hfail]; rfl
              · rw [hfail]
              · rw [hfail] at h; cases h
            refine kk_QQ hQQ ?_
            exact W.zret (v := nI 0) (ty := .boolean) hx hb hr (by decide +kernel) (fun t ht hW => ⟨⟨nI 0, (a, 0, 0, qsX, qh, qk, qt), rfl, hq, by show va_P D vwCl _ t.heap; rw [ht]; exact hP⟩, hS.F ht⟩) hS.2.2 dX10_readsCoast_163
          · skip
            subst hb_53
            have hl : lv_has ls 5 [(4, .int (nI k)), (3, .int (nI 1)), (0, .ref m0), (1, .int (nI fr)), (2, .int (nI nn))] := hl
            have hw := hw1 rfl
            refine lv_aload_n hx hb dX10_readsCoast_64 rfl (lv_at hl 2 rfl) ?_
            refine va_get (D := D) (ci := 9) (v := .ref a13) (C := RX10) (T := TX10) (N := 36) hx hb hts hwX10 hown hK hP 0 rfl rfl 13 (by decide) hf_25 (fun _ h9 => h9) rfl dX10_readsCoast_65 ?_
            refine lv_iload hx hb dX10_readsCoast_68 (lv_at hl 0 rfl) ?_
            refine lv_aload_n hx hb dX10_readsCoast_70 rfl (lv_at hl 2 rfl) ?_
            refine lv_iload_n hx hb dX10_readsCoast_71 rfl (lv_at hl 3 rfl) ?_
            refine lv_iload_n hx hb dX10_readsCoast_72 rfl (lv_at hl 4 rfl) ?_
            refine lv_bipush (v := nI 9) hx hb dX10_readsCoast_73 (by decide +kernel) ?_
            have o_54 : fr + nn ≤ 240 := by omega
            have o_55 : 9 ≤ 9 := by omega
            have hF := va_free (wc := [(m0, .inr (9, [.int i0, .ref a1, .int i2, .ref a3, .int i4, .ref a5, .ref a6, .ref a7, .int i8, .int i9, .int (nI a), .int (nI 0), .int (nI 0), .ref a13, .ref a14, .ref a15, .ref a16, .int i17, .ref a18, .ref a19, .ref a20, .ref a21, .ref a22, .ref a23, .ref a24, .ref a25, .int i26, .ref a27, .ref a28, .ref a29, .ref a30, .ref a31, .ref a32, .ref a33, .ref a34, .int i35])), (a33, .inl (cI, 240, .inl zs))]) hD hS hA [0, 5] rfl
            refine va_calli (va_runV (As := [.int (nI fr), .int (nI nn), .int (nI 9)]) (rest := [.int (nI k), .ref a13]) ⟨hx, hb, hml, hown, hts⟩ (c_X10_figure lL D cI cS _ m0 a1 a3 a5 a6 a7 a13 a14 a15 a16 a18 a19 a20 a21 a22 a23 a24 a25 a27 a28 a29 a30 a31 a32 a33 a34 i0 i2 i4 i8 i9 (nI 0) (nI 0) i17 i26 i35 zs fr nn 9 a o_54 o_55) (cwV 3 hts gX10_readsCoast_X10_figure rfl rfl rfl cd_X10_figure ⟨Nat.le_of_ble_eq_true rfl, Nat.le_of_ble_eq_true rfl⟩) ⟨kB_blind, va_recv hK hP (ci := 9) (q0 := 0) rfl rfl, fun U hU hW => ⟨rfl, by rw [hU], by rw [hU]; exact hP.sub [0, 5] rfl, va_K.moved hW.alike hK, (hD.sub [0, 5] (by decide) rfl).weaken (fun _ _ _ _ => trivial)⟩⟩ rfl rfl hl.1 rfl (lv_room (Nat.le_of_ble_eq_true rfl)) dX10_readsCoast_75 ⟨Nat.le_of_ble_eq_true rfl, Nat.le_of_ble_eq_true rfl⟩) hS (fun q _ h => hF q h) hF (fun r_56 u_56 t H1 locs ht hvm hw_56 hB hz1 hk1 hS => ?_)
            obtain ⟨hP, hD⟩ := kk_join2 (wc := [(m0, .inr (9, [.int i0, .ref a1, .int i2, .ref a3, .int i4, .ref a5, .ref a6, .ref a7, .int i8, .int i9, .int (nI a), .int (nI 0), .int (nI 0), .ref a13, .ref a14, .ref a15, .ref a16, .int i17, .ref a18, .ref a19, .ref a20, .ref a21, .ref a22, .ref a23, .ref a24, .ref a25, .int i26, .ref a27, .ref a28, .ref a29, .ref a30, .ref a31, .ref a32, .ref a33, .ref a34, .int i35])), (a33, .inl (cI, 240, .inl zs))]) (w1 := [(m0, .inr (9, [.int i0, .ref a1, .int i2, .ref a3, .int i4, .ref a5, .ref a6, .ref a7, .int i8, .int i9, .int (nI u_56), .int (nI 0), .int (nI 0), .ref a13, .ref a14, .ref a15, .ref a16, .int i17, .ref a18, .ref a19, .ref a20, .ref a21, .ref a22, .ref a23, .ref a24, .ref a25, .int i26, .ref a27, .ref a28, .ref a29, .ref a30, .ref a31, .ref a32, .ref a33, .ref a34, .int i35])), (a33, .inl (cI, 240, .inl zs))]) (ws' := [(m0, .inr (9, [.int i0, .ref a1, .int i2, .ref a3, .int i4, .ref a5, .ref a6, .ref a7, .int i8, .int i9, .int (nI u_56), .int (nI 0), .int (nI 0), .ref a13, .ref a14, .ref a15, .ref a16, .int i17, .ref a18, .ref a19, .ref a20, .ref a21, .ref a22, .ref a23, .ref a24, .ref a25, .int i26, .ref a27, .ref a28, .ref a29, .ref a30, .ref a31, .ref a32, .ref a33, .ref a34, .int i35])), (a13, .inl (cI, 6, .inl qsX)), (a14, .inl (cI, 4, .inl qh)), (a15, .inl (cI, 4, .inl qk)), (a16, .inl (cI, 4, .inl qt)), (a33, .inl (cI, 240, .inl zs))]) (wr := [(a13, .inl (cI, 6, .inl qsX)), (a14, .inl (cI, 4, .inl qh)), (a15, .inl (cI, 4, .inl qk)), (a16, .inl (cI, 4, .inl qt))]) (H1 := H1) hP hD [0, 5] [1, 2, 3, 4] rfl rfl rfl rfl 6 rfl (by decide) [m0, a13, a14, a15, a16, a33] rfl rfl hk1 (by rw [← ht]; exact hB)
            have hw_56 : (dg (cdT zs fr nn) a (9 + 1) = true ∧ r_56 = nI (dv (cdT zs fr nn) a) ∧ u_56 = a + 1) ∨ (dg (cdT zs fr nn) a (9 + 1) = false ∧ r_56 = (-9) ∧ u_56 = a) := hw_56
            clear hF hB hk1 hz1 hvm
            clear ht
            generalize H1 = H at hP hS ⊢
            rcases hw_56 with ⟨q1, q2, q3⟩ | ⟨q1, q2, q3⟩
            · skip
              have q2 := q2.symm
              have q3 := q3.symm
              subst q2 q3
              have qd := (dg_t q1).1
              refine kk_iast hx hb hK hP hD hS 1 rfl rfl (i := k) (by omega) (by decide) dX10_readsCoast_78 (fun H locs hP hD hS => ?_)
              have hP : va_P D vwCl [(m0, .inr (9, [.int i0, .ref a1, .int i2, .ref a3, .int i4, .ref a5, .ref a6, .ref a7, .int i8, .int i9, .int (nI (a + 1)), .int (nI 0), .int (nI 0), .ref a13, .ref a14, .ref a15, .ref a16, .int i17, .ref a18, .ref a19, .ref a20, .ref a21, .ref a22, .ref a23, .ref a24, .ref a25, .int i26, .ref a27, .ref a28, .ref a29, .ref a30, .ref a31, .ref a32, .ref a33, .ref a34, .int i35])), (a13, .inl (cI, 6, .inl (upd qsX k (nI (dv (cdT zs fr nn) a))))), (a14, .inl (cI, 4, .inl qh)), (a15, .inl (cI, 4, .inl qk)), (a16, .inl (cI, 4, .inl qt)), (a33, .inl (cI, 240, .inl zs))] H := hP
              have hD : va_D A [(m0, .inr (9, [.int i0, .ref a1, .int i2, .ref a3, .int i4, .ref a5, .ref a6, .ref a7, .int i8, .int i9, .int (nI (a + 1)), .int (nI 0), .int (nI 0), .ref a13, .ref a14, .ref a15, .ref a16, .int i17, .ref a18, .ref a19, .ref a20, .ref a21, .ref a22, .ref a23, .ref a24, .ref a25, .int i26, .ref a27, .ref a28, .ref a29, .ref a30, .ref a31, .ref a32, .ref a33, .ref a34, .int i35])), (a13, .inl (cI, 6, .inl (upd qsX k (nI (dv (cdT zs fr nn) a))))), (a14, .inl (cI, 4, .inl qh)), (a15, .inl (cI, 4, .inl qk)), (a16, .inl (cI, 4, .inl qt)), (a33, .inl (cI, 240, .inl zs))] := hD
              refine lv_aload_n hx hb dX10_readsCoast_79 rfl (lv_at hl 2 rfl) ?_
              refine va_get (D := D) (ci := 9) (v := .ref a13) (C := RX10) (T := TX10) (N := 36) hx hb hts hwX10 hown hK hP 0 rfl rfl 13 (by decide) hf_25 (fun _ h9 => h9) rfl dX10_readsCoast_80 ?_
              refine lv_iload hx hb dX10_readsCoast_83 (lv_at hl 0 rfl) ?_
              refine kk_iald hx hb hK hP 1 rfl rfl (i := k) (by omega) (by decide) dX10_readsCoast_85 ?_
              refine kk_top (y := nI (dv (cdT zs fr nn) a)) (up_at _ _ _) ?_
              refine kk_if_lt (tgt := 93) hx hb dX10_readsCoast_86 (by omega) (by decide) ?_
              refine lv_iconst (v := nI 1) hx hb dX10_readsCoast_89 (by decide +kernel) ?_
              refine lv_goto (tgt := 94) hx hb dX10_readsCoast_90 (by decide) ?_
              refine lv_istore_n (lv' := [(3, .int (nI 1)), (4, .int (nI k)), (0, .ref m0), (1, .int (nI fr)), (2, .int (nI nn))]) hx hb dX10_readsCoast_94 rfl hl (by decide) rfl (fun ls hl => ?_)
              refine lv_iinc (v := nI (k + 1)) (lv' := [(4, .int (nI (k + 1))), (3, .int (nI 1)), (0, .ref m0), (1, .int (nI fr)), (2, .int (nI nn))]) hx hb dX10_readsCoast_95 hl (k := 1) rfl (nI_add k 1) (by decide) rfl (fun ls hl => ?_)
              refine lv_goto (tgt := 53) hx hb dX10_readsCoast_98 (by decide) ?_
              have o_57 : (k + 1) ≤ 6 := by omega
              have o_58 : true = true → (a + 1) = 1 + (k + 1) ∧ (a + 1) ≤ nn ∧ (∀ j, j < (k + 1) → dg (cdT zs fr nn) (1 + j) 10 = true) ∧ ∀ j, j < (k + 1) → (upd qsX k (nI (dv (cdT zs fr nn) a))) j = nI (dv (cdT zs fr nn) (1 + j)) := by
                intro _
                have hlt := dg_lt q1
                obtain ⟨w1, w2, w3, w4⟩ := hw
                subst w1
                refine ⟨by omega, by omega, fun j hj => ?_, fun j hj => ?_⟩
                · by_cases e : j = k
                  · subst e; exact q1
                  · exact w3 j (by omega)
                · by_cases e : j = k
                  · subst e; exact up_at _ _ _
                  · rw [up_ne _ _ e]; exact w4 j (by omega)
              have o_59 : true = false → rdT (cdT zs fr nn) nn = (false, (a + 1)) := by intro z; cases z
              have o_60 : 7 ≤ (k + 1) + n_53 := by omega
              exact ih_53 (k + 1) true (a + 1) (upd qsX k (nI (dv (cdT zs fr nn) a))) o_57 o_58 o_59 o_60 _ _ hP hD hS ls (lv_sub hl [0, 1, 2, 3, 4] rfl)
            · skip
              have q2 := q2.symm
              have q3 := q3.symm
              subst q2 q3
              refine kk_iast hx hb hK hP hD hS 1 rfl rfl (i := k) (by omega) (by decide) dX10_readsCoast_78 (fun H locs hP hD hS => ?_)
              have hP : va_P D vwCl [(m0, .inr (9, [.int i0, .ref a1, .int i2, .ref a3, .int i4, .ref a5, .ref a6, .ref a7, .int i8, .int i9, .int (nI (a)), .int (nI 0), .int (nI 0), .ref a13, .ref a14, .ref a15, .ref a16, .int i17, .ref a18, .ref a19, .ref a20, .ref a21, .ref a22, .ref a23, .ref a24, .ref a25, .int i26, .ref a27, .ref a28, .ref a29, .ref a30, .ref a31, .ref a32, .ref a33, .ref a34, .int i35])), (a13, .inl (cI, 6, .inl (upd qsX k (-9 : Int32)))), (a14, .inl (cI, 4, .inl qh)), (a15, .inl (cI, 4, .inl qk)), (a16, .inl (cI, 4, .inl qt)), (a33, .inl (cI, 240, .inl zs))] H := hP
              have hD : va_D A [(m0, .inr (9, [.int i0, .ref a1, .int i2, .ref a3, .int i4, .ref a5, .ref a6, .ref a7, .int i8, .int i9, .int (nI (a)), .int (nI 0), .int (nI 0), .ref a13, .ref a14, .ref a15, .ref a16, .int i17, .ref a18, .ref a19, .ref a20, .ref a21, .ref a22, .ref a23, .ref a24, .ref a25, .int i26, .ref a27, .ref a28, .ref a29, .ref a30, .ref a31, .ref a32, .ref a33, .ref a34, .int i35])), (a13, .inl (cI, 6, .inl (upd qsX k (-9 : Int32)))), (a14, .inl (cI, 4, .inl qh)), (a15, .inl (cI, 4, .inl qk)), (a16, .inl (cI, 4, .inl qt)), (a33, .inl (cI, 240, .inl zs))] := hD
              refine lv_aload_n hx hb dX10_readsCoast_79 rfl (lv_at hl 2 rfl) ?_
              refine va_get (D := D) (ci := 9) (v := .ref a13) (C := RX10) (T := TX10) (N := 36) hx hb hts hwX10 hown hK hP 0 rfl rfl 13 (by decide) hf_25 (fun _ h9 => h9) rfl dX10_readsCoast_80 ?_
              refine lv_iload hx hb dX10_readsCoast_83 (lv_at hl 0 rfl) ?_
              refine kk_iald hx hb hK hP 1 rfl rfl (i := k) (by omega) (by decide) dX10_readsCoast_85 ?_
              refine kk_top (y := -9 : Int32) (up_at _ _ _) ?_
              refine lv_if_lt (tgt := 93) hx hb dX10_readsCoast_86 (by decide) (fun h => ?_) (fun h => absurd (by decide) h)
              refine lv_iconst (v := nI 0) hx hb dX10_readsCoast_93 (by decide +kernel) ?_
              refine lv_istore_n (lv' := [(3, .int (nI 0)), (4, .int (nI k)), (0, .ref m0), (1, .int (nI fr)), (2, .int (nI nn))]) hx hb dX10_readsCoast_94 rfl hl (by decide) rfl (fun ls hl => ?_)
              refine lv_iinc (v := nI (k + 1)) (lv' := [(4, .int (nI (k + 1))), (3, .int (nI 0)), (0, .ref m0), (1, .int (nI fr)), (2, .int (nI nn))]) hx hb dX10_readsCoast_95 hl (k := 1) rfl (nI_add k 1) (by decide) rfl (fun ls hl => ?_)
              refine lv_goto (tgt := 53) hx hb dX10_readsCoast_98 (by decide) ?_
              refine lv_iload hx hb dX10_readsCoast_53 (lv_at hl 0 rfl) ?_
              refine lv_bipush (v := nI 6) hx hb dX10_readsCoast_55 (by decide +kernel) ?_
              refine kk_icmp_ge (tgt := 101) hx hb dX10_readsCoast_57 (by decide) (by omega) (by omega) (fun c_61 => ?_) (fun c_61 => ?_)
              · skip
                rcases (show b = true ∨ b = false by cases b <;> simp) with hbt | hbt
                · skip
                  subst hbt
                  have hl : lv_has ls 5 [(4, .int (nI (k + 1))), (3, .int (nI 1)), (0, .ref m0), (1, .int (nI fr)), (2, .int (nI nn))] := hl
                  have hw := hw1 rfl
                  have hsky : oSk (cdT zs fr nn) := ⟨c_3, fun j hj => hw.2.2.1 j (by omega)⟩
                  have hqs : ∀ j, j < 6 → qsX j = nI (dv (cdT zs fr nn) (1 + j)) := fun j hj => hw.2.2.2 j (by omega)
                  have ha7 : a = 7 := by have := hw.1; omega
                  have ha7n : a ≤ nn := hw.2.1
                  have L_101 : ∀ (n_101 : Nat) (b : Bool) (s : Nat) (a : Nat) (qhX : Nat → Int32), (s ≤ 4) → (b = true → a = 7 + 2 * s ∧ a ≤ nn ∧ (∀ j, j < s → pSp (cdT zs fr nn) j = true) ∧ ∀ j, j < s → qhX j = nI (dv (cdT zs fr nn) (8 + 2 * j))) → (b = false → rdT (cdT zs fr nn) nn = (false, a)) → (bif b then 5 - s else 0) < n_101 → ∀ (H : Heap) (locs : List Loc), va_P D vwCl [(m0, .inr (9, [.int i0, .ref a1, .int i2, .ref a3, .int i4, .ref a5, .ref a6, .ref a7, .int i8, .int i9, .int (nI a), .int (nI s), .int (nI 0), .ref a13, .ref a14, .ref a15, .ref a16, .int i17, .ref a18, .ref a19, .ref a20, .ref a21, .ref a22, .ref a23, .ref a24, .ref a25, .int i26, .ref a27, .ref a28, .ref a29, .ref a30, .ref a31, .ref a32, .ref a33, .ref a34, .int i35])), (a13, .inl (cI, 6, .inl (upd qsX k (-9 : Int32)))), (a14, .inl (cI, 4, .inl qhX)), (a15, .inl (cI, 4, .inl qk)), (a16, .inl (cI, 4, .inl qt)), (a33, .inl (cI, 240, .inl zs))] H → va_D A [(m0, .inr (9, [.int i0, .ref a1, .int i2, .ref a3, .int i4, .ref a5, .ref a6, .ref a7, .int i8, .int i9, .int (nI a), .int (nI s), .int (nI 0), .ref a13, .ref a14, .ref a15, .ref a16, .int i17, .ref a18, .ref a19, .ref a20, .ref a21, .ref a22, .ref a23, .ref a24, .ref a25, .int i26, .ref a27, .ref a28, .ref a29, .ref a30, .ref a31, .ref a32, .ref a33, .ref a34, .int i35])), (a13, .inl (cI, 6, .inl (upd qsX k (-9 : Int32)))), (a14, .inl (cI, 4, .inl qhX)), (a15, .inl (cI, 4, .inl qk)), (a16, .inl (cI, 4, .inl qt)), (a33, .inl (cI, 240, .inl zs))] → va_S A sS.heap H locs → ∀ (ls : Array Slot), lv_has ls 5 [(3, .int (kb b)), (0, .ref m0), (1, .int (nI fr)), (2, .int (nI nn))] → W pP lL eE (headSpec wsX10_readsCoast rmX10_readsCoast).room sS mM ([.ref m0, .int (nI fr), .int (nI nn)]).toArray below meth cC H locs 0 0 QQ (F0 mM 101 ls []) := by
                    intro n_101
                    induction n_101 with
                    | zero =>
                      intro b s a qhX hsle hs1 hs0 hn_101 H locs hP hD hS ls hl
                      exact absurd hn_101 (by omega)
                    | succ n_101 ih_101 =>
                      intro b s a qhX hsle hs1 hs0 hn_101 H locs hP hD hS ls hl
                      refine lv_iload_n hx hb dX10_readsCoast_101 rfl (lv_at hl 0 rfl) ?_
                      -- if b
                      refine kk_ifb_eq (tgt := 133) hx hb dX10_readsCoast_102 (by decide) (fun hb_62 => ?_) (fun hb_62 => ?_)
                      · skip
                        subst hb_62
                        have hl : lv_has ls 5 [(3, .int (nI 0)), (0, .ref m0), (1, .int (nI fr)), (2, .int (nI nn))] := hl
                        have hfail := hs0 rfl
                        refine lv_iload_n hx hb dX10_readsCoast_133 rfl (lv_at hl 0 rfl) ?_
                        refine kk_if_eq (x := 0) (tgt := 162) hx hb dX10_readsCoast_134 (by decide) (by decide) (fun h => ?_) (fun h => absurd h (by decide))
                        refine lv_iload_n hx hb dX10_readsCoast_162 rfl (lv_at hl 0 rfl) ?_
                        have hq : (nI 0) = kb (rdT (cdT zs fr nn) nn).1 ∧ a = (rdT (cdT zs fr nn) nn).2 ∧ ((rdT (cdT zs fr nn) nn).1 = true → s = rSp (cdT zs fr nn) ∧ 0 = rLa (cdT zs fr nn) ∧ (∀ j, j < 6 → (upd qsX k (-9 : Int32)) j = nI (dv (cdT zs fr nn) (1 + j))) ∧ (∀ j, j < rSp (cdT zs fr nn) → qhX j = nI (dv (cdT zs fr nn) (8 + 2 * j))) ∧ (∀ j, j < rLa (cdT zs fr nn) → qk j = nI (kdOf ((cdT zs fr nn) (aLa (cdT zs fr nn) + 3 * j + 1)))) ∧ ∀ j, j < rLa (cdT zs fr nn) → qt j = nI (dv (cdT zs fr nn) (aLa (cdT zs fr nn) + 3 * j + 2))) := by
                          refine ⟨?_, ?_, fun h => ?_⟩
                          · rw [hfail]; rfl
                          · rw [hfail]
                          · rw [hfail] at h; cases h
                        refine kk_QQ hQQ ?_
                        exact W.zret (v := nI 0) (ty := .boolean) hx hb hr (by decide +kernel) (fun t ht hW => ⟨⟨nI 0, (a, s, 0, upd qsX k (-9 : Int32), qhX, qk, qt), rfl, hq, by show va_P D vwCl _ t.heap; rw [ht]; exact hP⟩, hS.F ht⟩) hS.2.2 dX10_readsCoast_163
                      · skip
                        subst hb_62
                        have hl : lv_has ls 5 [(3, .int (nI 1)), (0, .ref m0), (1, .int (nI fr)), (2, .int (nI nn))] := hl
                        have hs := hs1 rfl
                        have hs1v := hs
                        have hs := hsle
                        refine lv_aload_n hx hb dX10_readsCoast_105 rfl (lv_at hl 1 rfl) ?_
                        refine va_get (D := D) (ci := 9) (v := .int (nI s)) (C := RX10) (T := TX10) (N := 36) hx hb hts hwX10 hown hK hP 0 rfl rfl 11 (by decide) hf_117 (fun _ h9 => h9) rfl dX10_readsCoast_106 ?_
                        refine kk_if_eq (tgt := 123) hx hb dX10_readsCoast_109 (by decide) (by omega) (fun c_63 => ?_) (fun c_63 => ?_)
                        · skip
                          have hc59 : 0 < s → (cdT zs fr nn) a = nI 59 := fun z => by omega
                          refine lv_aload_n hx hb dX10_readsCoast_123 rfl (lv_at hl 1 rfl) ?_
                          refine lv_iload_n hx hb dX10_readsCoast_124 rfl (lv_at hl 2 rfl) ?_
                          refine lv_iload_n hx hb dX10_readsCoast_125 rfl (lv_at hl 3 rfl) ?_
                          have o_64 : fr + nn ≤ 240 := by omega
                          have o_65 : s ≤ 4 := by exact hsle
                          have hF := va_free (wc := [(m0, .inr (9, [.int i0, .ref a1, .int i2, .ref a3, .int i4, .ref a5, .ref a6, .ref a7, .int i8, .int i9, .int (nI a), .int (nI s), .int (nI 0), .ref a13, .ref a14, .ref a15, .ref a16, .int i17, .ref a18, .ref a19, .ref a20, .ref a21, .ref a22, .ref a23, .ref a24, .ref a25, .int i26, .ref a27, .ref a28, .ref a29, .ref a30, .ref a31, .ref a32, .ref a33, .ref a34, .int i35])), (a14, .inl (cI, 4, .inl qhX)), (a33, .inl (cI, 240, .inl zs))]) hD hS hA [0, 2, 5] rfl
                          refine va_calli (va_runV (As := [.int (nI fr), .int (nI nn)]) (rest := []) ⟨hx, hb, hml, hown, hts⟩ (c_X10_readsSpot lL D cI cS _ m0 a1 a3 a5 a6 a7 a13 a14 a15 a16 a18 a19 a20 a21 a22 a23 a24 a25 a27 a28 a29 a30 a31 a32 a33 a34 i0 i2 i4 i8 i9 (nI 0) i17 i26 i35 qhX zs fr nn a s o_64 o_65) (cwV 2 hts gX10_readsCoast_X10_readsSpot rfl rfl rfl cd_X10_readsSpot ⟨Nat.le_of_ble_eq_true rfl, Nat.le_of_ble_eq_true rfl⟩) ⟨kB_blind, va_recv hK hP (ci := 9) (q0 := 0) rfl rfl, fun U hU hW => ⟨rfl, by rw [hU], by rw [hU]; exact hP.sub [0, 2, 5] rfl, va_K.moved hW.alike hK, (hD.sub [0, 2, 5] (by decide) rfl).weaken (fun _ _ _ _ => trivial)⟩⟩ rfl rfl hl.1 rfl (lv_room (Nat.le_of_ble_eq_true rfl)) dX10_readsCoast_126 ⟨Nat.le_of_ble_eq_true rfl, Nat.le_of_ble_eq_true rfl⟩) hS (fun q _ h => hF q h) hF (fun r_66 u_66 t H1 locs ht hvm hw_66 hB hz1 hk1 hS => ?_)
                          obtain ⟨ra2_66, rs2_66, qh2_66⟩ := u_66
                          obtain ⟨hP, hD⟩ := kk_join2 (wc := [(m0, .inr (9, [.int i0, .ref a1, .int i2, .ref a3, .int i4, .ref a5, .ref a6, .ref a7, .int i8, .int i9, .int (nI a), .int (nI s), .int (nI 0), .ref a13, .ref a14, .ref a15, .ref a16, .int i17, .ref a18, .ref a19, .ref a20, .ref a21, .ref a22, .ref a23, .ref a24, .ref a25, .int i26, .ref a27, .ref a28, .ref a29, .ref a30, .ref a31, .ref a32, .ref a33, .ref a34, .int i35])), (a14, .inl (cI, 4, .inl qhX)), (a33, .inl (cI, 240, .inl zs))]) (w1 := [(m0, .inr (9, [.int i0, .ref a1, .int i2, .ref a3, .int i4, .ref a5, .ref a6, .ref a7, .int i8, .int i9, .int (nI ra2_66), .int (nI rs2_66), .int (nI 0), .ref a13, .ref a14, .ref a15, .ref a16, .int i17, .ref a18, .ref a19, .ref a20, .ref a21, .ref a22, .ref a23, .ref a24, .ref a25, .int i26, .ref a27, .ref a28, .ref a29, .ref a30, .ref a31, .ref a32, .ref a33, .ref a34, .int i35])), (a14, .inl (cI, 4, .inl qh2_66)), (a33, .inl (cI, 240, .inl zs))]) (ws' := [(m0, .inr (9, [.int i0, .ref a1, .int i2, .ref a3, .int i4, .ref a5, .ref a6, .ref a7, .int i8, .int i9, .int (nI ra2_66), .int (nI rs2_66), .int (nI 0), .ref a13, .ref a14, .ref a15, .ref a16, .int i17, .ref a18, .ref a19, .ref a20, .ref a21, .ref a22, .ref a23, .ref a24, .ref a25, .int i26, .ref a27, .ref a28, .ref a29, .ref a30, .ref a31, .ref a32, .ref a33, .ref a34, .int i35])), (a13, .inl (cI, 6, .inl (upd qsX k (-9 : Int32)))), (a14, .inl (cI, 4, .inl qh2_66)), (a15, .inl (cI, 4, .inl qk)), (a16, .inl (cI, 4, .inl qt)), (a33, .inl (cI, 240, .inl zs))]) (wr := [(a13, .inl (cI, 6, .inl (upd qsX k (-9 : Int32)))), (a15, .inl (cI, 4, .inl qk)), (a16, .inl (cI, 4, .inl qt))]) (H1 := H1) hP hD [0, 2, 5] [1, 3, 4] rfl rfl rfl rfl 6 rfl (by decide) [m0, a13, a14, a15, a16, a33] rfl rfl hk1 (by rw [← ht]; exact hB)
                          have hw_66 : (s < 4 ∧ (cdT zs fr nn) a = nI 59 ∧ dg (cdT zs fr nn) (a + 1) 10 = true ∧ r_66 = nI 1 ∧ ra2_66 = a + 2 ∧ rs2_66 = s + 1 ∧ qh2_66 = upd qhX s (nI (dv (cdT zs fr nn) (a + 1)))) ∨ (r_66 = nI 0 ∧ rs2_66 = s ∧ qh2_66 = qhX ∧ ((¬ (s < 4 ∧ (cdT zs fr nn) a = nI 59) ∧ ra2_66 = a) ∨ (s < 4 ∧ (cdT zs fr nn) a = nI 59 ∧ dg (cdT zs fr nn) (a + 1) 10 = false ∧ ra2_66 = a + 1))) := hw_66
                          clear hF hB hk1 hz1 hvm
                          clear ht
                          generalize H1 = H at hP hS ⊢
                          rcases hw_66 with ⟨q1, q2, q3, q4, q5, q6, q7⟩ | ⟨q4, q5, q6, q7⟩
                          · skip
                            have q4 := q4.symm
                            have q5 := q5.symm
                            have q6 := q6.symm
                            have q7 := q7.symm
                            subst q4 q5 q6 q7
                            refine lv_istore_n (lv' := [(3, .int (nI 1)), (0, .ref m0), (1, .int (nI fr)), (2, .int (nI nn))]) hx hb dX10_readsCoast_129 rfl hl (by decide) rfl (fun ls hl => ?_)
                            refine lv_goto (tgt := 101) hx hb dX10_readsCoast_130 (by decide) ?_
                            have o_67 : (s + 1) ≤ 4 := by omega
                            have o_68 : true = true → (a + 2) = 7 + 2 * (s + 1) ∧ (a + 2) ≤ nn ∧ (∀ j, j < (s + 1) → pSp (cdT zs fr nn) j = true) ∧ ∀ j, j < (s + 1) → (upd qhX s (nI (dv (cdT zs fr nn) (a + 1)))) j = nI (dv (cdT zs fr nn) (8 + 2 * j)) := by
                              intro _
                              obtain ⟨w1, w2, w3, w4⟩ := hs1v
                              have hlt := dg_lt q3
                              refine ⟨by omega, by omega, fun j hj => ?_, fun j hj => ?_⟩
                              · by_cases e : j = s
                                · subst e
                                  exact pSp_t (by rw [w1] at q2; exact q2) (by rw [w1, show 7 + 2 * j + 1 = 8 + 2 * j by omega] at q3; exact q3)
                                · exact w3 j (by omega)
                              · by_cases e : j = s
                                · subst e
                                  rw [up_at, w1, show 7 + 2 * j + 1 = 8 + 2 * j by omega]
                                · rw [up_ne _ _ e]; exact w4 j (by omega)
                            have o_69 : true = false → rdT (cdT zs fr nn) nn = (false, (a + 2)) := by intro z; cases z
                            have o_70 : (bif true then 5 - (s + 1) else 0) < n_101 := by first | exact Nat.lt_of_lt_of_le (show 5 - (s + 1) < 5 - s by omega) (Nat.le_of_lt_succ hn_101) | exact Nat.lt_of_lt_of_le (show 0 < 5 - s by omega) (Nat.le_of_lt_succ hn_101)
                            exact ih_101 true (s + 1) (a + 2) (upd qhX s (nI (dv (cdT zs fr nn) (a + 1)))) o_67 o_68 o_69 o_70 _ _ hP hD hS ls (lv_sub hl [0, 1, 2, 3] rfl)
                          · skip
                            have q4 := q4.symm
                            have q5 := q5.symm
                            have q6 := q6.symm
                            subst q4 q5 q6
                            refine lv_istore_n (lv' := [(3, .int (nI 0)), (0, .ref m0), (1, .int (nI fr)), (2, .int (nI nn))]) hx hb dX10_readsCoast_129 rfl hl (by decide) rfl (fun ls hl => ?_)
                            refine lv_goto (tgt := 101) hx hb dX10_readsCoast_130 (by decide) ?_
                            refine lv_iload_n hx hb dX10_readsCoast_101 rfl (lv_at hl 0 rfl) ?_
                            refine kk_if_eq (x := 0) (tgt := 133) hx hb dX10_readsCoast_102 (by decide) (by decide) (fun h => ?_) (fun h => absurd h (by decide))
                            refine lv_iload_n hx hb dX10_readsCoast_133 rfl (lv_at hl 0 rfl) ?_
                            refine kk_if_eq (x := 0) (tgt := 162) hx hb dX10_readsCoast_134 (by decide) (by decide) (fun h => ?_) (fun h => absurd h (by decide))
                            refine lv_iload_n hx hb dX10_readsCoast_162 rfl (lv_at hl 0 rfl) ?_
                            have hq : (nI 0) = kb (rdT (cdT zs fr nn) nn).1 ∧ ra2_66 = (rdT (cdT zs fr nn) nn).2 ∧ ((rdT (cdT zs fr nn) nn).1 = true → s = rSp (cdT zs fr nn) ∧ 0 = rLa (cdT zs fr nn) ∧ (∀ j, j < 6 → (upd qsX k (-9 : Int32)) j = nI (dv (cdT zs fr nn) (1 + j))) ∧ (∀ j, j < rSp (cdT zs fr nn) → qhX j = nI (dv (cdT zs fr nn) (8 + 2 * j))) ∧ (∀ j, j < rLa (cdT zs fr nn) → qk j = nI (kdOf ((cdT zs fr nn) (aLa (cdT zs fr nn) + 3 * j + 1)))) ∧ ∀ j, j < rLa (cdT zs fr nn) → qt j = nI (dv (cdT zs fr nn) (aLa (cdT zs fr nn) + 3 * j + 2))) := by
                              obtain ⟨w1, w2, w3, w4, w5⟩ := hk1v
                              have e_n : a = nn := by omega
                              have hx := rdT_end (n := nn) hosp (k := k) (by omega) hk w3 (Or.inr (fun z => by
                                have h9 := cd_lt (by decide) z
                                omega))
                              have e := hx.2
                              rw [decide_eq_true (by omega)] at e
                              refine ⟨?_, ?_, fun _ => ⟨?_, ?_, ?_, ?_, ?_, ?_⟩⟩
                              · rw [e]; rfl
                              · rw [e, ← w1]
                              · exact hse.symm
                              · exact hx.1.symm
                              · exact hqs
                              · rw [hse]; exact hqh
                              · rw [hx.1]; exact w4
                              · rw [hx.1]; exact w5
                            refine kk_QQ hQQ ?_
                            exact W.zret (v := nI 0) (ty := .boolean) hx hb hr (by decide +kernel) (fun t ht hW => ⟨⟨nI 0, (ra2_66, s, 0, upd qsX k (-9 : Int32), qhX, qk, qt), rfl, hq, by show va_P D vwCl _ t.heap; rw [ht]; exact hP⟩, hS.F ht⟩) hS.2.2 dX10_readsCoast_163
                        · skip
                          refine lv_aload_n hx hb dX10_readsCoast_112 rfl (lv_at hl 1 rfl) ?_
                          refine lv_iload_n hx hb dX10_readsCoast_113 rfl (lv_at hl 2 rfl) ?_
                          refine lv_iload_n hx hb dX10_readsCoast_114 rfl (lv_at hl 3 rfl) ?_
                          have o_71 : fr + nn ≤ 240 := by omega
                          refine vp_callSi (W.runV (As := [.int (nI fr), .int (nI nn)]) (rest := []) ⟨hx, hb, hml, hown, hts⟩ (c_X10_codeAt lL D cI cS m0 a1 a3 a5 a6 a7 a13 a14 a15 a16 a18 a19 a20 a21 a22 a23 a24 a25 a27 a28 a29 a30 a31 a32 a33 a34 i0 i2 i4 i8 i9 (nI s) (nI 0) i17 i26 i35 zs fr nn a o_71) (cwV 2 hts gX10_readsCoast_X10_codeAt rfl rfl rfl cd_X10_codeAt ⟨Nat.le_of_ble_eq_true rfl, Nat.le_of_ble_eq_true rfl⟩) ⟨kBp_blind, va_recv hK hP (ci := 9) (q0 := 0) rfl rfl, fun U hU hW => ⟨rfl, by rw [hU]; exact hP.sub [0, 5] rfl, va_K.moved hW.alike hK⟩⟩ rfl rfl hl.1 rfl (lv_room (Nat.le_of_ble_eq_true rfl)) dX10_readsCoast_115 ⟨Nat.le_of_ble_eq_true rfl, Nat.le_of_ble_eq_true rfl⟩) (fun r_72 hw_72 => ?_)
                          obtain rfl : r_72 = cdT zs fr n a := hw_72
                          refine lv_bipush (v := nI 59) hx hb dX10_readsCoast_118 (by decide +kernel) ?_
                          refine lv_icmp_ne (tgt := 133) hx hb dX10_readsCoast_120 (by decide) (fun c_73 => ?_) (fun c_73 => ?_)
                          · skip
                            obtain ⟨hse, hosp⟩ := oSp_of hsky (s := s) (by omega) hsle hs1v.2.2.1 (Or.inr (by rw [← hs1v.1]; exact c_73))
                            have hqh := hs1v.2.2.2
                            have hal7 : a = aLa (cdT zs fr nn) := by rw [aLa, hse]; exact hs1v.1
                            have haln := hs1v.2.1
                            have hs0 : 0 < s := by omega
                            have L_133 : ∀ (n_133 : Nat) (b : Bool) (k : Nat) (a : Nat) (qkX : Nat → Int32) (qtX : Nat → Int32), (k ≤ 4) → (b = true → a = aLa (cdT zs fr nn) + 3 * k ∧ a ≤ nn ∧ (∀ j, j < k → pLa (cdT zs fr nn) j = true) ∧ (∀ j, j < k → qkX j = nI (kdOf ((cdT zs fr nn) (aLa (cdT zs fr nn) + 3 * j + 1)))) ∧ ∀ j, j < k → qtX j = nI (dv (cdT zs fr nn) (aLa (cdT zs fr nn) + 3 * j + 2))) → (b = false → rdT (cdT zs fr nn) nn = (false, a)) → (bif b then 5 - k else 0) < n_133 → ∀ (H : Heap) (locs : List Loc), va_P D vwCl [(m0, .inr (9, [.int i0, .ref a1, .int i2, .ref a3, .int i4, .ref a5, .ref a6, .ref a7, .int i8, .int i9, .int (nI a), .int (nI s), .int (nI k), .ref a13, .ref a14, .ref a15, .ref a16, .int i17, .ref a18, .ref a19, .ref a20, .ref a21, .ref a22, .ref a23, .ref a24, .ref a25, .int i26, .ref a27, .ref a28, .ref a29, .ref a30, .ref a31, .ref a32, .ref a33, .ref a34, .int i35])), (a13, .inl (cI, 6, .inl (upd qsX k (-9 : Int32)))), (a14, .inl (cI, 4, .inl qhX)), (a15, .inl (cI, 4, .inl qkX)), (a16, .inl (cI, 4, .inl qtX)), (a33, .inl (cI, 240, .inl zs))] H → va_D A [(m0, .inr (9, [.int i0, .ref a1, .int i2, .ref a3, .int i4, .ref a5, .ref a6, .ref a7, .int i8, .int i9, .int (nI a), .int (nI s), .int (nI k), .ref a13, .ref a14, .ref a15, .ref a16, .int i17, .ref a18, .ref a19, .ref a20, .ref a21, .ref a22, .ref a23, .ref a24, .ref a25, .int i26, .ref a27, .ref a28, .ref a29, .ref a30, .ref a31, .ref a32, .ref a33, .ref a34, .int i35])), (a13, .inl (cI, 6, .inl (upd qsX k (-9 : Int32)))), (a14, .inl (cI, 4, .inl qhX)), (a15, .inl (cI, 4, .inl qkX)), (a16, .inl (cI, 4, .inl qtX)), (a33, .inl (cI, 240, .inl zs))] → va_S A sS.heap H locs → ∀ (ls : Array Slot), lv_has ls 5 [(3, .int (kb b)), (0, .ref m0), (1, .int (nI fr)), (2, .int (nI nn))] → W pP lL eE (headSpec wsX10_readsCoast rmX10_readsCoast).room sS mM ([.ref m0, .int (nI fr), .int (nI nn)]).toArray below meth cC H locs 0 0 QQ (F0 mM 133 ls []) := by
                              intro n_133
                              induction n_133 with
                              | zero =>
                                intro b k a qkX qtX hkle hk1 hk0 hn_133 H locs hP hD hS ls hl
                                exact absurd hn_133 (by omega)
                              | succ n_133 ih_133 =>
                                intro b k a qkX qtX hkle hk1 hk0 hn_133 H locs hP hD hS ls hl
                                refine lv_iload_n hx hb dX10_readsCoast_133 rfl (lv_at hl 0 rfl) ?_
                                -- if b
                                refine kk_ifb_eq (tgt := 162) hx hb dX10_readsCoast_134 (by decide) (fun hb_74 => ?_) (fun hb_74 => ?_)
                                · skip
                                  subst hb_74
                                  have hl : lv_has ls 5 [(3, .int (nI 0)), (0, .ref m0), (1, .int (nI fr)), (2, .int (nI nn))] := hl
                                  have hfail := hk0 rfl
                                  refine lv_iload_n hx hb dX10_readsCoast_162 rfl (lv_at hl 0 rfl) ?_
                                  have hq : (nI 0) = kb (rdT (cdT zs fr nn) nn).1 ∧ a = (rdT (cdT zs fr nn) nn).2 ∧ ((rdT (cdT zs fr nn) nn).1 = true → s = rSp (cdT zs fr nn) ∧ k = rLa (cdT zs fr nn) ∧ (∀ j, j < 6 → (upd qsX k (-9 : Int32)) j = nI (dv (cdT zs fr nn) (1 + j))) ∧ (∀ j, j < rSp (cdT zs fr nn) → qhX j = nI (dv (cdT zs fr nn) (8 + 2 * j))) ∧ (∀ j, j < rLa (cdT zs fr nn) → qkX j = nI (kdOf ((cdT zs fr nn) (aLa (cdT zs fr nn) + 3 * j + 1)))) ∧ ∀ j, j < rLa (cdT zs fr nn) → qtX j = nI (dv (cdT zs fr nn) (aLa (cdT zs fr nn) + 3 * j + 2))) := by
                                    refine ⟨?_, ?_, fun h => ?_⟩
                                    · rw [hfail]; rfl
                                    · rw [hfail]
                                    · rw [hfail] at h; cases h
                                  refine kk_QQ hQQ ?_
                                  exact W.zret (v := nI 0) (ty := .boolean) hx hb hr (by decide +kernel) (fun t ht hW => ⟨⟨nI 0, (a, s, k, upd qsX k (-9 : Int32), qhX, qkX, qtX), rfl, hq, by show va_P D vwCl _ t.heap; rw [ht]; exact hP⟩, hS.F ht⟩) hS.2.2 dX10_readsCoast_163
                                · skip
                                  subst hb_74
                                  have hl : lv_has ls 5 [(3, .int (nI 1)), (0, .ref m0), (1, .int (nI fr)), (2, .int (nI nn))] := hl
                                  have hk := hk1 rfl
                                  have hk1v := hk
                                  have hk := hkle
                                  refine lv_aload_n hx hb dX10_readsCoast_137 rfl (lv_at hl 1 rfl) ?_
                                  refine va_get (D := D) (ci := 9) (v := .int (nI k)) (C := RX10) (T := TX10) (N := 36) hx hb hts hwX10 hown hK hP 0 rfl rfl 12 (by decide) hf_124 (fun _ h9 => h9) rfl dX10_readsCoast_138 ?_
                                  refine kk_if_eq (tgt := 152) hx hb dX10_readsCoast_141 (by decide) (by omega) (fun c_75 => ?_) (fun c_75 => ?_)
                                  · skip
                                    have hlt9 : 0 < k → a < nn := fun z => by omega
                                    refine lv_aload_n hx hb dX10_readsCoast_152 rfl (lv_at hl 1 rfl) ?_
                                    refine lv_iload_n hx hb dX10_readsCoast_153 rfl (lv_at hl 2 rfl) ?_
                                    refine lv_iload_n hx hb dX10_readsCoast_154 rfl (lv_at hl 3 rfl) ?_
                                    have o_76 : fr + nn ≤ 240 := by omega
                                    have o_77 : s ≤ 4 := by exact hsle
                                    have o_78 : 0 < s := by exact hs0
                                    have o_79 : k ≤ 4 := by exact hkle
                                    have hF := va_free (wc := [(m0, .inr (9, [.int i0, .ref a1, .int i2, .ref a3, .int i4, .ref a5, .ref a6, .ref a7, .int i8, .int i9, .int (nI a), .int (nI s), .int (nI k), .ref a13, .ref a14, .ref a15, .ref a16, .int i17, .ref a18, .ref a19, .ref a20, .ref a21, .ref a22, .ref a23, .ref a24, .ref a25, .int i26, .ref a27, .ref a28, .ref a29, .ref a30, .ref a31, .ref a32, .ref a33, .ref a34, .int i35])), (a15, .inl (cI, 4, .inl qkX)), (a16, .inl (cI, 4, .inl qtX)), (a33, .inl (cI, 240, .inl zs))]) hD hS hA [0, 3, 4, 5] rfl
                                    refine va_calli (va_runV (As := [.int (nI fr), .int (nI nn)]) (rest := []) ⟨hx, hb, hml, hown, hts⟩ (c_X10_readsLamp lL D cI cS _ m0 a1 a3 a5 a6 a7 a13 a14 a15 a16 a18 a19 a20 a21 a22 a23 a24 a25 a27 a28 a29 a30 a31 a32 a33 a34 i0 i2 i4 i8 i9 i17 i26 i35 qkX qtX zs fr nn a s k o_76 o_77 o_78 o_79) (cwV 2 hts gX10_readsCoast_X10_readsLamp rfl rfl rfl cd_X10_readsLamp ⟨Nat.le_of_ble_eq_true rfl, Nat.le_of_ble_eq_true rfl⟩) ⟨kB_blind, va_recv hK hP (ci := 9) (q0 := 0) rfl rfl, fun U hU hW => ⟨rfl, by rw [hU], by rw [hU]; exact hP.sub [0, 3, 4, 5] rfl, va_K.moved hW.alike hK, (hD.sub [0, 3, 4, 5] (by decide) rfl).weaken (fun _ _ _ _ => trivial)⟩⟩ rfl rfl hl.1 rfl (lv_room (Nat.le_of_ble_eq_true rfl)) dX10_readsCoast_155 ⟨Nat.le_of_ble_eq_true rfl, Nat.le_of_ble_eq_true rfl⟩) hS (fun q _ h => hF q h) hF (fun r_80 u_80 t H1 locs ht hvm hw_80 hB hz1 hk1 hS => ?_)
                                    obtain ⟨ra2_80, rq2_80, qk2_80, qt2_80⟩ := u_80
                                    obtain ⟨hP, hD⟩ := kk_join2 (wc := [(m0, .inr (9, [.int i0, .ref a1, .int i2, .ref a3, .int i4, .ref a5, .ref a6, .ref a7, .int i8, .int i9, .int (nI a), .int (nI s), .int (nI k), .ref a13, .ref a14, .ref a15, .ref a16, .int i17, .ref a18, .ref a19, .ref a20, .ref a21, .ref a22, .ref a23, .ref a24, .ref a25, .int i26, .ref a27, .ref a28, .ref a29, .ref a30, .ref a31, .ref a32, .ref a33, .ref a34, .int i35])), (a15, .inl (cI, 4, .inl qkX)), (a16, .inl (cI, 4, .inl qtX)), (a33, .inl (cI, 240, .inl zs))]) (w1 := [(m0, .inr (9, [.int i0, .ref a1, .int i2, .ref a3, .int i4, .ref a5, .ref a6, .ref a7, .int i8, .int i9, .int (nI ra2_80), .int (nI s), .int (nI rq2_80), .ref a13, .ref a14, .ref a15, .ref a16, .int i17, .ref a18, .ref a19, .ref a20, .ref a21, .ref a22, .ref a23, .ref a24, .ref a25, .int i26, .ref a27, .ref a28, .ref a29, .ref a30, .ref a31, .ref a32, .ref a33, .ref a34, .int i35])), (a15, .inl (cI, 4, .inl qk2_80)), (a16, .inl (cI, 4, .inl qt2_80)), (a33, .inl (cI, 240, .inl zs))]) (ws' := [(m0, .inr (9, [.int i0, .ref a1, .int i2, .ref a3, .int i4, .ref a5, .ref a6, .ref a7, .int i8, .int i9, .int (nI ra2_80), .int (nI s), .int (nI rq2_80), .ref a13, .ref a14, .ref a15, .ref a16, .int i17, .ref a18, .ref a19, .ref a20, .ref a21, .ref a22, .ref a23, .ref a24, .ref a25, .int i26, .ref a27, .ref a28, .ref a29, .ref a30, .ref a31, .ref a32, .ref a33, .ref a34, .int i35])), (a13, .inl (cI, 6, .inl (upd qsX k (-9 : Int32)))), (a14, .inl (cI, 4, .inl qhX)), (a15, .inl (cI, 4, .inl qk2_80)), (a16, .inl (cI, 4, .inl qt2_80)), (a33, .inl (cI, 240, .inl zs))]) (wr := [(a13, .inl (cI, 6, .inl (upd qsX k (-9 : Int32)))), (a14, .inl (cI, 4, .inl qhX))]) (H1 := H1) hP hD [0, 3, 4, 5] [1, 2] rfl rfl rfl rfl 6 rfl (by decide) [m0, a13, a14, a15, a16, a33] rfl rfl hk1 (by rw [← ht]; exact hB)
                                    have hw_80 : (k < 4 ∧ (cdT zs fr nn) a = nI 44 ∧ isK ((cdT zs fr nn) (a + 1)) = true ∧ dg (cdT zs fr nn) (a + 2) s = true ∧ r_80 = nI 1 ∧ ra2_80 = a + 3 ∧ rq2_80 = k + 1 ∧ qk2_80 = upd qkX k (nI (kdOf ((cdT zs fr nn) (a + 1)))) ∧ qt2_80 = upd qtX k (nI (dv (cdT zs fr nn) (a + 2)))) ∨ (r_80 = nI 0 ∧ rq2_80 = k ∧ qk2_80 = qkX ∧ qt2_80 = qtX ∧ ((¬ (k < 4 ∧ (cdT zs fr nn) a = nI 44) ∧ ra2_80 = a) ∨ (k < 4 ∧ (cdT zs fr nn) a = nI 44 ∧ isK ((cdT zs fr nn) (a + 1)) = false ∧ ra2_80 = a + 1) ∨ (k < 4 ∧ (cdT zs fr nn) a = nI 44 ∧ isK ((cdT zs fr nn) (a + 1)) = true ∧ dg (cdT zs fr nn) (a + 2) s = false ∧ ra2_80 = a + 2))) := hw_80
                                    clear hF hB hk1 hz1 hvm
                                    clear ht
                                    generalize H1 = H at hP hS ⊢
                                    rcases hw_80 with ⟨q1, q2, q3, q4, q5, q6, q7, q8, q9⟩ | ⟨q5, q6, q7, q8, q9⟩
                                    · skip
                                      have q5 := q5.symm
                                      have q6 := q6.symm
                                      have q7 := q7.symm
                                      have q8 := q8.symm
                                      have q9 := q9.symm
                                      subst q5 q6 q7 q8 q9
                                      refine lv_istore_n (lv' := [(3, .int (nI 1)), (0, .ref m0), (1, .int (nI fr)), (2, .int (nI nn))]) hx hb dX10_readsCoast_158 rfl hl (by decide) rfl (fun ls hl => ?_)
                                      refine lv_goto (tgt := 133) hx hb dX10_readsCoast_159 (by decide) ?_
                                      have o_81 : (k + 1) ≤ 4 := by omega
                                      have o_82 : true = true → (a + 3) = aLa (cdT zs fr nn) + 3 * (k + 1) ∧ (a + 3) ≤ nn ∧ (∀ j, j < (k + 1) → pLa (cdT zs fr nn) j = true) ∧ (∀ j, j < (k + 1) → (upd qkX k (nI (kdOf ((cdT zs fr nn) (a + 1))))) j = nI (kdOf ((cdT zs fr nn) (aLa (cdT zs fr nn) + 3 * j + 1)))) ∧ ∀ j, j < (k + 1) → (upd qtX k (nI (dv (cdT zs fr nn) (a + 2)))) j = nI (dv (cdT zs fr nn) (aLa (cdT zs fr nn) + 3 * j + 2)) := by
                                        intro _
                                        obtain ⟨w1, w2, w3, w4, w5⟩ := hk1v
                                        have hlt := dg_lt q4
                                        refine ⟨by omega, by omega, fun j hj => ?_, fun j hj => ?_, fun j hj => ?_⟩
                                        · by_cases e : j = k
                                          · subst e
                                            exact pLa_t (by rw [w1] at q2; exact q2) (by rw [w1] at q3; exact q3) (by rw [w1, ← hse] at q4; exact q4)
                                          · exact w3 j (by omega)
                                        · by_cases e : j = k
                                          · subst e; rw [up_at, w1]
                                          · rw [up_ne _ _ e]; exact w4 j (by omega)
                                        · by_cases e : j = k
                                          · subst e; rw [up_at, w1]
                                          · rw [up_ne _ _ e]; exact w5 j (by omega)
                                      have o_83 : true = false → rdT (cdT zs fr nn) nn = (false, (a + 3)) := by intro z; cases z
                                      have o_84 : (bif true then 5 - (k + 1) else 0) < n_133 := by first | exact Nat.lt_of_lt_of_le (show 5 - (k + 1) < 5 - k by omega) (Nat.le_of_lt_succ hn_133) | exact Nat.lt_of_lt_of_le (show 0 < 5 - k by omega) (Nat.le_of_lt_succ hn_133)
                                      exact ih_133 true (k + 1) (a + 3) (upd qkX k (nI (kdOf ((cdT zs fr nn) (a + 1))))) (upd qtX k (nI (dv (cdT zs fr nn) (a + 2)))) o_81 o_82 o_83 o_84 _ _ hP hD hS ls (lv_sub hl [0, 1, 2, 3] rfl)
                                    · skip
                                      have q5 := q5.symm
                                      have q6 := q6.symm
                                      have q7 := q7.symm
                                      have q8 := q8.symm
                                      subst q5 q6 q7 q8
                                      refine lv_istore_n (lv' := [(3, .int (nI 0)), (0, .ref m0), (1, .int (nI fr)), (2, .int (nI nn))]) hx hb dX10_readsCoast_158 rfl hl (by decide) rfl (fun ls hl => ?_)
                                      refine lv_goto (tgt := 133) hx hb dX10_readsCoast_159 (by decide) ?_
                                      refine lv_iload_n hx hb dX10_readsCoast_133 rfl (lv_at hl 0 rfl) ?_
                                      refine kk_if_eq (x := 0) (tgt := 162) hx hb dX10_readsCoast_134 (by decide) (by decide) (fun h => ?_) (fun h => absurd h (by decide))
                                      refine lv_iload_n hx hb dX10_readsCoast_162 rfl (lv_at hl 0 rfl) ?_
                                      have hq : (nI 0) = kb (rdT (cdT zs fr nn) nn).1 ∧ ra2_80 = (rdT (cdT zs fr nn) nn).2 ∧ ((rdT (cdT zs fr nn) nn).1 = true → s = rSp (cdT zs fr nn) ∧ k = rLa (cdT zs fr nn) ∧ (∀ j, j < 6 → (upd qsX k (-9 : Int32)) j = nI (dv (cdT zs fr nn) (1 + j))) ∧ (∀ j, j < rSp (cdT zs fr nn) → qhX j = nI (dv (cdT zs fr nn) (8 + 2 * j))) ∧ (∀ j, j < rLa (cdT zs fr nn) → qkX j = nI (kdOf ((cdT zs fr nn) (aLa (cdT zs fr nn) + 3 * j + 1)))) ∧ ∀ j, j < rLa (cdT zs fr nn) → qtX j = nI (dv (cdT zs fr nn) (aLa (cdT zs fr nn) + 3 * j + 2))) := by
                                        obtain ⟨w1, w2, w3, w4, w5⟩ := hk1v
                                        have e_n : a = nn := by omega
                                        have hx := rdT_end (n := nn) hosp (k := k) (by omega) hk w3 (Or.inr (fun z => by
                                          have h9 := cd_lt (by decide) z
                                          omega))
                                        have e := hx.2
                                        rw [decide_eq_true (by omega)] at e
                                        refine ⟨?_, ?_, fun _ => ⟨?_, ?_, ?_, ?_, ?_, ?_⟩⟩
                                        · rw [e]; rfl
                                        · rw [e, ← w1]
                                        · exact hse.symm
                                        · exact hx.1.symm
                                        · exact hqs
                                        · rw [hse]; exact hqh
                                        · rw [hx.1]; exact w4
                                        · rw [hx.1]; exact w5
                                      refine kk_QQ hQQ ?_
                                      exact W.zret (v := nI 0) (ty := .boolean) hx hb hr (by decide +kernel) (fun t ht hW => ⟨⟨nI 0, (ra2_80, s, k, upd qsX k (-9 : Int32), qhX, qkX, qtX), rfl, hq, by show va_P D vwCl _ t.heap; rw [ht]; exact hP⟩, hS.F ht⟩) hS.2.2 dX10_readsCoast_163
                                  · skip
                                    refine lv_aload_n hx hb dX10_readsCoast_144 rfl (lv_at hl 1 rfl) ?_
                                    refine va_get (D := D) (ci := 9) (v := .int (nI a)) (C := RX10) (T := TX10) (N := 36) hx hb hts hwX10 hown hK hP 0 rfl rfl 10 (by decide) hf_110 (fun _ h9 => h9) rfl dX10_readsCoast_145 ?_
                                    refine lv_iload_n hx hb dX10_readsCoast_148 rfl (lv_at hl 3 rfl) ?_
                                    refine kk_icmp_ge (tgt := 162) hx hb dX10_readsCoast_149 (by decide) (by omega) (by omega) (fun c_85 => ?_) (fun c_85 => ?_)
                                    · skip
                                      refine lv_iload_n hx hb dX10_readsCoast_162 rfl (lv_at hl 0 rfl) ?_
                                      have hq : (nI 1) = kb (rdT (cdT zs fr nn) nn).1 ∧ a = (rdT (cdT zs fr nn) nn).2 ∧ ((rdT (cdT zs fr nn) nn).1 = true → s = rSp (cdT zs fr nn) ∧ k = rLa (cdT zs fr nn) ∧ (∀ j, j < 6 → (upd qsX k (-9 : Int32)) j = nI (dv (cdT zs fr nn) (1 + j))) ∧ (∀ j, j < rSp (cdT zs fr nn) → qhX j = nI (dv (cdT zs fr nn) (8 + 2 * j))) ∧ (∀ j, j < rLa (cdT zs fr nn) → qkX j = nI (kdOf ((cdT zs fr nn) (aLa (cdT zs fr nn) + 3 * j + 1)))) ∧ ∀ j, j < rLa (cdT zs fr nn) → qtX j = nI (dv (cdT zs fr nn) (aLa (cdT zs fr nn) + 3 * j + 2))) := by
                                        obtain ⟨w1, w2, w3, w4, w5⟩ := hk1v
                                        have e_n : a = nn := by omega
                                        have hx := rdT_end (n := nn) hosp (k := k) (by omega) hk w3 (Or.inr (fun z => by
                                          have h9 := cd_lt (by decide) z
                                          omega))
                                        have e := hx.2
                                        rw [decide_eq_true (by omega)] at e
                                        refine ⟨?_, ?_, fun _ => ⟨?_, ?_, ?_, ?_, ?_, ?_⟩⟩
                                        · rw [e]; rfl
                                        · rw [e, ← w1]
                                        · exact hse.symm
                                        · exact hx.1.symm
                                        · exact hqs
                                        · rw [hse]; exact hqh
                                        · rw [hx.1]; exact w4
                                        · rw [hx.1]; exact w5
                                      refine kk_QQ hQQ ?_
                                      exact W.zret (v := nI 1) (ty := .boolean) hx hb hr (by decide +kernel) (fun t ht hW => ⟨⟨nI 1, (a, s, k, upd qsX k (-9 : Int32), qhX, qkX, qtX), rfl, hq, by show va_P D vwCl _ t.heap; rw [ht]; exact hP⟩, hS.F ht⟩) hS.2.2 dX10_readsCoast_163
                                    · skip
                                      have hlt9 : 0 < k → a < nn := fun _ => by omega
                                      refine lv_aload_n hx hb dX10_readsCoast_152 rfl (lv_at hl 1 rfl) ?_
                                      refine lv_iload_n hx hb dX10_readsCoast_153 rfl (lv_at hl 2 rfl) ?_
                                      refine lv_iload_n hx hb dX10_readsCoast_154 rfl (lv_at hl 3 rfl) ?_
                                      have o_86 : fr + nn ≤ 240 := by omega
                                      have o_87 : s ≤ 4 := by exact hsle
                                      have o_88 : 0 < s := by exact hs0
                                      have o_89 : k ≤ 4 := by exact hkle
                                      have hF := va_free (wc := [(m0, .inr (9, [.int i0, .ref a1, .int i2, .ref a3, .int i4, .ref a5, .ref a6, .ref a7, .int i8, .int i9, .int (nI a), .int (nI s), .int (nI k), .ref a13, .ref a14, .ref a15, .ref a16, .int i17, .ref a18, .ref a19, .ref a20, .ref a21, .ref a22, .ref a23, .ref a24, .ref a25, .int i26, .ref a27, .ref a28, .ref a29, .ref a30, .ref a31, .ref a32, .ref a33, .ref a34, .int i35])), (a15, .inl (cI, 4, .inl qkX)), (a16, .inl (cI, 4, .inl qtX)), (a33, .inl (cI, 240, .inl zs))]) hD hS hA [0, 3, 4, 5] rfl
                                      refine va_calli (va_runV (As := [.int (nI fr), .int (nI nn)]) (rest := []) ⟨hx, hb, hml, hown, hts⟩ (c_X10_readsLamp lL D cI cS _ m0 a1 a3 a5 a6 a7 a13 a14 a15 a16 a18 a19 a20 a21 a22 a23 a24 a25 a27 a28 a29 a30 a31 a32 a33 a34 i0 i2 i4 i8 i9 i17 i26 i35 qkX qtX zs fr nn a s k o_86 o_87 o_88 o_89) (cwV 2 hts gX10_readsCoast_X10_readsLamp rfl rfl rfl cd_X10_readsLamp ⟨Nat.le_of_ble_eq_true rfl, Nat.le_of_ble_eq_true rfl⟩) ⟨kB_blind, va_recv hK hP (ci := 9) (q0 := 0) rfl rfl, fun U hU hW => ⟨rfl, by rw [hU], by rw [hU]; exact hP.sub [0, 3, 4, 5] rfl, va_K.moved hW.alike hK, (hD.sub [0, 3, 4, 5] (by decide) rfl).weaken (fun _ _ _ _ => trivial)⟩⟩ rfl rfl hl.1 rfl (lv_room (Nat.le_of_ble_eq_true rfl)) dX10_readsCoast_155 ⟨Nat.le_of_ble_eq_true rfl, Nat.le_of_ble_eq_true rfl⟩) hS (fun q _ h => hF q h) hF (fun r_90 u_90 t H1 locs ht hvm hw_90 hB hz1 hk1 hS => ?_)
                                      obtain ⟨ra2_90, rq2_90, qk2_90, qt2_90⟩ := u_90
                                      obtain ⟨hP, hD⟩ := kk_join2 (wc := [(m0, .inr (9, [.int i0, .ref a1, .int i2, .ref a3, .int i4, .ref a5, .ref a6, .ref a7, .int i8, .int i9, .int (nI a), .int (nI s), .int (nI k), .ref a13, .ref a14, .ref a15, .ref a16, .int i17, .ref a18, .ref a19, .ref a20, .ref a21, .ref a22, .ref a23, .ref a24, .ref a25, .int i26, .ref a27, .ref a28, .ref a29, .ref a30, .ref a31, .ref a32, .ref a33, .ref a34, .int i35])), (a15, .inl (cI, 4, .inl qkX)), (a16, .inl (cI, 4, .inl qtX)), (a33, .inl (cI, 240, .inl zs))]) (w1 := [(m0, .inr (9, [.int i0, .ref a1, .int i2, .ref a3, .int i4, .ref a5, .ref a6, .ref a7, .int i8, .int i9, .int (nI ra2_90), .int (nI s), .int (nI rq2_90), .ref a13, .ref a14, .ref a15, .ref a16, .int i17, .ref a18, .ref a19, .ref a20, .ref a21, .ref a22, .ref a23, .ref a24, .ref a25, .int i26, .ref a27, .ref a28, .ref a29, .ref a30, .ref a31, .ref a32, .ref a33, .ref a34, .int i35])), (a15, .inl (cI, 4, .inl qk2_90)), (a16, .inl (cI, 4, .inl qt2_90)), (a33, .inl (cI, 240, .inl zs))]) (ws' := [(m0, .inr (9, [.int i0, .ref a1, .int i2, .ref a3, .int i4, .ref a5, .ref a6, .ref a7, .int i8, .int i9, .int (nI ra2_90), .int (nI s), .int (nI rq2_90), .ref a13, .ref a14, .ref a15, .ref a16, .int i17, .ref a18, .ref a19, .ref a20, .ref a21, .ref a22, .ref a23, .ref a24, .ref a25, .int i26, .ref a27, .ref a28, .ref a29, .ref a30, .ref a31, .ref a32, .ref a33, .ref a34, .int i35])), (a13, .inl (cI, 6, .inl (upd qsX k (-9 : Int32)))), (a14, .inl (cI, 4, .inl qhX)), (a15, .inl (cI, 4, .inl qk2_90)), (a16, .inl (cI, 4, .inl qt2_90)), (a33, .inl (cI, 240, .inl zs))]) (wr := [(a13, .inl (cI, 6, .inl (upd qsX k (-9 : Int32)))), (a14, .inl (cI, 4, .inl qhX))]) (H1 := H1) hP hD [0, 3, 4, 5] [1, 2] rfl rfl rfl rfl 6 rfl (by decide) [m0, a13, a14, a15, a16, a33] rfl rfl hk1 (by rw [← ht]; exact hB)
                                      have hw_90 : (k < 4 ∧ (cdT zs fr nn) a = nI 44 ∧ isK ((cdT zs fr nn) (a + 1)) = true ∧ dg (cdT zs fr nn) (a + 2) s = true ∧ r_90 = nI 1 ∧ ra2_90 = a + 3 ∧ rq2_90 = k + 1 ∧ qk2_90 = upd qkX k (nI (kdOf ((cdT zs fr nn) (a + 1)))) ∧ qt2_90 = upd qtX k (nI (dv (cdT zs fr nn) (a + 2)))) ∨ (r_90 = nI 0 ∧ rq2_90 = k ∧ qk2_90 = qkX ∧ qt2_90 = qtX ∧ ((¬ (k < 4 ∧ (cdT zs fr nn) a = nI 44) ∧ ra2_90 = a) ∨ (k < 4 ∧ (cdT zs fr nn) a = nI 44 ∧ isK ((cdT zs fr nn) (a + 1)) = false ∧ ra2_90 = a + 1) ∨ (k < 4 ∧ (cdT zs fr nn) a = nI 44 ∧ isK ((cdT zs fr nn) (a + 1)) = true ∧ dg (cdT zs fr nn) (a + 2) s = false ∧ ra2_90 = a + 2))) := hw_90
                                      clear hF hB hk1 hz1 hvm
                                      clear ht
                                      generalize H1 = H at hP hS ⊢
                                      rcases hw_90 with ⟨q1, q2, q3, q4, q5, q6, q7, q8, q9⟩ | ⟨q5, q6, q7, q8, q9⟩
                                      · skip
                                        have q5 := q5.symm
                                        have q6 := q6.symm
                                        have q7 := q7.symm
                                        have q8 := q8.symm
                                        have q9 := q9.symm
                                        subst q5 q6 q7 q8 q9
                                        refine lv_istore_n (lv' := [(3, .int (nI 1)), (0, .ref m0), (1, .int (nI fr)), (2, .int (nI nn))]) hx hb dX10_readsCoast_158 rfl hl (by decide) rfl (fun ls hl => ?_)
                                        refine lv_goto (tgt := 133) hx hb dX10_readsCoast_159 (by decide) ?_
                                        have o_91 : (k + 1) ≤ 4 := by omega
                                        have o_92 : true = true → (a + 3) = aLa (cdT zs fr nn) + 3 * (k + 1) ∧ (a + 3) ≤ nn ∧ (∀ j, j < (k + 1) → pLa (cdT zs fr nn) j = true) ∧ (∀ j, j < (k + 1) → (upd qkX k (nI (kdOf ((cdT zs fr nn) (a + 1))))) j = nI (kdOf ((cdT zs fr nn) (aLa (cdT zs fr nn) + 3 * j + 1)))) ∧ ∀ j, j < (k + 1) → (upd qtX k (nI (dv (cdT zs fr nn) (a + 2)))) j = nI (dv (cdT zs fr nn) (aLa (cdT zs fr nn) + 3 * j + 2)) := by
                                          intro _
                                          obtain ⟨w1, w2, w3, w4, w5⟩ := hk1v
                                          have hlt := dg_lt q4
                                          refine ⟨by omega, by omega, fun j hj => ?_, fun j hj => ?_, fun j hj => ?_⟩
                                          · by_cases e : j = k
                                            · subst e
                                              exact pLa_t (by rw [w1] at q2; exact q2) (by rw [w1] at q3; exact q3) (by rw [w1, ← hse] at q4; exact q4)
                                            · exact w3 j (by omega)
                                          · by_cases e : j = k
                                            · subst e; rw [up_at, w1]
                                            · rw [up_ne _ _ e]; exact w4 j (by omega)
                                          · by_cases e : j = k
                                            · subst e; rw [up_at, w1]
                                            · rw [up_ne _ _ e]; exact w5 j (by omega)
                                        have o_93 : true = false → rdT (cdT zs fr nn) nn = (false, (a + 3)) := by intro z; cases z
                                        have o_94 : (bif true then 5 - (k + 1) else 0) < n_133 := by first | exact Nat.lt_of_lt_of_le (show 5 - (k + 1) < 5 - k by omega) (Nat.le_of_lt_succ hn_133) | exact Nat.lt_of_lt_of_le (show 0 < 5 - k by omega) (Nat.le_of_lt_succ hn_133)
                                        exact ih_133 true (k + 1) (a + 3) (upd qkX k (nI (kdOf ((cdT zs fr nn) (a + 1))))) (upd qtX k (nI (dv (cdT zs fr nn) (a + 2)))) o_91 o_92 o_93 o_94 _ _ hP hD hS ls (lv_sub hl [0, 1, 2, 3] rfl)
                                      · skip
                                        have q5 := q5.symm
                                        have q6 := q6.symm
                                        have q7 := q7.symm
                                        have q8 := q8.symm
                                        subst q5 q6 q7 q8
                                        refine lv_istore_n (lv' := [(3, .int (nI 0)), (0, .ref m0), (1, .int (nI fr)), (2, .int (nI nn))]) hx hb dX10_readsCoast_158 rfl hl (by decide) rfl (fun ls hl => ?_)
                                        refine lv_goto (tgt := 133) hx hb dX10_readsCoast_159 (by decide) ?_
                                        refine lv_iload_n hx hb dX10_readsCoast_133 rfl (lv_at hl 0 rfl) ?_
                                        refine kk_if_eq (x := 0) (tgt := 162) hx hb dX10_readsCoast_134 (by decide) (by decide) (fun h => ?_) (fun h => absurd h (by decide))
                                        refine lv_iload_n hx hb dX10_readsCoast_162 rfl (lv_at hl 0 rfl) ?_
                                        have hq : (nI 0) = kb (rdT (cdT zs fr nn) nn).1 ∧ ra2_90 = (rdT (cdT zs fr nn) nn).2 ∧ ((rdT (cdT zs fr nn) nn).1 = true → s = rSp (cdT zs fr nn) ∧ k = rLa (cdT zs fr nn) ∧ (∀ j, j < 6 → (upd qsX k (-9 : Int32)) j = nI (dv (cdT zs fr nn) (1 + j))) ∧ (∀ j, j < rSp (cdT zs fr nn) → qhX j = nI (dv (cdT zs fr nn) (8 + 2 * j))) ∧ (∀ j, j < rLa (cdT zs fr nn) → qkX j = nI (kdOf ((cdT zs fr nn) (aLa (cdT zs fr nn) + 3 * j + 1)))) ∧ ∀ j, j < rLa (cdT zs fr nn) → qtX j = nI (dv (cdT zs fr nn) (aLa (cdT zs fr nn) + 3 * j + 2))) := by
                                          obtain ⟨w1, w2, w3, w4, w5⟩ := hk1v
                                          have e_n : a = nn := by omega
                                          have hx := rdT_end (n := nn) hosp (k := k) (by omega) hk w3 (Or.inr (fun z => by
                                            have h9 := cd_lt (by decide) z
                                            omega))
                                          have e := hx.2
                                          rw [decide_eq_true (by omega)] at e
                                          refine ⟨?_, ?_, fun _ => ⟨?_, ?_, ?_, ?_, ?_, ?_⟩⟩
                                          · rw [e]; rfl
                                          · rw [e, ← w1]
                                          · exact hse.symm
                                          · exact hx.1.symm
                                          · exact hqs
                                          · rw [hse]; exact hqh
                                          · rw [hx.1]; exact w4
                                          · rw [hx.1]; exact w5
                                        refine kk_QQ hQQ ?_
                                        exact W.zret (v := nI 0) (ty := .boolean) hx hb hr (by decide +kernel) (fun t ht hW => ⟨⟨nI 0, (ra2_90, s, k, upd qsX k (-9 : Int32), qhX, qkX, qtX), rfl, hq, by show va_P D vwCl _ t.heap; rw [ht]; exact hP⟩, hS.F ht⟩) hS.2.2 dX10_readsCoast_163
                            have o_95 : 0 ≤ 4 := by omega
                            have o_96 : true = true → a = aLa (cdT zs fr nn) + 3 * 0 ∧ a ≤ nn ∧ (∀ j, j < 0 → pLa (cdT zs fr nn) j = true) ∧ (∀ j, j < 0 → qk j = nI (kdOf ((cdT zs fr nn) (aLa (cdT zs fr nn) + 3 * j + 1)))) ∧ ∀ j, j < 0 → qt j = nI (dv (cdT zs fr nn) (aLa (cdT zs fr nn) + 3 * j + 2)) := by exact fun _ => ⟨by omega, haln, fun j hj => by omega, fun j hj => by omega, fun j hj => by omega⟩
                            have o_97 : true = false → rdT (cdT zs fr nn) nn = (false, a) := by intro z; cases z
                            have o_98 : (bif true then 5 - 0 else 0) < 6 := by exact (show 5 - 0 < 6 by omega)
                            exact L_133 6 true 0 a qk qt o_95 o_96 o_97 o_98 _ _ hP hD hS ls (lv_sub hl [0, 1, 2, 3] rfl)
                          · skip
                            have hc59 : 0 < s → (cdT zs fr nn) a = nI 59 := fun _ => c_73
                            refine lv_aload_n hx hb dX10_readsCoast_123 rfl (lv_at hl 1 rfl) ?_
                            refine lv_iload_n hx hb dX10_readsCoast_124 rfl (lv_at hl 2 rfl) ?_
                            refine lv_iload_n hx hb dX10_readsCoast_125 rfl (lv_at hl 3 rfl) ?_
                            have o_99 : fr + nn ≤ 240 := by omega
                            have o_100 : s ≤ 4 := by exact hsle
                            have hF := va_free (wc := [(m0, .inr (9, [.int i0, .ref a1, .int i2, .ref a3, .int i4, .ref a5, .ref a6, .ref a7, .int i8, .int i9, .int (nI a), .int (nI s), .int (nI 0), .ref a13, .ref a14, .ref a15, .ref a16, .int i17, .ref a18, .ref a19, .ref a20, .ref a21, .ref a22, .ref a23, .ref a24, .ref a25, .int i26, .ref a27, .ref a28, .ref a29, .ref a30, .ref a31, .ref a32, .ref a33, .ref a34, .int i35])), (a14, .inl (cI, 4, .inl qhX)), (a33, .inl (cI, 240, .inl zs))]) hD hS hA [0, 2, 5] rfl
                            refine va_calli (va_runV (As := [.int (nI fr), .int (nI nn)]) (rest := []) ⟨hx, hb, hml, hown, hts⟩ (c_X10_readsSpot lL D cI cS _ m0 a1 a3 a5 a6 a7 a13 a14 a15 a16 a18 a19 a20 a21 a22 a23 a24 a25 a27 a28 a29 a30 a31 a32 a33 a34 i0 i2 i4 i8 i9 (nI 0) i17 i26 i35 qhX zs fr nn a s o_99 o_100) (cwV 2 hts gX10_readsCoast_X10_readsSpot rfl rfl rfl cd_X10_readsSpot ⟨Nat.le_of_ble_eq_true rfl, Nat.le_of_ble_eq_true rfl⟩) ⟨kB_blind, va_recv hK hP (ci := 9) (q0 := 0) rfl rfl, fun U hU hW => ⟨rfl, by rw [hU], by rw [hU]; exact hP.sub [0, 2, 5] rfl, va_K.moved hW.alike hK, (hD.sub [0, 2, 5] (by decide) rfl).weaken (fun _ _ _ _ => trivial)⟩⟩ rfl rfl hl.1 rfl (lv_room (Nat.le_of_ble_eq_true rfl)) dX10_readsCoast_126 ⟨Nat.le_of_ble_eq_true rfl, Nat.le_of_ble_eq_true rfl⟩) hS (fun q _ h => hF q h) hF (fun r_101 u_101 t H1 locs ht hvm hw_101 hB hz1 hk1 hS => ?_)
                            obtain ⟨ra2_101, rs2_101, qh2_101⟩ := u_101
                            obtain ⟨hP, hD⟩ := kk_join2 (wc := [(m0, .inr (9, [.int i0, .ref a1, .int i2, .ref a3, .int i4, .ref a5, .ref a6, .ref a7, .int i8, .int i9, .int (nI a), .int (nI s), .int (nI 0), .ref a13, .ref a14, .ref a15, .ref a16, .int i17, .ref a18, .ref a19, .ref a20, .ref a21, .ref a22, .ref a23, .ref a24, .ref a25, .int i26, .ref a27, .ref a28, .ref a29, .ref a30, .ref a31, .ref a32, .ref a33, .ref a34, .int i35])), (a14, .inl (cI, 4, .inl qhX)), (a33, .inl (cI, 240, .inl zs))]) (w1 := [(m0, .inr (9, [.int i0, .ref a1, .int i2, .ref a3, .int i4, .ref a5, .ref a6, .ref a7, .int i8, .int i9, .int (nI ra2_101), .int (nI rs2_101), .int (nI 0), .ref a13, .ref a14, .ref a15, .ref a16, .int i17, .ref a18, .ref a19, .ref a20, .ref a21, .ref a22, .ref a23, .ref a24, .ref a25, .int i26, .ref a27, .ref a28, .ref a29, .ref a30, .ref a31, .ref a32, .ref a33, .ref a34, .int i35])), (a14, .inl (cI, 4, .inl qh2_101)), (a33, .inl (cI, 240, .inl zs))]) (ws' := [(m0, .inr (9, [.int i0, .ref a1, .int i2, .ref a3, .int i4, .ref a5, .ref a6, .ref a7, .int i8, .int i9, .int (nI ra2_101), .int (nI rs2_101), .int (nI 0), .ref a13, .ref a14, .ref a15, .ref a16, .int i17, .ref a18, .ref a19, .ref a20, .ref a21, .ref a22, .ref a23, .ref a24, .ref a25, .int i26, .ref a27, .ref a28, .ref a29, .ref a30, .ref a31, .ref a32, .ref a33, .ref a34, .int i35])), (a13, .inl (cI, 6, .inl (upd qsX k (-9 : Int32)))), (a14, .inl (cI, 4, .inl qh2_101)), (a15, .inl (cI, 4, .inl qk)), (a16, .inl (cI, 4, .inl qt)), (a33, .inl (cI, 240, .inl zs))]) (wr := [(a13, .inl (cI, 6, .inl (upd qsX k (-9 : Int32)))), (a15, .inl (cI, 4, .inl qk)), (a16, .inl (cI, 4, .inl qt))]) (H1 := H1) hP hD [0, 2, 5] [1, 3, 4] rfl rfl rfl rfl 6 rfl (by decide) [m0, a13, a14, a15, a16, a33] rfl rfl hk1 (by rw [← ht]; exact hB)
                            have hw_101 : (s < 4 ∧ (cdT zs fr nn) a = nI 59 ∧ dg (cdT zs fr nn) (a + 1) 10 = true ∧ r_101 = nI 1 ∧ ra2_101 = a + 2 ∧ rs2_101 = s + 1 ∧ qh2_101 = upd qhX s (nI (dv (cdT zs fr nn) (a + 1)))) ∨ (r_101 = nI 0 ∧ rs2_101 = s ∧ qh2_101 = qhX ∧ ((¬ (s < 4 ∧ (cdT zs fr nn) a = nI 59) ∧ ra2_101 = a) ∨ (s < 4 ∧ (cdT zs fr nn) a = nI 59 ∧ dg (cdT zs fr nn) (a + 1) 10 = false ∧ ra2_101 = a + 1))) := hw_101
                            clear hF hB hk1 hz1 hvm
                            clear ht
                            generalize H1 = H at hP hS ⊢
                            rcases hw_101 with ⟨q1, q2, q3, q4, q5, q6, q7⟩ | ⟨q4, q5, q6, q7⟩
                            · skip
                              have q4 := q4.symm
                              have q5 := q5.symm
                              have q6 := q6.symm
                              have q7 := q7.symm
                              subst q4 q5 q6 q7
                              refine lv_istore_n (lv' := [(3, .int (nI 1)), (0, .ref m0), (1, .int (nI fr)), (2, .int (nI nn))]) hx hb dX10_readsCoast_129 rfl hl (by decide) rfl (fun ls hl => ?_)
                              refine lv_goto (tgt := 101) hx hb dX10_readsCoast_130 (by decide) ?_
                              have o_102 : (s + 1) ≤ 4 := by omega
                              have o_103 : true = true → (a + 2) = 7 + 2 * (s + 1) ∧ (a + 2) ≤ nn ∧ (∀ j, j < (s + 1) → pSp (cdT zs fr nn) j = true) ∧ ∀ j, j < (s + 1) → (upd qhX s (nI (dv (cdT zs fr nn) (a + 1)))) j = nI (dv (cdT zs fr nn) (8 + 2 * j)) := by
                                intro _
                                obtain ⟨w1, w2, w3, w4⟩ := hs1v
                                have hlt := dg_lt q3
                                refine ⟨by omega, by omega, fun j hj => ?_, fun j hj => ?_⟩
                                · by_cases e : j = s
                                  · subst e
                                    exact pSp_t (by rw [w1] at q2; exact q2) (by rw [w1, show 7 + 2 * j + 1 = 8 + 2 * j by omega] at q3; exact q3)
                                  · exact w3 j (by omega)
                                · by_cases e : j = s
                                  · subst e
                                    rw [up_at, w1, show 7 + 2 * j + 1 = 8 + 2 * j by omega]
                                  · rw [up_ne _ _ e]; exact w4 j (by omega)
                              have o_104 : true = false → rdT (cdT zs fr nn) nn = (false, (a + 2)) := by intro z; cases z
                              have o_105 : (bif true then 5 - (s + 1) else 0) < n_101 := by first | exact Nat.lt_of_lt_of_le (show 5 - (s + 1) < 5 - s by omega) (Nat.le_of_lt_succ hn_101) | exact Nat.lt_of_lt_of_le (show 0 < 5 - s by omega) (Nat.le_of_lt_succ hn_101)
                              exact ih_101 true (s + 1) (a + 2) (upd qhX s (nI (dv (cdT zs fr nn) (a + 1)))) o_102 o_103 o_104 o_105 _ _ hP hD hS ls (lv_sub hl [0, 1, 2, 3] rfl)
                            · skip
                              have q4 := q4.symm
                              have q5 := q5.symm
                              have q6 := q6.symm
                              subst q4 q5 q6
                              refine lv_istore_n (lv' := [(3, .int (nI 0)), (0, .ref m0), (1, .int (nI fr)), (2, .int (nI nn))]) hx hb dX10_readsCoast_129 rfl hl (by decide) rfl (fun ls hl => ?_)
                              refine lv_goto (tgt := 101) hx hb dX10_readsCoast_130 (by decide) ?_
                              refine lv_iload_n hx hb dX10_readsCoast_101 rfl (lv_at hl 0 rfl) ?_
                              refine kk_if_eq (x := 0) (tgt := 133) hx hb dX10_readsCoast_102 (by decide) (by decide) (fun h => ?_) (fun h => absurd h (by decide))
                              refine lv_iload_n hx hb dX10_readsCoast_133 rfl (lv_at hl 0 rfl) ?_
                              refine kk_if_eq (x := 0) (tgt := 162) hx hb dX10_readsCoast_134 (by decide) (by decide) (fun h => ?_) (fun h => absurd h (by decide))
                              refine lv_iload_n hx hb dX10_readsCoast_162 rfl (lv_at hl 0 rfl) ?_
                              have hq : (nI 0) = kb (rdT (cdT zs fr nn) nn).1 ∧ ra2_101 = (rdT (cdT zs fr nn) nn).2 ∧ ((rdT (cdT zs fr nn) nn).1 = true → s = rSp (cdT zs fr nn) ∧ 0 = rLa (cdT zs fr nn) ∧ (∀ j, j < 6 → (upd qsX k (-9 : Int32)) j = nI (dv (cdT zs fr nn) (1 + j))) ∧ (∀ j, j < rSp (cdT zs fr nn) → qhX j = nI (dv (cdT zs fr nn) (8 + 2 * j))) ∧ (∀ j, j < rLa (cdT zs fr nn) → qk j = nI (kdOf ((cdT zs fr nn) (aLa (cdT zs fr nn) + 3 * j + 1)))) ∧ ∀ j, j < rLa (cdT zs fr nn) → qt j = nI (dv (cdT zs fr nn) (aLa (cdT zs fr nn) + 3 * j + 2))) := by
                                obtain ⟨w1, w2, w3, w4, w5⟩ := hk1v
                                have e_n : a = nn := by omega
                                have hx := rdT_end (n := nn) hosp (k := k) (by omega) hk w3 (Or.inr (fun z => by
                                  have h9 := cd_lt (by decide) z
                                  omega))
                                have e := hx.2
                                rw [decide_eq_true (by omega)] at e
                                refine ⟨?_, ?_, fun _ => ⟨?_, ?_, ?_, ?_, ?_, ?_⟩⟩
                                · rw [e]; rfl
                                · rw [e, ← w1]
                                · exact hse.symm
                                · exact hx.1.symm
                                · exact hqs
                                · rw [hse]; exact hqh
                                · rw [hx.1]; exact w4
                                · rw [hx.1]; exact w5
                              refine kk_QQ hQQ ?_
                              exact W.zret (v := nI 0) (ty := .boolean) hx hb hr (by decide +kernel) (fun t ht hW => ⟨⟨nI 0, (ra2_101, s, 0, upd qsX k (-9 : Int32), qhX, qk, qt), rfl, hq, by show va_P D vwCl _ t.heap; rw [ht]; exact hP⟩, hS.F ht⟩) hS.2.2 dX10_readsCoast_163
                  have o_106 : 0 ≤ 4 := by omega
                  have o_107 : true = true → (a) = 7 + 2 * 0 ∧ (a) ≤ nn ∧ (∀ j, j < 0 → pSp (cdT zs fr nn) j = true) ∧ ∀ j, j < 0 → qh j = nI (dv (cdT zs fr nn) (8 + 2 * j)) := by exact fun _ => ⟨by have := hw.1; omega, hw.2.1, fun j hj => by omega, fun j hj => by omega⟩
                  have o_108 : true = false → rdT (cdT zs fr nn) nn = (false, (a)) := by intro z; cases z
                  have o_109 : (bif true then 5 - 0 else 0) < 6 := by exact (show 5 - 0 < 6 by omega)
                  exact L_101 6 true 0 (a) qh o_106 o_107 o_108 o_109 _ _ hP hD hS ls (lv_sub hl [1, 2, 3, 4] rfl)
                · skip
                  subst hbt
                  have hl : lv_has ls 5 [(4, .int (nI (k + 1))), (3, .int (nI 0)), (0, .ref m0), (1, .int (nI fr)), (2, .int (nI nn))] := hl
                  have hfail := hw0 rfl
                  refine lv_iload_n hx hb dX10_readsCoast_101 rfl (lv_at hl 1 rfl) ?_
                  refine kk_if_eq (x := 0) (tgt := 133) hx hb dX10_readsCoast_102 (by decide) (by decide) (fun h => ?_) (fun h => absurd h (by decide))
                  refine lv_iload_n hx hb dX10_readsCoast_133 rfl (lv_at hl 1 rfl) ?_
                  refine kk_if_eq (x := 0) (tgt := 162) hx hb dX10_readsCoast_134 (by decide) (by decide) (fun h => ?_) (fun h => absurd h (by decide))
                  refine lv_iload_n hx hb dX10_readsCoast_162 rfl (lv_at hl 1 rfl) ?_
                  have hq : (nI 0) = kb (rdT (cdT zs fr nn) nn).1 ∧ (a) = (rdT (cdT zs fr nn) nn).2 ∧ ((rdT (cdT zs fr nn) nn).1 = true → 0 = rSp (cdT zs fr nn) ∧ 0 = rLa (cdT zs fr nn) ∧ (∀ j, j < 6 → (upd qsX k (-9 : Int32)) j = nI (dv (cdT zs fr nn) (1 + j))) ∧ (∀ j, j < rSp (cdT zs fr nn) → qh j = nI (dv (cdT zs fr nn) (8 + 2 * j))) ∧ (∀ j, j < rLa (cdT zs fr nn) → qk j = nI (kdOf ((cdT zs fr nn) (aLa (cdT zs fr nn) + 3 * j + 1)))) ∧ ∀ j, j < rLa (cdT zs fr nn) → qt j = nI (dv (cdT zs fr nn) (aLa (cdT zs fr nn) + 3 * j + 2))) := by
                    refine ⟨?_, ?_, fun h => ?_⟩
                    · rw [hfail]; rfl
                    · rw [hfail]
                    · rw [hfail] at h; cases h
                  refine kk_QQ hQQ ?_
                  exact W.zret (v := nI 0) (ty := .boolean) hx hb hr (by decide +kernel) (fun t ht hW => ⟨⟨nI 0, ((a), 0, 0, upd qsX k (-9 : Int32), qh, qk, qt), rfl, hq, by show va_P D vwCl _ t.heap; rw [ht]; exact hP⟩, hS.F ht⟩) hS.2.2 dX10_readsCoast_163
              · skip
                refine lv_iload_n hx hb dX10_readsCoast_60 rfl (lv_at hl 1 rfl) ?_
                refine kk_if_eq (x := 0) (tgt := 101) hx hb dX10_readsCoast_61 (by decide) (by decide) (fun h => ?_) (fun h => absurd h (by decide))
                refine lv_iload_n hx hb dX10_readsCoast_101 rfl (lv_at hl 1 rfl) ?_
                refine kk_if_eq (x := 0) (tgt := 133) hx hb dX10_readsCoast_102 (by decide) (by decide) (fun h => ?_) (fun h => absurd h (by decide))
                refine lv_iload_n hx hb dX10_readsCoast_133 rfl (lv_at hl 1 rfl) ?_
                refine kk_if_eq (x := 0) (tgt := 162) hx hb dX10_readsCoast_134 (by decide) (by decide) (fun h => ?_) (fun h => absurd h (by decide))
                refine lv_iload_n hx hb dX10_readsCoast_162 rfl (lv_at hl 1 rfl) ?_
                have hq : (nI 0) = kb (rdT (cdT zs fr nn) nn).1 ∧ (a) = (rdT (cdT zs fr nn) nn).2 ∧ ((rdT (cdT zs fr nn) nn).1 = true → 0 = rSp (cdT zs fr nn) ∧ 0 = rLa (cdT zs fr nn) ∧ (∀ j, j < 6 → (upd qsX k (-9 : Int32)) j = nI (dv (cdT zs fr nn) (1 + j))) ∧ (∀ j, j < rSp (cdT zs fr nn) → qh j = nI (dv (cdT zs fr nn) (8 + 2 * j))) ∧ (∀ j, j < rLa (cdT zs fr nn) → qk j = nI (kdOf ((cdT zs fr nn) (aLa (cdT zs fr nn) + 3 * j + 1)))) ∧ ∀ j, j < rLa (cdT zs fr nn) → qt j = nI (dv (cdT zs fr nn) (aLa (cdT zs fr nn) + 3 * j + 2))) := by
                  obtain ⟨w1, w2, w3, w4, w5⟩ := hk1v
                  have e_n : a = nn := by omega
                  have hx := rdT_end (n := nn) hosp (k := k) (by omega) hk w3 (Or.inr (fun z => by
                    have h9 := cd_lt (by decide) z
                    omega))
                  have e := hx.2
                  rw [decide_eq_true (by omega)] at e
                  refine ⟨?_, ?_, fun _ => ⟨?_, ?_, ?_, ?_, ?_, ?_⟩⟩
                  · rw [e]; rfl
                  · rw [e, ← w1]
                  · exact hse.symm
                  · exact hx.1.symm
                  · exact hqs
                  · rw [hse]; exact hqh
                  · rw [hx.1]; exact w4
                  · rw [hx.1]; exact w5
                refine kk_QQ hQQ ?_
                exact W.zret (v := nI 0) (ty := .boolean) hx hb hr (by decide +kernel) (fun t ht hW => ⟨⟨nI 0, ((a), 0, 0, upd qsX k (-9 : Int32), qh, qk, qt), rfl, hq, by show va_P D vwCl _ t.heap; rw [ht]; exact hP⟩, hS.F ht⟩) hS.2.2 dX10_readsCoast_163
    have o_110 : 0 ≤ 6 := by omega
    have o_111 : true = true → (0 + 1) = 1 + 0 ∧ (0 + 1) ≤ nn ∧ (∀ j, j < 0 → dg (cdT zs fr nn) (1 + j) 10 = true) ∧ ∀ j, j < 0 → qs j = nI (dv (cdT zs fr nn) (1 + j)) := by exact fun _ => ⟨rfl, by have := cd_lt (by decide) c_3; omega, fun j hj => by omega, fun j hj => by omega⟩
    have o_112 : true = false → rdT (cdT zs fr nn) nn = (false, (0 + 1)) := by intro z; cases z
    have o_113 : 7 ≤ 0 + 7 := by omega
    exact L_53 7 0 true (0 + 1) qs o_110 o_111 o_112 o_113 _ _ hP hD hS ls (lv_sub hl [0, 1, 2, 3, 4] rfl)
