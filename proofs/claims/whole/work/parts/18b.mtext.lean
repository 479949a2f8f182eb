theorem cd_lt {f : Nat → Int32} {a n j k : Nat} (hk : k < 2 ^ 31) (h : cdT f a n j = nI k) : j < n := by
  refine Classical.byContradiction fun z => ?_
  rw [cdT_out z] at h
  exact neg9 hk h
theorem dg_lt {f : Nat → Int32} {a n j b : Nat} (h : dg (cdT f a n) j b = true) : j < n := by
  refine Classical.byContradiction fun z => ?_
  unfold dg at h
  rw [cdT_out z] at h
  have h1 : inB ((-9 : Int32) - nI 48) b = false := kk_out1 (by decide +kernel)
  rw [h1] at h
  cases h
theorem isK_lt {f : Nat → Int32} {a n j : Nat} (h : isK (cdT f a n j) = true) : j < n := by
  refine Classical.byContradiction fun z => ?_
  rw [cdT_out z] at h
  exact absurd h (by decide +kernel)
theorem rdT_no {c : Nat → Int32} {n a : Nat} (h : rdT c n = (false, a)) {P : Prop} : nI 0 = kb (rdT c n).1 ∧ a = (rdT c n).2 ∧ ((rdT c n).1 = true → P) := by
  rw [h]
  exact ⟨rfl, rfl, fun z => by cases z⟩
theorem rdT_yes {c : Nat → Int32} {n a : Nat} (h : rdT c n = (true, a)) {P : Prop} (hp : P) : nI 1 = kb (rdT c n).1 ∧ a = (rdT c n).2 ∧ ((rdT c n).1 = true → P) := by
  rw [h]
  exact ⟨rfl, rfl, fun _ => hp⟩
theorem dg_10 {c : Nat → Int32} {j b : Nat} {v : Bool} (h : dg c j b = v) (e : b = 10) : dg c j 10 = v := by
  subst e
  exact h
theorem sky_up {c : Nat → Int32} {f : Nat → Int32} {k a n : Nat} (w1 : a = 1 + k) (hlt : a < n) (w3 : ∀ j, j < k → dg c (1 + j) 10 = true) (w4 : ∀ j, j < k → f j = nI (dv c (1 + j))) (q : dg c a 10 = true) : a + 1 = 1 + (k + 1) ∧ a + 1 ≤ n ∧ (∀ j, j < k + 1 → dg c (1 + j) 10 = true) ∧ ∀ j, j < k + 1 → upd f k (nI (dv c a)) j = nI (dv c (1 + j)) := by
  subst w1
  refine ⟨by omega, by omega, fun j hj => ?_, fun j hj => ?_⟩
  · by_cases e : j = k
    · rw [e]; exact q
    · exact w3 j (by omega)
  · by_cases e : j = k
    · rw [e]; exact up_at _ _ _
    · rw [up_ne _ _ e]; exact w4 j (by omega)
theorem sky_no {c : Nat → Int32} {k a n : Nat} (h : c 0 = nI 111) (hk : k < 6) (w1 : a = 1 + k) (w3 : ∀ j, j < k → dg c (1 + j) 10 = true) (q : dg c a 10 = false) : rdT c n = (false, a) := by
  subst w1
  exact rdT_sky h hk w3 q
theorem kb_t {b : Bool} (h : b = true) : kb b = nI 1 := by rw [h]; rfl
theorem kb_f {b : Bool} (h : b = false) : kb b = nI 0 := by rw [h]; rfl

theorem cd_X10_codeAt : yX10_codeAt.cls = RX10 ∧ yX10_codeAt.cls ≠ "java/lang/invoke/MethodHandle" ∧ yX10_codeAt.cls ≠ "java/lang/invoke/VarHandle" ∧ (parseMethodDescriptor yX10_codeAt.desc).map (fun d => d.parameters.length) = some 2 := by decide +kernel
abbrev rmX10_codeAt : Room := { frames := 0, cells := 0, slots := 0, locals := 0 }
set_option maxHeartbeats 4000000 in
set_option maxRecDepth 100000 in
theorem c_X10_codeAt (lL : Launch) (D : va_G) (cI cS : ClassId) (m0 : Nat) (a1 : Nat) (a3 : Nat) (a5 : Nat) (a6 : Nat) (a7 : Nat) (a13 : Nat) (a14 : Nat) (a15 : Nat) (a16 : Nat) (a18 : Nat) (a19 : Nat) (a20 : Nat) (a21 : Nat) (a22 : Nat) (a23 : Nat) (a24 : Nat) (a25 : Nat) (a27 : Nat) (a28 : Nat) (a29 : Nat) (a30 : Nat) (a31 : Nat) (a32 : Nat) (a33 : Nat) (a34 : Nat) (i0 : Int32) (i2 : Int32) (i4 : Int32) (i8 : Int32) (i9 : Int32) (i11 : Int32) (i12 : Int32) (i17 : Int32) (i26 : Int32) (i35 : Int32) (zs : Nat → Int32) (fr : Nat) (nn : Nat) (ra : Nat) (hfn : fr + nn ≤ 240) (hra9 : ra ≤ 400) : Met lL yX10_codeAt wsX10_codeAt rmX10_codeAt (va_Pc [.ref m0, .int (nI fr), .int (nI nn)] (kBp D cI cS [(m0, .inr (9, [.int i0, .ref a1, .int i2, .ref a3, .int i4, .ref a5, .ref a6, .ref a7, .int i8, .int i9, .int (nI ra), .int i11, .int i12, .ref a13, .ref a14, .ref a15, .ref a16, .int i17, .ref a18, .ref a19, .ref a20, .ref a21, .ref a22, .ref a23, .ref a24, .ref a25, .int i26, .ref a27, .ref a28, .ref a29, .ref a30, .ref a31, .ref a32, .ref a33, .ref a34, .int i35])), (a33, .inl (cI, 240, .inl zs))])) (vp_Si (fun r : Int32 => r = cdT zs fr nn ra)) 0 0 (fun _ => False) := by
  refine Met.ofW (cc := cX10_codeAt) (maxL := 3) (ret := (some .int)) (by decide) rfl ?_
  intro pP eE sS mM args below meth cC s₁ B hml hv
  obtain ⟨rfl, hP, hK⟩ := hv
  have hx := B.exec
  have hb := B.bytes
  have hr := B.returns
  have hts := atoms_spec (ws := wsX10_codeAt) B.pre
  have hown : sS.vm.findClass RX10 = some mM.cls := findClass_of_methodNamed B.named
  have hlocks := B.notSynchronized
  have hP : va_P D vwCl [(m0, .inr (9, [.int i0, .ref a1, .int i2, .ref a3, .int i4, .ref a5, .ref a6, .ref a7, .int i8, .int i9, .int (nI ra), .int i11, .int i12, .ref a13, .ref a14, .ref a15, .ref a16, .int i17, .ref a18, .ref a19, .ref a20, .ref a21, .ref a22, .ref a23, .ref a24, .ref a25, .int i26, .ref a27, .ref a28, .ref a29, .ref a30, .ref a31, .ref a32, .ref a33, .ref a34, .int i35])), (a33, .inl (cI, 240, .inl zs))] sS.heap := hP
  have hf_79 := hts (.fieldLink RX10 79 "OldLampsModel" "sheet" "[I") (List.mem_of_getElem? (i := 2) rfl)
  have hf_110 := hts (.fieldLink RX10 110 "OldLampsModel" "readAt" "I") (List.mem_of_getElem? (i := 1) rfl)
  have hwX10 : ∀ w ∈ wsX100, w ∈ wsX10_codeAt := fun _ h => List.mem_cons_of_mem _ (List.mem_append_right _ h)
  have hl := lv_entry ([.ref m0, .int (nI fr), .int (nI nn)]) (n := 3) (Nat.le_of_ble_eq_true rfl)
  rw [lg_entry_eq]
  generalize (lg_sl ([.ref m0, .int (nI fr), .int (nI nn)]) ++ List.replicate (3 - (lg_sl ([.ref m0, .int (nI fr), .int (nI nn)])).length) Slot.unset).toArray = ls at hl ⊢
  have hl : lv_has ls 3 [(0, .ref m0), (1, .int (nI fr)), (2, .int (nI nn))] := hl
  obtain ⟨QQ, hQQ⟩ : ∃ QQ : State → Prop, QQ = MQ below (vp_Si (fun r : Int32 => r = cdT zs fr nn ra)) ([.ref m0, .int (nI fr), .int (nI nn)]).toArray sS 0 0 (fun _ => False) := ⟨_, rfl⟩
  refine kk_QQ hQQ.symm ?_
  refine lv_aload_n hx hb dX10_codeAt_0 rfl (lv_at hl 0 rfl) ?_
  refine va_get (D := D) (ci := 9) (v := .int (nI ra)) (C := RX10) (T := TX10) (N := 36) hx hb hts hwX10 hown hK hP 0 rfl rfl 10 (by decide) hf_110 (fun _ h9 => h9) rfl dX10_codeAt_1 ?_
  refine lv_iload_n hx hb dX10_codeAt_4 rfl (lv_at hl 2 rfl) ?_
  refine kk_icmp_ge (tgt := 22) hx hb dX10_codeAt_5 (by decide) (by omega) (by omega) (fun c_1 => ?_) (fun c_1 => ?_)
  · skip
    refine lv_bipush (v := (-9 : Int32)) hx hb dX10_codeAt_22 (by decide +kernel) ?_
    have hq : (-9 : Int32) = cdT zs fr nn ra := by rw [cdT_out (by omega)]
    refine kk_QQ hQQ ?_
    exact W.iret (v := (-9 : Int32)) hx hb hr (fun t ht hW => ⟨(-9 : Int32), rfl, hq, ht⟩) (fun q h => by cases h) dX10_codeAt_24
  · skip
    refine lv_aload_n hx hb dX10_codeAt_8 rfl (lv_at hl 0 rfl) ?_
    refine va_get (D := D) (ci := 9) (v := .ref a33) (C := RX10) (T := TX10) (N := 36) hx hb hts hwX10 hown hK hP 0 rfl rfl 33 (by decide) hf_79 (fun _ h9 => h9) rfl dX10_codeAt_9 ?_
    refine lv_iload_n hx hb dX10_codeAt_12 rfl (lv_at hl 1 rfl) ?_
    refine lv_aload_n hx hb dX10_codeAt_13 rfl (lv_at hl 0 rfl) ?_
    refine va_get (D := D) (ci := 9) (v := .int (nI ra)) (C := RX10) (T := TX10) (N := 36) hx hb hts hwX10 hown hK hP 0 rfl rfl 10 (by decide) hf_110 (fun _ h9 => h9) rfl dX10_codeAt_14 ?_
    refine kk_iadd hx hb dX10_codeAt_17 ?_
    refine kk_iald hx hb hK hP 1 rfl rfl (i := fr + ra) (by omega) (by decide) dX10_codeAt_18 ?_
    refine lv_goto (tgt := 24) hx hb dX10_codeAt_19 (by decide) ?_
    have hq : zs (fr + ra) = cdT zs fr nn ra := by rw [cdT_in (by omega)]
    refine kk_QQ hQQ ?_
    exact W.iret (v := zs (fr + ra)) hx hb hr (fun t ht hW => ⟨zs (fr + ra), rfl, hq, ht⟩) (fun q h => by cases h) dX10_codeAt_24

abbrev rmX10_figure : Room := { frames := 1, cells := 0, slots := 0, locals := 25 }
set_option maxHeartbeats 4000000 in
set_option maxRecDepth 100000 in
theorem c_X10_figure (lL : Launch) (D : va_G) (cI cS : ClassId) (sz : Nat) (m0 : Nat) (a1 : Nat) (a3 : Nat) (a5 : Nat) (a6 : Nat) (a7 : Nat) (a13 : Nat) (a14 : Nat) (a15 : Nat) (a16 : Nat) (a18 : Nat) (a19 : Nat) (a20 : Nat) (a21 : Nat) (a22 : Nat) (a23 : Nat) (a24 : Nat) (a25 : Nat) (a27 : Nat) (a28 : Nat) (a29 : Nat) (a30 : Nat) (a31 : Nat) (a32 : Nat) (a33 : Nat) (a34 : Nat) (i0 : Int32) (i2 : Int32) (i4 : Int32) (i8 : Int32) (i9 : Int32) (i11 : Int32) (i12 : Int32) (i17 : Int32) (i26 : Int32) (i35 : Int32) (zs : Nat → Int32) (fr : Nat) (nn : Nat) (ms : Nat) (ra : Nat) (hfn : fr + nn ≤ 240) (hms : ms ≤ 9) (hra9 : ra ≤ 400) : Met lL yX10_figure wsX10_figure rmX10_figure (va_Pc [.ref m0, .int (nI fr), .int (nI nn), .int (nI ms)] (kB D cI cS [(m0, .inr (9, [.int i0, .ref a1, .int i2, .ref a3, .int i4, .ref a5, .ref a6, .ref a7, .int i8, .int i9, .int (nI ra), .int i11, .int i12, .ref a13, .ref a14, .ref a15, .ref a16, .int i17, .ref a18, .ref a19, .ref a20, .ref a21, .ref a22, .ref a23, .ref a24, .ref a25, .int i26, .ref a27, .ref a28, .ref a29, .ref a30, .ref a31, .ref a32, .ref a33, .ref a34, .int i35])), (a33, .inl (cI, 240, .inl zs))] sz)) (kQi D (fun (r : Int32) (u : Nat) => (dg (cdT zs fr nn) ra (ms + 1) = true ∧ r = nI (dv (cdT zs fr nn) ra) ∧ u = ra + 1) ∨ (dg (cdT zs fr nn) ra (ms + 1) = false ∧ r = (-9) ∧ u = ra)) (fun u : Nat => [(m0, .inr (9, [.int i0, .ref a1, .int i2, .ref a3, .int i4, .ref a5, .ref a6, .ref a7, .int i8, .int i9, .int (nI u), .int i11, .int i12, .ref a13, .ref a14, .ref a15, .ref a16, .int i17, .ref a18, .ref a19, .ref a20, .ref a21, .ref a22, .ref a23, .ref a24, .ref a25, .int i26, .ref a27, .ref a28, .ref a29, .ref a30, .ref a31, .ref a32, .ref a33, .ref a34, .int i35])), (a33, .inl (cI, 240, .inl zs))]) (va_A [(m0, .inr (9, [.int i0, .ref a1, .int i2, .ref a3, .int i4, .ref a5, .ref a6, .ref a7, .int i8, .int i9, .int (nI ra), .int i11, .int i12, .ref a13, .ref a14, .ref a15, .ref a16, .int i17, .ref a18, .ref a19, .ref a20, .ref a21, .ref a22, .ref a23, .ref a24, .ref a25, .int i26, .ref a27, .ref a28, .ref a29, .ref a30, .ref a31, .ref a32, .ref a33, .ref a34, .int i35])), (a33, .inl (cI, 240, .inl zs))] sz)) 0 0 (va_A [(m0, .inr (9, [.int i0, .ref a1, .int i2, .ref a3, .int i4, .ref a5, .ref a6, .ref a7, .int i8, .int i9, .int (nI ra), .int i11, .int i12, .ref a13, .ref a14, .ref a15, .ref a16, .int i17, .ref a18, .ref a19, .ref a20, .ref a21, .ref a22, .ref a23, .ref a24, .ref a25, .int i26, .ref a27, .ref a28, .ref a29, .ref a30, .ref a31, .ref a32, .ref a33, .ref a34, .int i35])), (a33, .inl (cI, 240, .inl zs))] sz) := by
  refine Met.ofW (cc := cX10_figure) (maxL := 6) (ret := (some .int)) (by decide) rfl ?_
  intro pP eE sS mM args below meth cC s₁ B hml hv
  obtain ⟨rfl, hsz, hP, hK, hD0⟩ := hv
  have hx := B.exec
  have hb := B.bytes
  have hr := B.returns
  have hts := atoms_spec (ws := wsX10_figure) B.pre
  have hown : sS.vm.findClass RX10 = some mM.cls := findClass_of_methodNamed B.named
  have hlocks := B.notSynchronized
  subst hsz
  have hD := hD0.self (sz := sS.heap.size)
  generalize hAe : va_A [(m0, .inr (9, [.int i0, .ref a1, .int i2, .ref a3, .int i4, .ref a5, .ref a6, .ref a7, .int i8, .int i9, .int (nI ra), .int i11, .int i12, .ref a13, .ref a14, .ref a15, .ref a16, .int i17, .ref a18, .ref a19, .ref a20, .ref a21, .ref a22, .ref a23, .ref a24, .ref a25, .int i26, .ref a27, .ref a28, .ref a29, .ref a30, .ref a31, .ref a32, .ref a33, .ref a34, .int i35])), (a33, .inl (cI, 240, .inl zs))] sS.heap.size = A at hD ⊢
  have hA : ∀ q : Nat, sS.heap.size ≤ q → A q := fun q h => by rw [← hAe]; exact Or.inr h
  have hS : va_S A sS.heap sS.heap [] := va_S.rf
  have hP : va_P D vwCl [(m0, .inr (9, [.int i0, .ref a1, .int i2, .ref a3, .int i4, .ref a5, .ref a6, .ref a7, .int i8, .int i9, .int (nI ra), .int i11, .int i12, .ref a13, .ref a14, .ref a15, .ref a16, .int i17, .ref a18, .ref a19, .ref a20, .ref a21, .ref a22, .ref a23, .ref a24, .ref a25, .int i26, .ref a27, .ref a28, .ref a29, .ref a30, .ref a31, .ref a32, .ref a33, .ref a34, .int i35])), (a33, .inl (cI, 240, .inl zs))] sS.heap := hP
  have hD : va_D A [(m0, .inr (9, [.int i0, .ref a1, .int i2, .ref a3, .int i4, .ref a5, .ref a6, .ref a7, .int i8, .int i9, .int (nI ra), .int i11, .int i12, .ref a13, .ref a14, .ref a15, .ref a16, .int i17, .ref a18, .ref a19, .ref a20, .ref a21, .ref a22, .ref a23, .ref a24, .ref a25, .int i26, .ref a27, .ref a28, .ref a29, .ref a30, .ref a31, .ref a32, .ref a33, .ref a34, .int i35])), (a33, .inl (cI, 240, .inl zs))] := hD
  have hf_110 := hts (.fieldLink RX10 110 "OldLampsModel" "readAt" "I") (List.mem_of_getElem? (i := 1) rfl)
  have hwX10 : ∀ w ∈ wsX100, w ∈ wsX10_figure := fun _ h => List.mem_cons_of_mem _ (List.mem_append_right _ h)
  have hl := lv_entry ([.ref m0, .int (nI fr), .int (nI nn), .int (nI ms)]) (n := 6) (Nat.le_of_ble_eq_true rfl)
  rw [lg_entry_eq]
  generalize (lg_sl ([.ref m0, .int (nI fr), .int (nI nn), .int (nI ms)]) ++ List.replicate (6 - (lg_sl ([.ref m0, .int (nI fr), .int (nI nn), .int (nI ms)])).length) Slot.unset).toArray = ls at hl ⊢
  have hl : lv_has ls 6 [(0, .ref m0), (1, .int (nI fr)), (2, .int (nI nn)), (3, .int (nI ms))] := hl
  obtain ⟨QQ, hQQ⟩ : ∃ QQ : State → Prop, QQ = MQ below (kQi D (fun (r : Int32) (u : Nat) => (dg (cdT zs fr nn) ra (ms + 1) = true ∧ r = nI (dv (cdT zs fr nn) ra) ∧ u = ra + 1) ∨ (dg (cdT zs fr nn) ra (ms + 1) = false ∧ r = (-9) ∧ u = ra)) (fun u : Nat => [(m0, .inr (9, [.int i0, .ref a1, .int i2, .ref a3, .int i4, .ref a5, .ref a6, .ref a7, .int i8, .int i9, .int (nI u), .int i11, .int i12, .ref a13, .ref a14, .ref a15, .ref a16, .int i17, .ref a18, .ref a19, .ref a20, .ref a21, .ref a22, .ref a23, .ref a24, .ref a25, .int i26, .ref a27, .ref a28, .ref a29, .ref a30, .ref a31, .ref a32, .ref a33, .ref a34, .int i35])), (a33, .inl (cI, 240, .inl zs))]) A) ([.ref m0, .int (nI fr), .int (nI nn), .int (nI ms)]).toArray sS 0 0 A := ⟨_, rfl⟩
  refine kk_QQ hQQ.symm ?_
  refine lv_aload_n hx hb dX10_figure_0 rfl (lv_at hl 0 rfl) ?_
  refine lv_iload_n hx hb dX10_figure_1 rfl (lv_at hl 1 rfl) ?_
  refine lv_iload_n hx hb dX10_figure_2 rfl (lv_at hl 2 rfl) ?_
  have o_1 : fr + nn ≤ 240 := by omega
  have o_2 : ra ≤ 400 := by omega
  refine vp_callSi (W.runV (As := [.int (nI fr), .int (nI nn)]) (rest := []) ⟨hx, hb, hml, hown, hts⟩ (c_X10_codeAt lL D cI cS m0 a1 a3 a5 a6 a7 a13 a14 a15 a16 a18 a19 a20 a21 a22 a23 a24 a25 a27 a28 a29 a30 a31 a32 a33 a34 i0 i2 i4 i8 i9 i11 i12 i17 i26 i35 zs fr nn ra o_1 o_2) (cwV 2 hts gX10_figure_X10_codeAt rfl rfl rfl cd_X10_codeAt ⟨Nat.le_of_ble_eq_true rfl, Nat.le_of_ble_eq_true rfl⟩) ⟨kBp_blind, va_recv hK hP (ci := 9) (q0 := 0) rfl rfl, fun U hU hW => ⟨rfl, by rw [hU]; exact hP.sub [0, 1] rfl, va_K.moved hW.alike hK⟩⟩ rfl rfl hl.1 rfl (lv_room (Nat.le_of_ble_eq_true rfl)) dX10_figure_3 ⟨Nat.le_of_ble_eq_true rfl, Nat.le_of_ble_eq_true rfl⟩) (fun r_3 hw_3 => ?_)
  obtain rfl : r_3 = cdT zs fr nn ra := hw_3
  refine lv_bipush (v := nI 48) hx hb dX10_figure_6 (by decide +kernel) ?_
  refine lv_isub hx hb dX10_figure_8 ?_
  refine lv_istore (lv' := [(4, .int ((cdT zs fr nn ra) - (nI 48))), (0, .ref m0), (1, .int (nI fr)), (2, .int (nI nn)), (3, .int (nI ms))]) hx hb dX10_figure_9 hl (by decide) rfl (fun ls hl => ?_)
  refine lv_iload hx hb dX10_figure_11 (lv_at hl 0 rfl) ?_
  refine lv_i2l (v := ((cdT zs fr nn ra) - (nI 48)).toInt64) hx hb dX10_figure_13 rfl ?_
  refine lv_lconst (v := lN 0) hx hb dX10_figure_14 (by decide +kernel) ?_
  refine lv_iload_n hx hb dX10_figure_15 rfl (lv_at hl 4 rfl) ?_
  refine lv_i2l (v := lN ms) hx hb dX10_figure_16 (nI_l (by omega)) ?_
  refine vp_callSi (W.runS (As := [.long (((cdT zs fr nn ra) - (nI 48)).toInt64), .long (lN 0), .long (lN ms)]) (rest := []) ⟨hx, hb, hml, hown, hts⟩ (c_X10_in lL D cI cS (((cdT zs fr nn ra) - (nI 48)).toInt64) (lN 0) (lN ms)) (va_cwS 3 hts gX10_figure_X10_in rfl rfl rfl cd_X10_in ⟨Nat.le_of_ble_eq_true rfl, Nat.le_of_ble_eq_true rfl⟩) ⟨kBp_blind, fun U hU hW => ⟨rfl, by rw [hU]; exact hP.sub [] rfl, va_K.moved hW.alike hK⟩⟩ rfl rfl hl.1 rfl (lv_room (Nat.le_of_ble_eq_true rfl)) dX10_figure_17 ⟨Nat.le_of_ble_eq_true rfl, Nat.le_of_ble_eq_true rfl⟩) (fun r_4 hw_4 => ?_)
  obtain rfl : r_4 = kb (inL (((cdT zs fr nn ra) - (nI 48)).toInt64) (lN 0) (lN ms)) := hw_4
  refine kk_top (y := kb (inB ((cdT zs fr nn ra) - (nI 48)) (ms + 1))) (congrArg kb (inL_b ((cdT zs fr nn ra) - (nI 48)) (by omega))) ?_
  refine lv_istore (lv' := [(5, .int (kb (inB ((cdT zs fr nn ra) - (nI 48)) (ms + 1)))), (4, .int ((cdT zs fr nn ra) - (nI 48))), (0, .ref m0), (1, .int (nI fr)), (2, .int (nI nn)), (3, .int (nI ms))]) hx hb dX10_figure_20 hl (by decide) rfl (fun ls hl => ?_)
  refine lv_aload_n hx hb dX10_figure_22 rfl (lv_at hl 2 rfl) ?_
  refine lv_dup hx hb dX10_figure_23 rfl ?_
  refine va_get (D := D) (ci := 9) (v := .int (nI ra)) (C := RX10) (T := TX10) (N := 36) hx hb hts hwX10 hown hK hP 0 rfl rfl 10 (by decide) hf_110 (fun _ h9 => h9) rfl dX10_figure_24 ?_
  refine lv_iload hx hb dX10_figure_27 (lv_at hl 0 rfl) ?_
  -- if inB ((cdT zs fr nn ra) - (nI 48)) (ms + 1)
  refine kk_ifb_eq (tgt := 36) hx hb dX10_figure_29 (by decide) (fun hb_5 => ?_) (fun hb_5 => ?_)
  · skip
    refine lv_iconst (v := nI 0) hx hb dX10_figure_36 (by decide +kernel) ?_
    refine kk_iadd hx hb dX10_figure_37 ?_
    refine va_put (D := D) (ci := 9) (v := .int (nI (ra + 0))) (ty := .int) (C := RX10) (T := TX10) (N := 36) hx hb hts hwX10 tyX10 tyX10_ok nmX10 hown hK hP hD hS 0 rfl rfl 10 (by decide) hf_110 (fun _ h9 => h9) rfl (by decide +kernel) rfl rfl (Nat.le_of_ble_eq_true rfl) dX10_figure_38 (fun H locs hP hD hS => ?_)
    have hP : va_P D vwCl [(m0, .inr (9, [.int i0, .ref a1, .int i2, .ref a3, .int i4, .ref a5, .ref a6, .ref a7, .int i8, .int i9, .int (nI (ra + 0)), .int i11, .int i12, .ref a13, .ref a14, .ref a15, .ref a16, .int i17, .ref a18, .ref a19, .ref a20, .ref a21, .ref a22, .ref a23, .ref a24, .ref a25, .int i26, .ref a27, .ref a28, .ref a29, .ref a30, .ref a31, .ref a32, .ref a33, .ref a34, .int i35])), (a33, .inl (cI, 240, .inl zs))] H := hP
    have hD : va_D A [(m0, .inr (9, [.int i0, .ref a1, .int i2, .ref a3, .int i4, .ref a5, .ref a6, .ref a7, .int i8, .int i9, .int (nI (ra + 0)), .int i11, .int i12, .ref a13, .ref a14, .ref a15, .ref a16, .int i17, .ref a18, .ref a19, .ref a20, .ref a21, .ref a22, .ref a23, .ref a24, .ref a25, .int i26, .ref a27, .ref a28, .ref a29, .ref a30, .ref a31, .ref a32, .ref a33, .ref a34, .int i35])), (a33, .inl (cI, 240, .inl zs))] := hD
    refine lv_iload hx hb dX10_figure_41 (lv_at hl 0 rfl) ?_
    -- if inB ((cdT zs fr nn ra) - (nI 48)) (ms + 1)
    refine kk_ifb_eq (tgt := 51) hx hb dX10_figure_43 (by decide) (fun hb_6 => ?_) (fun hb_6 => ?_)
    · skip
      refine lv_bipush (v := (-9 : Int32)) hx hb dX10_figure_51 (by decide +kernel) ?_
      have hq : (dg (cdT zs fr nn) ra (ms + 1) = true ∧ (-9 : Int32) = nI (dv (cdT zs fr nn) ra) ∧ (ra + 0) = ra + 1) ∨ (dg (cdT zs fr nn) ra (ms + 1) = false ∧ (-9 : Int32) = (-9) ∧ (ra + 0) = ra) := by exact Or.inr ⟨hb_5, rfl, rfl⟩
      refine kk_QQ hQQ ?_
      exact W.iret (v := (-9 : Int32)) hx hb hr (fun t ht hW => ⟨⟨(-9 : Int32), (ra + 0), rfl, hq, by show va_P D vwCl _ t.heap; rw [ht]; exact hP⟩, hS.F ht⟩) hS.2.2 dX10_figure_53
    · skip
      exact absurd (hb_5.symm.trans hb_6) (by decide)
  · skip
    refine lv_iconst (v := nI 1) hx hb dX10_figure_32 (by decide +kernel) ?_
    refine lv_goto (tgt := 37) hx hb dX10_figure_33 (by decide) ?_
    refine kk_iadd hx hb dX10_figure_37 ?_
    refine va_put (D := D) (ci := 9) (v := .int (nI (ra + 1))) (ty := .int) (C := RX10) (T := TX10) (N := 36) hx hb hts hwX10 tyX10 tyX10_ok nmX10 hown hK hP hD hS 0 rfl rfl 10 (by decide) hf_110 (fun _ h9 => h9) rfl (by decide +kernel) rfl rfl (Nat.le_of_ble_eq_true rfl) dX10_figure_38 (fun H locs hP hD hS => ?_)
    have hP : va_P D vwCl [(m0, .inr (9, [.int i0, .ref a1, .int i2, .ref a3, .int i4, .ref a5, .ref a6, .ref a7, .int i8, .int i9, .int (nI (ra + 1)), .int i11, .int i12, .ref a13, .ref a14, .ref a15, .ref a16, .int i17, .ref a18, .ref a19, .ref a20, .ref a21, .ref a22, .ref a23, .ref a24, .ref a25, .int i26, .ref a27, .ref a28, .ref a29, .ref a30, .ref a31, .ref a32, .ref a33, .ref a34, .int i35])), (a33, .inl (cI, 240, .inl zs))] H := hP
    have hD : va_D A [(m0, .inr (9, [.int i0, .ref a1, .int i2, .ref a3, .int i4, .ref a5, .ref a6, .ref a7, .int i8, .int i9, .int (nI (ra + 1)), .int i11, .int i12, .ref a13, .ref a14, .ref a15, .ref a16, .int i17, .ref a18, .ref a19, .ref a20, .ref a21, .ref a22, .ref a23, .ref a24, .ref a25, .int i26, .ref a27, .ref a28, .ref a29, .ref a30, .ref a31, .ref a32, .ref a33, .ref a34, .int i35])), (a33, .inl (cI, 240, .inl zs))] := hD
    refine lv_iload hx hb dX10_figure_41 (lv_at hl 0 rfl) ?_
    -- if inB ((cdT zs fr nn ra) - (nI 48)) (ms + 1)
    refine kk_ifb_eq (tgt := 51) hx hb dX10_figure_43 (by decide) (fun hb_7 => ?_) (fun hb_7 => ?_)
    · skip
      exact absurd (hb_5.symm.trans hb_7) (by decide)
    · skip
      refine lv_iload hx hb dX10_figure_46 (lv_at hl 1 rfl) ?_
      refine lv_goto (tgt := 53) hx hb dX10_figure_48 (by decide) ?_
      have hq : (dg (cdT zs fr nn) ra (ms + 1) = true ∧ ((cdT zs fr nn ra) - (nI 48)) = nI (dv (cdT zs fr nn) ra) ∧ (ra + 1) = ra + 1) ∨ (dg (cdT zs fr nn) ra (ms + 1) = false ∧ ((cdT zs fr nn ra) - (nI 48)) = (-9) ∧ (ra + 1) = ra) := by exact Or.inl ⟨hb_5, (dg_t (c := (cdT zs fr nn)) (j := ra) hb_5).2, rfl⟩
      refine kk_QQ hQQ ?_
      exact W.iret (v := (cdT zs fr nn ra) - (nI 48)) hx hb hr (fun t ht hW => ⟨⟨(cdT zs fr nn ra) - (nI 48), (ra + 1), rfl, hq, by show va_P D vwCl _ t.heap; rw [ht]; exact hP⟩, hS.F ht⟩) hS.2.2 dX10_figure_53
