/-! the model's sheets: one row of 240 cells -/
/-- sheet j of the model has a row of a lane, so long, with these cells; -1 for nothing -/
def zR (j : Nat) (rl : Int32) (len : Nat) (cf zz zl zs : Nat → Int32) : Prop := ((rl = (-1 : Int32) ∧ zz j = (-1 : Int32) ∧ len = 0) ∨ (rl ≠ (-1 : Int32) ∧ zz j = nI len ∧ zl j = rl)) ∧ len ≤ 60 ∧ ∀ i, i < len → zs (60 * j + i) = cf i
theorem l64_add (x y : Int32) : (x.toInt64 + y.toInt64).toInt = x.toInt + y.toInt := by
  have h1 := x.toInt_lt
  have h2 := x.le_toInt
  have h3 := y.toInt_lt
  have h4 := y.le_toInt
  rw [Int64.toInt_add, Int32.toInt_toInt64, Int32.toInt_toInt64]
  exact Int.bmod_eq_of_le (by omega) (by omega)
theorem hasC_1 {len : Nat} (hl : len ≤ 60) (y : Int32) : hasC len y (nI 1) = inB y len := by
  unfold hasC inB
  rw [decide_eq_decide, nI_toInt (by decide)]
  omega
theorem hasC_beyond1 {al : Nat} {i q : Int32} (h : i < 0) : hasC al i q = false := by
  rw [kk_0] at h
  exact decide_eq_false (by omega)
theorem hasC_beyond2 {al : Nat} {i q : Int32} (h : q.toInt64 < lN 0) : hasC al i q = false := by
  rw [Int64.lt_iff_toInt_lt, Int32.toInt_toInt64, show (lN 0).toInt = 0 from by decide +kernel] at h
  exact decide_eq_false (by omega)
theorem hasC_beyond3 {al : Nat} {i q : Int32} (ha : al < 2 ^ 31) (h : ¬ i.toInt64 + q.toInt64 ≤ lN al) : hasC al i q = false := by
  rw [Int64.le_iff_toInt_le, l64_add, lN_toInt ha] at h
  exact decide_eq_false (by omega)
theorem hasC_within {al : Nat} {i q : Int32} (ha : al < 2 ^ 31) (h1 : ¬ i < 0) (h2 : ¬ q.toInt64 < lN 0) (h : i.toInt64 + q.toInt64 ≤ lN al) : hasC al i q = true := by
  rw [kk_0] at h1
  rw [Int64.lt_iff_toInt_lt, Int32.toInt_toInt64, show (lN 0).toInt = 0 from by decide +kernel] at h2
  rw [Int64.le_iff_toInt_le, l64_add, lN_toInt ha] at h
  exact decide_eq_true (by omega)
theorem l64_neg {q : Int32} (h : ¬ lN 0 ≤ q.toInt64) : ¬ 0 ≤ q := fun z => h (by
  rw [Int64.le_iff_toInt_le, Int32.toInt_toInt64, show (lN 0).toInt = 0 from by decide +kernel]
  rwa [kk_0le] at z)
theorem l64_pos {q : Int32} (h : lN 0 ≤ q.toInt64) : 0 ≤ q := by
  rw [Int64.le_iff_toInt_le, Int32.toInt_toInt64, show (lN 0).toInt = 0 from by decide +kernel] at h
  rwa [kk_0le]
def cb_r (rl : Int32) (len : Nat) (y z q : Int32) : Int32 := bif decide (rl ≠ (-1 : Int32) ∧ rl ≠ y) then (-10 : Int32) - nI 2 else (bif decide (rl = (-1 : Int32)) then (-10 : Int32) - nI 1 else (if 0 ≤ q then (bif hasC len z q then nI 0 else (-10 : Int32) - nI 3) else (-10 : Int32) - nI 4))
def cb_f (rl : Int32) (len : Nat) (y z q : Int32) : Int32 := bif decide (rl ≠ (-1 : Int32) ∧ rl ≠ y) then nI 2 else (bif decide (rl = (-1 : Int32)) then nI 1 else (if 0 ≤ q then (bif hasC len z q then nI 0 else nI 3) else nI 4))
/-- the sheets of both sides: four rows -/
def zS (rl : Nat → Int32) (ln : Nat → Nat) (cf : Nat → Nat → Int32) (zz zl zs : Nat → Int32) : Prop := ∀ j, j < 4 → zR j (rl j) (ln j) (cf j) zz zl zs

theorem cd_X10_failedLong : yX10_failedLong.cls = RX10 ∧ yX10_failedLong.cls ≠ "java/lang/invoke/MethodHandle" ∧ yX10_failedLong.cls ≠ "java/lang/invoke/VarHandle" ∧ (parseMethodDescriptor yX10_failedLong.desc).map (fun d => d.parameters.length) = some 1 := by decide +kernel
theorem cd_X10_isBeyond : yX10_isBeyond.cls ≠ "java/lang/invoke/MethodHandle" ∧ yX10_isBeyond.cls ≠ "java/lang/invoke/VarHandle" ∧ (parseMethodDescriptor yX10_isBeyond.desc).map (fun d => d.parameters.length) = some 3 := by decide +kernel
theorem cd_X10_noCell : yX10_noCell.cls = RX10 ∧ yX10_noCell.cls ≠ "java/lang/invoke/MethodHandle" ∧ yX10_noCell.cls ≠ "java/lang/invoke/VarHandle" ∧ (parseMethodDescriptor yX10_noCell.desc).map (fun d => d.parameters.length) = some 2 := by decide +kernel
theorem cd_X10_noSheet : yX10_noSheet.cls ≠ "java/lang/invoke/MethodHandle" ∧ yX10_noSheet.cls ≠ "java/lang/invoke/VarHandle" ∧ (parseMethodDescriptor yX10_noSheet.desc).map (fun d => d.parameters.length) = some 1 := by decide +kernel
abbrev rmX10_noCell_null : Room := { frames := 0, cells := 0, slots := 0, locals := 0 }
set_option maxHeartbeats 4000000 in
set_option maxRecDepth 100000 in
theorem c_X10_noCell_null (lL : Launch) (D : va_G) (cI cS : ClassId) (m0 : Nat) (a1 : Nat) (a3 : Nat) (a5 : Nat) (a6 : Nat) (a7 : Nat) (a13 : Nat) (a14 : Nat) (a15 : Nat) (a16 : Nat) (a18 : Nat) (a19 : Nat) (a20 : Nat) (a21 : Nat) (a22 : Nat) (a23 : Nat) (a24 : Nat) (a25 : Nat) (a27 : Nat) (a28 : Nat) (a29 : Nat) (a30 : Nat) (a31 : Nat) (a32 : Nat) (a33 : Nat) (a34 : Nat) (i0 : Int32) (i2 : Int32) (i4 : Int32) (i8 : Int32) (i9 : Int32) (i10 : Int32) (i11 : Int32) (i12 : Int32) (i17 : Int32) (i26 : Int32) (i35 : Int32) (zz : Nat → Int32) (k : Nat) (x : Int32) (hk : k < 4) (hz1 : zz k = (-1 : Int32)) : Met lL yX10_noCell wsX10_noCell rmX10_noCell_null (va_Pc [.ref m0, .int (nI k), .int x] (kBp D cI cS [(m0, .inr (9, [.int i0, .ref a1, .int i2, .ref a3, .int i4, .ref a5, .ref a6, .ref a7, .int i8, .int i9, .int i10, .int i11, .int i12, .ref a13, .ref a14, .ref a15, .ref a16, .int i17, .ref a18, .ref a19, .ref a20, .ref a21, .ref a22, .ref a23, .ref a24, .ref a25, .int i26, .ref a27, .ref a28, .ref a29, .ref a30, .ref a31, .ref a32, .ref a33, .ref a34, .int i35])), (a31, .inl (cI, 4, .inl zz))])) (vp_Si (fun r : Int32 => r = nI 1)) 0 0 (fun _ => False) := by
  refine Met.ofW (cc := cX10_noCell) (maxL := 3) (ret := (some .int)) (by decide) rfl ?_
  intro pP eE sS mM args below meth cC s₁ B hml hv
  obtain ⟨rfl, hP, hK⟩ := hv
  have hx := B.exec
  have hb := B.bytes
  have hr := B.returns
  have hts := atoms_spec (ws := wsX10_noCell) B.pre
  have hown : sS.vm.findClass RX10 = some mM.cls := findClass_of_methodNamed B.named
  have hlocks := B.notSynchronized
  have hP : va_P D vwCl [(m0, .inr (9, [.int i0, .ref a1, .int i2, .ref a3, .int i4, .ref a5, .ref a6, .ref a7, .int i8, .int i9, .int i10, .int i11, .int i12, .ref a13, .ref a14, .ref a15, .ref a16, .int i17, .ref a18, .ref a19, .ref a20, .ref a21, .ref a22, .ref a23, .ref a24, .ref a25, .int i26, .ref a27, .ref a28, .ref a29, .ref a30, .ref a31, .ref a32, .ref a33, .ref a34, .int i35])), (a31, .inl (cI, 4, .inl zz))] sS.heap := hP
  have hf_73 := hts (.fieldLink RX10 73 "OldLampsModel" "sheetSize" "[I") (List.mem_of_getElem? (i := 1) rfl)
  have hwX10 : ∀ w ∈ wsX100, w ∈ wsX10_noCell := fun _ h => List.mem_cons_of_mem _ (List.mem_append_right _ h)
  have hl := lv_entry ([.ref m0, .int (nI k), .int x]) (n := 3) (Nat.le_of_ble_eq_true rfl)
  rw [lg_entry_eq]
  generalize (lg_sl ([.ref m0, .int (nI k), .int x]) ++ List.replicate (3 - (lg_sl ([.ref m0, .int (nI k), .int x])).length) Slot.unset).toArray = ls at hl ⊢
  have hl : lv_has ls 3 [(0, .ref m0), (1, .int (nI k)), (2, .int x)] := hl
  obtain ⟨QQ, hQQ⟩ : ∃ QQ : State → Prop, QQ = MQ below (vp_Si (fun r : Int32 => r = nI 1)) ([.ref m0, .int (nI k), .int x]).toArray sS 0 0 (fun _ => False) := ⟨_, rfl⟩
  refine kk_QQ hQQ.symm ?_
  refine lv_aload_n hx hb dX10_noCell_0 rfl (lv_at hl 0 rfl) ?_
  refine va_get (D := D) (ci := 9) (v := .ref a31) (C := RX10) (T := TX10) (N := 36) hx hb hts hwX10 hown hK hP 0 rfl rfl 31 (by decide) hf_73 (fun _ h9 => h9) rfl dX10_noCell_1 ?_
  refine lv_iload_n hx hb dX10_noCell_4 rfl (lv_at hl 1 rfl) ?_
  refine kk_iald hx hb hK hP 1 rfl rfl (i := k) (by omega) (by decide) dX10_noCell_5 ?_
  refine kk_top (y := (-1 : Int32)) hz1 ?_
  refine lv_if_ge (tgt := 13) hx hb dX10_noCell_6 (by decide) (fun h => absurd h (by decide)) (fun h => ?_)
  refine lv_iconst (v := nI 1) hx hb dX10_noCell_9 (by decide +kernel) ?_
  refine lv_goto (tgt := 36) hx hb dX10_noCell_10 (by decide) ?_
  have hq : nI 1 = nI 1 := by rfl
  refine kk_QQ hQQ ?_
  exact W.iret (v := nI 1) hx hb hr (fun t ht hW => ⟨nI 1, rfl, hq, ht⟩) (fun q h => by cases h) dX10_noCell_36

abbrev rmX10_noCell_in : Room := { frames := 1, cells := 0, slots := 0, locals := 25 }
set_option maxHeartbeats 4000000 in
set_option maxRecDepth 100000 in
theorem c_X10_noCell_in (lL : Launch) (D : va_G) (cI cS : ClassId) (m0 : Nat) (a1 : Nat) (a3 : Nat) (a5 : Nat) (a6 : Nat) (a7 : Nat) (a13 : Nat) (a14 : Nat) (a15 : Nat) (a16 : Nat) (a18 : Nat) (a19 : Nat) (a20 : Nat) (a21 : Nat) (a22 : Nat) (a23 : Nat) (a24 : Nat) (a25 : Nat) (a27 : Nat) (a28 : Nat) (a29 : Nat) (a30 : Nat) (a31 : Nat) (a32 : Nat) (a33 : Nat) (a34 : Nat) (i0 : Int32) (i2 : Int32) (i4 : Int32) (i8 : Int32) (i9 : Int32) (i10 : Int32) (i11 : Int32) (i12 : Int32) (i17 : Int32) (i26 : Int32) (i35 : Int32) (zz : Nat → Int32) (k : Nat) (i : Nat) (len : Nat) (hk : k < 4) (hl : len ≤ 60) (hz1 : zz k = nI len) (hin : i < len) : Met lL yX10_noCell wsX10_noCell rmX10_noCell_in (va_Pc [.ref m0, .int (nI k), .int (nI i)] (kBp D cI cS [(m0, .inr (9, [.int i0, .ref a1, .int i2, .ref a3, .int i4, .ref a5, .ref a6, .ref a7, .int i8, .int i9, .int i10, .int i11, .int i12, .ref a13, .ref a14, .ref a15, .ref a16, .int i17, .ref a18, .ref a19, .ref a20, .ref a21, .ref a22, .ref a23, .ref a24, .ref a25, .int i26, .ref a27, .ref a28, .ref a29, .ref a30, .ref a31, .ref a32, .ref a33, .ref a34, .int i35])), (a31, .inl (cI, 4, .inl zz))])) (vp_Si (fun r : Int32 => r = nI 0)) 0 0 (fun _ => False) := by
  refine Met.ofW (cc := cX10_noCell) (maxL := 3) (ret := (some .int)) (by decide) rfl ?_
  intro pP eE sS mM args below meth cC s₁ B hml hv
  obtain ⟨rfl, hP, hK⟩ := hv
  have hx := B.exec
  have hb := B.bytes
  have hr := B.returns
  have hts := atoms_spec (ws := wsX10_noCell) B.pre
  have hown : sS.vm.findClass RX10 = some mM.cls := findClass_of_methodNamed B.named
  have hlocks := B.notSynchronized
  have hP : va_P D vwCl [(m0, .inr (9, [.int i0, .ref a1, .int i2, .ref a3, .int i4, .ref a5, .ref a6, .ref a7, .int i8, .int i9, .int i10, .int i11, .int i12, .ref a13, .ref a14, .ref a15, .ref a16, .int i17, .ref a18, .ref a19, .ref a20, .ref a21, .ref a22, .ref a23, .ref a24, .ref a25, .int i26, .ref a27, .ref a28, .ref a29, .ref a30, .ref a31, .ref a32, .ref a33, .ref a34, .int i35])), (a31, .inl (cI, 4, .inl zz))] sS.heap := hP
  have hf_73 := hts (.fieldLink RX10 73 "OldLampsModel" "sheetSize" "[I") (List.mem_of_getElem? (i := 1) rfl)
  have hwX10 : ∀ w ∈ wsX100, w ∈ wsX10_noCell := fun _ h => List.mem_cons_of_mem _ (List.mem_append_right _ h)
  have hl := lv_entry ([.ref m0, .int (nI k), .int (nI i)]) (n := 3) (Nat.le_of_ble_eq_true rfl)
  rw [lg_entry_eq]
  generalize (lg_sl ([.ref m0, .int (nI k), .int (nI i)]) ++ List.replicate (3 - (lg_sl ([.ref m0, .int (nI k), .int (nI i)])).length) Slot.unset).toArray = ls at hl ⊢
  have hl : lv_has ls 3 [(0, .ref m0), (1, .int (nI k)), (2, .int (nI i))] := hl
  obtain ⟨QQ, hQQ⟩ : ∃ QQ : State → Prop, QQ = MQ below (vp_Si (fun r : Int32 => r = nI 0)) ([.ref m0, .int (nI k), .int (nI i)]).toArray sS 0 0 (fun _ => False) := ⟨_, rfl⟩
  refine kk_QQ hQQ.symm ?_
  refine lv_aload_n hx hb dX10_noCell_0 rfl (lv_at hl 0 rfl) ?_
  refine va_get (D := D) (ci := 9) (v := .ref a31) (C := RX10) (T := TX10) (N := 36) hx hb hts hwX10 hown hK hP 0 rfl rfl 31 (by decide) hf_73 (fun _ h9 => h9) rfl dX10_noCell_1 ?_
  refine lv_iload_n hx hb dX10_noCell_4 rfl (lv_at hl 1 rfl) ?_
  refine kk_iald hx hb hK hP 1 rfl rfl (i := k) (by omega) (by decide) dX10_noCell_5 ?_
  refine kk_top (y := nI len) (hz1) ?_
  refine kk_if_ge (tgt := 13) hx hb dX10_noCell_6 (by decide) (by omega) ?_
  refine lv_iload_n hx hb dX10_noCell_13 rfl (lv_at hl 2 rfl) ?_
  refine lv_i2l (v := lN i) hx hb dX10_noCell_14 (nI_l (by omega)) ?_
  refine lv_lconst (v := lN 0) hx hb dX10_noCell_15 (by decide +kernel) ?_
  refine lv_aload_n hx hb dX10_noCell_16 rfl (lv_at hl 0 rfl) ?_
  refine va_get (D := D) (ci := 9) (v := .ref a31) (C := RX10) (T := TX10) (N := 36) hx hb hts hwX10 hown hK hP 0 rfl rfl 31 (by decide) hf_73 (fun _ h9 => h9) rfl dX10_noCell_17 ?_
  refine lv_iload_n hx hb dX10_noCell_20 rfl (lv_at hl 1 rfl) ?_
  refine kk_iald hx hb hK hP 1 rfl rfl (i := k) (by omega) (by decide) dX10_noCell_21 ?_
  refine kk_top (y := nI len) (hz1) ?_
  refine lv_i2l (v := lN len) hx hb dX10_noCell_22 (nI_l (by omega)) ?_
  refine lv_lconst (v := lN 1) hx hb dX10_noCell_23 (by decide +kernel) ?_
  refine lv_lsub hx hb dX10_noCell_24 ?_
  refine vp_callSi (W.runS (As := [.long (lN i), .long (lN 0), .long ((lN len) - (lN 1))]) (rest := []) ⟨hx, hb, hml, hown, hts⟩ (c_X10_in lL D cI cS (lN i) (lN 0) ((lN len) - (lN 1))) (va_cwS 3 hts gX10_noCell_X10_in rfl rfl rfl cd_X10_in ⟨Nat.le_of_ble_eq_true rfl, Nat.le_of_ble_eq_true rfl⟩) ⟨kBp_blind, fun U hU hW => ⟨rfl, by rw [hU]; exact hP.sub [] rfl, va_K.moved hW.alike hK⟩⟩ rfl rfl hl.1 rfl (lv_room (Nat.le_of_ble_eq_true rfl)) dX10_noCell_25 ⟨Nat.le_of_ble_eq_true rfl, Nat.le_of_ble_eq_true rfl⟩) (fun r_1 hw_1 => ?_)
  obtain rfl : r_1 = kb (inL (lN i) (lN 0) ((lN len) - (lN 1))) := hw_1
  refine kk_top (y := kb (inL (nI i).toInt64 (lN 0) ((lN len) - (lN 1)))) (by rw [nI_l (by omega)]) ?_
  refine kk_top (y := kb (inB (nI i) len)) (congrArg kb (inL_p (nI i) (by omega))) ?_
  -- if inB (nI i) len
  refine kk_ifb_eq (tgt := 35) hx hb dX10_noCell_28 (by decide) (fun hb_2 => ?_) (fun hb_2 => ?_)
  · skip
    refine lv_iconst (v := nI 3) hx hb dX10_noCell_35 (by decide +kernel) ?_
    have hq : nI 3 = nI 0 := by first | rfl | (exfalso; rw [inB_n (by omega), decide_eq_false_iff_not] at hb_2; omega)
    refine kk_QQ hQQ ?_
    exact W.iret (v := nI 3) hx hb hr (fun t ht hW => ⟨nI 3, rfl, hq, ht⟩) (fun q h => by cases h) dX10_noCell_36
  · skip
    refine lv_iconst (v := nI 0) hx hb dX10_noCell_31 (by decide +kernel) ?_
    refine lv_goto (tgt := 36) hx hb dX10_noCell_32 (by decide) ?_
    have hq : nI 0 = nI 0 := by first | rfl | (exfalso; rw [inB_n (by omega), decide_eq_false_iff_not] at hb_2; omega)
    refine kk_QQ hQQ ?_
    exact W.iret (v := nI 0) hx hb hr (fun t ht hW => ⟨nI 0, rfl, hq, ht⟩) (fun q h => by cases h) dX10_noCell_36

abbrev rmX10_noCell_out : Room := { frames := 1, cells := 0, slots := 0, locals := 25 }
set_option maxHeartbeats 4000000 in
set_option maxRecDepth 100000 in
theorem c_X10_noCell_out (lL : Launch) (D : va_G) (cI cS : ClassId) (m0 : Nat) (a1 : Nat) (a3 : Nat) (a5 : Nat) (a6 : Nat) (a7 : Nat) (a13 : Nat) (a14 : Nat) (a15 : Nat) (a16 : Nat) (a18 : Nat) (a19 : Nat) (a20 : Nat) (a21 : Nat) (a22 : Nat) (a23 : Nat) (a24 : Nat) (a25 : Nat) (a27 : Nat) (a28 : Nat) (a29 : Nat) (a30 : Nat) (a31 : Nat) (a32 : Nat) (a33 : Nat) (a34 : Nat) (i0 : Int32) (i2 : Int32) (i4 : Int32) (i8 : Int32) (i9 : Int32) (i10 : Int32) (i11 : Int32) (i12 : Int32) (i17 : Int32) (i26 : Int32) (i35 : Int32) (zz : Nat → Int32) (k : Nat) (x : Int32) (len : Nat) (hk : k < 4) (hl : len ≤ 60) (hz1 : zz k = nI len) (hin : inB x len = false) : Met lL yX10_noCell wsX10_noCell rmX10_noCell_out (va_Pc [.ref m0, .int (nI k), .int x] (kBp D cI cS [(m0, .inr (9, [.int i0, .ref a1, .int i2, .ref a3, .int i4, .ref a5, .ref a6, .ref a7, .int i8, .int i9, .int i10, .int i11, .int i12, .ref a13, .ref a14, .ref a15, .ref a16, .int i17, .ref a18, .ref a19, .ref a20, .ref a21, .ref a22, .ref a23, .ref a24, .ref a25, .int i26, .ref a27, .ref a28, .ref a29, .ref a30, .ref a31, .ref a32, .ref a33, .ref a34, .int i35])), (a31, .inl (cI, 4, .inl zz))])) (vp_Si (fun r : Int32 => r = nI 3)) 0 0 (fun _ => False) := by
  refine Met.ofW (cc := cX10_noCell) (maxL := 3) (ret := (some .int)) (by decide) rfl ?_
  intro pP eE sS mM args below meth cC s₁ B hml hv
  obtain ⟨rfl, hP, hK⟩ := hv
  have hx := B.exec
  have hb := B.bytes
  have hr := B.returns
  have hts := atoms_spec (ws := wsX10_noCell) B.pre
  have hown : sS.vm.findClass RX10 = some mM.cls := findClass_of_methodNamed B.named
  have hlocks := B.notSynchronized
  have hP : va_P D vwCl [(m0, .inr (9, [.int i0, .ref a1, .int i2, .ref a3, .int i4, .ref a5, .ref a6, .ref a7, .int i8, .int i9, .int i10, .int i11, .int i12, .ref a13, .ref a14, .ref a15, .ref a16, .int i17, .ref a18, .ref a19, .ref a20, .ref a21, .ref a22, .ref a23, .ref a24, .ref a25, .int i26, .ref a27, .ref a28, .ref a29, .ref a30, .ref a31, .ref a32, .ref a33, .ref a34, .int i35])), (a31, .inl (cI, 4, .inl zz))] sS.heap := hP
  have hf_73 := hts (.fieldLink RX10 73 "OldLampsModel" "sheetSize" "[I") (List.mem_of_getElem? (i := 1) rfl)
  have hwX10 : ∀ w ∈ wsX100, w ∈ wsX10_noCell := fun _ h => List.mem_cons_of_mem _ (List.mem_append_right _ h)
  have hl := lv_entry ([.ref m0, .int (nI k), .int x]) (n := 3) (Nat.le_of_ble_eq_true rfl)
  rw [lg_entry_eq]
  generalize (lg_sl ([.ref m0, .int (nI k), .int x]) ++ List.replicate (3 - (lg_sl ([.ref m0, .int (nI k), .int x])).length) Slot.unset).toArray = ls at hl ⊢
  have hl : lv_has ls 3 [(0, .ref m0), (1, .int (nI k)), (2, .int x)] := hl
  obtain ⟨QQ, hQQ⟩ : ∃ QQ : State → Prop, QQ = MQ below (vp_Si (fun r : Int32 => r = nI 3)) ([.ref m0, .int (nI k), .int x]).toArray sS 0 0 (fun _ => False) := ⟨_, rfl⟩
  refine kk_QQ hQQ.symm ?_
  refine lv_aload_n hx hb dX10_noCell_0 rfl (lv_at hl 0 rfl) ?_
  refine va_get (D := D) (ci := 9) (v := .ref a31) (C := RX10) (T := TX10) (N := 36) hx hb hts hwX10 hown hK hP 0 rfl rfl 31 (by decide) hf_73 (fun _ h9 => h9) rfl dX10_noCell_1 ?_
  refine lv_iload_n hx hb dX10_noCell_4 rfl (lv_at hl 1 rfl) ?_
  refine kk_iald hx hb hK hP 1 rfl rfl (i := k) (by omega) (by decide) dX10_noCell_5 ?_
  refine kk_top (y := nI len) (hz1) ?_
  refine kk_if_ge (tgt := 13) hx hb dX10_noCell_6 (by decide) (by omega) ?_
  refine lv_iload_n hx hb dX10_noCell_13 rfl (lv_at hl 2 rfl) ?_
  refine lv_i2l (v := x.toInt64) hx hb dX10_noCell_14 rfl ?_
  refine lv_lconst (v := lN 0) hx hb dX10_noCell_15 (by decide +kernel) ?_
  refine lv_aload_n hx hb dX10_noCell_16 rfl (lv_at hl 0 rfl) ?_
  refine va_get (D := D) (ci := 9) (v := .ref a31) (C := RX10) (T := TX10) (N := 36) hx hb hts hwX10 hown hK hP 0 rfl rfl 31 (by decide) hf_73 (fun _ h9 => h9) rfl dX10_noCell_17 ?_
  refine lv_iload_n hx hb dX10_noCell_20 rfl (lv_at hl 1 rfl) ?_
  refine kk_iald hx hb hK hP 1 rfl rfl (i := k) (by omega) (by decide) dX10_noCell_21 ?_
  refine kk_top (y := nI len) (hz1) ?_
  refine lv_i2l (v := lN len) hx hb dX10_noCell_22 (nI_l (by omega)) ?_
  refine lv_lconst (v := lN 1) hx hb dX10_noCell_23 (by decide +kernel) ?_
  refine lv_lsub hx hb dX10_noCell_24 ?_
  refine vp_callSi (W.runS (As := [.long x.toInt64, .long (lN 0), .long ((lN len) - (lN 1))]) (rest := []) ⟨hx, hb, hml, hown, hts⟩ (c_X10_in lL D cI cS x.toInt64 (lN 0) ((lN len) - (lN 1))) (va_cwS 3 hts gX10_noCell_X10_in rfl rfl rfl cd_X10_in ⟨Nat.le_of_ble_eq_true rfl, Nat.le_of_ble_eq_true rfl⟩) ⟨kBp_blind, fun U hU hW => ⟨rfl, by rw [hU]; exact hP.sub [] rfl, va_K.moved hW.alike hK⟩⟩ rfl rfl hl.1 rfl (lv_room (Nat.le_of_ble_eq_true rfl)) dX10_noCell_25 ⟨Nat.le_of_ble_eq_true rfl, Nat.le_of_ble_eq_true rfl⟩) (fun r_1 hw_1 => ?_)
  obtain rfl : r_1 = kb (inL x.toInt64 (lN 0) ((lN len) - (lN 1))) := hw_1
  refine kk_top (y := kb (inB x len)) (congrArg kb (inL_p x (by omega))) ?_
  -- if inB x len
  refine kk_ifb_eq (tgt := 35) hx hb dX10_noCell_28 (by decide) (fun hb_2 => ?_) (fun hb_2 => ?_)
  · skip
    refine lv_iconst (v := nI 3) hx hb dX10_noCell_35 (by decide +kernel) ?_
    have hq : nI 3 = nI 3 := by first | rfl | (exfalso; rw [hin] at hb_2; cases hb_2)
    refine kk_QQ hQQ ?_
    exact W.iret (v := nI 3) hx hb hr (fun t ht hW => ⟨nI 3, rfl, hq, ht⟩) (fun q h => by cases h) dX10_noCell_36
  · skip
    obtain ⟨xN, hxN, rfl⟩ := inB_t hb_2
    have t_x := nI_clamp (show xN < 2 ^ 31 by omega)
    refine lv_iconst (v := nI 0) hx hb dX10_noCell_31 (by decide +kernel) ?_
    refine lv_goto (tgt := 36) hx hb dX10_noCell_32 (by decide) ?_
    have hq : nI 0 = nI 3 := by first | rfl | (exfalso; rw [hin] at hb_2; cases hb_2)
    refine kk_QQ hQQ ?_
    exact W.iret (v := nI 0) hx hb hr (fun t ht hW => ⟨nI 0, rfl, hq, ht⟩) (fun q h => by cases h) dX10_noCell_36

abbrev rmX10_isBeyond : Room := { frames := 0, cells := 0, slots := 0, locals := 0 }
set_option maxHeartbeats 4000000 in
set_option maxRecDepth 100000 in
theorem c_X10_isBeyond (lL : Launch) (D : va_G) (cI cS : ClassId) (i : Int32) (q : Int32) (al : Nat) (hal : al ≤ 60) : Met lL yX10_isBeyond wsX10_isBeyond rmX10_isBeyond (va_Pc [.int i, .long q.toInt64, .int (nI al)] (kBp D cI cS [])) (vp_Si (fun r : Int32 => r = kb (!hasC al i q))) 0 0 (fun _ => False) := by
  refine Met.ofW (cc := cX10_isBeyond) (maxL := 4) (ret := (some .boolean)) (by decide) rfl ?_
  intro pP eE sS mM args below meth cC s₁ B hml hv
  obtain ⟨rfl, hP, hK⟩ := hv
  have hx := B.exec
  have hb := B.bytes
  have hr := B.returns
  have hts := atoms_spec (ws := wsX10_isBeyond) B.pre
  have hown : sS.vm.findClass RX10 = some mM.cls := findClass_of_methodNamed B.named
  have hlocks := B.notSynchronized
  have hP : va_P D vwCl [] sS.heap := hP
  have hl := lv_entry ([.int i, .long q.toInt64, .int (nI al)]) (n := 4) (Nat.le_of_ble_eq_true rfl)
  rw [lg_entry_eq]
  generalize (lg_sl ([.int i, .long q.toInt64, .int (nI al)]) ++ List.replicate (4 - (lg_sl ([.int i, .long q.toInt64, .int (nI al)])).length) Slot.unset).toArray = ls at hl ⊢
  have hl : lv_has ls 4 [(0, .int i), (1, .long q.toInt64), (3, .int (nI al))] := hl
  obtain ⟨QQ, hQQ⟩ : ∃ QQ : State → Prop, QQ = MQ below (vp_Si (fun r : Int32 => r = kb (!hasC al i q))) ([.int i, .long q.toInt64, .int (nI al)]).toArray sS 0 0 (fun _ => False) := ⟨_, rfl⟩
  refine kk_QQ hQQ.symm ?_
  refine lv_iload_n hx hb dX10_isBeyond_0 rfl (lv_at hl 0 rfl) ?_
  refine lv_if_lt (tgt := 20) hx hb dX10_isBeyond_1 (by decide) (fun c_1 => ?_) (fun c_1 => ?_)
  · skip
    refine lv_iconst (v := nI 1) hx hb dX10_isBeyond_20 (by decide +kernel) ?_
    refine lv_goto (tgt := 25) hx hb dX10_isBeyond_21 (by decide) ?_
    have hq : nI 1 = kb (!hasC al i q) := by rw [hasC_beyond1 c_1]; rfl
    refine kk_QQ hQQ ?_
    exact W.zret (v := nI 1) (ty := .boolean) hx hb hr (by decide +kernel) (fun t ht hW => ⟨nI 1, rfl, hq, ht⟩) (fun q h => by cases h) dX10_isBeyond_25
  · skip
    refine lv_lload_n hx hb dX10_isBeyond_4 rfl (lv_at hl 1 rfl) ?_
    refine lv_lconst (v := lN 0) hx hb dX10_isBeyond_5 (by decide +kernel) ?_
    refine W.lcmp hx hb dX10_isBeyond_6 ?_
    refine lv_if_lt (tgt := 20) hx hb dX10_isBeyond_7 (by decide) (fun c_2 => ?_) (fun c_2 => ?_)
    · skip
      refine lv_iconst (v := nI 1) hx hb dX10_isBeyond_20 (by decide +kernel) ?_
      refine lv_goto (tgt := 25) hx hb dX10_isBeyond_21 (by decide) ?_
      have hq : nI 1 = kb (!hasC al i q) := by rw [hasC_beyond2 ((lg_cmp_lt _ _).mp c_2)]; rfl
      refine kk_QQ hQQ ?_
      exact W.zret (v := nI 1) (ty := .boolean) hx hb hr (by decide +kernel) (fun t ht hW => ⟨nI 1, rfl, hq, ht⟩) (fun q h => by cases h) dX10_isBeyond_25
    · skip
      refine lv_iload_n hx hb dX10_isBeyond_10 rfl (lv_at hl 0 rfl) ?_
      refine lv_i2l (v := i.toInt64) hx hb dX10_isBeyond_11 rfl ?_
      refine lv_lload_n hx hb dX10_isBeyond_12 rfl (lv_at hl 1 rfl) ?_
      refine lv_ladd hx hb dX10_isBeyond_13 ?_
      refine lv_iload_n hx hb dX10_isBeyond_14 rfl (lv_at hl 2 rfl) ?_
      refine lv_i2l (v := lN al) hx hb dX10_isBeyond_15 (nI_l (by omega)) ?_
      refine W.lcmp hx hb dX10_isBeyond_16 ?_
      refine lv_if_le (tgt := 24) hx hb dX10_isBeyond_17 (by decide) (fun c_3 => ?_) (fun c_3 => ?_)
      · skip
        refine lv_iconst (v := nI 0) hx hb dX10_isBeyond_24 (by decide +kernel) ?_
        have hq : nI 0 = kb (!hasC al i q) := by rw [hasC_within (by omega) c_1 (fun z => c_2 ((lg_cmp_lt _ _).mpr z)) ((lg_cmp_le _ _).mp c_3)]; rfl
        refine kk_QQ hQQ ?_
        exact W.zret (v := nI 0) (ty := .boolean) hx hb hr (by decide +kernel) (fun t ht hW => ⟨nI 0, rfl, hq, ht⟩) (fun q h => by cases h) dX10_isBeyond_25
      · skip
        refine lv_iconst (v := nI 1) hx hb dX10_isBeyond_20 (by decide +kernel) ?_
        refine lv_goto (tgt := 25) hx hb dX10_isBeyond_21 (by decide) ?_
        have hq : nI 1 = kb (!hasC al i q) := by rw [hasC_beyond3 (by omega) (fun z => c_3 ((lg_cmp_le _ _).mpr z))]; rfl
        refine kk_QQ hQQ ?_
        exact W.zret (v := nI 1) (ty := .boolean) hx hb hr (by decide +kernel) (fun t ht hW => ⟨nI 1, rfl, hq, ht⟩) (fun q h => by cases h) dX10_isBeyond_25

abbrev rmX10_sheet : Room := { frames := 2, cells := 0, slots := 0, locals := 45 }
set_option maxHeartbeats 4000000 in
set_option maxRecDepth 100000 in
theorem c_X10_sheet (lL : Launch) (D : va_G) (cI cS : ClassId) (sz : Nat) (C : Co) (T : Mv) (E : Mv) (m0 : Nat) (a1 : Nat) (a3 : Nat) (a5 : Nat) (a6 : Nat) (a7 : Nat) (a13 : Nat) (a14 : Nat) (a15 : Nat) (a16 : Nat) (a18 : Nat) (a19 : Nat) (a20 : Nat) (a21 : Nat) (a22 : Nat) (a23 : Nat) (a24 : Nat) (a25 : Nat) (a27 : Nat) (a28 : Nat) (a29 : Nat) (a30 : Nat) (a31 : Nat) (a32 : Nat) (a33 : Nat) (a34 : Nat) (i0 : Int32) (i10 : Int32) (i11 : Int32) (i12 : Int32) (i35 : Int32) (zz : Nat → Int32) (zl : Nat → Int32) (zs : Nat → Int32) (x1 : Int32) (x2 : Int32) (x3 : Int32) (hX : okX C T E) : Met lL yX10_sheet wsX10_sheet rmX10_sheet (va_Pc [.ref m0, .int x1, .int x2, .int x3] (kB D cI cS [(m0, .inr (9, [.int i0, .ref a1, .int (nI (cSp C)), .ref a3, .int (nI (cLa C)), .ref a5, .ref a6, .ref a7, .int (nI (cAg C)), .int (-9 : Int32), .int i10, .int i11, .int i12, .ref a13, .ref a14, .ref a15, .ref a16, .int (nI (mN T)), .ref a18, .ref a19, .ref a20, .ref a21, .ref a22, .ref a23, .ref a24, .ref a25, .int (nI (mN E)), .ref a27, .ref a28, .ref a29, .ref a30, .ref a31, .ref a32, .ref a33, .ref a34, .int i35])), (a31, .inl (cI, 4, .inl zz)), (a32, .inl (cI, 4, .inl zl)), (a33, .inl (cI, 240, .inl zs))] sz)) (kQi D (fun (r : Int32) (u : Int32 × (Nat → Int32) × (Nat → Int32) × (Nat → Int32)) => r = sp_sheet x1 x2 x3 ∧ u.1 = nf_sheet x1 x2 x3 ∧ (bif ok_sheet x1 x2 x3 then u.2.1 = upd zz (tn x1) x3 ∧ u.2.2.1 = upd zl (tn x1) x2 ∧ (∀ j, j < tn x3 → u.2.2.2 (60 * tn x1 + j) = nI 0) ∧ ∀ j, ¬ (60 * tn x1 ≤ j ∧ j < 60 * tn x1 + tn x3) → u.2.2.2 j = zs j else u.2.1 = zz ∧ u.2.2.1 = zl ∧ u.2.2.2 = zs)) (fun u : Int32 × (Nat → Int32) × (Nat → Int32) × (Nat → Int32) => [(m0, .inr (9, [.int u.1, .ref a1, .int (nI (cSp C)), .ref a3, .int (nI (cLa C)), .ref a5, .ref a6, .ref a7, .int (nI (cAg C)), .int (-9 : Int32), .int i10, .int i11, .int i12, .ref a13, .ref a14, .ref a15, .ref a16, .int (nI (mN T)), .ref a18, .ref a19, .ref a20, .ref a21, .ref a22, .ref a23, .ref a24, .ref a25, .int (nI (mN E)), .ref a27, .ref a28, .ref a29, .ref a30, .ref a31, .ref a32, .ref a33, .ref a34, .int i35])), (a31, .inl (cI, 4, .inl u.2.1)), (a32, .inl (cI, 4, .inl u.2.2.1)), (a33, .inl (cI, 240, .inl u.2.2.2))]) (va_A [(m0, .inr (9, [.int i0, .ref a1, .int (nI (cSp C)), .ref a3, .int (nI (cLa C)), .ref a5, .ref a6, .ref a7, .int (nI (cAg C)), .int (-9 : Int32), .int i10, .int i11, .int i12, .ref a13, .ref a14, .ref a15, .ref a16, .int (nI (mN T)), .ref a18, .ref a19, .ref a20, .ref a21, .ref a22, .ref a23, .ref a24, .ref a25, .int (nI (mN E)), .ref a27, .ref a28, .ref a29, .ref a30, .ref a31, .ref a32, .ref a33, .ref a34, .int i35])), (a31, .inl (cI, 4, .inl zz)), (a32, .inl (cI, 4, .inl zl)), (a33, .inl (cI, 240, .inl zs))] sz)) 0 0 (va_A [(m0, .inr (9, [.int i0, .ref a1, .int (nI (cSp C)), .ref a3, .int (nI (cLa C)), .ref a5, .ref a6, .ref a7, .int (nI (cAg C)), .int (-9 : Int32), .int i10, .int i11, .int i12, .ref a13, .ref a14, .ref a15, .ref a16, .int (nI (mN T)), .ref a18, .ref a19, .ref a20, .ref a21, .ref a22, .ref a23, .ref a24, .ref a25, .int (nI (mN E)), .ref a27, .ref a28, .ref a29, .ref a30, .ref a31, .ref a32, .ref a33, .ref a34, .int i35])), (a31, .inl (cI, 4, .inl zz)), (a32, .inl (cI, 4, .inl zl)), (a33, .inl (cI, 240, .inl zs))] sz) := by
  refine Met.ofW (cc := cX10_sheet) (maxL := 5) (ret := (some .int)) (by decide) rfl ?_
  intro pP eE sS mM args below meth cC s₁ B hml hv
  obtain ⟨rfl, hsz, hP, hK, hD0⟩ := hv
  have hx := B.exec
  have hb := B.bytes
  have hr := B.returns
  have hts := atoms_spec (ws := wsX10_sheet) B.pre
  have hown : sS.vm.findClass RX10 = some mM.cls := findClass_of_methodNamed B.named
  have hlocks := B.notSynchronized
  subst hsz
  have hD := hD0.self (sz := sS.heap.size)
  generalize hAe : va_A [(m0, .inr (9, [.int i0, .ref a1, .int (nI (cSp C)), .ref a3, .int (nI (cLa C)), .ref a5, .ref a6, .ref a7, .int (nI (cAg C)), .int (-9 : Int32), .int i10, .int i11, .int i12, .ref a13, .ref a14, .ref a15, .ref a16, .int (nI (mN T)), .ref a18, .ref a19, .ref a20, .ref a21, .ref a22, .ref a23, .ref a24, .ref a25, .int (nI (mN E)), .ref a27, .ref a28, .ref a29, .ref a30, .ref a31, .ref a32, .ref a33, .ref a34, .int i35])), (a31, .inl (cI, 4, .inl zz)), (a32, .inl (cI, 4, .inl zl)), (a33, .inl (cI, 240, .inl zs))] sS.heap.size = A at hD ⊢
  have hA : ∀ q : Nat, sS.heap.size ≤ q → A q := fun q h => by rw [← hAe]; exact Or.inr h
  have hS : va_S A sS.heap sS.heap [] := va_S.rf
  have hP : va_P D vwCl [(m0, .inr (9, [.int i0, .ref a1, .int (nI (cSp C)), .ref a3, .int (nI (cLa C)), .ref a5, .ref a6, .ref a7, .int (nI (cAg C)), .int (-9 : Int32), .int i10, .int i11, .int i12, .ref a13, .ref a14, .ref a15, .ref a16, .int (nI (mN T)), .ref a18, .ref a19, .ref a20, .ref a21, .ref a22, .ref a23, .ref a24, .ref a25, .int (nI (mN E)), .ref a27, .ref a28, .ref a29, .ref a30, .ref a31, .ref a32, .ref a33, .ref a34, .int i35])), (a31, .inl (cI, 4, .inl zz)), (a32, .inl (cI, 4, .inl zl)), (a33, .inl (cI, 240, .inl zs))] sS.heap := hP
  have hD : va_D A [(m0, .inr (9, [.int i0, .ref a1, .int (nI (cSp C)), .ref a3, .int (nI (cLa C)), .ref a5, .ref a6, .ref a7, .int (nI (cAg C)), .int (-9 : Int32), .int i10, .int i11, .int i12, .ref a13, .ref a14, .ref a15, .ref a16, .int (nI (mN T)), .ref a18, .ref a19, .ref a20, .ref a21, .ref a22, .ref a23, .ref a24, .ref a25, .int (nI (mN E)), .ref a27, .ref a28, .ref a29, .ref a30, .ref a31, .ref a32, .ref a33, .ref a34, .int i35])), (a31, .inl (cI, 4, .inl zz)), (a32, .inl (cI, 4, .inl zl)), (a33, .inl (cI, 240, .inl zs))] := hD
  have hf_73 := hts (.fieldLink RX10 73 "OldLampsModel" "sheetSize" "[I") (List.mem_of_getElem? (i := 2) rfl)
  have hf_76 := hts (.fieldLink RX10 76 "OldLampsModel" "sheetLane" "[I") (List.mem_of_getElem? (i := 3) rfl)
  have hf_79 := hts (.fieldLink RX10 79 "OldLampsModel" "sheet" "[I") (List.mem_of_getElem? (i := 4) rfl)
  have hk_149 := hts (.constantLong RX10 149 (2)) (List.mem_of_getElem? (i := 1) rfl)
  have hwX10 : ∀ w ∈ wsX100, w ∈ wsX10_sheet := fun _ h => List.mem_cons_of_mem _ (List.mem_append_right _ h)
  have hl := lv_entry ([.ref m0, .int x1, .int x2, .int x3]) (n := 5) (Nat.le_of_ble_eq_true rfl)
  rw [lg_entry_eq]
  generalize (lg_sl ([.ref m0, .int x1, .int x2, .int x3]) ++ List.replicate (5 - (lg_sl ([.ref m0, .int x1, .int x2, .int x3])).length) Slot.unset).toArray = ls at hl ⊢
  have hl : lv_has ls 5 [(0, .ref m0), (1, .int x1), (2, .int x2), (3, .int x3)] := hl
  obtain ⟨QQ, hQQ⟩ : ∃ QQ : State → Prop, QQ = MQ below (kQi D (fun (r : Int32) (u : Int32 × (Nat → Int32) × (Nat → Int32) × (Nat → Int32)) => r = sp_sheet x1 x2 x3 ∧ u.1 = nf_sheet x1 x2 x3 ∧ (bif ok_sheet x1 x2 x3 then u.2.1 = upd zz (tn x1) x3 ∧ u.2.2.1 = upd zl (tn x1) x2 ∧ (∀ j, j < tn x3 → u.2.2.2 (60 * tn x1 + j) = nI 0) ∧ ∀ j, ¬ (60 * tn x1 ≤ j ∧ j < 60 * tn x1 + tn x3) → u.2.2.2 j = zs j else u.2.1 = zz ∧ u.2.2.1 = zl ∧ u.2.2.2 = zs)) (fun u : Int32 × (Nat → Int32) × (Nat → Int32) × (Nat → Int32) => [(m0, .inr (9, [.int u.1, .ref a1, .int (nI (cSp C)), .ref a3, .int (nI (cLa C)), .ref a5, .ref a6, .ref a7, .int (nI (cAg C)), .int (-9 : Int32), .int i10, .int i11, .int i12, .ref a13, .ref a14, .ref a15, .ref a16, .int (nI (mN T)), .ref a18, .ref a19, .ref a20, .ref a21, .ref a22, .ref a23, .ref a24, .ref a25, .int (nI (mN E)), .ref a27, .ref a28, .ref a29, .ref a30, .ref a31, .ref a32, .ref a33, .ref a34, .int i35])), (a31, .inl (cI, 4, .inl u.2.1)), (a32, .inl (cI, 4, .inl u.2.2.1)), (a33, .inl (cI, 240, .inl u.2.2.2))]) A) ([.ref m0, .int x1, .int x2, .int x3]).toArray sS 0 0 A := ⟨_, rfl⟩
  refine kk_QQ hQQ.symm ?_
  obtain ⟨hX1, hX2, hX3, hX4⟩ := okX_le hX
  refine lv_iload_n hx hb dX10_sheet_0 rfl (lv_at hl 1 rfl) ?_
  refine vp_callSi (W.runS (As := [.int x1]) (rest := []) ⟨hx, hb, hml, hown, hts⟩ (c_X10_noSheet lL D cI cS x1) (va_cwS 1 hts gX10_sheet_X10_noSheet rfl rfl rfl cd_X10_noSheet ⟨Nat.le_of_ble_eq_true rfl, Nat.le_of_ble_eq_true rfl⟩) ⟨kBp_blind, fun U hU hW => ⟨rfl, by rw [hU]; exact hP.sub [] rfl, va_K.moved hW.alike hK⟩⟩ rfl rfl hl.1 rfl (lv_room (Nat.le_of_ble_eq_true rfl)) dX10_sheet_1 ⟨Nat.le_of_ble_eq_true rfl, Nat.le_of_ble_eq_true rfl⟩) (fun r_1 hw_1 => ?_)
  obtain rfl : r_1 = kb (!inB x1 4) := hw_1
  refine kk_ifn_eq (tgt := 13) hx hb dX10_sheet_4 (by decide) (fun hb_2 => ?_) (fun hb_2 => ?_)
  · skip
    obtain ⟨x1N, hx1N, rfl⟩ := inB_t hb_2
    have t_x1 := nI_clamp (show x1N < 2 ^ 31 by omega)
    refine lv_iload_n hx hb dX10_sheet_13 rfl (lv_at hl 2 rfl) ?_
    refine lv_i2l (v := x2.toInt64) hx hb dX10_sheet_14 rfl ?_
    refine lv_lconst (v := lN 0) hx hb dX10_sheet_15 (by decide +kernel) ?_
    refine lv_ldc2 (v := (2 : Int64)) hx hb hown hk_149 dX10_sheet_16 ?_
    refine kk_topl (y := lN 2) (by decide +kernel) ?_
    refine vp_callSi (W.runS (As := [.long x2.toInt64, .long (lN 0), .long (lN 2)]) (rest := []) ⟨hx, hb, hml, hown, hts⟩ (c_X10_in lL D cI cS x2.toInt64 (lN 0) (lN 2)) (va_cwS 3 hts gX10_sheet_X10_in rfl rfl rfl cd_X10_in ⟨Nat.le_of_ble_eq_true rfl, Nat.le_of_ble_eq_true rfl⟩) ⟨kBp_blind, fun U hU hW => ⟨rfl, by rw [hU]; exact hP.sub [] rfl, va_K.moved hW.alike hK⟩⟩ rfl rfl hl.1 rfl (lv_room (Nat.le_of_ble_eq_true rfl)) dX10_sheet_19 ⟨Nat.le_of_ble_eq_true rfl, Nat.le_of_ble_eq_true rfl⟩) (fun r_3 hw_3 => ?_)
    obtain rfl : r_3 = kb (inL x2.toInt64 (lN 0) (lN 2)) := hw_3
    refine kk_top (y := kb (inB x2 3)) (congrArg kb (inL_b x2 (by omega))) ?_
    -- if inB x2 3
    refine kk_ifb_eq (tgt := 31) hx hb dX10_sheet_22 (by decide) (fun hb_4 => ?_) (fun hb_4 => ?_)
    · skip
      refine lv_aload_n hx hb dX10_sheet_31 rfl (lv_at hl 0 rfl) ?_
      refine lv_bipush (v := (-2 : Int32)) hx hb dX10_sheet_32 (by decide +kernel) ?_
      have hF := va_free (wc := [(m0, .inr (9, [.int i0, .ref a1, .int (nI (cSp C)), .ref a3, .int (nI (cLa C)), .ref a5, .ref a6, .ref a7, .int (nI (cAg C)), .int (-9 : Int32), .int i10, .int i11, .int i12, .ref a13, .ref a14, .ref a15, .ref a16, .int (nI (mN T)), .ref a18, .ref a19, .ref a20, .ref a21, .ref a22, .ref a23, .ref a24, .ref a25, .int (nI (mN E)), .ref a27, .ref a28, .ref a29, .ref a30, .ref a31, .ref a32, .ref a33, .ref a34, .int i35]))]) hD hS hA [0] rfl
      refine va_calli (va_runV (As := [.int (-2 : Int32)]) (rest := []) ⟨hx, hb, hml, hown, hts⟩ (c_X10_refused lL D cI cS _ m0 a1 a3 a5 a6 a7 a13 a14 a15 a16 a18 a19 a20 a21 a22 a23 a24 a25 a27 a28 a29 a30 a31 a32 a33 a34 i0 (nI (cSp C)) (nI (cLa C)) (nI (cAg C)) (-9 : Int32) i10 i11 i12 (nI (mN T)) (nI (mN E)) i35 (-2 : Int32)) (cwV 1 hts gX10_sheet_X10_refused rfl rfl rfl cd_X10_refused ⟨Nat.le_of_ble_eq_true rfl, Nat.le_of_ble_eq_true rfl⟩) ⟨kB_blind, va_recv hK hP (ci := 9) (q0 := 0) rfl rfl, fun U hU hW => ⟨rfl, by rw [hU], by rw [hU]; exact hP.sub [0] rfl, va_K.moved hW.alike hK, (hD.sub [0] (by decide) rfl).weaken (fun _ _ _ _ => trivial)⟩⟩ rfl rfl hl.1 rfl (lv_room (Nat.le_of_ble_eq_true rfl)) dX10_sheet_34 ⟨Nat.le_of_ble_eq_true rfl, Nat.le_of_ble_eq_true rfl⟩) hS (fun q _ h => hF q h) hF (fun r_5 u_5 t H1 locs ht hvm hw_5 hB hz1 hk1 hS => ?_)
      obtain ⟨hP, hD⟩ := kk_join2 (wc := [(m0, .inr (9, [.int i0, .ref a1, .int (nI (cSp C)), .ref a3, .int (nI (cLa C)), .ref a5, .ref a6, .ref a7, .int (nI (cAg C)), .int (-9 : Int32), .int i10, .int i11, .int i12, .ref a13, .ref a14, .ref a15, .ref a16, .int (nI (mN T)), .ref a18, .ref a19, .ref a20, .ref a21, .ref a22, .ref a23, .ref a24, .ref a25, .int (nI (mN E)), .ref a27, .ref a28, .ref a29, .ref a30, .ref a31, .ref a32, .ref a33, .ref a34, .int i35]))]) (w1 := [(m0, .inr (9, [.int (nI 0), .ref a1, .int (nI (cSp C)), .ref a3, .int (nI (cLa C)), .ref a5, .ref a6, .ref a7, .int (nI (cAg C)), .int (-9 : Int32), .int i10, .int i11, .int i12, .ref a13, .ref a14, .ref a15, .ref a16, .int (nI (mN T)), .ref a18, .ref a19, .ref a20, .ref a21, .ref a22, .ref a23, .ref a24, .ref a25, .int (nI (mN E)), .ref a27, .ref a28, .ref a29, .ref a30, .ref a31, .ref a32, .ref a33, .ref a34, .int i35]))]) (ws' := [(m0, .inr (9, [.int (nI 0), .ref a1, .int (nI (cSp C)), .ref a3, .int (nI (cLa C)), .ref a5, .ref a6, .ref a7, .int (nI (cAg C)), .int (-9 : Int32), .int i10, .int i11, .int i12, .ref a13, .ref a14, .ref a15, .ref a16, .int (nI (mN T)), .ref a18, .ref a19, .ref a20, .ref a21, .ref a22, .ref a23, .ref a24, .ref a25, .int (nI (mN E)), .ref a27, .ref a28, .ref a29, .ref a30, .ref a31, .ref a32, .ref a33, .ref a34, .int i35])), (a31, .inl (cI, 4, .inl zz)), (a32, .inl (cI, 4, .inl zl)), (a33, .inl (cI, 240, .inl zs))]) (wr := [(a31, .inl (cI, 4, .inl zz)), (a32, .inl (cI, 4, .inl zl)), (a33, .inl (cI, 240, .inl zs))]) (H1 := H1) hP hD [0] [1, 2, 3] rfl rfl rfl rfl 4 rfl (by decide) [m0, a31, a32, a33] rfl rfl hk1 (by rw [← ht]; exact hB)
      have hw_5 : r_5 = (-2 : Int32) ∧ True := hw_5
      clear hF hB hk1 hz1 hvm
      clear ht
      generalize H1 = H at hP hS ⊢
      obtain ⟨rfl, hw_5⟩ := hw_5
      have hq : (-2 : Int32) = sp_sheet (nI x1N) x2 x3 ∧ (nI 0) = nf_sheet (nI x1N) x2 x3 ∧ (bif ok_sheet (nI x1N) x2 x3 then zz = upd zz (tn (nI x1N)) x3 ∧ zl = upd zl (tn (nI x1N)) x2 ∧ (∀ j, j < tn x3 → zs (60 * tn (nI x1N) + j) = nI 0) ∧ ∀ j, ¬ (60 * tn (nI x1N) ≤ j ∧ j < 60 * tn (nI x1N) + tn x3) → zs j = zs j else zz = zz ∧ zl = zl ∧ zs = zs) := by
        have hok : ok_sheet (nI x1N) x2 x3 = false := by simp only [ok_sheet, hb_2, hb_4, t_x1, cond_true, cond_false]
        rw [hok]
        exact ⟨by simp only [sp_sheet, hb_2, hb_4, t_x1, cond_true, cond_false], by simp only [nf_sheet, hb_2, hb_4, t_x1, cond_true, cond_false], rfl, rfl, rfl⟩
      refine kk_QQ hQQ ?_
      exact W.iret (v := (-2 : Int32)) hx hb hr (fun t ht hW => ⟨⟨(-2 : Int32), (nI 0, zz, zl, zs), rfl, hq, by show va_P D vwCl _ t.heap; rw [ht]; exact hP⟩, hS.F ht⟩) hS.2.2 dX10_sheet_37
    · skip
      obtain ⟨x2N, hx2N, rfl⟩ := inB_t hb_4
      have t_x2 := nI_clamp (show x2N < 2 ^ 31 by omega)
      refine lv_iload_n hx hb dX10_sheet_25 rfl (lv_at hl 3 rfl) ?_
      refine lv_bipush (v := nI 60) hx hb dX10_sheet_26 (by decide +kernel) ?_
      refine lv_icmp_le (tgt := 38) hx hb dX10_sheet_28 (by decide) (fun c_6 => ?_) (fun c_6 => ?_)
      · skip
        refine lv_iload_n hx hb dX10_sheet_38 rfl (lv_at hl 3 rfl) ?_
        refine lv_if_ge (tgt := 48) hx hb dX10_sheet_39 (by decide) (fun c_7 => ?_) (fun c_7 => ?_)
        · skip
          have hx3le := c_6
          have hx3po := c_7
          obtain ⟨x3N, hx3N, rfl⟩ := kk_rng c_7 c_6 (by decide)
          have t_x3 := nI_clamp (show x3N < 2 ^ 31 by omega)
          refine lv_aload_n hx hb dX10_sheet_48 rfl (lv_at hl 0 rfl) ?_
          refine va_get (D := D) (ci := 9) (v := .ref a31) (C := RX10) (T := TX10) (N := 36) hx hb hts hwX10 hown hK hP 0 rfl rfl 31 (by decide) hf_73 (fun _ h9 => h9) rfl dX10_sheet_49 ?_
          refine lv_iload_n hx hb dX10_sheet_52 rfl (lv_at hl 1 rfl) ?_
          refine lv_iload_n hx hb dX10_sheet_53 rfl (lv_at hl 3 rfl) ?_
          refine kk_iast hx hb hK hP hD hS 1 rfl rfl (i := x1N) (by omega) (by decide) dX10_sheet_54 (fun H locs hP hD hS => ?_)
          have hP : va_P D vwCl [(m0, .inr (9, [.int i0, .ref a1, .int (nI (cSp C)), .ref a3, .int (nI (cLa C)), .ref a5, .ref a6, .ref a7, .int (nI (cAg C)), .int (-9 : Int32), .int i10, .int i11, .int i12, .ref a13, .ref a14, .ref a15, .ref a16, .int (nI (mN T)), .ref a18, .ref a19, .ref a20, .ref a21, .ref a22, .ref a23, .ref a24, .ref a25, .int (nI (mN E)), .ref a27, .ref a28, .ref a29, .ref a30, .ref a31, .ref a32, .ref a33, .ref a34, .int i35])), (a31, .inl (cI, 4, .inl (upd zz x1N (nI x3N)))), (a32, .inl (cI, 4, .inl zl)), (a33, .inl (cI, 240, .inl zs))] H := hP
          have hD : va_D A [(m0, .inr (9, [.int i0, .ref a1, .int (nI (cSp C)), .ref a3, .int (nI (cLa C)), .ref a5, .ref a6, .ref a7, .int (nI (cAg C)), .int (-9 : Int32), .int i10, .int i11, .int i12, .ref a13, .ref a14, .ref a15, .ref a16, .int (nI (mN T)), .ref a18, .ref a19, .ref a20, .ref a21, .ref a22, .ref a23, .ref a24, .ref a25, .int (nI (mN E)), .ref a27, .ref a28, .ref a29, .ref a30, .ref a31, .ref a32, .ref a33, .ref a34, .int i35])), (a31, .inl (cI, 4, .inl (upd zz x1N (nI x3N)))), (a32, .inl (cI, 4, .inl zl)), (a33, .inl (cI, 240, .inl zs))] := hD
          refine lv_aload_n hx hb dX10_sheet_55 rfl (lv_at hl 0 rfl) ?_
          refine va_get (D := D) (ci := 9) (v := .ref a32) (C := RX10) (T := TX10) (N := 36) hx hb hts hwX10 hown hK hP 0 rfl rfl 32 (by decide) hf_76 (fun _ h9 => h9) rfl dX10_sheet_56 ?_
          refine lv_iload_n hx hb dX10_sheet_59 rfl (lv_at hl 1 rfl) ?_
          refine lv_iload_n hx hb dX10_sheet_60 rfl (lv_at hl 2 rfl) ?_
          refine kk_iast hx hb hK hP hD hS 2 rfl rfl (i := x1N) (by omega) (by decide) dX10_sheet_61 (fun H locs hP hD hS => ?_)
          have hP : va_P D vwCl [(m0, .inr (9, [.int i0, .ref a1, .int (nI (cSp C)), .ref a3, .int (nI (cLa C)), .ref a5, .ref a6, .ref a7, .int (nI (cAg C)), .int (-9 : Int32), .int i10, .int i11, .int i12, .ref a13, .ref a14, .ref a15, .ref a16, .int (nI (mN T)), .ref a18, .ref a19, .ref a20, .ref a21, .ref a22, .ref a23, .ref a24, .ref a25, .int (nI (mN E)), .ref a27, .ref a28, .ref a29, .ref a30, .ref a31, .ref a32, .ref a33, .ref a34, .int i35])), (a31, .inl (cI, 4, .inl (upd zz x1N (nI x3N)))), (a32, .inl (cI, 4, .inl (upd zl x1N (nI x2N)))), (a33, .inl (cI, 240, .inl zs))] H := hP
          have hD : va_D A [(m0, .inr (9, [.int i0, .ref a1, .int (nI (cSp C)), .ref a3, .int (nI (cLa C)), .ref a5, .ref a6, .ref a7, .int (nI (cAg C)), .int (-9 : Int32), .int i10, .int i11, .int i12, .ref a13, .ref a14, .ref a15, .ref a16, .int (nI (mN T)), .ref a18, .ref a19, .ref a20, .ref a21, .ref a22, .ref a23, .ref a24, .ref a25, .int (nI (mN E)), .ref a27, .ref a28, .ref a29, .ref a30, .ref a31, .ref a32, .ref a33, .ref a34, .int i35])), (a31, .inl (cI, 4, .inl (upd zz x1N (nI x3N)))), (a32, .inl (cI, 4, .inl (upd zl x1N (nI x2N)))), (a33, .inl (cI, 240, .inl zs))] := hD
          refine lv_iconst (v := nI 0) hx hb dX10_sheet_62 (by decide +kernel) ?_
          refine lv_istore (lv' := [(4, .int (nI 0)), (0, .ref m0), (1, .int (nI x1N)), (2, .int (nI x2N)), (3, .int (nI x3N))]) hx hb dX10_sheet_63 hl (by decide) rfl (fun ls hl => ?_)
          have L_65 : ∀ (n_65 : Nat) (i : Nat) (sX : Nat → Int32), (i ≤ x3N) → (∀ j, j < i → sX (60 * x1N + j) = nI 0) → (∀ j, ¬ (60 * x1N ≤ j ∧ j < 60 * x1N + i) → sX j = zs j) → x3N + 1 ≤ i + n_65 → ∀ (H : Heap) (locs : List Loc), va_P D vwCl [(m0, .inr (9, [.int i0, .ref a1, .int (nI (cSp C)), .ref a3, .int (nI (cLa C)), .ref a5, .ref a6, .ref a7, .int (nI (cAg C)), .int (-9 : Int32), .int i10, .int i11, .int i12, .ref a13, .ref a14, .ref a15, .ref a16, .int (nI (mN T)), .ref a18, .ref a19, .ref a20, .ref a21, .ref a22, .ref a23, .ref a24, .ref a25, .int (nI (mN E)), .ref a27, .ref a28, .ref a29, .ref a30, .ref a31, .ref a32, .ref a33, .ref a34, .int i35])), (a31, .inl (cI, 4, .inl (upd zz x1N (nI x3N)))), (a32, .inl (cI, 4, .inl (upd zl x1N (nI x2N)))), (a33, .inl (cI, 240, .inl sX))] H → va_D A [(m0, .inr (9, [.int i0, .ref a1, .int (nI (cSp C)), .ref a3, .int (nI (cLa C)), .ref a5, .ref a6, .ref a7, .int (nI (cAg C)), .int (-9 : Int32), .int i10, .int i11, .int i12, .ref a13, .ref a14, .ref a15, .ref a16, .int (nI (mN T)), .ref a18, .ref a19, .ref a20, .ref a21, .ref a22, .ref a23, .ref a24, .ref a25, .int (nI (mN E)), .ref a27, .ref a28, .ref a29, .ref a30, .ref a31, .ref a32, .ref a33, .ref a34, .int i35])), (a31, .inl (cI, 4, .inl (upd zz x1N (nI x3N)))), (a32, .inl (cI, 4, .inl (upd zl x1N (nI x2N)))), (a33, .inl (cI, 240, .inl sX))] → va_S A sS.heap H locs → ∀ (ls : Array Slot), lv_has ls 5 [(4, .int (nI i)), (0, .ref m0), (1, .int (nI x1N)), (2, .int (nI x2N)), (3, .int (nI x3N))] → W pP lL eE (headSpec wsX10_sheet rmX10_sheet).room sS mM ([.ref m0, .int (nI x1N), .int (nI x2N), .int (nI x3N)]).toArray below meth cC H locs 0 0 QQ (F0 mM 65 ls []) := by
            intro n_65
            induction n_65 with
            | zero =>
              intro i sX hi z1 z2 hn_65 H locs hP hD hS ls hl
              exact absurd hn_65 (by omega)
            | succ n_65 ih_65 =>
              intro i sX hi z1 z2 hn_65 H locs hP hD hS ls hl
              refine lv_iload hx hb dX10_sheet_65 (lv_at hl 0 rfl) ?_
              refine lv_iload_n hx hb dX10_sheet_67 rfl (lv_at hl 4 rfl) ?_
              refine kk_icmp_ge (tgt := 90) hx hb dX10_sheet_68 (by decide) (by omega) (by omega) (fun c_8 => ?_) (fun c_8 => ?_)
              · skip
                refine lv_aload_n hx hb dX10_sheet_90 rfl (lv_at hl 1 rfl) ?_
                refine lv_iconst (v := nI 1) hx hb dX10_sheet_91 (by decide +kernel) ?_
                have hF := va_free (wc := [(m0, .inr (9, [.int i0, .ref a1, .int (nI (cSp C)), .ref a3, .int (nI (cLa C)), .ref a5, .ref a6, .ref a7, .int (nI (cAg C)), .int (-9 : Int32), .int i10, .int i11, .int i12, .ref a13, .ref a14, .ref a15, .ref a16, .int (nI (mN T)), .ref a18, .ref a19, .ref a20, .ref a21, .ref a22, .ref a23, .ref a24, .ref a25, .int (nI (mN E)), .ref a27, .ref a28, .ref a29, .ref a30, .ref a31, .ref a32, .ref a33, .ref a34, .int i35]))]) hD hS hA [0] rfl
                refine va_calli (va_runV (As := [.int (nI 1)]) (rest := []) ⟨hx, hb, hml, hown, hts⟩ (c_X10_refused lL D cI cS _ m0 a1 a3 a5 a6 a7 a13 a14 a15 a16 a18 a19 a20 a21 a22 a23 a24 a25 a27 a28 a29 a30 a31 a32 a33 a34 i0 (nI (cSp C)) (nI (cLa C)) (nI (cAg C)) (-9 : Int32) i10 i11 i12 (nI (mN T)) (nI (mN E)) i35 (nI 1)) (cwV 1 hts gX10_sheet_X10_refused rfl rfl rfl cd_X10_refused ⟨Nat.le_of_ble_eq_true rfl, Nat.le_of_ble_eq_true rfl⟩) ⟨kB_blind, va_recv hK hP (ci := 9) (q0 := 0) rfl rfl, fun U hU hW => ⟨rfl, by rw [hU], by rw [hU]; exact hP.sub [0] rfl, va_K.moved hW.alike hK, (hD.sub [0] (by decide) rfl).weaken (fun _ _ _ _ => trivial)⟩⟩ rfl rfl hl.1 rfl (lv_room (Nat.le_of_ble_eq_true rfl)) dX10_sheet_92 ⟨Nat.le_of_ble_eq_true rfl, Nat.le_of_ble_eq_true rfl⟩) hS (fun q _ h => hF q h) hF (fun r_9 u_9 t H1 locs ht hvm hw_9 hB hz1 hk1 hS => ?_)
                obtain ⟨hP, hD⟩ := kk_join2 (wc := [(m0, .inr (9, [.int i0, .ref a1, .int (nI (cSp C)), .ref a3, .int (nI (cLa C)), .ref a5, .ref a6, .ref a7, .int (nI (cAg C)), .int (-9 : Int32), .int i10, .int i11, .int i12, .ref a13, .ref a14, .ref a15, .ref a16, .int (nI (mN T)), .ref a18, .ref a19, .ref a20, .ref a21, .ref a22, .ref a23, .ref a24, .ref a25, .int (nI (mN E)), .ref a27, .ref a28, .ref a29, .ref a30, .ref a31, .ref a32, .ref a33, .ref a34, .int i35]))]) (w1 := [(m0, .inr (9, [.int (nI 0), .ref a1, .int (nI (cSp C)), .ref a3, .int (nI (cLa C)), .ref a5, .ref a6, .ref a7, .int (nI (cAg C)), .int (-9 : Int32), .int i10, .int i11, .int i12, .ref a13, .ref a14, .ref a15, .ref a16, .int (nI (mN T)), .ref a18, .ref a19, .ref a20, .ref a21, .ref a22, .ref a23, .ref a24, .ref a25, .int (nI (mN E)), .ref a27, .ref a28, .ref a29, .ref a30, .ref a31, .ref a32, .ref a33, .ref a34, .int i35]))]) (ws' := [(m0, .inr (9, [.int (nI 0), .ref a1, .int (nI (cSp C)), .ref a3, .int (nI (cLa C)), .ref a5, .ref a6, .ref a7, .int (nI (cAg C)), .int (-9 : Int32), .int i10, .int i11, .int i12, .ref a13, .ref a14, .ref a15, .ref a16, .int (nI (mN T)), .ref a18, .ref a19, .ref a20, .ref a21, .ref a22, .ref a23, .ref a24, .ref a25, .int (nI (mN E)), .ref a27, .ref a28, .ref a29, .ref a30, .ref a31, .ref a32, .ref a33, .ref a34, .int i35])), (a31, .inl (cI, 4, .inl (upd zz x1N (nI x3N)))), (a32, .inl (cI, 4, .inl (upd zl x1N (nI x2N)))), (a33, .inl (cI, 240, .inl sX))]) (wr := [(a31, .inl (cI, 4, .inl (upd zz x1N (nI x3N)))), (a32, .inl (cI, 4, .inl (upd zl x1N (nI x2N)))), (a33, .inl (cI, 240, .inl sX))]) (H1 := H1) hP hD [0] [1, 2, 3] rfl rfl rfl rfl 4 rfl (by decide) [m0, a31, a32, a33] rfl rfl hk1 (by rw [← ht]; exact hB)
                have hw_9 : r_9 = (nI 1) ∧ True := hw_9
                clear hF hB hk1 hz1 hvm
                clear ht
                generalize H1 = H at hP hS ⊢
                obtain ⟨rfl, hw_9⟩ := hw_9
                have hq : (nI 1) = sp_sheet (nI x1N) (nI x2N) (nI x3N) ∧ (nI 0) = nf_sheet (nI x1N) (nI x2N) (nI x3N) ∧ (bif ok_sheet (nI x1N) (nI x2N) (nI x3N) then (upd zz x1N (nI x3N)) = upd zz (tn (nI x1N)) (nI x3N) ∧ (upd zl x1N (nI x2N)) = upd zl (tn (nI x1N)) (nI x2N) ∧ (∀ j, j < tn (nI x3N) → sX (60 * tn (nI x1N) + j) = nI 0) ∧ ∀ j, ¬ (60 * tn (nI x1N) ≤ j ∧ j < 60 * tn (nI x1N) + tn (nI x3N)) → sX j = zs j else (upd zz x1N (nI x3N)) = zz ∧ (upd zl x1N (nI x2N)) = zl ∧ sX = zs) := by
                  have hok : ok_sheet (nI x1N) (nI x2N) (nI x3N) = true := by simp only [ok_sheet, hb_2, hb_4, t_x1, t_x2, t_x3, cond_true, cond_false, if_pos c_6, if_pos c_7]
                  rw [hok]
                  refine ⟨by simp only [sp_sheet, hb_2, hb_4, t_x1, t_x2, t_x3, cond_true, cond_false, if_pos c_6, if_pos c_7], by simp only [nf_sheet, hb_2, hb_4, t_x1, t_x2, t_x3, cond_true, cond_false, if_pos c_6, if_pos c_7], ?_⟩
                  simp only [t_x1, t_x3, cond_true]
                  exact ⟨trivial, trivial, fun j hj => z1 j (by omega), fun j hj => z2 j (by omega)⟩
                refine kk_QQ hQQ ?_
                exact W.iret (v := (nI 1)) hx hb hr (fun t ht hW => ⟨⟨(nI 1), (nI 0, upd zz x1N (nI x3N), upd zl x1N (nI x2N), sX), rfl, hq, by show va_P D vwCl _ t.heap; rw [ht]; exact hP⟩, hS.F ht⟩) hS.2.2 dX10_sheet_95
              · skip
                refine lv_aload_n hx hb dX10_sheet_71 rfl (lv_at hl 1 rfl) ?_
                refine va_get (D := D) (ci := 9) (v := .ref a33) (C := RX10) (T := TX10) (N := 36) hx hb hts hwX10 hown hK hP 0 rfl rfl 33 (by decide) hf_79 (fun _ h9 => h9) rfl dX10_sheet_72 ?_
                refine lv_bipush (v := nI 60) hx hb dX10_sheet_75 (by decide +kernel) ?_
                refine lv_iload_n hx hb dX10_sheet_77 rfl (lv_at hl 2 rfl) ?_
                refine kk_imul hx hb dX10_sheet_78 ?_
                refine lv_iload hx hb dX10_sheet_79 (lv_at hl 0 rfl) ?_
                refine kk_iadd hx hb dX10_sheet_81 ?_
                refine lv_iconst (v := nI 0) hx hb dX10_sheet_82 (by decide +kernel) ?_
                refine kk_iast hx hb hK hP hD hS 3 rfl rfl (i := (60 * x1N) + i) (by omega) (by decide) dX10_sheet_83 (fun H locs hP hD hS => ?_)
                have hP : va_P D vwCl [(m0, .inr (9, [.int i0, .ref a1, .int (nI (cSp C)), .ref a3, .int (nI (cLa C)), .ref a5, .ref a6, .ref a7, .int (nI (cAg C)), .int (-9 : Int32), .int i10, .int i11, .int i12, .ref a13, .ref a14, .ref a15, .ref a16, .int (nI (mN T)), .ref a18, .ref a19, .ref a20, .ref a21, .ref a22, .ref a23, .ref a24, .ref a25, .int (nI (mN E)), .ref a27, .ref a28, .ref a29, .ref a30, .ref a31, .ref a32, .ref a33, .ref a34, .int i35])), (a31, .inl (cI, 4, .inl (upd zz x1N (nI x3N)))), (a32, .inl (cI, 4, .inl (upd zl x1N (nI x2N)))), (a33, .inl (cI, 240, .inl (upd sX ((60 * x1N) + i) (nI 0))))] H := hP
                have hD : va_D A [(m0, .inr (9, [.int i0, .ref a1, .int (nI (cSp C)), .ref a3, .int (nI (cLa C)), .ref a5, .ref a6, .ref a7, .int (nI (cAg C)), .int (-9 : Int32), .int i10, .int i11, .int i12, .ref a13, .ref a14, .ref a15, .ref a16, .int (nI (mN T)), .ref a18, .ref a19, .ref a20, .ref a21, .ref a22, .ref a23, .ref a24, .ref a25, .int (nI (mN E)), .ref a27, .ref a28, .ref a29, .ref a30, .ref a31, .ref a32, .ref a33, .ref a34, .int i35])), (a31, .inl (cI, 4, .inl (upd zz x1N (nI x3N)))), (a32, .inl (cI, 4, .inl (upd zl x1N (nI x2N)))), (a33, .inl (cI, 240, .inl (upd sX ((60 * x1N) + i) (nI 0))))] := hD
                refine lv_iinc (v := nI (i + 1)) (lv' := [(4, .int (nI (i + 1))), (0, .ref m0), (1, .int (nI x1N)), (2, .int (nI x2N)), (3, .int (nI x3N))]) hx hb dX10_sheet_84 hl (k := 0) rfl (nI_add i 1) (by decide) rfl (fun ls hl => ?_)
                refine lv_goto (tgt := 65) hx hb dX10_sheet_87 (by decide) ?_
                have o_10 : (i + 1) ≤ x3N := by omega
                have o_11 : ∀ j, j < (i + 1) → (upd sX ((60 * x1N) + i) (nI 0)) (60 * x1N + j) = nI 0 := by
                  intro j h
                  by_cases e : j = i
                  · subst e; exact up_at _ _ _
                  · rw [up_ne _ _ (by omega)]; exact z1 j (by omega)
                have o_12 : ∀ j, ¬ (60 * x1N ≤ j ∧ j < 60 * x1N + (i + 1)) → (upd sX ((60 * x1N) + i) (nI 0)) j = zs j := by intro j h; rw [up_ne _ _ (by omega)]; exact z2 j (by omega)
                have o_13 : x3N + 1 ≤ (i + 1) + n_65 := by omega
                exact ih_65 (i + 1) (upd sX ((60 * x1N) + i) (nI 0)) o_10 o_11 o_12 o_13 _ _ hP hD hS ls (lv_sub hl [0, 1, 2, 3, 4] rfl)
          have o_14 : 0 ≤ x3N := by omega
          have o_15 : ∀ j, j < 0 → zs (60 * x1N + j) = nI 0 := by intro j h; omega
          have o_16 : ∀ j, ¬ (60 * x1N ≤ j ∧ j < 60 * x1N + 0) → zs j = zs j := by intro j _; rfl
          have o_17 : x3N + 1 ≤ 0 + (x3N + 1) := by omega
          exact L_65 (x3N + 1) 0 zs o_14 o_15 o_16 o_17 _ _ hP hD hS ls (lv_sub hl [0, 1, 2, 3, 4] rfl)
        · skip
          refine lv_aload_n hx hb dX10_sheet_42 rfl (lv_at hl 0 rfl) ?_
          refine lv_iconst (v := nI 4) hx hb dX10_sheet_43 (by decide +kernel) ?_
          have hF := va_free (wc := [(m0, .inr (9, [.int i0, .ref a1, .int (nI (cSp C)), .ref a3, .int (nI (cLa C)), .ref a5, .ref a6, .ref a7, .int (nI (cAg C)), .int (-9 : Int32), .int i10, .int i11, .int i12, .ref a13, .ref a14, .ref a15, .ref a16, .int (nI (mN T)), .ref a18, .ref a19, .ref a20, .ref a21, .ref a22, .ref a23, .ref a24, .ref a25, .int (nI (mN E)), .ref a27, .ref a28, .ref a29, .ref a30, .ref a31, .ref a32, .ref a33, .ref a34, .int i35]))]) hD hS hA [0] rfl
          refine va_calli (va_runV (As := [.int (nI 4)]) (rest := []) ⟨hx, hb, hml, hown, hts⟩ (c_X10_failed lL D cI cS _ m0 a1 a3 a5 a6 a7 a13 a14 a15 a16 a18 a19 a20 a21 a22 a23 a24 a25 a27 a28 a29 a30 a31 a32 a33 a34 i0 (nI (cSp C)) (nI (cLa C)) (nI (cAg C)) (-9 : Int32) i10 i11 i12 (nI (mN T)) (nI (mN E)) i35 (nI 4)) (cwV 1 hts gX10_sheet_X10_failed rfl rfl rfl cd_X10_failed ⟨Nat.le_of_ble_eq_true rfl, Nat.le_of_ble_eq_true rfl⟩) ⟨kB_blind, va_recv hK hP (ci := 9) (q0 := 0) rfl rfl, fun U hU hW => ⟨rfl, by rw [hU], by rw [hU]; exact hP.sub [0] rfl, va_K.moved hW.alike hK, (hD.sub [0] (by decide) rfl).weaken (fun _ _ _ _ => trivial)⟩⟩ rfl rfl hl.1 rfl (lv_room (Nat.le_of_ble_eq_true rfl)) dX10_sheet_44 ⟨Nat.le_of_ble_eq_true rfl, Nat.le_of_ble_eq_true rfl⟩) hS (fun q _ h => hF q h) hF (fun r_18 u_18 t H1 locs ht hvm hw_18 hB hz1 hk1 hS => ?_)
          obtain ⟨hP, hD⟩ := kk_join2 (wc := [(m0, .inr (9, [.int i0, .ref a1, .int (nI (cSp C)), .ref a3, .int (nI (cLa C)), .ref a5, .ref a6, .ref a7, .int (nI (cAg C)), .int (-9 : Int32), .int i10, .int i11, .int i12, .ref a13, .ref a14, .ref a15, .ref a16, .int (nI (mN T)), .ref a18, .ref a19, .ref a20, .ref a21, .ref a22, .ref a23, .ref a24, .ref a25, .int (nI (mN E)), .ref a27, .ref a28, .ref a29, .ref a30, .ref a31, .ref a32, .ref a33, .ref a34, .int i35]))]) (w1 := [(m0, .inr (9, [.int (nI 4), .ref a1, .int (nI (cSp C)), .ref a3, .int (nI (cLa C)), .ref a5, .ref a6, .ref a7, .int (nI (cAg C)), .int (-9 : Int32), .int i10, .int i11, .int i12, .ref a13, .ref a14, .ref a15, .ref a16, .int (nI (mN T)), .ref a18, .ref a19, .ref a20, .ref a21, .ref a22, .ref a23, .ref a24, .ref a25, .int (nI (mN E)), .ref a27, .ref a28, .ref a29, .ref a30, .ref a31, .ref a32, .ref a33, .ref a34, .int i35]))]) (ws' := [(m0, .inr (9, [.int (nI 4), .ref a1, .int (nI (cSp C)), .ref a3, .int (nI (cLa C)), .ref a5, .ref a6, .ref a7, .int (nI (cAg C)), .int (-9 : Int32), .int i10, .int i11, .int i12, .ref a13, .ref a14, .ref a15, .ref a16, .int (nI (mN T)), .ref a18, .ref a19, .ref a20, .ref a21, .ref a22, .ref a23, .ref a24, .ref a25, .int (nI (mN E)), .ref a27, .ref a28, .ref a29, .ref a30, .ref a31, .ref a32, .ref a33, .ref a34, .int i35])), (a31, .inl (cI, 4, .inl zz)), (a32, .inl (cI, 4, .inl zl)), (a33, .inl (cI, 240, .inl zs))]) (wr := [(a31, .inl (cI, 4, .inl zz)), (a32, .inl (cI, 4, .inl zl)), (a33, .inl (cI, 240, .inl zs))]) (H1 := H1) hP hD [0] [1, 2, 3] rfl rfl rfl rfl 4 rfl (by decide) [m0, a31, a32, a33] rfl rfl hk1 (by rw [← ht]; exact hB)
          have hw_18 : r_18 = (-10 : Int32) - (nI 4) ∧ True := hw_18
          clear hF hB hk1 hz1 hvm
          clear ht
          generalize H1 = H at hP hS ⊢
          obtain ⟨rfl, hw_18⟩ := hw_18
          have hq : ((-10 : Int32) - (nI 4)) = sp_sheet (nI x1N) (nI x2N) x3 ∧ (nI 4) = nf_sheet (nI x1N) (nI x2N) x3 ∧ (bif ok_sheet (nI x1N) (nI x2N) x3 then zz = upd zz (tn (nI x1N)) x3 ∧ zl = upd zl (tn (nI x1N)) (nI x2N) ∧ (∀ j, j < tn x3 → zs (60 * tn (nI x1N) + j) = nI 0) ∧ ∀ j, ¬ (60 * tn (nI x1N) ≤ j ∧ j < 60 * tn (nI x1N) + tn x3) → zs j = zs j else zz = zz ∧ zl = zl ∧ zs = zs) := by
            have hok : ok_sheet (nI x1N) (nI x2N) x3 = false := by simp only [ok_sheet, hb_2, hb_4, t_x1, t_x2, cond_true, cond_false, if_pos c_6, if_neg c_7]
            rw [hok]
            exact ⟨by simp only [sp_sheet, hb_2, hb_4, t_x1, t_x2, cond_true, cond_false, if_pos c_6, if_neg c_7], by simp only [nf_sheet, hb_2, hb_4, t_x1, t_x2, cond_true, cond_false, if_pos c_6, if_neg c_7], rfl, rfl, rfl⟩
          refine kk_QQ hQQ ?_
          exact W.iret (v := (-10 : Int32) - (nI 4)) hx hb hr (fun t ht hW => ⟨⟨(-10 : Int32) - (nI 4), (nI 4, zz, zl, zs), rfl, hq, by show va_P D vwCl _ t.heap; rw [ht]; exact hP⟩, hS.F ht⟩) hS.2.2 dX10_sheet_47
      · skip
        refine lv_aload_n hx hb dX10_sheet_31 rfl (lv_at hl 0 rfl) ?_
        refine lv_bipush (v := (-2 : Int32)) hx hb dX10_sheet_32 (by decide +kernel) ?_
        have hF := va_free (wc := [(m0, .inr (9, [.int i0, .ref a1, .int (nI (cSp C)), .ref a3, .int (nI (cLa C)), .ref a5, .ref a6, .ref a7, .int (nI (cAg C)), .int (-9 : Int32), .int i10, .int i11, .int i12, .ref a13, .ref a14, .ref a15, .ref a16, .int (nI (mN T)), .ref a18, .ref a19, .ref a20, .ref a21, .ref a22, .ref a23, .ref a24, .ref a25, .int (nI (mN E)), .ref a27, .ref a28, .ref a29, .ref a30, .ref a31, .ref a32, .ref a33, .ref a34, .int i35]))]) hD hS hA [0] rfl
        refine va_calli (va_runV (As := [.int (-2 : Int32)]) (rest := []) ⟨hx, hb, hml, hown, hts⟩ (c_X10_refused lL D cI cS _ m0 a1 a3 a5 a6 a7 a13 a14 a15 a16 a18 a19 a20 a21 a22 a23 a24 a25 a27 a28 a29 a30 a31 a32 a33 a34 i0 (nI (cSp C)) (nI (cLa C)) (nI (cAg C)) (-9 : Int32) i10 i11 i12 (nI (mN T)) (nI (mN E)) i35 (-2 : Int32)) (cwV 1 hts gX10_sheet_X10_refused rfl rfl rfl cd_X10_refused ⟨Nat.le_of_ble_eq_true rfl, Nat.le_of_ble_eq_true rfl⟩) ⟨kB_blind, va_recv hK hP (ci := 9) (q0 := 0) rfl rfl, fun U hU hW => ⟨rfl, by rw [hU], by rw [hU]; exact hP.sub [0] rfl, va_K.moved hW.alike hK, (hD.sub [0] (by decide) rfl).weaken (fun _ _ _ _ => trivial)⟩⟩ rfl rfl hl.1 rfl (lv_room (Nat.le_of_ble_eq_true rfl)) dX10_sheet_34 ⟨Nat.le_of_ble_eq_true rfl, Nat.le_of_ble_eq_true rfl⟩) hS (fun q _ h => hF q h) hF (fun r_19 u_19 t H1 locs ht hvm hw_19 hB hz1 hk1 hS => ?_)
        obtain ⟨hP, hD⟩ := kk_join2 (wc := [(m0, .inr (9, [.int i0, .ref a1, .int (nI (cSp C)), .ref a3, .int (nI (cLa C)), .ref a5, .ref a6, .ref a7, .int (nI (cAg C)), .int (-9 : Int32), .int i10, .int i11, .int i12, .ref a13, .ref a14, .ref a15, .ref a16, .int (nI (mN T)), .ref a18, .ref a19, .ref a20, .ref a21, .ref a22, .ref a23, .ref a24, .ref a25, .int (nI (mN E)), .ref a27, .ref a28, .ref a29, .ref a30, .ref a31, .ref a32, .ref a33, .ref a34, .int i35]))]) (w1 := [(m0, .inr (9, [.int (nI 0), .ref a1, .int (nI (cSp C)), .ref a3, .int (nI (cLa C)), .ref a5, .ref a6, .ref a7, .int (nI (cAg C)), .int (-9 : Int32), .int i10, .int i11, .int i12, .ref a13, .ref a14, .ref a15, .ref a16, .int (nI (mN T)), .ref a18, .ref a19, .ref a20, .ref a21, .ref a22, .ref a23, .ref a24, .ref a25, .int (nI (mN E)), .ref a27, .ref a28, .ref a29, .ref a30, .ref a31, .ref a32, .ref a33, .ref a34, .int i35]))]) (ws' := [(m0, .inr (9, [.int (nI 0), .ref a1, .int (nI (cSp C)), .ref a3, .int (nI (cLa C)), .ref a5, .ref a6, .ref a7, .int (nI (cAg C)), .int (-9 : Int32), .int i10, .int i11, .int i12, .ref a13, .ref a14, .ref a15, .ref a16, .int (nI (mN T)), .ref a18, .ref a19, .ref a20, .ref a21, .ref a22, .ref a23, .ref a24, .ref a25, .int (nI (mN E)), .ref a27, .ref a28, .ref a29, .ref a30, .ref a31, .ref a32, .ref a33, .ref a34, .int i35])), (a31, .inl (cI, 4, .inl zz)), (a32, .inl (cI, 4, .inl zl)), (a33, .inl (cI, 240, .inl zs))]) (wr := [(a31, .inl (cI, 4, .inl zz)), (a32, .inl (cI, 4, .inl zl)), (a33, .inl (cI, 240, .inl zs))]) (H1 := H1) hP hD [0] [1, 2, 3] rfl rfl rfl rfl 4 rfl (by decide) [m0, a31, a32, a33] rfl rfl hk1 (by rw [← ht]; exact hB)
        have hw_19 : r_19 = (-2 : Int32) ∧ True := hw_19
        clear hF hB hk1 hz1 hvm
        clear ht
        generalize H1 = H at hP hS ⊢
        obtain ⟨rfl, hw_19⟩ := hw_19
        have hq : (-2 : Int32) = sp_sheet (nI x1N) (nI x2N) x3 ∧ (nI 0) = nf_sheet (nI x1N) (nI x2N) x3 ∧ (bif ok_sheet (nI x1N) (nI x2N) x3 then zz = upd zz (tn (nI x1N)) x3 ∧ zl = upd zl (tn (nI x1N)) (nI x2N) ∧ (∀ j, j < tn x3 → zs (60 * tn (nI x1N) + j) = nI 0) ∧ ∀ j, ¬ (60 * tn (nI x1N) ≤ j ∧ j < 60 * tn (nI x1N) + tn x3) → zs j = zs j else zz = zz ∧ zl = zl ∧ zs = zs) := by
          have hok : ok_sheet (nI x1N) (nI x2N) x3 = false := by simp only [ok_sheet, hb_2, hb_4, t_x1, t_x2, cond_true, cond_false, if_neg c_6]
          rw [hok]
          exact ⟨by simp only [sp_sheet, hb_2, hb_4, t_x1, t_x2, cond_true, cond_false, if_neg c_6], by simp only [nf_sheet, hb_2, hb_4, t_x1, t_x2, cond_true, cond_false, if_neg c_6], rfl, rfl, rfl⟩
        refine kk_QQ hQQ ?_
        exact W.iret (v := (-2 : Int32)) hx hb hr (fun t ht hW => ⟨⟨(-2 : Int32), (nI 0, zz, zl, zs), rfl, hq, by show va_P D vwCl _ t.heap; rw [ht]; exact hP⟩, hS.F ht⟩) hS.2.2 dX10_sheet_37
  · skip
    refine lv_aload_n hx hb dX10_sheet_7 rfl (lv_at hl 0 rfl) ?_
    refine lv_iconst (v := (-1 : Int32)) hx hb dX10_sheet_8 (by decide +kernel) ?_
    have hF := va_free (wc := [(m0, .inr (9, [.int i0, .ref a1, .int (nI (cSp C)), .ref a3, .int (nI (cLa C)), .ref a5, .ref a6, .ref a7, .int (nI (cAg C)), .int (-9 : Int32), .int i10, .int i11, .int i12, .ref a13, .ref a14, .ref a15, .ref a16, .int (nI (mN T)), .ref a18, .ref a19, .ref a20, .ref a21, .ref a22, .ref a23, .ref a24, .ref a25, .int (nI (mN E)), .ref a27, .ref a28, .ref a29, .ref a30, .ref a31, .ref a32, .ref a33, .ref a34, .int i35]))]) hD hS hA [0] rfl
    refine va_calli (va_runV (As := [.int (-1 : Int32)]) (rest := []) ⟨hx, hb, hml, hown, hts⟩ (c_X10_refused lL D cI cS _ m0 a1 a3 a5 a6 a7 a13 a14 a15 a16 a18 a19 a20 a21 a22 a23 a24 a25 a27 a28 a29 a30 a31 a32 a33 a34 i0 (nI (cSp C)) (nI (cLa C)) (nI (cAg C)) (-9 : Int32) i10 i11 i12 (nI (mN T)) (nI (mN E)) i35 (-1 : Int32)) (cwV 1 hts gX10_sheet_X10_refused rfl rfl rfl cd_X10_refused ⟨Nat.le_of_ble_eq_true rfl, Nat.le_of_ble_eq_true rfl⟩) ⟨kB_blind, va_recv hK hP (ci := 9) (q0 := 0) rfl rfl, fun U hU hW => ⟨rfl, by rw [hU], by rw [hU]; exact hP.sub [0] rfl, va_K.moved hW.alike hK, (hD.sub [0] (by decide) rfl).weaken (fun _ _ _ _ => trivial)⟩⟩ rfl rfl hl.1 rfl (lv_room (Nat.le_of_ble_eq_true rfl)) dX10_sheet_9 ⟨Nat.le_of_ble_eq_true rfl, Nat.le_of_ble_eq_true rfl⟩) hS (fun q _ h => hF q h) hF (fun r_20 u_20 t H1 locs ht hvm hw_20 hB hz1 hk1 hS => ?_)
    obtain ⟨hP, hD⟩ := kk_join2 (wc := [(m0, .inr (9, [.int i0, .ref a1, .int (nI (cSp C)), .ref a3, .int (nI (cLa C)), .ref a5, .ref a6, .ref a7, .int (nI (cAg C)), .int (-9 : Int32), .int i10, .int i11, .int i12, .ref a13, .ref a14, .ref a15, .ref a16, .int (nI (mN T)), .ref a18, .ref a19, .ref a20, .ref a21, .ref a22, .ref a23, .ref a24, .ref a25, .int (nI (mN E)), .ref a27, .ref a28, .ref a29, .ref a30, .ref a31, .ref a32, .ref a33, .ref a34, .int i35]))]) (w1 := [(m0, .inr (9, [.int (nI 0), .ref a1, .int (nI (cSp C)), .ref a3, .int (nI (cLa C)), .ref a5, .ref a6, .ref a7, .int (nI (cAg C)), .int (-9 : Int32), .int i10, .int i11, .int i12, .ref a13, .ref a14, .ref a15, .ref a16, .int (nI (mN T)), .ref a18, .ref a19, .ref a20, .ref a21, .ref a22, .ref a23, .ref a24, .ref a25, .int (nI (mN E)), .ref a27, .ref a28, .ref a29, .ref a30, .ref a31, .ref a32, .ref a33, .ref a34, .int i35]))]) (ws' := [(m0, .inr (9, [.int (nI 0), .ref a1, .int (nI (cSp C)), .ref a3, .int (nI (cLa C)), .ref a5, .ref a6, .ref a7, .int (nI (cAg C)), .int (-9 : Int32), .int i10, .int i11, .int i12, .ref a13, .ref a14, .ref a15, .ref a16, .int (nI (mN T)), .ref a18, .ref a19, .ref a20, .ref a21, .ref a22, .ref a23, .ref a24, .ref a25, .int (nI (mN E)), .ref a27, .ref a28, .ref a29, .ref a30, .ref a31, .ref a32, .ref a33, .ref a34, .int i35])), (a31, .inl (cI, 4, .inl zz)), (a32, .inl (cI, 4, .inl zl)), (a33, .inl (cI, 240, .inl zs))]) (wr := [(a31, .inl (cI, 4, .inl zz)), (a32, .inl (cI, 4, .inl zl)), (a33, .inl (cI, 240, .inl zs))]) (H1 := H1) hP hD [0] [1, 2, 3] rfl rfl rfl rfl 4 rfl (by decide) [m0, a31, a32, a33] rfl rfl hk1 (by rw [← ht]; exact hB)
    have hw_20 : r_20 = (-1 : Int32) ∧ True := hw_20
    clear hF hB hk1 hz1 hvm
    clear ht
    generalize H1 = H at hP hS ⊢
    obtain ⟨rfl, hw_20⟩ := hw_20
    have hq : (-1 : Int32) = sp_sheet x1 x2 x3 ∧ (nI 0) = nf_sheet x1 x2 x3 ∧ (bif ok_sheet x1 x2 x3 then zz = upd zz (tn x1) x3 ∧ zl = upd zl (tn x1) x2 ∧ (∀ j, j < tn x3 → zs (60 * tn x1 + j) = nI 0) ∧ ∀ j, ¬ (60 * tn x1 ≤ j ∧ j < 60 * tn x1 + tn x3) → zs j = zs j else zz = zz ∧ zl = zl ∧ zs = zs) := by
      have hok : ok_sheet x1 x2 x3 = false := by simp only [ok_sheet, hb_2, cond_true, cond_false]
      rw [hok]
      exact ⟨by simp only [sp_sheet, hb_2, cond_true, cond_false], by simp only [nf_sheet, hb_2, cond_true, cond_false], rfl, rfl, rfl⟩
    refine kk_QQ hQQ ?_
    exact W.iret (v := (-1 : Int32)) hx hb hr (fun t ht hW => ⟨⟨(-1 : Int32), (nI 0, zz, zl, zs), rfl, hq, by show va_P D vwCl _ t.heap; rw [ht]; exact hP⟩, hS.F ht⟩) hS.2.2 dX10_sheet_12

abbrev rmX10_lose : Room := { frames := 2, cells := 0, slots := 0, locals := 45 }
set_option maxHeartbeats 4000000 in
set_option maxRecDepth 100000 in
theorem c_X10_lose (lL : Launch) (D : va_G) (cI cS : ClassId) (sz : Nat) (C : Co) (T : Mv) (E : Mv) (m0 : Nat) (a1 : Nat) (a3 : Nat) (a5 : Nat) (a6 : Nat) (a7 : Nat) (a13 : Nat) (a14 : Nat) (a15 : Nat) (a16 : Nat) (a18 : Nat) (a19 : Nat) (a20 : Nat) (a21 : Nat) (a22 : Nat) (a23 : Nat) (a24 : Nat) (a25 : Nat) (a27 : Nat) (a28 : Nat) (a29 : Nat) (a30 : Nat) (a31 : Nat) (a32 : Nat) (a33 : Nat) (a34 : Nat) (i0 : Int32) (i10 : Int32) (i11 : Int32) (i12 : Int32) (i35 : Int32) (zz : Nat → Int32) (x1 : Int32) (rl : Int32) (len : Nat) (cf : Nat → Int32) (zl : Nat → Int32) (zs : Nat → Int32) (hX : okX C T E) (hz : ∀ j, x1 = nI j → j < 4 → zR j rl len cf zz zl zs) : Met lL yX10_lose wsX10_lose rmX10_lose (va_Pc [.ref m0, .int x1] (kB D cI cS [(m0, .inr (9, [.int i0, .ref a1, .int (nI (cSp C)), .ref a3, .int (nI (cLa C)), .ref a5, .ref a6, .ref a7, .int (nI (cAg C)), .int (-9 : Int32), .int i10, .int i11, .int i12, .ref a13, .ref a14, .ref a15, .ref a16, .int (nI (mN T)), .ref a18, .ref a19, .ref a20, .ref a21, .ref a22, .ref a23, .ref a24, .ref a25, .int (nI (mN E)), .ref a27, .ref a28, .ref a29, .ref a30, .ref a31, .ref a32, .ref a33, .ref a34, .int i35])), (a31, .inl (cI, 4, .inl zz))] sz)) (kQi D (fun (r : Int32) (u : (Nat → Int32)) => r = sp_lose rl x1 ∧ u = (bif inB x1 4 then upd zz (tn x1) (-1) else zz)) (fun u : (Nat → Int32) => [(m0, .inr (9, [.int i0, .ref a1, .int (nI (cSp C)), .ref a3, .int (nI (cLa C)), .ref a5, .ref a6, .ref a7, .int (nI (cAg C)), .int (-9 : Int32), .int i10, .int i11, .int i12, .ref a13, .ref a14, .ref a15, .ref a16, .int (nI (mN T)), .ref a18, .ref a19, .ref a20, .ref a21, .ref a22, .ref a23, .ref a24, .ref a25, .int (nI (mN E)), .ref a27, .ref a28, .ref a29, .ref a30, .ref a31, .ref a32, .ref a33, .ref a34, .int i35])), (a31, .inl (cI, 4, .inl u))]) (va_A [(m0, .inr (9, [.int i0, .ref a1, .int (nI (cSp C)), .ref a3, .int (nI (cLa C)), .ref a5, .ref a6, .ref a7, .int (nI (cAg C)), .int (-9 : Int32), .int i10, .int i11, .int i12, .ref a13, .ref a14, .ref a15, .ref a16, .int (nI (mN T)), .ref a18, .ref a19, .ref a20, .ref a21, .ref a22, .ref a23, .ref a24, .ref a25, .int (nI (mN E)), .ref a27, .ref a28, .ref a29, .ref a30, .ref a31, .ref a32, .ref a33, .ref a34, .int i35])), (a31, .inl (cI, 4, .inl zz))] sz)) 0 0 (va_A [(m0, .inr (9, [.int i0, .ref a1, .int (nI (cSp C)), .ref a3, .int (nI (cLa C)), .ref a5, .ref a6, .ref a7, .int (nI (cAg C)), .int (-9 : Int32), .int i10, .int i11, .int i12, .ref a13, .ref a14, .ref a15, .ref a16, .int (nI (mN T)), .ref a18, .ref a19, .ref a20, .ref a21, .ref a22, .ref a23, .ref a24, .ref a25, .int (nI (mN E)), .ref a27, .ref a28, .ref a29, .ref a30, .ref a31, .ref a32, .ref a33, .ref a34, .int i35])), (a31, .inl (cI, 4, .inl zz))] sz) := by
  refine Met.ofW (cc := cX10_lose) (maxL := 3) (ret := (some .int)) (by decide) rfl ?_
  intro pP eE sS mM args below meth cC s₁ B hml hv
  obtain ⟨rfl, hsz, hP, hK, hD0⟩ := hv
  have hx := B.exec
  have hb := B.bytes
  have hr := B.returns
  have hts := atoms_spec (ws := wsX10_lose) B.pre
  have hown : sS.vm.findClass RX10 = some mM.cls := findClass_of_methodNamed B.named
  have hlocks := B.notSynchronized
  subst hsz
  have hD := hD0.self (sz := sS.heap.size)
  generalize hAe : va_A [(m0, .inr (9, [.int i0, .ref a1, .int (nI (cSp C)), .ref a3, .int (nI (cLa C)), .ref a5, .ref a6, .ref a7, .int (nI (cAg C)), .int (-9 : Int32), .int i10, .int i11, .int i12, .ref a13, .ref a14, .ref a15, .ref a16, .int (nI (mN T)), .ref a18, .ref a19, .ref a20, .ref a21, .ref a22, .ref a23, .ref a24, .ref a25, .int (nI (mN E)), .ref a27, .ref a28, .ref a29, .ref a30, .ref a31, .ref a32, .ref a33, .ref a34, .int i35])), (a31, .inl (cI, 4, .inl zz))] sS.heap.size = A at hD ⊢
  have hA : ∀ q : Nat, sS.heap.size ≤ q → A q := fun q h => by rw [← hAe]; exact Or.inr h
  have hS : va_S A sS.heap sS.heap [] := va_S.rf
  have hP : va_P D vwCl [(m0, .inr (9, [.int i0, .ref a1, .int (nI (cSp C)), .ref a3, .int (nI (cLa C)), .ref a5, .ref a6, .ref a7, .int (nI (cAg C)), .int (-9 : Int32), .int i10, .int i11, .int i12, .ref a13, .ref a14, .ref a15, .ref a16, .int (nI (mN T)), .ref a18, .ref a19, .ref a20, .ref a21, .ref a22, .ref a23, .ref a24, .ref a25, .int (nI (mN E)), .ref a27, .ref a28, .ref a29, .ref a30, .ref a31, .ref a32, .ref a33, .ref a34, .int i35])), (a31, .inl (cI, 4, .inl zz))] sS.heap := hP
  have hD : va_D A [(m0, .inr (9, [.int i0, .ref a1, .int (nI (cSp C)), .ref a3, .int (nI (cLa C)), .ref a5, .ref a6, .ref a7, .int (nI (cAg C)), .int (-9 : Int32), .int i10, .int i11, .int i12, .ref a13, .ref a14, .ref a15, .ref a16, .int (nI (mN T)), .ref a18, .ref a19, .ref a20, .ref a21, .ref a22, .ref a23, .ref a24, .ref a25, .int (nI (mN E)), .ref a27, .ref a28, .ref a29, .ref a30, .ref a31, .ref a32, .ref a33, .ref a34, .int i35])), (a31, .inl (cI, 4, .inl zz))] := hD
  have hf_73 := hts (.fieldLink RX10 73 "OldLampsModel" "sheetSize" "[I") (List.mem_of_getElem? (i := 1) rfl)
  have hwX10 : ∀ w ∈ wsX100, w ∈ wsX10_lose := fun _ h => List.mem_cons_of_mem _ (List.mem_append_right _ h)
  have hl := lv_entry ([.ref m0, .int x1]) (n := 3) (Nat.le_of_ble_eq_true rfl)
  rw [lg_entry_eq]
  generalize (lg_sl ([.ref m0, .int x1]) ++ List.replicate (3 - (lg_sl ([.ref m0, .int x1])).length) Slot.unset).toArray = ls at hl ⊢
  have hl : lv_has ls 3 [(0, .ref m0), (1, .int x1)] := hl
  obtain ⟨QQ, hQQ⟩ : ∃ QQ : State → Prop, QQ = MQ below (kQi D (fun (r : Int32) (u : (Nat → Int32)) => r = sp_lose rl x1 ∧ u = (bif inB x1 4 then upd zz (tn x1) (-1) else zz)) (fun u : (Nat → Int32) => [(m0, .inr (9, [.int i0, .ref a1, .int (nI (cSp C)), .ref a3, .int (nI (cLa C)), .ref a5, .ref a6, .ref a7, .int (nI (cAg C)), .int (-9 : Int32), .int i10, .int i11, .int i12, .ref a13, .ref a14, .ref a15, .ref a16, .int (nI (mN T)), .ref a18, .ref a19, .ref a20, .ref a21, .ref a22, .ref a23, .ref a24, .ref a25, .int (nI (mN E)), .ref a27, .ref a28, .ref a29, .ref a30, .ref a31, .ref a32, .ref a33, .ref a34, .int i35])), (a31, .inl (cI, 4, .inl u))]) A) ([.ref m0, .int x1]).toArray sS 0 0 A := ⟨_, rfl⟩
  refine kk_QQ hQQ.symm ?_
  obtain ⟨hX1, hX2, hX3, hX4⟩ := okX_le hX
  refine lv_iload_n hx hb dX10_lose_0 rfl (lv_at hl 1 rfl) ?_
  refine vp_callSi (W.runS (As := [.int x1]) (rest := []) ⟨hx, hb, hml, hown, hts⟩ (c_X10_noSheet lL D cI cS x1) (va_cwS 1 hts gX10_lose_X10_noSheet rfl rfl rfl cd_X10_noSheet ⟨Nat.le_of_ble_eq_true rfl, Nat.le_of_ble_eq_true rfl⟩) ⟨kBp_blind, fun U hU hW => ⟨rfl, by rw [hU]; exact hP.sub [] rfl, va_K.moved hW.alike hK⟩⟩ rfl rfl hl.1 rfl (lv_room (Nat.le_of_ble_eq_true rfl)) dX10_lose_1 ⟨Nat.le_of_ble_eq_true rfl, Nat.le_of_ble_eq_true rfl⟩) (fun r_1 hw_1 => ?_)
  obtain rfl : r_1 = kb (!inB x1 4) := hw_1
  refine kk_ifn_eq (tgt := 9) hx hb dX10_lose_4 (by decide) (fun hb_2 => ?_) (fun hb_2 => ?_)
  · skip
    obtain ⟨x1N, hx1N, rfl⟩ := inB_t hb_2
    have t_x1 := nI_clamp (show x1N < 2 ^ 31 by omega)
    have hz_x1 := hz x1N rfl (by omega)
    obtain ⟨hzc_x1, hzl_x1, hzs_x1⟩ := hz_x1
    rcases hzc_x1 with ⟨hr_x1, hz1_x1, hz2_x1⟩ | ⟨hr_x1, hz1_x1, hz2_x1⟩
    · skip
      have hrd_x1 : decide (rl = (-1 : Int32)) = true := decide_eq_true hr_x1
      refine lv_aload_n hx hb dX10_lose_9 rfl (lv_at hl 0 rfl) ?_
      refine va_get (D := D) (ci := 9) (v := .ref a31) (C := RX10) (T := TX10) (N := 36) hx hb hts hwX10 hown hK hP 0 rfl rfl 31 (by decide) hf_73 (fun _ h9 => h9) rfl dX10_lose_10 ?_
      refine lv_iload_n hx hb dX10_lose_13 rfl (lv_at hl 1 rfl) ?_
      refine kk_iald hx hb hK hP 1 rfl rfl (i := x1N) (by omega) (by decide) dX10_lose_14 ?_
      refine kk_top (y := (-1 : Int32)) hz1_x1 ?_
      refine lv_if_ge (tgt := 22) hx hb dX10_lose_15 (by decide) (fun h => absurd h (by decide)) (fun h => ?_)
      refine lv_iconst (v := nI 0) hx hb dX10_lose_18 (by decide +kernel) ?_
      refine lv_goto (tgt := 23) hx hb dX10_lose_19 (by decide) ?_
      refine lv_istore_n (lv' := [(2, .int (nI 0)), (0, .ref m0), (1, .int (nI x1N))]) hx hb dX10_lose_23 rfl hl (by decide) rfl (fun ls hl => ?_)
      refine lv_aload_n hx hb dX10_lose_24 rfl (lv_at hl 1 rfl) ?_
      refine va_get (D := D) (ci := 9) (v := .ref a31) (C := RX10) (T := TX10) (N := 36) hx hb hts hwX10 hown hK hP 0 rfl rfl 31 (by decide) hf_73 (fun _ h9 => h9) rfl dX10_lose_25 ?_
      refine lv_iload_n hx hb dX10_lose_28 rfl (lv_at hl 2 rfl) ?_
      refine lv_iconst (v := (-1 : Int32)) hx hb dX10_lose_29 (by decide +kernel) ?_
      refine kk_iast hx hb hK hP hD hS 1 rfl rfl (i := x1N) (by omega) (by decide) dX10_lose_30 (fun H locs hP hD hS => ?_)
      have hP : va_P D vwCl [(m0, .inr (9, [.int i0, .ref a1, .int (nI (cSp C)), .ref a3, .int (nI (cLa C)), .ref a5, .ref a6, .ref a7, .int (nI (cAg C)), .int (-9 : Int32), .int i10, .int i11, .int i12, .ref a13, .ref a14, .ref a15, .ref a16, .int (nI (mN T)), .ref a18, .ref a19, .ref a20, .ref a21, .ref a22, .ref a23, .ref a24, .ref a25, .int (nI (mN E)), .ref a27, .ref a28, .ref a29, .ref a30, .ref a31, .ref a32, .ref a33, .ref a34, .int i35])), (a31, .inl (cI, 4, .inl (upd zz x1N (-1 : Int32))))] H := hP
      have hD : va_D A [(m0, .inr (9, [.int i0, .ref a1, .int (nI (cSp C)), .ref a3, .int (nI (cLa C)), .ref a5, .ref a6, .ref a7, .int (nI (cAg C)), .int (-9 : Int32), .int i10, .int i11, .int i12, .ref a13, .ref a14, .ref a15, .ref a16, .int (nI (mN T)), .ref a18, .ref a19, .ref a20, .ref a21, .ref a22, .ref a23, .ref a24, .ref a25, .int (nI (mN E)), .ref a27, .ref a28, .ref a29, .ref a30, .ref a31, .ref a32, .ref a33, .ref a34, .int i35])), (a31, .inl (cI, 4, .inl (upd zz x1N (-1 : Int32))))] := hD
      refine lv_iload_n hx hb dX10_lose_31 rfl (lv_at hl 0 rfl) ?_
      have hq : (nI 0) = sp_lose rl (nI x1N) ∧ (upd zz x1N (-1 : Int32)) = (bif inB (nI x1N) 4 then upd zz (tn (nI x1N)) (-1) else zz) := by refine ⟨by simp only [sp_lose, hb_2, hrd_x1, t_x1, cond_true, cond_false], by simp only [hb_2, hrd_x1, t_x1, cond_true, cond_false]⟩
      refine kk_QQ hQQ ?_
      exact W.iret (v := nI 0) hx hb hr (fun t ht hW => ⟨⟨nI 0, (upd zz x1N (-1 : Int32)), rfl, hq, by show va_P D vwCl _ t.heap; rw [ht]; exact hP⟩, hS.F ht⟩) hS.2.2 dX10_lose_32
    · skip
      have hrd_x1 : decide (rl = (-1 : Int32)) = false := decide_eq_false hr_x1
      refine lv_aload_n hx hb dX10_lose_9 rfl (lv_at hl 0 rfl) ?_
      refine va_get (D := D) (ci := 9) (v := .ref a31) (C := RX10) (T := TX10) (N := 36) hx hb hts hwX10 hown hK hP 0 rfl rfl 31 (by decide) hf_73 (fun _ h9 => h9) rfl dX10_lose_10 ?_
      refine lv_iload_n hx hb dX10_lose_13 rfl (lv_at hl 1 rfl) ?_
      refine kk_iald hx hb hK hP 1 rfl rfl (i := x1N) (by omega) (by decide) dX10_lose_14 ?_
      refine kk_top (y := nI len) (hz1_x1) ?_
      refine kk_if_ge (tgt := 22) hx hb dX10_lose_15 (by decide) (by omega) ?_
      refine lv_iconst (v := nI 1) hx hb dX10_lose_22 (by decide +kernel) ?_
      refine lv_istore_n (lv' := [(2, .int (nI 1)), (0, .ref m0), (1, .int (nI x1N))]) hx hb dX10_lose_23 rfl hl (by decide) rfl (fun ls hl => ?_)
      refine lv_aload_n hx hb dX10_lose_24 rfl (lv_at hl 1 rfl) ?_
      refine va_get (D := D) (ci := 9) (v := .ref a31) (C := RX10) (T := TX10) (N := 36) hx hb hts hwX10 hown hK hP 0 rfl rfl 31 (by decide) hf_73 (fun _ h9 => h9) rfl dX10_lose_25 ?_
      refine lv_iload_n hx hb dX10_lose_28 rfl (lv_at hl 2 rfl) ?_
      refine lv_iconst (v := (-1 : Int32)) hx hb dX10_lose_29 (by decide +kernel) ?_
      refine kk_iast hx hb hK hP hD hS 1 rfl rfl (i := x1N) (by omega) (by decide) dX10_lose_30 (fun H locs hP hD hS => ?_)
      have hP : va_P D vwCl [(m0, .inr (9, [.int i0, .ref a1, .int (nI (cSp C)), .ref a3, .int (nI (cLa C)), .ref a5, .ref a6, .ref a7, .int (nI (cAg C)), .int (-9 : Int32), .int i10, .int i11, .int i12, .ref a13, .ref a14, .ref a15, .ref a16, .int (nI (mN T)), .ref a18, .ref a19, .ref a20, .ref a21, .ref a22, .ref a23, .ref a24, .ref a25, .int (nI (mN E)), .ref a27, .ref a28, .ref a29, .ref a30, .ref a31, .ref a32, .ref a33, .ref a34, .int i35])), (a31, .inl (cI, 4, .inl (upd zz x1N (-1 : Int32))))] H := hP
      have hD : va_D A [(m0, .inr (9, [.int i0, .ref a1, .int (nI (cSp C)), .ref a3, .int (nI (cLa C)), .ref a5, .ref a6, .ref a7, .int (nI (cAg C)), .int (-9 : Int32), .int i10, .int i11, .int i12, .ref a13, .ref a14, .ref a15, .ref a16, .int (nI (mN T)), .ref a18, .ref a19, .ref a20, .ref a21, .ref a22, .ref a23, .ref a24, .ref a25, .int (nI (mN E)), .ref a27, .ref a28, .ref a29, .ref a30, .ref a31, .ref a32, .ref a33, .ref a34, .int i35])), (a31, .inl (cI, 4, .inl (upd zz x1N (-1 : Int32))))] := hD
      refine lv_iload_n hx hb dX10_lose_31 rfl (lv_at hl 0 rfl) ?_
      have hq : (nI 1) = sp_lose rl (nI x1N) ∧ (upd zz x1N (-1 : Int32)) = (bif inB (nI x1N) 4 then upd zz (tn (nI x1N)) (-1) else zz) := by refine ⟨by simp only [sp_lose, hb_2, hrd_x1, t_x1, cond_true, cond_false], by simp only [hb_2, hrd_x1, t_x1, cond_true, cond_false]⟩
      refine kk_QQ hQQ ?_
      exact W.iret (v := nI 1) hx hb hr (fun t ht hW => ⟨⟨nI 1, (upd zz x1N (-1 : Int32)), rfl, hq, by show va_P D vwCl _ t.heap; rw [ht]; exact hP⟩, hS.F ht⟩) hS.2.2 dX10_lose_32
  · skip
    refine lv_iconst (v := (-1 : Int32)) hx hb dX10_lose_7 (by decide +kernel) ?_
    have hq : (-1 : Int32) = sp_lose rl x1 ∧ zz = (bif inB x1 4 then upd zz (tn x1) (-1) else zz) := by refine ⟨by simp only [sp_lose, hb_2, cond_true, cond_false], by simp only [hb_2, cond_true, cond_false]⟩
    refine kk_QQ hQQ ?_
    exact W.iret (v := (-1 : Int32)) hx hb hr (fun t ht hW => ⟨⟨(-1 : Int32), zz, rfl, hq, by show va_P D vwCl _ t.heap; rw [ht]; exact hP⟩, hS.F ht⟩) hS.2.2 dX10_lose_8

abbrev rmX10_put : Room := { frames := 2, cells := 0, slots := 0, locals := 47 }
set_option maxHeartbeats 4000000 in
set_option maxRecDepth 100000 in
theorem c_X10_put (lL : Launch) (D : va_G) (cI cS : ClassId) (sz : Nat) (C : Co) (T : Mv) (E : Mv) (m0 : Nat) (a1 : Nat) (a3 : Nat) (a5 : Nat) (a6 : Nat) (a7 : Nat) (a13 : Nat) (a14 : Nat) (a15 : Nat) (a16 : Nat) (a18 : Nat) (a19 : Nat) (a20 : Nat) (a21 : Nat) (a22 : Nat) (a23 : Nat) (a24 : Nat) (a25 : Nat) (a27 : Nat) (a28 : Nat) (a29 : Nat) (a30 : Nat) (a31 : Nat) (a32 : Nat) (a33 : Nat) (a34 : Nat) (i0 : Int32) (i10 : Int32) (i11 : Int32) (i12 : Int32) (i35 : Int32) (zz : Nat → Int32) (zl : Nat → Int32) (zs : Nat → Int32) (x1 : Int32) (x2 : Int32) (x3 : Int32) (rl : Int32) (len : Nat) (cf : Nat → Int32) (hX : okX C T E) (hz : ∀ j, x1 = nI j → j < 4 → zR j rl len cf zz zl zs) : Met lL yX10_put wsX10_put rmX10_put (va_Pc [.ref m0, .int x1, .int x2, .int x3] (kB D cI cS [(m0, .inr (9, [.int i0, .ref a1, .int (nI (cSp C)), .ref a3, .int (nI (cLa C)), .ref a5, .ref a6, .ref a7, .int (nI (cAg C)), .int (-9 : Int32), .int i10, .int i11, .int i12, .ref a13, .ref a14, .ref a15, .ref a16, .int (nI (mN T)), .ref a18, .ref a19, .ref a20, .ref a21, .ref a22, .ref a23, .ref a24, .ref a25, .int (nI (mN E)), .ref a27, .ref a28, .ref a29, .ref a30, .ref a31, .ref a32, .ref a33, .ref a34, .int i35])), (a31, .inl (cI, 4, .inl zz)), (a32, .inl (cI, 4, .inl zl)), (a33, .inl (cI, 240, .inl zs))] sz)) (kQi D (fun (r : Int32) (u : Int32 × (Nat → Int32)) => r = sp_put rl len x1 x2 ∧ u.1 = nf_put rl len x1 x2 ∧ u.2 = (bif ok_put rl len x1 x2 then upd zs (60 * tn x1 + tn x2) (cutL rl x3) else zs)) (fun u : Int32 × (Nat → Int32) => [(m0, .inr (9, [.int u.1, .ref a1, .int (nI (cSp C)), .ref a3, .int (nI (cLa C)), .ref a5, .ref a6, .ref a7, .int (nI (cAg C)), .int (-9 : Int32), .int i10, .int i11, .int i12, .ref a13, .ref a14, .ref a15, .ref a16, .int (nI (mN T)), .ref a18, .ref a19, .ref a20, .ref a21, .ref a22, .ref a23, .ref a24, .ref a25, .int (nI (mN E)), .ref a27, .ref a28, .ref a29, .ref a30, .ref a31, .ref a32, .ref a33, .ref a34, .int i35])), (a31, .inl (cI, 4, .inl zz)), (a32, .inl (cI, 4, .inl zl)), (a33, .inl (cI, 240, .inl u.2))]) (va_A [(m0, .inr (9, [.int i0, .ref a1, .int (nI (cSp C)), .ref a3, .int (nI (cLa C)), .ref a5, .ref a6, .ref a7, .int (nI (cAg C)), .int (-9 : Int32), .int i10, .int i11, .int i12, .ref a13, .ref a14, .ref a15, .ref a16, .int (nI (mN T)), .ref a18, .ref a19, .ref a20, .ref a21, .ref a22, .ref a23, .ref a24, .ref a25, .int (nI (mN E)), .ref a27, .ref a28, .ref a29, .ref a30, .ref a31, .ref a32, .ref a33, .ref a34, .int i35])), (a31, .inl (cI, 4, .inl zz)), (a32, .inl (cI, 4, .inl zl)), (a33, .inl (cI, 240, .inl zs))] sz)) 0 0 (va_A [(m0, .inr (9, [.int i0, .ref a1, .int (nI (cSp C)), .ref a3, .int (nI (cLa C)), .ref a5, .ref a6, .ref a7, .int (nI (cAg C)), .int (-9 : Int32), .int i10, .int i11, .int i12, .ref a13, .ref a14, .ref a15, .ref a16, .int (nI (mN T)), .ref a18, .ref a19, .ref a20, .ref a21, .ref a22, .ref a23, .ref a24, .ref a25, .int (nI (mN E)), .ref a27, .ref a28, .ref a29, .ref a30, .ref a31, .ref a32, .ref a33, .ref a34, .int i35])), (a31, .inl (cI, 4, .inl zz)), (a32, .inl (cI, 4, .inl zl)), (a33, .inl (cI, 240, .inl zs))] sz) := by
  refine Met.ofW (cc := cX10_put) (maxL := 4) (ret := (some .int)) (by decide) rfl ?_
  intro pP eE sS mM args below meth cC s₁ B hml hv
  obtain ⟨rfl, hsz, hP, hK, hD0⟩ := hv
  have hx := B.exec
  have hb := B.bytes
  have hr := B.returns
  have hts := atoms_spec (ws := wsX10_put) B.pre
  have hown : sS.vm.findClass RX10 = some mM.cls := findClass_of_methodNamed B.named
  have hlocks := B.notSynchronized
  subst hsz
  have hD := hD0.self (sz := sS.heap.size)
  generalize hAe : va_A [(m0, .inr (9, [.int i0, .ref a1, .int (nI (cSp C)), .ref a3, .int (nI (cLa C)), .ref a5, .ref a6, .ref a7, .int (nI (cAg C)), .int (-9 : Int32), .int i10, .int i11, .int i12, .ref a13, .ref a14, .ref a15, .ref a16, .int (nI (mN T)), .ref a18, .ref a19, .ref a20, .ref a21, .ref a22, .ref a23, .ref a24, .ref a25, .int (nI (mN E)), .ref a27, .ref a28, .ref a29, .ref a30, .ref a31, .ref a32, .ref a33, .ref a34, .int i35])), (a31, .inl (cI, 4, .inl zz)), (a32, .inl (cI, 4, .inl zl)), (a33, .inl (cI, 240, .inl zs))] sS.heap.size = A at hD ⊢
  have hA : ∀ q : Nat, sS.heap.size ≤ q → A q := fun q h => by rw [← hAe]; exact Or.inr h
  have hS : va_S A sS.heap sS.heap [] := va_S.rf
  have hP : va_P D vwCl [(m0, .inr (9, [.int i0, .ref a1, .int (nI (cSp C)), .ref a3, .int (nI (cLa C)), .ref a5, .ref a6, .ref a7, .int (nI (cAg C)), .int (-9 : Int32), .int i10, .int i11, .int i12, .ref a13, .ref a14, .ref a15, .ref a16, .int (nI (mN T)), .ref a18, .ref a19, .ref a20, .ref a21, .ref a22, .ref a23, .ref a24, .ref a25, .int (nI (mN E)), .ref a27, .ref a28, .ref a29, .ref a30, .ref a31, .ref a32, .ref a33, .ref a34, .int i35])), (a31, .inl (cI, 4, .inl zz)), (a32, .inl (cI, 4, .inl zl)), (a33, .inl (cI, 240, .inl zs))] sS.heap := hP
  have hD : va_D A [(m0, .inr (9, [.int i0, .ref a1, .int (nI (cSp C)), .ref a3, .int (nI (cLa C)), .ref a5, .ref a6, .ref a7, .int (nI (cAg C)), .int (-9 : Int32), .int i10, .int i11, .int i12, .ref a13, .ref a14, .ref a15, .ref a16, .int (nI (mN T)), .ref a18, .ref a19, .ref a20, .ref a21, .ref a22, .ref a23, .ref a24, .ref a25, .int (nI (mN E)), .ref a27, .ref a28, .ref a29, .ref a30, .ref a31, .ref a32, .ref a33, .ref a34, .int i35])), (a31, .inl (cI, 4, .inl zz)), (a32, .inl (cI, 4, .inl zl)), (a33, .inl (cI, 240, .inl zs))] := hD
  have hf_76 := hts (.fieldLink RX10 76 "OldLampsModel" "sheetLane" "[I") (List.mem_of_getElem? (i := 2) rfl)
  have hf_79 := hts (.fieldLink RX10 79 "OldLampsModel" "sheet" "[I") (List.mem_of_getElem? (i := 1) rfl)
  have hwX10 : ∀ w ∈ wsX100, w ∈ wsX10_put := fun _ h => List.mem_cons_of_mem _ (List.mem_append_right _ h)
  have hl := lv_entry ([.ref m0, .int x1, .int x2, .int x3]) (n := 4) (Nat.le_of_ble_eq_true rfl)
  rw [lg_entry_eq]
  generalize (lg_sl ([.ref m0, .int x1, .int x2, .int x3]) ++ List.replicate (4 - (lg_sl ([.ref m0, .int x1, .int x2, .int x3])).length) Slot.unset).toArray = ls at hl ⊢
  have hl : lv_has ls 4 [(0, .ref m0), (1, .int x1), (2, .int x2), (3, .int x3)] := hl
  obtain ⟨QQ, hQQ⟩ : ∃ QQ : State → Prop, QQ = MQ below (kQi D (fun (r : Int32) (u : Int32 × (Nat → Int32)) => r = sp_put rl len x1 x2 ∧ u.1 = nf_put rl len x1 x2 ∧ u.2 = (bif ok_put rl len x1 x2 then upd zs (60 * tn x1 + tn x2) (cutL rl x3) else zs)) (fun u : Int32 × (Nat → Int32) => [(m0, .inr (9, [.int u.1, .ref a1, .int (nI (cSp C)), .ref a3, .int (nI (cLa C)), .ref a5, .ref a6, .ref a7, .int (nI (cAg C)), .int (-9 : Int32), .int i10, .int i11, .int i12, .ref a13, .ref a14, .ref a15, .ref a16, .int (nI (mN T)), .ref a18, .ref a19, .ref a20, .ref a21, .ref a22, .ref a23, .ref a24, .ref a25, .int (nI (mN E)), .ref a27, .ref a28, .ref a29, .ref a30, .ref a31, .ref a32, .ref a33, .ref a34, .int i35])), (a31, .inl (cI, 4, .inl zz)), (a32, .inl (cI, 4, .inl zl)), (a33, .inl (cI, 240, .inl u.2))]) A) ([.ref m0, .int x1, .int x2, .int x3]).toArray sS 0 0 A := ⟨_, rfl⟩
  refine kk_QQ hQQ.symm ?_
  obtain ⟨hX1, hX2, hX3, hX4⟩ := okX_le hX
  refine lv_iload_n hx hb dX10_put_0 rfl (lv_at hl 1 rfl) ?_
  refine vp_callSi (W.runS (As := [.int x1]) (rest := []) ⟨hx, hb, hml, hown, hts⟩ (c_X10_noSheet lL D cI cS x1) (va_cwS 1 hts gX10_put_X10_noSheet rfl rfl rfl cd_X10_noSheet ⟨Nat.le_of_ble_eq_true rfl, Nat.le_of_ble_eq_true rfl⟩) ⟨kBp_blind, fun U hU hW => ⟨rfl, by rw [hU]; exact hP.sub [] rfl, va_K.moved hW.alike hK⟩⟩ rfl rfl hl.1 rfl (lv_room (Nat.le_of_ble_eq_true rfl)) dX10_put_1 ⟨Nat.le_of_ble_eq_true rfl, Nat.le_of_ble_eq_true rfl⟩) (fun r_1 hw_1 => ?_)
  obtain rfl : r_1 = kb (!inB x1 4) := hw_1
  refine kk_ifn_eq (tgt := 13) hx hb dX10_put_4 (by decide) (fun hb_2 => ?_) (fun hb_2 => ?_)
  · skip
    obtain ⟨x1N, hx1N, rfl⟩ := inB_t hb_2
    have t_x1 := nI_clamp (show x1N < 2 ^ 31 by omega)
    have hz_x1 := hz x1N rfl (by omega)
    obtain ⟨hzc_x1, hzl_x1, hzs_x1⟩ := hz_x1
    rcases hzc_x1 with ⟨hr_x1, hz1_x1, hz2_x1⟩ | ⟨hr_x1, hz1_x1, hz2_x1⟩
    · skip
      have hrd_x1 : decide (rl = (-1 : Int32)) = true := decide_eq_true hr_x1
      refine lv_aload_n hx hb dX10_put_13 rfl (lv_at hl 0 rfl) ?_
      refine lv_iload_n hx hb dX10_put_14 rfl (lv_at hl 1 rfl) ?_
      refine lv_iload_n hx hb dX10_put_15 rfl (lv_at hl 2 rfl) ?_
      have o_3 : x1N < 4 := by omega
      have o_4 : zz x1N = (-1 : Int32) := by assumption
      refine vp_callSi (W.runV (As := [.int (nI x1N), .int x2]) (rest := []) ⟨hx, hb, hml, hown, hts⟩ (c_X10_noCell_null lL D cI cS m0 a1 a3 a5 a6 a7 a13 a14 a15 a16 a18 a19 a20 a21 a22 a23 a24 a25 a27 a28 a29 a30 a31 a32 a33 a34 i0 (nI (cSp C)) (nI (cLa C)) (nI (cAg C)) (-9 : Int32) i10 i11 i12 (nI (mN T)) (nI (mN E)) i35 zz x1N x2 o_3 o_4) (cwV 2 hts gX10_put_X10_noCell rfl rfl rfl cd_X10_noCell ⟨Nat.le_of_ble_eq_true rfl, Nat.le_of_ble_eq_true rfl⟩) ⟨kBp_blind, va_recv hK hP (ci := 9) (q0 := 0) rfl rfl, fun U hU hW => ⟨rfl, by rw [hU]; exact hP.sub [0, 1] rfl, va_K.moved hW.alike hK⟩⟩ rfl rfl hl.1 rfl (lv_room (Nat.le_of_ble_eq_true rfl)) dX10_put_16 ⟨Nat.le_of_ble_eq_true rfl, Nat.le_of_ble_eq_true rfl⟩) (fun r_5 hw_5 => ?_)
      obtain rfl : r_5 = nI 1 := hw_5
      refine kk_if_le (x := 1) (tgt := 33) hx hb dX10_put_19 (by decide) (by decide) (fun h => absurd h (by decide)) (fun h => ?_)
      refine lv_aload_n hx hb dX10_put_22 rfl (lv_at hl 0 rfl) ?_
      refine lv_aload_n hx hb dX10_put_23 rfl (lv_at hl 0 rfl) ?_
      refine lv_iload_n hx hb dX10_put_24 rfl (lv_at hl 1 rfl) ?_
      refine lv_iload_n hx hb dX10_put_25 rfl (lv_at hl 2 rfl) ?_
      have o_6 : x1N < 4 := by omega
      have o_7 : zz x1N = (-1 : Int32) := by assumption
      refine vp_callSi (W.runV (As := [.int (nI x1N), .int x2]) (rest := [.ref m0]) ⟨hx, hb, hml, hown, hts⟩ (c_X10_noCell_null lL D cI cS m0 a1 a3 a5 a6 a7 a13 a14 a15 a16 a18 a19 a20 a21 a22 a23 a24 a25 a27 a28 a29 a30 a31 a32 a33 a34 i0 (nI (cSp C)) (nI (cLa C)) (nI (cAg C)) (-9 : Int32) i10 i11 i12 (nI (mN T)) (nI (mN E)) i35 zz x1N x2 o_6 o_7) (cwV 2 hts gX10_put_X10_noCell rfl rfl rfl cd_X10_noCell ⟨Nat.le_of_ble_eq_true rfl, Nat.le_of_ble_eq_true rfl⟩) ⟨kBp_blind, va_recv hK hP (ci := 9) (q0 := 0) rfl rfl, fun U hU hW => ⟨rfl, by rw [hU]; exact hP.sub [0, 1] rfl, va_K.moved hW.alike hK⟩⟩ rfl rfl hl.1 rfl (lv_room (Nat.le_of_ble_eq_true rfl)) dX10_put_26 ⟨Nat.le_of_ble_eq_true rfl, Nat.le_of_ble_eq_true rfl⟩) (fun r_8 hw_8 => ?_)
      obtain rfl : r_8 = nI 1 := hw_8
      have hF := va_free (wc := [(m0, .inr (9, [.int i0, .ref a1, .int (nI (cSp C)), .ref a3, .int (nI (cLa C)), .ref a5, .ref a6, .ref a7, .int (nI (cAg C)), .int (-9 : Int32), .int i10, .int i11, .int i12, .ref a13, .ref a14, .ref a15, .ref a16, .int (nI (mN T)), .ref a18, .ref a19, .ref a20, .ref a21, .ref a22, .ref a23, .ref a24, .ref a25, .int (nI (mN E)), .ref a27, .ref a28, .ref a29, .ref a30, .ref a31, .ref a32, .ref a33, .ref a34, .int i35]))]) hD hS hA [0] rfl
      refine va_calli (va_runV (As := [.int (nI 1)]) (rest := []) ⟨hx, hb, hml, hown, hts⟩ (c_X10_failed lL D cI cS _ m0 a1 a3 a5 a6 a7 a13 a14 a15 a16 a18 a19 a20 a21 a22 a23 a24 a25 a27 a28 a29 a30 a31 a32 a33 a34 i0 (nI (cSp C)) (nI (cLa C)) (nI (cAg C)) (-9 : Int32) i10 i11 i12 (nI (mN T)) (nI (mN E)) i35 (nI 1)) (cwV 1 hts gX10_put_X10_failed rfl rfl rfl cd_X10_failed ⟨Nat.le_of_ble_eq_true rfl, Nat.le_of_ble_eq_true rfl⟩) ⟨kB_blind, va_recv hK hP (ci := 9) (q0 := 0) rfl rfl, fun U hU hW => ⟨rfl, by rw [hU], by rw [hU]; exact hP.sub [0] rfl, va_K.moved hW.alike hK, (hD.sub [0] (by decide) rfl).weaken (fun _ _ _ _ => trivial)⟩⟩ rfl rfl hl.1 rfl (lv_room (Nat.le_of_ble_eq_true rfl)) dX10_put_29 ⟨Nat.le_of_ble_eq_true rfl, Nat.le_of_ble_eq_true rfl⟩) hS (fun q _ h => hF q h) hF (fun r_9 u_9 t H1 locs ht hvm hw_9 hB hz1 hk1 hS => ?_)
      obtain ⟨hP, hD⟩ := kk_join2 (wc := [(m0, .inr (9, [.int i0, .ref a1, .int (nI (cSp C)), .ref a3, .int (nI (cLa C)), .ref a5, .ref a6, .ref a7, .int (nI (cAg C)), .int (-9 : Int32), .int i10, .int i11, .int i12, .ref a13, .ref a14, .ref a15, .ref a16, .int (nI (mN T)), .ref a18, .ref a19, .ref a20, .ref a21, .ref a22, .ref a23, .ref a24, .ref a25, .int (nI (mN E)), .ref a27, .ref a28, .ref a29, .ref a30, .ref a31, .ref a32, .ref a33, .ref a34, .int i35]))]) (w1 := [(m0, .inr (9, [.int (nI 1), .ref a1, .int (nI (cSp C)), .ref a3, .int (nI (cLa C)), .ref a5, .ref a6, .ref a7, .int (nI (cAg C)), .int (-9 : Int32), .int i10, .int i11, .int i12, .ref a13, .ref a14, .ref a15, .ref a16, .int (nI (mN T)), .ref a18, .ref a19, .ref a20, .ref a21, .ref a22, .ref a23, .ref a24, .ref a25, .int (nI (mN E)), .ref a27, .ref a28, .ref a29, .ref a30, .ref a31, .ref a32, .ref a33, .ref a34, .int i35]))]) (ws' := [(m0, .inr (9, [.int (nI 1), .ref a1, .int (nI (cSp C)), .ref a3, .int (nI (cLa C)), .ref a5, .ref a6, .ref a7, .int (nI (cAg C)), .int (-9 : Int32), .int i10, .int i11, .int i12, .ref a13, .ref a14, .ref a15, .ref a16, .int (nI (mN T)), .ref a18, .ref a19, .ref a20, .ref a21, .ref a22, .ref a23, .ref a24, .ref a25, .int (nI (mN E)), .ref a27, .ref a28, .ref a29, .ref a30, .ref a31, .ref a32, .ref a33, .ref a34, .int i35])), (a31, .inl (cI, 4, .inl zz)), (a32, .inl (cI, 4, .inl zl)), (a33, .inl (cI, 240, .inl zs))]) (wr := [(a31, .inl (cI, 4, .inl zz)), (a32, .inl (cI, 4, .inl zl)), (a33, .inl (cI, 240, .inl zs))]) (H1 := H1) hP hD [0] [1, 2, 3] rfl rfl rfl rfl 4 rfl (by decide) [m0, a31, a32, a33] rfl rfl hk1 (by rw [← ht]; exact hB)
      have hw_9 : r_9 = (-10 : Int32) - (nI 1) ∧ True := hw_9
      clear hF hB hk1 hz1 hvm
      clear ht
      generalize H1 = H at hP hS ⊢
      obtain ⟨rfl, hw_9⟩ := hw_9
      have hq : ((-10 : Int32) - (nI 1)) = sp_put rl len (nI x1N) x2 ∧ (nI 1) = nf_put rl len (nI x1N) x2 ∧ zs = (bif ok_put rl len (nI x1N) x2 then upd zs (60 * tn (nI x1N) + tn x2) (cutL rl x3) else zs) := by
        have hok : ok_put rl len (nI x1N) x2 = false := by simp only [ok_put, hb_2, hrd_x1, t_x1, cond_true, cond_false]
        rw [hok]
        exact ⟨by simp only [sp_put, hb_2, hrd_x1, t_x1, cond_true, cond_false], by simp only [nf_put, hb_2, hrd_x1, t_x1, cond_true, cond_false], rfl⟩
      refine kk_QQ hQQ ?_
      exact W.iret (v := (-10 : Int32) - (nI 1)) hx hb hr (fun t ht hW => ⟨⟨(-10 : Int32) - (nI 1), (nI 1, zs), rfl, hq, by show va_P D vwCl _ t.heap; rw [ht]; exact hP⟩, hS.F ht⟩) hS.2.2 dX10_put_32
    · skip
      have hrd_x1 : decide (rl = (-1 : Int32)) = false := decide_eq_false hr_x1
      refine lv_aload_n hx hb dX10_put_13 rfl (lv_at hl 0 rfl) ?_
      rcases (show inB x2 len = true ∨ inB x2 len = false by cases inB x2 len <;> simp) with hbi | hbi
      · skip
        have hbc : hasC len x2 (nI 1) = true := by rw [hasC_1 hzl_x1]; exact hbi
        have hb_10 := hbi
        obtain ⟨x2N, hx2N, rfl⟩ := inB_t hb_10
        have t_x2 := nI_clamp (show x2N < 2 ^ 31 by omega)
        refine lv_iload_n hx hb dX10_put_14 rfl (lv_at hl 1 rfl) ?_
        refine lv_iload_n hx hb dX10_put_15 rfl (lv_at hl 2 rfl) ?_
        have o_11 : x1N < 4 := by omega
        have o_12 : len ≤ 60 := by omega
        have o_13 : zz x1N = nI len := by assumption
        have o_14 : x2N < len := by omega
        refine vp_callSi (W.runV (As := [.int (nI x1N), .int (nI x2N)]) (rest := []) ⟨hx, hb, hml, hown, hts⟩ (c_X10_noCell_in lL D cI cS m0 a1 a3 a5 a6 a7 a13 a14 a15 a16 a18 a19 a20 a21 a22 a23 a24 a25 a27 a28 a29 a30 a31 a32 a33 a34 i0 (nI (cSp C)) (nI (cLa C)) (nI (cAg C)) (-9 : Int32) i10 i11 i12 (nI (mN T)) (nI (mN E)) i35 zz x1N x2N len o_11 o_12 o_13 o_14) (cwV 2 hts gX10_put_X10_noCell rfl rfl rfl cd_X10_noCell ⟨Nat.le_of_ble_eq_true rfl, Nat.le_of_ble_eq_true rfl⟩) ⟨kBp_blind, va_recv hK hP (ci := 9) (q0 := 0) rfl rfl, fun U hU hW => ⟨rfl, by rw [hU]; exact hP.sub [0, 1] rfl, va_K.moved hW.alike hK⟩⟩ rfl rfl hl.1 rfl (lv_room (Nat.le_of_ble_eq_true rfl)) dX10_put_16 ⟨Nat.le_of_ble_eq_true rfl, Nat.le_of_ble_eq_true rfl⟩) (fun r_15 hw_15 => ?_)
        obtain rfl : r_15 = nI 0 := hw_15
        refine kk_if_le (x := 0) (tgt := 33) hx hb dX10_put_19 (by decide) (by decide) (fun h => ?_) (fun h => absurd h (by decide))
        refine lv_aload_n hx hb dX10_put_33 rfl (lv_at hl 0 rfl) ?_
        refine va_get (D := D) (ci := 9) (v := .ref a33) (C := RX10) (T := TX10) (N := 36) hx hb hts hwX10 hown hK hP 0 rfl rfl 33 (by decide) hf_79 (fun _ h9 => h9) rfl dX10_put_34 ?_
        refine lv_bipush (v := nI 60) hx hb dX10_put_37 (by decide +kernel) ?_
        refine lv_iload_n hx hb dX10_put_39 rfl (lv_at hl 1 rfl) ?_
        refine kk_imul hx hb dX10_put_40 ?_
        refine lv_iload_n hx hb dX10_put_41 rfl (lv_at hl 2 rfl) ?_
        refine kk_iadd hx hb dX10_put_42 ?_
        refine lv_aload_n hx hb dX10_put_43 rfl (lv_at hl 0 rfl) ?_
        refine va_get (D := D) (ci := 9) (v := .ref a32) (C := RX10) (T := TX10) (N := 36) hx hb hts hwX10 hown hK hP 0 rfl rfl 32 (by decide) hf_76 (fun _ h9 => h9) rfl dX10_put_44 ?_
        refine lv_iload_n hx hb dX10_put_47 rfl (lv_at hl 1 rfl) ?_
        refine kk_iald hx hb hK hP 2 rfl rfl (i := x1N) (by omega) (by decide) dX10_put_48 ?_
        refine kk_top (y := rl) hz2_x1 ?_
        refine lv_if_ne (tgt := 57) hx hb dX10_put_49 (by decide) (fun c_16 => ?_) (fun c_16 => ?_)
        · skip
          refine lv_aload_n hx hb dX10_put_57 rfl (lv_at hl 0 rfl) ?_
          refine va_get (D := D) (ci := 9) (v := .ref a32) (C := RX10) (T := TX10) (N := 36) hx hb hts hwX10 hown hK hP 0 rfl rfl 32 (by decide) hf_76 (fun _ h9 => h9) rfl dX10_put_58 ?_
          refine lv_iload_n hx hb dX10_put_61 rfl (lv_at hl 1 rfl) ?_
          refine kk_iald hx hb hK hP 2 rfl rfl (i := x1N) (by omega) (by decide) dX10_put_62 ?_
          refine kk_top (y := rl) hz2_x1 ?_
          refine lv_iconst (v := nI 1) hx hb dX10_put_63 (by decide +kernel) ?_
          refine lv_icmp_ne (tgt := 72) hx hb dX10_put_64 (by decide) (fun c_17 => ?_) (fun c_17 => ?_)
          · skip
            refine lv_iload_n hx hb dX10_put_72 rfl (lv_at hl 3 rfl) ?_
            refine kk_iast hx hb hK hP hD hS 3 rfl rfl (i := (60 * x1N) + x2N) (by omega) (by decide) dX10_put_73 (fun H locs hP hD hS => ?_)
            have hP : va_P D vwCl [(m0, .inr (9, [.int i0, .ref a1, .int (nI (cSp C)), .ref a3, .int (nI (cLa C)), .ref a5, .ref a6, .ref a7, .int (nI (cAg C)), .int (-9 : Int32), .int i10, .int i11, .int i12, .ref a13, .ref a14, .ref a15, .ref a16, .int (nI (mN T)), .ref a18, .ref a19, .ref a20, .ref a21, .ref a22, .ref a23, .ref a24, .ref a25, .int (nI (mN E)), .ref a27, .ref a28, .ref a29, .ref a30, .ref a31, .ref a32, .ref a33, .ref a34, .int i35])), (a31, .inl (cI, 4, .inl zz)), (a32, .inl (cI, 4, .inl zl)), (a33, .inl (cI, 240, .inl (upd zs ((60 * x1N) + x2N) x3)))] H := hP
            have hD : va_D A [(m0, .inr (9, [.int i0, .ref a1, .int (nI (cSp C)), .ref a3, .int (nI (cLa C)), .ref a5, .ref a6, .ref a7, .int (nI (cAg C)), .int (-9 : Int32), .int i10, .int i11, .int i12, .ref a13, .ref a14, .ref a15, .ref a16, .int (nI (mN T)), .ref a18, .ref a19, .ref a20, .ref a21, .ref a22, .ref a23, .ref a24, .ref a25, .int (nI (mN E)), .ref a27, .ref a28, .ref a29, .ref a30, .ref a31, .ref a32, .ref a33, .ref a34, .int i35])), (a31, .inl (cI, 4, .inl zz)), (a32, .inl (cI, 4, .inl zl)), (a33, .inl (cI, 240, .inl (upd zs ((60 * x1N) + x2N) x3)))] := hD
            refine lv_aload_n hx hb dX10_put_74 rfl (lv_at hl 0 rfl) ?_
            refine lv_iconst (v := nI 1) hx hb dX10_put_75 (by decide +kernel) ?_
            have hF := va_free (wc := [(m0, .inr (9, [.int i0, .ref a1, .int (nI (cSp C)), .ref a3, .int (nI (cLa C)), .ref a5, .ref a6, .ref a7, .int (nI (cAg C)), .int (-9 : Int32), .int i10, .int i11, .int i12, .ref a13, .ref a14, .ref a15, .ref a16, .int (nI (mN T)), .ref a18, .ref a19, .ref a20, .ref a21, .ref a22, .ref a23, .ref a24, .ref a25, .int (nI (mN E)), .ref a27, .ref a28, .ref a29, .ref a30, .ref a31, .ref a32, .ref a33, .ref a34, .int i35]))]) hD hS hA [0] rfl
            refine va_calli (va_runV (As := [.int (nI 1)]) (rest := []) ⟨hx, hb, hml, hown, hts⟩ (c_X10_refused lL D cI cS _ m0 a1 a3 a5 a6 a7 a13 a14 a15 a16 a18 a19 a20 a21 a22 a23 a24 a25 a27 a28 a29 a30 a31 a32 a33 a34 i0 (nI (cSp C)) (nI (cLa C)) (nI (cAg C)) (-9 : Int32) i10 i11 i12 (nI (mN T)) (nI (mN E)) i35 (nI 1)) (cwV 1 hts gX10_put_X10_refused rfl rfl rfl cd_X10_refused ⟨Nat.le_of_ble_eq_true rfl, Nat.le_of_ble_eq_true rfl⟩) ⟨kB_blind, va_recv hK hP (ci := 9) (q0 := 0) rfl rfl, fun U hU hW => ⟨rfl, by rw [hU], by rw [hU]; exact hP.sub [0] rfl, va_K.moved hW.alike hK, (hD.sub [0] (by decide) rfl).weaken (fun _ _ _ _ => trivial)⟩⟩ rfl rfl hl.1 rfl (lv_room (Nat.le_of_ble_eq_true rfl)) dX10_put_76 ⟨Nat.le_of_ble_eq_true rfl, Nat.le_of_ble_eq_true rfl⟩) hS (fun q _ h => hF q h) hF (fun r_18 u_18 t H1 locs ht hvm hw_18 hB hz1 hk1 hS => ?_)
            obtain ⟨hP, hD⟩ := kk_join2 (wc := [(m0, .inr (9, [.int i0, .ref a1, .int (nI (cSp C)), .ref a3, .int (nI (cLa C)), .ref a5, .ref a6, .ref a7, .int (nI (cAg C)), .int (-9 : Int32), .int i10, .int i11, .int i12, .ref a13, .ref a14, .ref a15, .ref a16, .int (nI (mN T)), .ref a18, .ref a19, .ref a20, .ref a21, .ref a22, .ref a23, .ref a24, .ref a25, .int (nI (mN E)), .ref a27, .ref a28, .ref a29, .ref a30, .ref a31, .ref a32, .ref a33, .ref a34, .int i35]))]) (w1 := [(m0, .inr (9, [.int (nI 0), .ref a1, .int (nI (cSp C)), .ref a3, .int (nI (cLa C)), .ref a5, .ref a6, .ref a7, .int (nI (cAg C)), .int (-9 : Int32), .int i10, .int i11, .int i12, .ref a13, .ref a14, .ref a15, .ref a16, .int (nI (mN T)), .ref a18, .ref a19, .ref a20, .ref a21, .ref a22, .ref a23, .ref a24, .ref a25, .int (nI (mN E)), .ref a27, .ref a28, .ref a29, .ref a30, .ref a31, .ref a32, .ref a33, .ref a34, .int i35]))]) (ws' := [(m0, .inr (9, [.int (nI 0), .ref a1, .int (nI (cSp C)), .ref a3, .int (nI (cLa C)), .ref a5, .ref a6, .ref a7, .int (nI (cAg C)), .int (-9 : Int32), .int i10, .int i11, .int i12, .ref a13, .ref a14, .ref a15, .ref a16, .int (nI (mN T)), .ref a18, .ref a19, .ref a20, .ref a21, .ref a22, .ref a23, .ref a24, .ref a25, .int (nI (mN E)), .ref a27, .ref a28, .ref a29, .ref a30, .ref a31, .ref a32, .ref a33, .ref a34, .int i35])), (a31, .inl (cI, 4, .inl zz)), (a32, .inl (cI, 4, .inl zl)), (a33, .inl (cI, 240, .inl (upd zs ((60 * x1N) + x2N) x3)))]) (wr := [(a31, .inl (cI, 4, .inl zz)), (a32, .inl (cI, 4, .inl zl)), (a33, .inl (cI, 240, .inl (upd zs ((60 * x1N) + x2N) x3)))]) (H1 := H1) hP hD [0] [1, 2, 3] rfl rfl rfl rfl 4 rfl (by decide) [m0, a31, a32, a33] rfl rfl hk1 (by rw [← ht]; exact hB)
            have hw_18 : r_18 = (nI 1) ∧ True := hw_18
            clear hF hB hk1 hz1 hvm
            clear ht
            generalize H1 = H at hP hS ⊢
            obtain ⟨rfl, hw_18⟩ := hw_18
            have hq : (nI 1) = sp_put rl len (nI x1N) (nI x2N) ∧ (nI 0) = nf_put rl len (nI x1N) (nI x2N) ∧ (upd zs ((60 * x1N) + x2N) x3) = (bif ok_put rl len (nI x1N) (nI x2N) then upd zs (60 * tn (nI x1N) + tn (nI x2N)) (cutL rl x3) else zs) := by
              have hok : ok_put rl len (nI x1N) (nI x2N) = true := by simp only [ok_put, hb_2, hrd_x1, hbc, t_x1, t_x2, cond_true, cond_false]
              rw [hok]
              refine ⟨by simp only [sp_put, hb_2, hrd_x1, hbc, t_x1, t_x2, cond_true, cond_false], by simp only [nf_put, hb_2, hrd_x1, hbc, t_x1, t_x2, cond_true, cond_false], ?_⟩
              simp only [cond_true, t_x1, t_x2]
              unfold cutL
              rw [if_neg c_16, if_neg c_17]
            refine kk_QQ hQQ ?_
            exact W.iret (v := (nI 1)) hx hb hr (fun t ht hW => ⟨⟨(nI 1), (nI 0, upd zs ((60 * x1N) + x2N) x3), rfl, hq, by show va_P D vwCl _ t.heap; rw [ht]; exact hP⟩, hS.F ht⟩) hS.2.2 dX10_put_79
          · skip
            refine lv_iload_n hx hb dX10_put_67 rfl (lv_at hl 3 rfl) ?_
            refine lv_i2s (v := x3.toInt16.toInt32) hx hb dX10_put_68 rfl ?_
            refine lv_goto (tgt := 73) hx hb dX10_put_69 (by decide) ?_
            refine kk_iast hx hb hK hP hD hS 3 rfl rfl (i := (60 * x1N) + x2N) (by omega) (by decide) dX10_put_73 (fun H locs hP hD hS => ?_)
            have hP : va_P D vwCl [(m0, .inr (9, [.int i0, .ref a1, .int (nI (cSp C)), .ref a3, .int (nI (cLa C)), .ref a5, .ref a6, .ref a7, .int (nI (cAg C)), .int (-9 : Int32), .int i10, .int i11, .int i12, .ref a13, .ref a14, .ref a15, .ref a16, .int (nI (mN T)), .ref a18, .ref a19, .ref a20, .ref a21, .ref a22, .ref a23, .ref a24, .ref a25, .int (nI (mN E)), .ref a27, .ref a28, .ref a29, .ref a30, .ref a31, .ref a32, .ref a33, .ref a34, .int i35])), (a31, .inl (cI, 4, .inl zz)), (a32, .inl (cI, 4, .inl zl)), (a33, .inl (cI, 240, .inl (upd zs ((60 * x1N) + x2N) x3.toInt16.toInt32)))] H := hP
            have hD : va_D A [(m0, .inr (9, [.int i0, .ref a1, .int (nI (cSp C)), .ref a3, .int (nI (cLa C)), .ref a5, .ref a6, .ref a7, .int (nI (cAg C)), .int (-9 : Int32), .int i10, .int i11, .int i12, .ref a13, .ref a14, .ref a15, .ref a16, .int (nI (mN T)), .ref a18, .ref a19, .ref a20, .ref a21, .ref a22, .ref a23, .ref a24, .ref a25, .int (nI (mN E)), .ref a27, .ref a28, .ref a29, .ref a30, .ref a31, .ref a32, .ref a33, .ref a34, .int i35])), (a31, .inl (cI, 4, .inl zz)), (a32, .inl (cI, 4, .inl zl)), (a33, .inl (cI, 240, .inl (upd zs ((60 * x1N) + x2N) x3.toInt16.toInt32)))] := hD
            refine lv_aload_n hx hb dX10_put_74 rfl (lv_at hl 0 rfl) ?_
            refine lv_iconst (v := nI 1) hx hb dX10_put_75 (by decide +kernel) ?_
            have hF := va_free (wc := [(m0, .inr (9, [.int i0, .ref a1, .int (nI (cSp C)), .ref a3, .int (nI (cLa C)), .ref a5, .ref a6, .ref a7, .int (nI (cAg C)), .int (-9 : Int32), .int i10, .int i11, .int i12, .ref a13, .ref a14, .ref a15, .ref a16, .int (nI (mN T)), .ref a18, .ref a19, .ref a20, .ref a21, .ref a22, .ref a23, .ref a24, .ref a25, .int (nI (mN E)), .ref a27, .ref a28, .ref a29, .ref a30, .ref a31, .ref a32, .ref a33, .ref a34, .int i35]))]) hD hS hA [0] rfl
            refine va_calli (va_runV (As := [.int (nI 1)]) (rest := []) ⟨hx, hb, hml, hown, hts⟩ (c_X10_refused lL D cI cS _ m0 a1 a3 a5 a6 a7 a13 a14 a15 a16 a18 a19 a20 a21 a22 a23 a24 a25 a27 a28 a29 a30 a31 a32 a33 a34 i0 (nI (cSp C)) (nI (cLa C)) (nI (cAg C)) (-9 : Int32) i10 i11 i12 (nI (mN T)) (nI (mN E)) i35 (nI 1)) (cwV 1 hts gX10_put_X10_refused rfl rfl rfl cd_X10_refused ⟨Nat.le_of_ble_eq_true rfl, Nat.le_of_ble_eq_true rfl⟩) ⟨kB_blind, va_recv hK hP (ci := 9) (q0 := 0) rfl rfl, fun U hU hW => ⟨rfl, by rw [hU], by rw [hU]; exact hP.sub [0] rfl, va_K.moved hW.alike hK, (hD.sub [0] (by decide) rfl).weaken (fun _ _ _ _ => trivial)⟩⟩ rfl rfl hl.1 rfl (lv_room (Nat.le_of_ble_eq_true rfl)) dX10_put_76 ⟨Nat.le_of_ble_eq_true rfl, Nat.le_of_ble_eq_true rfl⟩) hS (fun q _ h => hF q h) hF (fun r_19 u_19 t H1 locs ht hvm hw_19 hB hz1 hk1 hS => ?_)
            obtain ⟨hP, hD⟩ := kk_join2 (wc := [(m0, .inr (9, [.int i0, .ref a1, .int (nI (cSp C)), .ref a3, .int (nI (cLa C)), .ref a5, .ref a6, .ref a7, .int (nI (cAg C)), .int (-9 : Int32), .int i10, .int i11, .int i12, .ref a13, .ref a14, .ref a15, .ref a16, .int (nI (mN T)), .ref a18, .ref a19, .ref a20, .ref a21, .ref a22, .ref a23, .ref a24, .ref a25, .int (nI (mN E)), .ref a27, .ref a28, .ref a29, .ref a30, .ref a31, .ref a32, .ref a33, .ref a34, .int i35]))]) (w1 := [(m0, .inr (9, [.int (nI 0), .ref a1, .int (nI (cSp C)), .ref a3, .int (nI (cLa C)), .ref a5, .ref a6, .ref a7, .int (nI (cAg C)), .int (-9 : Int32), .int i10, .int i11, .int i12, .ref a13, .ref a14, .ref a15, .ref a16, .int (nI (mN T)), .ref a18, .ref a19, .ref a20, .ref a21, .ref a22, .ref a23, .ref a24, .ref a25, .int (nI (mN E)), .ref a27, .ref a28, .ref a29, .ref a30, .ref a31, .ref a32, .ref a33, .ref a34, .int i35]))]) (ws' := [(m0, .inr (9, [.int (nI 0), .ref a1, .int (nI (cSp C)), .ref a3, .int (nI (cLa C)), .ref a5, .ref a6, .ref a7, .int (nI (cAg C)), .int (-9 : Int32), .int i10, .int i11, .int i12, .ref a13, .ref a14, .ref a15, .ref a16, .int (nI (mN T)), .ref a18, .ref a19, .ref a20, .ref a21, .ref a22, .ref a23, .ref a24, .ref a25, .int (nI (mN E)), .ref a27, .ref a28, .ref a29, .ref a30, .ref a31, .ref a32, .ref a33, .ref a34, .int i35])), (a31, .inl (cI, 4, .inl zz)), (a32, .inl (cI, 4, .inl zl)), (a33, .inl (cI, 240, .inl (upd zs ((60 * x1N) + x2N) x3.toInt16.toInt32)))]) (wr := [(a31, .inl (cI, 4, .inl zz)), (a32, .inl (cI, 4, .inl zl)), (a33, .inl (cI, 240, .inl (upd zs ((60 * x1N) + x2N) x3.toInt16.toInt32)))]) (H1 := H1) hP hD [0] [1, 2, 3] rfl rfl rfl rfl 4 rfl (by decide) [m0, a31, a32, a33] rfl rfl hk1 (by rw [← ht]; exact hB)
            have hw_19 : r_19 = (nI 1) ∧ True := hw_19
            clear hF hB hk1 hz1 hvm
            clear ht
            generalize H1 = H at hP hS ⊢
            obtain ⟨rfl, hw_19⟩ := hw_19
            have hq : (nI 1) = sp_put rl len (nI x1N) (nI x2N) ∧ (nI 0) = nf_put rl len (nI x1N) (nI x2N) ∧ (upd zs ((60 * x1N) + x2N) x3.toInt16.toInt32) = (bif ok_put rl len (nI x1N) (nI x2N) then upd zs (60 * tn (nI x1N) + tn (nI x2N)) (cutL rl x3) else zs) := by
              have hok : ok_put rl len (nI x1N) (nI x2N) = true := by simp only [ok_put, hb_2, hrd_x1, hbc, t_x1, t_x2, cond_true, cond_false]
              rw [hok]
              refine ⟨by simp only [sp_put, hb_2, hrd_x1, hbc, t_x1, t_x2, cond_true, cond_false], by simp only [nf_put, hb_2, hrd_x1, hbc, t_x1, t_x2, cond_true, cond_false], ?_⟩
              simp only [cond_true, t_x1, t_x2]
              unfold cutL
              rw [if_neg c_16, if_pos c_17]
            refine kk_QQ hQQ ?_
            exact W.iret (v := (nI 1)) hx hb hr (fun t ht hW => ⟨⟨(nI 1), (nI 0, upd zs ((60 * x1N) + x2N) x3.toInt16.toInt32), rfl, hq, by show va_P D vwCl _ t.heap; rw [ht]; exact hP⟩, hS.F ht⟩) hS.2.2 dX10_put_79
        · skip
          refine lv_iload_n hx hb dX10_put_52 rfl (lv_at hl 3 rfl) ?_
          refine lv_i2b (v := x3.toInt8.toInt32) hx hb dX10_put_53 rfl ?_
          refine lv_goto (tgt := 73) hx hb dX10_put_54 (by decide) ?_
          refine kk_iast hx hb hK hP hD hS 3 rfl rfl (i := (60 * x1N) + x2N) (by omega) (by decide) dX10_put_73 (fun H locs hP hD hS => ?_)
          have hP : va_P D vwCl [(m0, .inr (9, [.int i0, .ref a1, .int (nI (cSp C)), .ref a3, .int (nI (cLa C)), .ref a5, .ref a6, .ref a7, .int (nI (cAg C)), .int (-9 : Int32), .int i10, .int i11, .int i12, .ref a13, .ref a14, .ref a15, .ref a16, .int (nI (mN T)), .ref a18, .ref a19, .ref a20, .ref a21, .ref a22, .ref a23, .ref a24, .ref a25, .int (nI (mN E)), .ref a27, .ref a28, .ref a29, .ref a30, .ref a31, .ref a32, .ref a33, .ref a34, .int i35])), (a31, .inl (cI, 4, .inl zz)), (a32, .inl (cI, 4, .inl zl)), (a33, .inl (cI, 240, .inl (upd zs ((60 * x1N) + x2N) x3.toInt8.toInt32)))] H := hP
          have hD : va_D A [(m0, .inr (9, [.int i0, .ref a1, .int (nI (cSp C)), .ref a3, .int (nI (cLa C)), .ref a5, .ref a6, .ref a7, .int (nI (cAg C)), .int (-9 : Int32), .int i10, .int i11, .int i12, .ref a13, .ref a14, .ref a15, .ref a16, .int (nI (mN T)), .ref a18, .ref a19, .ref a20, .ref a21, .ref a22, .ref a23, .ref a24, .ref a25, .int (nI (mN E)), .ref a27, .ref a28, .ref a29, .ref a30, .ref a31, .ref a32, .ref a33, .ref a34, .int i35])), (a31, .inl (cI, 4, .inl zz)), (a32, .inl (cI, 4, .inl zl)), (a33, .inl (cI, 240, .inl (upd zs ((60 * x1N) + x2N) x3.toInt8.toInt32)))] := hD
          refine lv_aload_n hx hb dX10_put_74 rfl (lv_at hl 0 rfl) ?_
          refine lv_iconst (v := nI 1) hx hb dX10_put_75 (by decide +kernel) ?_
          have hF := va_free (wc := [(m0, .inr (9, [.int i0, .ref a1, .int (nI (cSp C)), .ref a3, .int (nI (cLa C)), .ref a5, .ref a6, .ref a7, .int (nI (cAg C)), .int (-9 : Int32), .int i10, .int i11, .int i12, .ref a13, .ref a14, .ref a15, .ref a16, .int (nI (mN T)), .ref a18, .ref a19, .ref a20, .ref a21, .ref a22, .ref a23, .ref a24, .ref a25, .int (nI (mN E)), .ref a27, .ref a28, .ref a29, .ref a30, .ref a31, .ref a32, .ref a33, .ref a34, .int i35]))]) hD hS hA [0] rfl
          refine va_calli (va_runV (As := [.int (nI 1)]) (rest := []) ⟨hx, hb, hml, hown, hts⟩ (c_X10_refused lL D cI cS _ m0 a1 a3 a5 a6 a7 a13 a14 a15 a16 a18 a19 a20 a21 a22 a23 a24 a25 a27 a28 a29 a30 a31 a32 a33 a34 i0 (nI (cSp C)) (nI (cLa C)) (nI (cAg C)) (-9 : Int32) i10 i11 i12 (nI (mN T)) (nI (mN E)) i35 (nI 1)) (cwV 1 hts gX10_put_X10_refused rfl rfl rfl cd_X10_refused ⟨Nat.le_of_ble_eq_true rfl, Nat.le_of_ble_eq_true rfl⟩) ⟨kB_blind, va_recv hK hP (ci := 9) (q0 := 0) rfl rfl, fun U hU hW => ⟨rfl, by rw [hU], by rw [hU]; exact hP.sub [0] rfl, va_K.moved hW.alike hK, (hD.sub [0] (by decide) rfl).weaken (fun _ _ _ _ => trivial)⟩⟩ rfl rfl hl.1 rfl (lv_room (Nat.le_of_ble_eq_true rfl)) dX10_put_76 ⟨Nat.le_of_ble_eq_true rfl, Nat.le_of_ble_eq_true rfl⟩) hS (fun q _ h => hF q h) hF (fun r_20 u_20 t H1 locs ht hvm hw_20 hB hz1 hk1 hS => ?_)
          obtain ⟨hP, hD⟩ := kk_join2 (wc := [(m0, .inr (9, [.int i0, .ref a1, .int (nI (cSp C)), .ref a3, .int (nI (cLa C)), .ref a5, .ref a6, .ref a7, .int (nI (cAg C)), .int (-9 : Int32), .int i10, .int i11, .int i12, .ref a13, .ref a14, .ref a15, .ref a16, .int (nI (mN T)), .ref a18, .ref a19, .ref a20, .ref a21, .ref a22, .ref a23, .ref a24, .ref a25, .int (nI (mN E)), .ref a27, .ref a28, .ref a29, .ref a30, .ref a31, .ref a32, .ref a33, .ref a34, .int i35]))]) (w1 := [(m0, .inr (9, [.int (nI 0), .ref a1, .int (nI (cSp C)), .ref a3, .int (nI (cLa C)), .ref a5, .ref a6, .ref a7, .int (nI (cAg C)), .int (-9 : Int32), .int i10, .int i11, .int i12, .ref a13, .ref a14, .ref a15, .ref a16, .int (nI (mN T)), .ref a18, .ref a19, .ref a20, .ref a21, .ref a22, .ref a23, .ref a24, .ref a25, .int (nI (mN E)), .ref a27, .ref a28, .ref a29, .ref a30, .ref a31, .ref a32, .ref a33, .ref a34, .int i35]))]) (ws' := [(m0, .inr (9, [.int (nI 0), .ref a1, .int (nI (cSp C)), .ref a3, .int (nI (cLa C)), .ref a5, .ref a6, .ref a7, .int (nI (cAg C)), .int (-9 : Int32), .int i10, .int i11, .int i12, .ref a13, .ref a14, .ref a15, .ref a16, .int (nI (mN T)), .ref a18, .ref a19, .ref a20, .ref a21, .ref a22, .ref a23, .ref a24, .ref a25, .int (nI (mN E)), .ref a27, .ref a28, .ref a29, .ref a30, .ref a31, .ref a32, .ref a33, .ref a34, .int i35])), (a31, .inl (cI, 4, .inl zz)), (a32, .inl (cI, 4, .inl zl)), (a33, .inl (cI, 240, .inl (upd zs ((60 * x1N) + x2N) x3.toInt8.toInt32)))]) (wr := [(a31, .inl (cI, 4, .inl zz)), (a32, .inl (cI, 4, .inl zl)), (a33, .inl (cI, 240, .inl (upd zs ((60 * x1N) + x2N) x3.toInt8.toInt32)))]) (H1 := H1) hP hD [0] [1, 2, 3] rfl rfl rfl rfl 4 rfl (by decide) [m0, a31, a32, a33] rfl rfl hk1 (by rw [← ht]; exact hB)
          have hw_20 : r_20 = (nI 1) ∧ True := hw_20
          clear hF hB hk1 hz1 hvm
          clear ht
          generalize H1 = H at hP hS ⊢
          obtain ⟨rfl, hw_20⟩ := hw_20
          have hq : (nI 1) = sp_put rl len (nI x1N) (nI x2N) ∧ (nI 0) = nf_put rl len (nI x1N) (nI x2N) ∧ (upd zs ((60 * x1N) + x2N) x3.toInt8.toInt32) = (bif ok_put rl len (nI x1N) (nI x2N) then upd zs (60 * tn (nI x1N) + tn (nI x2N)) (cutL rl x3) else zs) := by
            have hok : ok_put rl len (nI x1N) (nI x2N) = true := by simp only [ok_put, hb_2, hrd_x1, hbc, t_x1, t_x2, cond_true, cond_false]
            rw [hok]
            refine ⟨by simp only [sp_put, hb_2, hrd_x1, hbc, t_x1, t_x2, cond_true, cond_false], by simp only [nf_put, hb_2, hrd_x1, hbc, t_x1, t_x2, cond_true, cond_false], ?_⟩
            simp only [cond_true, t_x1, t_x2]
            unfold cutL
            rw [if_pos c_16]
          refine kk_QQ hQQ ?_
          exact W.iret (v := (nI 1)) hx hb hr (fun t ht hW => ⟨⟨(nI 1), (nI 0, upd zs ((60 * x1N) + x2N) x3.toInt8.toInt32), rfl, hq, by show va_P D vwCl _ t.heap; rw [ht]; exact hP⟩, hS.F ht⟩) hS.2.2 dX10_put_79
      · skip
        have hbc : hasC len x2 (nI 1) = false := by rw [hasC_1 hzl_x1]; exact hbi
        refine lv_iload_n hx hb dX10_put_14 rfl (lv_at hl 1 rfl) ?_
        refine lv_iload_n hx hb dX10_put_15 rfl (lv_at hl 2 rfl) ?_
        have o_21 : x1N < 4 := by omega
        have o_22 : len ≤ 60 := by omega
        have o_23 : zz x1N = nI len := by assumption
        have o_24 : inB x2 len = false := by assumption
        refine vp_callSi (W.runV (As := [.int (nI x1N), .int x2]) (rest := []) ⟨hx, hb, hml, hown, hts⟩ (c_X10_noCell_out lL D cI cS m0 a1 a3 a5 a6 a7 a13 a14 a15 a16 a18 a19 a20 a21 a22 a23 a24 a25 a27 a28 a29 a30 a31 a32 a33 a34 i0 (nI (cSp C)) (nI (cLa C)) (nI (cAg C)) (-9 : Int32) i10 i11 i12 (nI (mN T)) (nI (mN E)) i35 zz x1N x2 len o_21 o_22 o_23 o_24) (cwV 2 hts gX10_put_X10_noCell rfl rfl rfl cd_X10_noCell ⟨Nat.le_of_ble_eq_true rfl, Nat.le_of_ble_eq_true rfl⟩) ⟨kBp_blind, va_recv hK hP (ci := 9) (q0 := 0) rfl rfl, fun U hU hW => ⟨rfl, by rw [hU]; exact hP.sub [0, 1] rfl, va_K.moved hW.alike hK⟩⟩ rfl rfl hl.1 rfl (lv_room (Nat.le_of_ble_eq_true rfl)) dX10_put_16 ⟨Nat.le_of_ble_eq_true rfl, Nat.le_of_ble_eq_true rfl⟩) (fun r_25 hw_25 => ?_)
        obtain rfl : r_25 = nI 3 := hw_25
        refine kk_if_le (x := 3) (tgt := 33) hx hb dX10_put_19 (by decide) (by decide) (fun h => absurd h (by decide)) (fun h => ?_)
        refine lv_aload_n hx hb dX10_put_22 rfl (lv_at hl 0 rfl) ?_
        refine lv_aload_n hx hb dX10_put_23 rfl (lv_at hl 0 rfl) ?_
        refine lv_iload_n hx hb dX10_put_24 rfl (lv_at hl 1 rfl) ?_
        refine lv_iload_n hx hb dX10_put_25 rfl (lv_at hl 2 rfl) ?_
        have o_26 : x1N < 4 := by omega
        have o_27 : len ≤ 60 := by omega
        have o_28 : zz x1N = nI len := by assumption
        have o_29 : inB x2 len = false := by assumption
        refine vp_callSi (W.runV (As := [.int (nI x1N), .int x2]) (rest := [.ref m0]) ⟨hx, hb, hml, hown, hts⟩ (c_X10_noCell_out lL D cI cS m0 a1 a3 a5 a6 a7 a13 a14 a15 a16 a18 a19 a20 a21 a22 a23 a24 a25 a27 a28 a29 a30 a31 a32 a33 a34 i0 (nI (cSp C)) (nI (cLa C)) (nI (cAg C)) (-9 : Int32) i10 i11 i12 (nI (mN T)) (nI (mN E)) i35 zz x1N x2 len o_26 o_27 o_28 o_29) (cwV 2 hts gX10_put_X10_noCell rfl rfl rfl cd_X10_noCell ⟨Nat.le_of_ble_eq_true rfl, Nat.le_of_ble_eq_true rfl⟩) ⟨kBp_blind, va_recv hK hP (ci := 9) (q0 := 0) rfl rfl, fun U hU hW => ⟨rfl, by rw [hU]; exact hP.sub [0, 1] rfl, va_K.moved hW.alike hK⟩⟩ rfl rfl hl.1 rfl (lv_room (Nat.le_of_ble_eq_true rfl)) dX10_put_26 ⟨Nat.le_of_ble_eq_true rfl, Nat.le_of_ble_eq_true rfl⟩) (fun r_30 hw_30 => ?_)
        obtain rfl : r_30 = nI 3 := hw_30
        have hF := va_free (wc := [(m0, .inr (9, [.int i0, .ref a1, .int (nI (cSp C)), .ref a3, .int (nI (cLa C)), .ref a5, .ref a6, .ref a7, .int (nI (cAg C)), .int (-9 : Int32), .int i10, .int i11, .int i12, .ref a13, .ref a14, .ref a15, .ref a16, .int (nI (mN T)), .ref a18, .ref a19, .ref a20, .ref a21, .ref a22, .ref a23, .ref a24, .ref a25, .int (nI (mN E)), .ref a27, .ref a28, .ref a29, .ref a30, .ref a31, .ref a32, .ref a33, .ref a34, .int i35]))]) hD hS hA [0] rfl
        refine va_calli (va_runV (As := [.int (nI 3)]) (rest := []) ⟨hx, hb, hml, hown, hts⟩ (c_X10_failed lL D cI cS _ m0 a1 a3 a5 a6 a7 a13 a14 a15 a16 a18 a19 a20 a21 a22 a23 a24 a25 a27 a28 a29 a30 a31 a32 a33 a34 i0 (nI (cSp C)) (nI (cLa C)) (nI (cAg C)) (-9 : Int32) i10 i11 i12 (nI (mN T)) (nI (mN E)) i35 (nI 3)) (cwV 1 hts gX10_put_X10_failed rfl rfl rfl cd_X10_failed ⟨Nat.le_of_ble_eq_true rfl, Nat.le_of_ble_eq_true rfl⟩) ⟨kB_blind, va_recv hK hP (ci := 9) (q0 := 0) rfl rfl, fun U hU hW => ⟨rfl, by rw [hU], by rw [hU]; exact hP.sub [0] rfl, va_K.moved hW.alike hK, (hD.sub [0] (by decide) rfl).weaken (fun _ _ _ _ => trivial)⟩⟩ rfl rfl hl.1 rfl (lv_room (Nat.le_of_ble_eq_true rfl)) dX10_put_29 ⟨Nat.le_of_ble_eq_true rfl, Nat.le_of_ble_eq_true rfl⟩) hS (fun q _ h => hF q h) hF (fun r_31 u_31 t H1 locs ht hvm hw_31 hB hz1 hk1 hS => ?_)
        obtain ⟨hP, hD⟩ := kk_join2 (wc := [(m0, .inr (9, [.int i0, .ref a1, .int (nI (cSp C)), .ref a3, .int (nI (cLa C)), .ref a5, .ref a6, .ref a7, .int (nI (cAg C)), .int (-9 : Int32), .int i10, .int i11, .int i12, .ref a13, .ref a14, .ref a15, .ref a16, .int (nI (mN T)), .ref a18, .ref a19, .ref a20, .ref a21, .ref a22, .ref a23, .ref a24, .ref a25, .int (nI (mN E)), .ref a27, .ref a28, .ref a29, .ref a30, .ref a31, .ref a32, .ref a33, .ref a34, .int i35]))]) (w1 := [(m0, .inr (9, [.int (nI 3), .ref a1, .int (nI (cSp C)), .ref a3, .int (nI (cLa C)), .ref a5, .ref a6, .ref a7, .int (nI (cAg C)), .int (-9 : Int32), .int i10, .int i11, .int i12, .ref a13, .ref a14, .ref a15, .ref a16, .int (nI (mN T)), .ref a18, .ref a19, .ref a20, .ref a21, .ref a22, .ref a23, .ref a24, .ref a25, .int (nI (mN E)), .ref a27, .ref a28, .ref a29, .ref a30, .ref a31, .ref a32, .ref a33, .ref a34, .int i35]))]) (ws' := [(m0, .inr (9, [.int (nI 3), .ref a1, .int (nI (cSp C)), .ref a3, .int (nI (cLa C)), .ref a5, .ref a6, .ref a7, .int (nI (cAg C)), .int (-9 : Int32), .int i10, .int i11, .int i12, .ref a13, .ref a14, .ref a15, .ref a16, .int (nI (mN T)), .ref a18, .ref a19, .ref a20, .ref a21, .ref a22, .ref a23, .ref a24, .ref a25, .int (nI (mN E)), .ref a27, .ref a28, .ref a29, .ref a30, .ref a31, .ref a32, .ref a33, .ref a34, .int i35])), (a31, .inl (cI, 4, .inl zz)), (a32, .inl (cI, 4, .inl zl)), (a33, .inl (cI, 240, .inl zs))]) (wr := [(a31, .inl (cI, 4, .inl zz)), (a32, .inl (cI, 4, .inl zl)), (a33, .inl (cI, 240, .inl zs))]) (H1 := H1) hP hD [0] [1, 2, 3] rfl rfl rfl rfl 4 rfl (by decide) [m0, a31, a32, a33] rfl rfl hk1 (by rw [← ht]; exact hB)
        have hw_31 : r_31 = (-10 : Int32) - (nI 3) ∧ True := hw_31
        clear hF hB hk1 hz1 hvm
        clear ht
        generalize H1 = H at hP hS ⊢
        obtain ⟨rfl, hw_31⟩ := hw_31
        have hq : ((-10 : Int32) - (nI 3)) = sp_put rl len (nI x1N) x2 ∧ (nI 3) = nf_put rl len (nI x1N) x2 ∧ zs = (bif ok_put rl len (nI x1N) x2 then upd zs (60 * tn (nI x1N) + tn x2) (cutL rl x3) else zs) := by
          have hok : ok_put rl len (nI x1N) x2 = false := by simp only [ok_put, hb_2, hrd_x1, hbc, t_x1, cond_true, cond_false]
          rw [hok]
          exact ⟨by simp only [sp_put, hb_2, hrd_x1, hbc, t_x1, cond_true, cond_false], by simp only [nf_put, hb_2, hrd_x1, hbc, t_x1, cond_true, cond_false], rfl⟩
        refine kk_QQ hQQ ?_
        exact W.iret (v := (-10 : Int32) - (nI 3)) hx hb hr (fun t ht hW => ⟨⟨(-10 : Int32) - (nI 3), (nI 3, zs), rfl, hq, by show va_P D vwCl _ t.heap; rw [ht]; exact hP⟩, hS.F ht⟩) hS.2.2 dX10_put_32
  · skip
    refine lv_aload_n hx hb dX10_put_7 rfl (lv_at hl 0 rfl) ?_
    refine lv_iconst (v := (-1 : Int32)) hx hb dX10_put_8 (by decide +kernel) ?_
    have hF := va_free (wc := [(m0, .inr (9, [.int i0, .ref a1, .int (nI (cSp C)), .ref a3, .int (nI (cLa C)), .ref a5, .ref a6, .ref a7, .int (nI (cAg C)), .int (-9 : Int32), .int i10, .int i11, .int i12, .ref a13, .ref a14, .ref a15, .ref a16, .int (nI (mN T)), .ref a18, .ref a19, .ref a20, .ref a21, .ref a22, .ref a23, .ref a24, .ref a25, .int (nI (mN E)), .ref a27, .ref a28, .ref a29, .ref a30, .ref a31, .ref a32, .ref a33, .ref a34, .int i35]))]) hD hS hA [0] rfl
    refine va_calli (va_runV (As := [.int (-1 : Int32)]) (rest := []) ⟨hx, hb, hml, hown, hts⟩ (c_X10_refused lL D cI cS _ m0 a1 a3 a5 a6 a7 a13 a14 a15 a16 a18 a19 a20 a21 a22 a23 a24 a25 a27 a28 a29 a30 a31 a32 a33 a34 i0 (nI (cSp C)) (nI (cLa C)) (nI (cAg C)) (-9 : Int32) i10 i11 i12 (nI (mN T)) (nI (mN E)) i35 (-1 : Int32)) (cwV 1 hts gX10_put_X10_refused rfl rfl rfl cd_X10_refused ⟨Nat.le_of_ble_eq_true rfl, Nat.le_of_ble_eq_true rfl⟩) ⟨kB_blind, va_recv hK hP (ci := 9) (q0 := 0) rfl rfl, fun U hU hW => ⟨rfl, by rw [hU], by rw [hU]; exact hP.sub [0] rfl, va_K.moved hW.alike hK, (hD.sub [0] (by decide) rfl).weaken (fun _ _ _ _ => trivial)⟩⟩ rfl rfl hl.1 rfl (lv_room (Nat.le_of_ble_eq_true rfl)) dX10_put_9 ⟨Nat.le_of_ble_eq_true rfl, Nat.le_of_ble_eq_true rfl⟩) hS (fun q _ h => hF q h) hF (fun r_32 u_32 t H1 locs ht hvm hw_32 hB hz1 hk1 hS => ?_)
    obtain ⟨hP, hD⟩ := kk_join2 (wc := [(m0, .inr (9, [.int i0, .ref a1, .int (nI (cSp C)), .ref a3, .int (nI (cLa C)), .ref a5, .ref a6, .ref a7, .int (nI (cAg C)), .int (-9 : Int32), .int i10, .int i11, .int i12, .ref a13, .ref a14, .ref a15, .ref a16, .int (nI (mN T)), .ref a18, .ref a19, .ref a20, .ref a21, .ref a22, .ref a23, .ref a24, .ref a25, .int (nI (mN E)), .ref a27, .ref a28, .ref a29, .ref a30, .ref a31, .ref a32, .ref a33, .ref a34, .int i35]))]) (w1 := [(m0, .inr (9, [.int (nI 0), .ref a1, .int (nI (cSp C)), .ref a3, .int (nI (cLa C)), .ref a5, .ref a6, .ref a7, .int (nI (cAg C)), .int (-9 : Int32), .int i10, .int i11, .int i12, .ref a13, .ref a14, .ref a15, .ref a16, .int (nI (mN T)), .ref a18, .ref a19, .ref a20, .ref a21, .ref a22, .ref a23, .ref a24, .ref a25, .int (nI (mN E)), .ref a27, .ref a28, .ref a29, .ref a30, .ref a31, .ref a32, .ref a33, .ref a34, .int i35]))]) (ws' := [(m0, .inr (9, [.int (nI 0), .ref a1, .int (nI (cSp C)), .ref a3, .int (nI (cLa C)), .ref a5, .ref a6, .ref a7, .int (nI (cAg C)), .int (-9 : Int32), .int i10, .int i11, .int i12, .ref a13, .ref a14, .ref a15, .ref a16, .int (nI (mN T)), .ref a18, .ref a19, .ref a20, .ref a21, .ref a22, .ref a23, .ref a24, .ref a25, .int (nI (mN E)), .ref a27, .ref a28, .ref a29, .ref a30, .ref a31, .ref a32, .ref a33, .ref a34, .int i35])), (a31, .inl (cI, 4, .inl zz)), (a32, .inl (cI, 4, .inl zl)), (a33, .inl (cI, 240, .inl zs))]) (wr := [(a31, .inl (cI, 4, .inl zz)), (a32, .inl (cI, 4, .inl zl)), (a33, .inl (cI, 240, .inl zs))]) (H1 := H1) hP hD [0] [1, 2, 3] rfl rfl rfl rfl 4 rfl (by decide) [m0, a31, a32, a33] rfl rfl hk1 (by rw [← ht]; exact hB)
    have hw_32 : r_32 = (-1 : Int32) ∧ True := hw_32
    clear hF hB hk1 hz1 hvm
    clear ht
    generalize H1 = H at hP hS ⊢
    obtain ⟨rfl, hw_32⟩ := hw_32
    have hq : (-1 : Int32) = sp_put rl len x1 x2 ∧ (nI 0) = nf_put rl len x1 x2 ∧ zs = (bif ok_put rl len x1 x2 then upd zs (60 * tn x1 + tn x2) (cutL rl x3) else zs) := by
      have hok : ok_put rl len x1 x2 = false := by simp only [ok_put, hb_2, cond_true, cond_false]
      rw [hok]
      exact ⟨by simp only [sp_put, hb_2, cond_true, cond_false], by simp only [nf_put, hb_2, cond_true, cond_false], rfl⟩
    refine kk_QQ hQQ ?_
    exact W.iret (v := (-1 : Int32)) hx hb hr (fun t ht hW => ⟨⟨(-1 : Int32), (nI 0, zs), rfl, hq, by show va_P D vwCl _ t.heap; rw [ht]; exact hP⟩, hS.F ht⟩) hS.2.2 dX10_put_12

abbrev rmX10_cell : Room := { frames := 2, cells := 0, slots := 0, locals := 47 }
set_option maxHeartbeats 4000000 in
set_option maxRecDepth 100000 in
theorem c_X10_cell (lL : Launch) (D : va_G) (cI cS : ClassId) (sz : Nat) (C : Co) (T : Mv) (E : Mv) (m0 : Nat) (a1 : Nat) (a3 : Nat) (a5 : Nat) (a6 : Nat) (a7 : Nat) (a13 : Nat) (a14 : Nat) (a15 : Nat) (a16 : Nat) (a18 : Nat) (a19 : Nat) (a20 : Nat) (a21 : Nat) (a22 : Nat) (a23 : Nat) (a24 : Nat) (a25 : Nat) (a27 : Nat) (a28 : Nat) (a29 : Nat) (a30 : Nat) (a31 : Nat) (a32 : Nat) (a33 : Nat) (a34 : Nat) (i0 : Int32) (i10 : Int32) (i11 : Int32) (i12 : Int32) (i35 : Int32) (zz : Nat → Int32) (zl : Nat → Int32) (zs : Nat → Int32) (x1 : Int32) (x2 : Int32) (x3 : Int32) (rl : Int32) (len : Nat) (cf : Nat → Int32) (hX : okX C T E) (hz : ∀ j, x1 = nI j → j < 4 → zR j rl len cf zz zl zs) : Met lL yX10_cell wsX10_cell rmX10_cell (va_Pc [.ref m0, .int x1, .int x2, .int x3] (kB D cI cS [(m0, .inr (9, [.int i0, .ref a1, .int (nI (cSp C)), .ref a3, .int (nI (cLa C)), .ref a5, .ref a6, .ref a7, .int (nI (cAg C)), .int (-9 : Int32), .int i10, .int i11, .int i12, .ref a13, .ref a14, .ref a15, .ref a16, .int (nI (mN T)), .ref a18, .ref a19, .ref a20, .ref a21, .ref a22, .ref a23, .ref a24, .ref a25, .int (nI (mN E)), .ref a27, .ref a28, .ref a29, .ref a30, .ref a31, .ref a32, .ref a33, .ref a34, .int i35])), (a31, .inl (cI, 4, .inl zz)), (a32, .inl (cI, 4, .inl zl)), (a33, .inl (cI, 240, .inl zs))] sz)) (kQl D (fun (r : Int64) (u : Int32) => r = sp_cell rl len cf x1 x2 x3 ∧ u = nf_cell rl len x1 x2 x3) (fun u : Int32 => [(m0, .inr (9, [.int u, .ref a1, .int (nI (cSp C)), .ref a3, .int (nI (cLa C)), .ref a5, .ref a6, .ref a7, .int (nI (cAg C)), .int (-9 : Int32), .int i10, .int i11, .int i12, .ref a13, .ref a14, .ref a15, .ref a16, .int (nI (mN T)), .ref a18, .ref a19, .ref a20, .ref a21, .ref a22, .ref a23, .ref a24, .ref a25, .int (nI (mN E)), .ref a27, .ref a28, .ref a29, .ref a30, .ref a31, .ref a32, .ref a33, .ref a34, .int i35])), (a31, .inl (cI, 4, .inl zz)), (a32, .inl (cI, 4, .inl zl)), (a33, .inl (cI, 240, .inl zs))]) (va_A [(m0, .inr (9, [.int i0, .ref a1, .int (nI (cSp C)), .ref a3, .int (nI (cLa C)), .ref a5, .ref a6, .ref a7, .int (nI (cAg C)), .int (-9 : Int32), .int i10, .int i11, .int i12, .ref a13, .ref a14, .ref a15, .ref a16, .int (nI (mN T)), .ref a18, .ref a19, .ref a20, .ref a21, .ref a22, .ref a23, .ref a24, .ref a25, .int (nI (mN E)), .ref a27, .ref a28, .ref a29, .ref a30, .ref a31, .ref a32, .ref a33, .ref a34, .int i35])), (a31, .inl (cI, 4, .inl zz)), (a32, .inl (cI, 4, .inl zl)), (a33, .inl (cI, 240, .inl zs))] sz)) 0 0 (va_A [(m0, .inr (9, [.int i0, .ref a1, .int (nI (cSp C)), .ref a3, .int (nI (cLa C)), .ref a5, .ref a6, .ref a7, .int (nI (cAg C)), .int (-9 : Int32), .int i10, .int i11, .int i12, .ref a13, .ref a14, .ref a15, .ref a16, .int (nI (mN T)), .ref a18, .ref a19, .ref a20, .ref a21, .ref a22, .ref a23, .ref a24, .ref a25, .int (nI (mN E)), .ref a27, .ref a28, .ref a29, .ref a30, .ref a31, .ref a32, .ref a33, .ref a34, .int i35])), (a31, .inl (cI, 4, .inl zz)), (a32, .inl (cI, 4, .inl zl)), (a33, .inl (cI, 240, .inl zs))] sz) := by
  refine Met.ofW (cc := cX10_cell) (maxL := 4) (ret := (some .long)) (by decide) rfl ?_
  intro pP eE sS mM args below meth cC s₁ B hml hv
  obtain ⟨rfl, hsz, hP, hK, hD0⟩ := hv
  have hx := B.exec
  have hb := B.bytes
  have hr := B.returns
  have hts := atoms_spec (ws := wsX10_cell) B.pre
  have hown : sS.vm.findClass RX10 = some mM.cls := findClass_of_methodNamed B.named
  have hlocks := B.notSynchronized
  subst hsz
  have hD := hD0.self (sz := sS.heap.size)
  generalize hAe : va_A [(m0, .inr (9, [.int i0, .ref a1, .int (nI (cSp C)), .ref a3, .int (nI (cLa C)), .ref a5, .ref a6, .ref a7, .int (nI (cAg C)), .int (-9 : Int32), .int i10, .int i11, .int i12, .ref a13, .ref a14, .ref a15, .ref a16, .int (nI (mN T)), .ref a18, .ref a19, .ref a20, .ref a21, .ref a22, .ref a23, .ref a24, .ref a25, .int (nI (mN E)), .ref a27, .ref a28, .ref a29, .ref a30, .ref a31, .ref a32, .ref a33, .ref a34, .int i35])), (a31, .inl (cI, 4, .inl zz)), (a32, .inl (cI, 4, .inl zl)), (a33, .inl (cI, 240, .inl zs))] sS.heap.size = A at hD ⊢
  have hA : ∀ q : Nat, sS.heap.size ≤ q → A q := fun q h => by rw [← hAe]; exact Or.inr h
  have hS : va_S A sS.heap sS.heap [] := va_S.rf
  have hP : va_P D vwCl [(m0, .inr (9, [.int i0, .ref a1, .int (nI (cSp C)), .ref a3, .int (nI (cLa C)), .ref a5, .ref a6, .ref a7, .int (nI (cAg C)), .int (-9 : Int32), .int i10, .int i11, .int i12, .ref a13, .ref a14, .ref a15, .ref a16, .int (nI (mN T)), .ref a18, .ref a19, .ref a20, .ref a21, .ref a22, .ref a23, .ref a24, .ref a25, .int (nI (mN E)), .ref a27, .ref a28, .ref a29, .ref a30, .ref a31, .ref a32, .ref a33, .ref a34, .int i35])), (a31, .inl (cI, 4, .inl zz)), (a32, .inl (cI, 4, .inl zl)), (a33, .inl (cI, 240, .inl zs))] sS.heap := hP
  have hD : va_D A [(m0, .inr (9, [.int i0, .ref a1, .int (nI (cSp C)), .ref a3, .int (nI (cLa C)), .ref a5, .ref a6, .ref a7, .int (nI (cAg C)), .int (-9 : Int32), .int i10, .int i11, .int i12, .ref a13, .ref a14, .ref a15, .ref a16, .int (nI (mN T)), .ref a18, .ref a19, .ref a20, .ref a21, .ref a22, .ref a23, .ref a24, .ref a25, .int (nI (mN E)), .ref a27, .ref a28, .ref a29, .ref a30, .ref a31, .ref a32, .ref a33, .ref a34, .int i35])), (a31, .inl (cI, 4, .inl zz)), (a32, .inl (cI, 4, .inl zl)), (a33, .inl (cI, 240, .inl zs))] := hD
  have hf_73 := hts (.fieldLink RX10 73 "OldLampsModel" "sheetSize" "[I") (List.mem_of_getElem? (i := 3) rfl)
  have hf_76 := hts (.fieldLink RX10 76 "OldLampsModel" "sheetLane" "[I") (List.mem_of_getElem? (i := 4) rfl)
  have hf_79 := hts (.fieldLink RX10 79 "OldLampsModel" "sheet" "[I") (List.mem_of_getElem? (i := 5) rfl)
  have hf_91 := hts (.fieldLink RX10 91 "OldLampsModel" "fault" "I") (List.mem_of_getElem? (i := 1) rfl)
  have hk_149 := hts (.constantLong RX10 149 (2)) (List.mem_of_getElem? (i := 2) rfl)
  have hwX10 : ∀ w ∈ wsX100, w ∈ wsX10_cell := fun _ h => List.mem_cons_of_mem _ (List.mem_append_right _ h)
  have hl := lv_entry ([.ref m0, .int x1, .int x2, .int x3]) (n := 4) (Nat.le_of_ble_eq_true rfl)
  rw [lg_entry_eq]
  generalize (lg_sl ([.ref m0, .int x1, .int x2, .int x3]) ++ List.replicate (4 - (lg_sl ([.ref m0, .int x1, .int x2, .int x3])).length) Slot.unset).toArray = ls at hl ⊢
  have hl : lv_has ls 4 [(0, .ref m0), (1, .int x1), (2, .int x2), (3, .int x3)] := hl
  obtain ⟨QQ, hQQ⟩ : ∃ QQ : State → Prop, QQ = MQ below (kQl D (fun (r : Int64) (u : Int32) => r = sp_cell rl len cf x1 x2 x3 ∧ u = nf_cell rl len x1 x2 x3) (fun u : Int32 => [(m0, .inr (9, [.int u, .ref a1, .int (nI (cSp C)), .ref a3, .int (nI (cLa C)), .ref a5, .ref a6, .ref a7, .int (nI (cAg C)), .int (-9 : Int32), .int i10, .int i11, .int i12, .ref a13, .ref a14, .ref a15, .ref a16, .int (nI (mN T)), .ref a18, .ref a19, .ref a20, .ref a21, .ref a22, .ref a23, .ref a24, .ref a25, .int (nI (mN E)), .ref a27, .ref a28, .ref a29, .ref a30, .ref a31, .ref a32, .ref a33, .ref a34, .int i35])), (a31, .inl (cI, 4, .inl zz)), (a32, .inl (cI, 4, .inl zl)), (a33, .inl (cI, 240, .inl zs))]) A) ([.ref m0, .int x1, .int x2, .int x3]).toArray sS 0 0 A := ⟨_, rfl⟩
  refine kk_QQ hQQ.symm ?_
  obtain ⟨hX1, hX2, hX3, hX4⟩ := okX_le hX
  refine lv_aload_n hx hb dX10_cell_0 rfl (lv_at hl 0 rfl) ?_
  refine lv_iconst (v := nI 0) hx hb dX10_cell_1 (by decide +kernel) ?_
  refine va_put (D := D) (ci := 9) (v := .int (nI 0)) (ty := .int) (C := RX10) (T := TX10) (N := 36) hx hb hts hwX10 tyX10 tyX10_ok nmX10 hown hK hP hD hS 0 rfl rfl 0 (by decide) hf_91 (fun _ h9 => h9) rfl (by decide +kernel) rfl rfl (Nat.le_of_ble_eq_true rfl) dX10_cell_2 (fun H locs hP hD hS => ?_)
  have hP : va_P D vwCl [(m0, .inr (9, [.int (nI 0), .ref a1, .int (nI (cSp C)), .ref a3, .int (nI (cLa C)), .ref a5, .ref a6, .ref a7, .int (nI (cAg C)), .int (-9 : Int32), .int i10, .int i11, .int i12, .ref a13, .ref a14, .ref a15, .ref a16, .int (nI (mN T)), .ref a18, .ref a19, .ref a20, .ref a21, .ref a22, .ref a23, .ref a24, .ref a25, .int (nI (mN E)), .ref a27, .ref a28, .ref a29, .ref a30, .ref a31, .ref a32, .ref a33, .ref a34, .int i35])), (a31, .inl (cI, 4, .inl zz)), (a32, .inl (cI, 4, .inl zl)), (a33, .inl (cI, 240, .inl zs))] H := hP
  have hD : va_D A [(m0, .inr (9, [.int (nI 0), .ref a1, .int (nI (cSp C)), .ref a3, .int (nI (cLa C)), .ref a5, .ref a6, .ref a7, .int (nI (cAg C)), .int (-9 : Int32), .int i10, .int i11, .int i12, .ref a13, .ref a14, .ref a15, .ref a16, .int (nI (mN T)), .ref a18, .ref a19, .ref a20, .ref a21, .ref a22, .ref a23, .ref a24, .ref a25, .int (nI (mN E)), .ref a27, .ref a28, .ref a29, .ref a30, .ref a31, .ref a32, .ref a33, .ref a34, .int i35])), (a31, .inl (cI, 4, .inl zz)), (a32, .inl (cI, 4, .inl zl)), (a33, .inl (cI, 240, .inl zs))] := hD
  refine lv_iload_n hx hb dX10_cell_5 rfl (lv_at hl 1 rfl) ?_
  refine vp_callSi (W.runS (As := [.int x1]) (rest := []) ⟨hx, hb, hml, hown, hts⟩ (c_X10_noSheet lL D cI cS x1) (va_cwS 1 hts gX10_cell_X10_noSheet rfl rfl rfl cd_X10_noSheet ⟨Nat.le_of_ble_eq_true rfl, Nat.le_of_ble_eq_true rfl⟩) ⟨kBp_blind, fun U hU hW => ⟨rfl, by rw [hU]; exact hP.sub [] rfl, va_K.moved hW.alike hK⟩⟩ rfl rfl hl.1 rfl (lv_room (Nat.le_of_ble_eq_true rfl)) dX10_cell_6 ⟨Nat.le_of_ble_eq_true rfl, Nat.le_of_ble_eq_true rfl⟩) (fun r_1 hw_1 => ?_)
  obtain rfl : r_1 = kb (!inB x1 4) := hw_1
  refine kk_ifn_ne (tgt := 24) hx hb dX10_cell_9 (by decide) (fun hb_2 => ?_) (fun hb_2 => ?_)
  · skip
    refine vp_callSl (W.runS (As := []) (rest := []) ⟨hx, hb, hml, hown, hts⟩ (c_X10_lost lL D cI cS ) (va_cwS 0 hts gX10_cell_X10_lost rfl rfl rfl cd_X10_lost ⟨Nat.le_of_ble_eq_true rfl, Nat.le_of_ble_eq_true rfl⟩) ⟨kBp_blind, fun U hU hW => ⟨rfl, by rw [hU]; exact hP.sub [] rfl, va_K.moved hW.alike hK⟩⟩ rfl rfl hl.1 rfl (lv_room (Nat.le_of_ble_eq_true rfl)) dX10_cell_24 ⟨Nat.le_of_ble_eq_true rfl, Nat.le_of_ble_eq_true rfl⟩) (fun r_3 hw_3 => ?_)
    obtain rfl : r_3 = lostC := hw_3
    have hq : lostC = sp_cell rl len cf x1 x2 x3 ∧ (nI 0) = nf_cell rl len x1 x2 x3 := by refine ⟨by simp only [sp_cell, hb_2, cond_true, cond_false, lostC], by simp only [nf_cell, hb_2, cond_true, cond_false]⟩
    refine kk_QQ hQQ ?_
    exact W.lret (v := lostC) hx hb hr (fun t ht hW => ⟨⟨lostC, (nI 0), rfl, hq, by show va_P D vwCl _ t.heap; rw [ht]; exact hP⟩, hS.F ht⟩) hS.2.2 dX10_cell_27
  · skip
    obtain ⟨x1N, hx1N, rfl⟩ := inB_t hb_2
    have t_x1 := nI_clamp (show x1N < 2 ^ 31 by omega)
    refine lv_iload_n hx hb dX10_cell_12 rfl (lv_at hl 3 rfl) ?_
    refine lv_i2l (v := x3.toInt64) hx hb dX10_cell_13 rfl ?_
    refine lv_lconst (v := lN 0) hx hb dX10_cell_14 (by decide +kernel) ?_
    refine lv_ldc2 (v := (2 : Int64)) hx hb hown hk_149 dX10_cell_15 ?_
    refine kk_topl (y := lN 2) (by decide +kernel) ?_
    refine vp_callSi (W.runS (As := [.long x3.toInt64, .long (lN 0), .long (lN 2)]) (rest := []) ⟨hx, hb, hml, hown, hts⟩ (c_X10_in lL D cI cS x3.toInt64 (lN 0) (lN 2)) (va_cwS 3 hts gX10_cell_X10_in rfl rfl rfl cd_X10_in ⟨Nat.le_of_ble_eq_true rfl, Nat.le_of_ble_eq_true rfl⟩) ⟨kBp_blind, fun U hU hW => ⟨rfl, by rw [hU]; exact hP.sub [] rfl, va_K.moved hW.alike hK⟩⟩ rfl rfl hl.1 rfl (lv_room (Nat.le_of_ble_eq_true rfl)) dX10_cell_18 ⟨Nat.le_of_ble_eq_true rfl, Nat.le_of_ble_eq_true rfl⟩) (fun r_4 hw_4 => ?_)
    obtain rfl : r_4 = kb (inL x3.toInt64 (lN 0) (lN 2)) := hw_4
    refine kk_top (y := kb (inB x3 3)) (congrArg kb (inL_b x3 (by omega))) ?_
    -- if inB x3 3
    refine kk_ifb_ne (tgt := 28) hx hb dX10_cell_21 (by decide) (fun hb_5 => ?_) (fun hb_5 => ?_)
    · skip
      obtain ⟨x3N, hx3N, rfl⟩ := inB_t hb_5
      have t_x3 := nI_clamp (show x3N < 2 ^ 31 by omega)
      have hz_x1 := hz x1N rfl (by omega)
      obtain ⟨hzc_x1, hzl_x1, hzs_x1⟩ := hz_x1
      rcases hzc_x1 with ⟨hr_x1, hz1_x1, hz2_x1⟩ | ⟨hr_x1, hz1_x1, hz2_x1⟩
      · skip
        have hrd_x1 : decide (rl = (-1 : Int32)) = true := decide_eq_true hr_x1
        refine lv_aload_n hx hb dX10_cell_28 rfl (lv_at hl 0 rfl) ?_
        refine va_get (D := D) (ci := 9) (v := .ref a31) (C := RX10) (T := TX10) (N := 36) hx hb hts hwX10 hown hK hP 0 rfl rfl 31 (by decide) hf_73 (fun _ h9 => h9) rfl dX10_cell_29 ?_
        refine lv_iload_n hx hb dX10_cell_32 rfl (lv_at hl 1 rfl) ?_
        refine kk_iald hx hb hK hP 1 rfl rfl (i := x1N) (by omega) (by decide) dX10_cell_33 ?_
        refine kk_top (y := (-1 : Int32)) hz1_x1 ?_
        refine lv_if_lt (tgt := 53) hx hb dX10_cell_34 (by decide) (fun h => ?_) (fun h => absurd (by decide) h)
        have hlan : decide (rl ≠ (-1 : Int32) ∧ rl ≠ (nI x3N)) = false := decide_eq_false (fun z => z.1 hr_x1)
        refine lv_aload_n hx hb dX10_cell_53 rfl (lv_at hl 0 rfl) ?_
        refine lv_iload_n hx hb dX10_cell_54 rfl (lv_at hl 1 rfl) ?_
        refine lv_iload_n hx hb dX10_cell_55 rfl (lv_at hl 2 rfl) ?_
        have o_6 : x1N < 4 := by omega
        have o_7 : zz x1N = (-1 : Int32) := by assumption
        refine vp_callSi (W.runV (As := [.int (nI x1N), .int x2]) (rest := []) ⟨hx, hb, hml, hown, hts⟩ (c_X10_noCell_null lL D cI cS m0 a1 a3 a5 a6 a7 a13 a14 a15 a16 a18 a19 a20 a21 a22 a23 a24 a25 a27 a28 a29 a30 a31 a32 a33 a34 (nI 0) (nI (cSp C)) (nI (cLa C)) (nI (cAg C)) (-9 : Int32) i10 i11 i12 (nI (mN T)) (nI (mN E)) i35 zz x1N x2 o_6 o_7) (cwV 2 hts gX10_cell_X10_noCell rfl rfl rfl cd_X10_noCell ⟨Nat.le_of_ble_eq_true rfl, Nat.le_of_ble_eq_true rfl⟩) ⟨kBp_blind, va_recv hK hP (ci := 9) (q0 := 0) rfl rfl, fun U hU hW => ⟨rfl, by rw [hU]; exact hP.sub [0, 1] rfl, va_K.moved hW.alike hK⟩⟩ rfl rfl hl.1 rfl (lv_room (Nat.le_of_ble_eq_true rfl)) dX10_cell_56 ⟨Nat.le_of_ble_eq_true rfl, Nat.le_of_ble_eq_true rfl⟩) (fun r_8 hw_8 => ?_)
        obtain rfl : r_8 = nI 1 := hw_8
        refine kk_if_le (x := 1) (tgt := 75) hx hb dX10_cell_59 (by decide) (by decide) (fun h => absurd h (by decide)) (fun h => ?_)
        refine lv_aload_n hx hb dX10_cell_62 rfl (lv_at hl 0 rfl) ?_
        refine lv_aload_n hx hb dX10_cell_63 rfl (lv_at hl 0 rfl) ?_
        refine lv_iload_n hx hb dX10_cell_64 rfl (lv_at hl 1 rfl) ?_
        refine lv_iload_n hx hb dX10_cell_65 rfl (lv_at hl 2 rfl) ?_
        have o_9 : x1N < 4 := by omega
        have o_10 : zz x1N = (-1 : Int32) := by assumption
        refine vp_callSi (W.runV (As := [.int (nI x1N), .int x2]) (rest := [.ref m0]) ⟨hx, hb, hml, hown, hts⟩ (c_X10_noCell_null lL D cI cS m0 a1 a3 a5 a6 a7 a13 a14 a15 a16 a18 a19 a20 a21 a22 a23 a24 a25 a27 a28 a29 a30 a31 a32 a33 a34 (nI 0) (nI (cSp C)) (nI (cLa C)) (nI (cAg C)) (-9 : Int32) i10 i11 i12 (nI (mN T)) (nI (mN E)) i35 zz x1N x2 o_9 o_10) (cwV 2 hts gX10_cell_X10_noCell rfl rfl rfl cd_X10_noCell ⟨Nat.le_of_ble_eq_true rfl, Nat.le_of_ble_eq_true rfl⟩) ⟨kBp_blind, va_recv hK hP (ci := 9) (q0 := 0) rfl rfl, fun U hU hW => ⟨rfl, by rw [hU]; exact hP.sub [0, 1] rfl, va_K.moved hW.alike hK⟩⟩ rfl rfl hl.1 rfl (lv_room (Nat.le_of_ble_eq_true rfl)) dX10_cell_66 ⟨Nat.le_of_ble_eq_true rfl, Nat.le_of_ble_eq_true rfl⟩) (fun r_11 hw_11 => ?_)
        obtain rfl : r_11 = nI 1 := hw_11
        have hF := va_free (wc := [(m0, .inr (9, [.int (nI 0), .ref a1, .int (nI (cSp C)), .ref a3, .int (nI (cLa C)), .ref a5, .ref a6, .ref a7, .int (nI (cAg C)), .int (-9 : Int32), .int i10, .int i11, .int i12, .ref a13, .ref a14, .ref a15, .ref a16, .int (nI (mN T)), .ref a18, .ref a19, .ref a20, .ref a21, .ref a22, .ref a23, .ref a24, .ref a25, .int (nI (mN E)), .ref a27, .ref a28, .ref a29, .ref a30, .ref a31, .ref a32, .ref a33, .ref a34, .int i35]))]) hD hS hA [0] rfl
        refine va_calll (va_runV (As := [.int (nI 1)]) (rest := []) ⟨hx, hb, hml, hown, hts⟩ (c_X10_failedLong lL D cI cS _ m0 a1 a3 a5 a6 a7 a13 a14 a15 a16 a18 a19 a20 a21 a22 a23 a24 a25 a27 a28 a29 a30 a31 a32 a33 a34 (nI 0) (nI (cSp C)) (nI (cLa C)) (nI (cAg C)) (-9 : Int32) i10 i11 i12 (nI (mN T)) (nI (mN E)) i35 (nI 1)) (cwV 1 hts gX10_cell_X10_failedLong rfl rfl rfl cd_X10_failedLong ⟨Nat.le_of_ble_eq_true rfl, Nat.le_of_ble_eq_true rfl⟩) ⟨kB_blind, va_recv hK hP (ci := 9) (q0 := 0) rfl rfl, fun U hU hW => ⟨rfl, by rw [hU], by rw [hU]; exact hP.sub [0] rfl, va_K.moved hW.alike hK, (hD.sub [0] (by decide) rfl).weaken (fun _ _ _ _ => trivial)⟩⟩ rfl rfl hl.1 rfl (lv_room (Nat.le_of_ble_eq_true rfl)) dX10_cell_69 ⟨Nat.le_of_ble_eq_true rfl, Nat.le_of_ble_eq_true rfl⟩) hS (fun q _ h => hF q h) hF (fun r_12 u_12 t H1 locs ht hvm hw_12 hB hz1 hk1 hS => ?_)
        obtain ⟨hP, hD⟩ := kk_join2 (wc := [(m0, .inr (9, [.int (nI 0), .ref a1, .int (nI (cSp C)), .ref a3, .int (nI (cLa C)), .ref a5, .ref a6, .ref a7, .int (nI (cAg C)), .int (-9 : Int32), .int i10, .int i11, .int i12, .ref a13, .ref a14, .ref a15, .ref a16, .int (nI (mN T)), .ref a18, .ref a19, .ref a20, .ref a21, .ref a22, .ref a23, .ref a24, .ref a25, .int (nI (mN E)), .ref a27, .ref a28, .ref a29, .ref a30, .ref a31, .ref a32, .ref a33, .ref a34, .int i35]))]) (w1 := [(m0, .inr (9, [.int (nI 1), .ref a1, .int (nI (cSp C)), .ref a3, .int (nI (cLa C)), .ref a5, .ref a6, .ref a7, .int (nI (cAg C)), .int (-9 : Int32), .int i10, .int i11, .int i12, .ref a13, .ref a14, .ref a15, .ref a16, .int (nI (mN T)), .ref a18, .ref a19, .ref a20, .ref a21, .ref a22, .ref a23, .ref a24, .ref a25, .int (nI (mN E)), .ref a27, .ref a28, .ref a29, .ref a30, .ref a31, .ref a32, .ref a33, .ref a34, .int i35]))]) (ws' := [(m0, .inr (9, [.int (nI 1), .ref a1, .int (nI (cSp C)), .ref a3, .int (nI (cLa C)), .ref a5, .ref a6, .ref a7, .int (nI (cAg C)), .int (-9 : Int32), .int i10, .int i11, .int i12, .ref a13, .ref a14, .ref a15, .ref a16, .int (nI (mN T)), .ref a18, .ref a19, .ref a20, .ref a21, .ref a22, .ref a23, .ref a24, .ref a25, .int (nI (mN E)), .ref a27, .ref a28, .ref a29, .ref a30, .ref a31, .ref a32, .ref a33, .ref a34, .int i35])), (a31, .inl (cI, 4, .inl zz)), (a32, .inl (cI, 4, .inl zl)), (a33, .inl (cI, 240, .inl zs))]) (wr := [(a31, .inl (cI, 4, .inl zz)), (a32, .inl (cI, 4, .inl zl)), (a33, .inl (cI, 240, .inl zs))]) (H1 := H1) hP hD [0] [1, 2, 3] rfl rfl rfl rfl 4 rfl (by decide) [m0, a31, a32, a33] rfl rfl hk1 (by rw [← ht]; exact hB)
        have hw_12 : r_12 = lostC ∧ True := hw_12
        clear hF hB hk1 hz1 hvm
        clear ht
        generalize H1 = H at hP hS ⊢
        obtain ⟨rfl, hw_12⟩ := hw_12
        refine lv_goto (tgt := 87) hx hb dX10_cell_72 (by decide) ?_
        have hq : lostC = sp_cell rl len cf (nI x1N) x2 (nI x3N) ∧ (nI 1) = nf_cell rl len (nI x1N) x2 (nI x3N) := by refine ⟨by simp only [sp_cell, hb_2, hb_5, hrd_x1, hlan, t_x1, t_x3, cond_true, cond_false, lostC], by simp only [nf_cell, hb_2, hb_5, hrd_x1, hlan, t_x1, t_x3, cond_true, cond_false]⟩
        refine kk_QQ hQQ ?_
        exact W.lret (v := lostC) hx hb hr (fun t ht hW => ⟨⟨lostC, (nI 1), rfl, hq, by show va_P D vwCl _ t.heap; rw [ht]; exact hP⟩, hS.F ht⟩) hS.2.2 dX10_cell_87
      · skip
        have hrd_x1 : decide (rl = (-1 : Int32)) = false := decide_eq_false hr_x1
        refine lv_aload_n hx hb dX10_cell_28 rfl (lv_at hl 0 rfl) ?_
        refine va_get (D := D) (ci := 9) (v := .ref a31) (C := RX10) (T := TX10) (N := 36) hx hb hts hwX10 hown hK hP 0 rfl rfl 31 (by decide) hf_73 (fun _ h9 => h9) rfl dX10_cell_29 ?_
        refine lv_iload_n hx hb dX10_cell_32 rfl (lv_at hl 1 rfl) ?_
        refine kk_iald hx hb hK hP 1 rfl rfl (i := x1N) (by omega) (by decide) dX10_cell_33 ?_
        refine kk_top (y := nI len) (hz1_x1) ?_
        refine kk_if_lt (tgt := 53) hx hb dX10_cell_34 (by omega) (by decide) ?_
        refine lv_aload_n hx hb dX10_cell_37 rfl (lv_at hl 0 rfl) ?_
        refine va_get (D := D) (ci := 9) (v := .ref a32) (C := RX10) (T := TX10) (N := 36) hx hb hts hwX10 hown hK hP 0 rfl rfl 32 (by decide) hf_76 (fun _ h9 => h9) rfl dX10_cell_38 ?_
        refine lv_iload_n hx hb dX10_cell_41 rfl (lv_at hl 1 rfl) ?_
        refine kk_iald hx hb hK hP 2 rfl rfl (i := x1N) (by omega) (by decide) dX10_cell_42 ?_
        refine kk_top (y := rl) hz2_x1 ?_
        refine lv_iload_n hx hb dX10_cell_43 rfl (lv_at hl 3 rfl) ?_
        refine lv_icmp_eq (tgt := 53) hx hb dX10_cell_44 (by decide) (fun c_13 => ?_) (fun c_13 => ?_)
        · skip
          have hlan : decide (rl ≠ (-1 : Int32) ∧ rl ≠ (nI x3N)) = false := decide_eq_false (fun z => z.2 c_13)
          rcases (show inB x2 len = true ∨ inB x2 len = false by cases inB x2 len <;> simp) with hbi | hbi
          · skip
            have hbc : hasC len x2 (nI 1) = true := by rw [hasC_1 hzl_x1]; exact hbi
            have hb_14 := hbi
            obtain ⟨x2N, hx2N, rfl⟩ := inB_t hb_14
            have t_x2 := nI_clamp (show x2N < 2 ^ 31 by omega)
            refine lv_aload_n hx hb dX10_cell_53 rfl (lv_at hl 0 rfl) ?_
            refine lv_iload_n hx hb dX10_cell_54 rfl (lv_at hl 1 rfl) ?_
            refine lv_iload_n hx hb dX10_cell_55 rfl (lv_at hl 2 rfl) ?_
            have o_15 : x1N < 4 := by omega
            have o_16 : len ≤ 60 := by omega
            have o_17 : zz x1N = nI len := by assumption
            have o_18 : x2N < len := by omega
            refine vp_callSi (W.runV (As := [.int (nI x1N), .int (nI x2N)]) (rest := []) ⟨hx, hb, hml, hown, hts⟩ (c_X10_noCell_in lL D cI cS m0 a1 a3 a5 a6 a7 a13 a14 a15 a16 a18 a19 a20 a21 a22 a23 a24 a25 a27 a28 a29 a30 a31 a32 a33 a34 (nI 0) (nI (cSp C)) (nI (cLa C)) (nI (cAg C)) (-9 : Int32) i10 i11 i12 (nI (mN T)) (nI (mN E)) i35 zz x1N x2N len o_15 o_16 o_17 o_18) (cwV 2 hts gX10_cell_X10_noCell rfl rfl rfl cd_X10_noCell ⟨Nat.le_of_ble_eq_true rfl, Nat.le_of_ble_eq_true rfl⟩) ⟨kBp_blind, va_recv hK hP (ci := 9) (q0 := 0) rfl rfl, fun U hU hW => ⟨rfl, by rw [hU]; exact hP.sub [0, 1] rfl, va_K.moved hW.alike hK⟩⟩ rfl rfl hl.1 rfl (lv_room (Nat.le_of_ble_eq_true rfl)) dX10_cell_56 ⟨Nat.le_of_ble_eq_true rfl, Nat.le_of_ble_eq_true rfl⟩) (fun r_19 hw_19 => ?_)
            obtain rfl : r_19 = nI 0 := hw_19
            refine kk_if_le (x := 0) (tgt := 75) hx hb dX10_cell_59 (by decide) (by decide) (fun h => ?_) (fun h => absurd h (by decide))
            refine lv_aload_n hx hb dX10_cell_75 rfl (lv_at hl 0 rfl) ?_
            refine va_get (D := D) (ci := 9) (v := .ref a33) (C := RX10) (T := TX10) (N := 36) hx hb hts hwX10 hown hK hP 0 rfl rfl 33 (by decide) hf_79 (fun _ h9 => h9) rfl dX10_cell_76 ?_
            refine lv_bipush (v := nI 60) hx hb dX10_cell_79 (by decide +kernel) ?_
            refine lv_iload_n hx hb dX10_cell_81 rfl (lv_at hl 1 rfl) ?_
            refine kk_imul hx hb dX10_cell_82 ?_
            refine lv_iload_n hx hb dX10_cell_83 rfl (lv_at hl 2 rfl) ?_
            refine kk_iadd hx hb dX10_cell_84 ?_
            refine kk_iald hx hb hK hP 3 rfl rfl (i := (60 * x1N) + x2N) (by omega) (by decide) dX10_cell_85 ?_
            refine kk_top (y := cf x2N) (hzs_x1 x2N (by omega)) ?_
            refine lv_i2l (v := (cf x2N).toInt64) hx hb dX10_cell_86 rfl ?_
            have hq : ((cf x2N).toInt64) = sp_cell rl len cf (nI x1N) (nI x2N) (nI x3N) ∧ (nI 0) = nf_cell rl len (nI x1N) (nI x2N) (nI x3N) := by refine ⟨by simp only [sp_cell, hb_2, hb_5, hrd_x1, hlan, hbc, t_x1, t_x3, t_x2, cond_true, cond_false, lostC], by simp only [nf_cell, hb_2, hb_5, hrd_x1, hlan, hbc, t_x1, t_x3, t_x2, cond_true, cond_false]⟩
            refine kk_QQ hQQ ?_
            exact W.lret (v := (cf x2N).toInt64) hx hb hr (fun t ht hW => ⟨⟨(cf x2N).toInt64, (nI 0), rfl, hq, by show va_P D vwCl _ t.heap; rw [ht]; exact hP⟩, hS.F ht⟩) hS.2.2 dX10_cell_87
          · skip
            have hbc : hasC len x2 (nI 1) = false := by rw [hasC_1 hzl_x1]; exact hbi
            refine lv_aload_n hx hb dX10_cell_53 rfl (lv_at hl 0 rfl) ?_
            refine lv_iload_n hx hb dX10_cell_54 rfl (lv_at hl 1 rfl) ?_
            refine lv_iload_n hx hb dX10_cell_55 rfl (lv_at hl 2 rfl) ?_
            have o_20 : x1N < 4 := by omega
            have o_21 : len ≤ 60 := by omega
            have o_22 : zz x1N = nI len := by assumption
            have o_23 : inB x2 len = false := by assumption
            refine vp_callSi (W.runV (As := [.int (nI x1N), .int x2]) (rest := []) ⟨hx, hb, hml, hown, hts⟩ (c_X10_noCell_out lL D cI cS m0 a1 a3 a5 a6 a7 a13 a14 a15 a16 a18 a19 a20 a21 a22 a23 a24 a25 a27 a28 a29 a30 a31 a32 a33 a34 (nI 0) (nI (cSp C)) (nI (cLa C)) (nI (cAg C)) (-9 : Int32) i10 i11 i12 (nI (mN T)) (nI (mN E)) i35 zz x1N x2 len o_20 o_21 o_22 o_23) (cwV 2 hts gX10_cell_X10_noCell rfl rfl rfl cd_X10_noCell ⟨Nat.le_of_ble_eq_true rfl, Nat.le_of_ble_eq_true rfl⟩) ⟨kBp_blind, va_recv hK hP (ci := 9) (q0 := 0) rfl rfl, fun U hU hW => ⟨rfl, by rw [hU]; exact hP.sub [0, 1] rfl, va_K.moved hW.alike hK⟩⟩ rfl rfl hl.1 rfl (lv_room (Nat.le_of_ble_eq_true rfl)) dX10_cell_56 ⟨Nat.le_of_ble_eq_true rfl, Nat.le_of_ble_eq_true rfl⟩) (fun r_24 hw_24 => ?_)
            obtain rfl : r_24 = nI 3 := hw_24
            refine kk_if_le (x := 3) (tgt := 75) hx hb dX10_cell_59 (by decide) (by decide) (fun h => absurd h (by decide)) (fun h => ?_)
            refine lv_aload_n hx hb dX10_cell_62 rfl (lv_at hl 0 rfl) ?_
            refine lv_aload_n hx hb dX10_cell_63 rfl (lv_at hl 0 rfl) ?_
            refine lv_iload_n hx hb dX10_cell_64 rfl (lv_at hl 1 rfl) ?_
            refine lv_iload_n hx hb dX10_cell_65 rfl (lv_at hl 2 rfl) ?_
            have o_25 : x1N < 4 := by omega
            have o_26 : len ≤ 60 := by omega
            have o_27 : zz x1N = nI len := by assumption
            have o_28 : inB x2 len = false := by assumption
            refine vp_callSi (W.runV (As := [.int (nI x1N), .int x2]) (rest := [.ref m0]) ⟨hx, hb, hml, hown, hts⟩ (c_X10_noCell_out lL D cI cS m0 a1 a3 a5 a6 a7 a13 a14 a15 a16 a18 a19 a20 a21 a22 a23 a24 a25 a27 a28 a29 a30 a31 a32 a33 a34 (nI 0) (nI (cSp C)) (nI (cLa C)) (nI (cAg C)) (-9 : Int32) i10 i11 i12 (nI (mN T)) (nI (mN E)) i35 zz x1N x2 len o_25 o_26 o_27 o_28) (cwV 2 hts gX10_cell_X10_noCell rfl rfl rfl cd_X10_noCell ⟨Nat.le_of_ble_eq_true rfl, Nat.le_of_ble_eq_true rfl⟩) ⟨kBp_blind, va_recv hK hP (ci := 9) (q0 := 0) rfl rfl, fun U hU hW => ⟨rfl, by rw [hU]; exact hP.sub [0, 1] rfl, va_K.moved hW.alike hK⟩⟩ rfl rfl hl.1 rfl (lv_room (Nat.le_of_ble_eq_true rfl)) dX10_cell_66 ⟨Nat.le_of_ble_eq_true rfl, Nat.le_of_ble_eq_true rfl⟩) (fun r_29 hw_29 => ?_)
            obtain rfl : r_29 = nI 3 := hw_29
            have hF := va_free (wc := [(m0, .inr (9, [.int (nI 0), .ref a1, .int (nI (cSp C)), .ref a3, .int (nI (cLa C)), .ref a5, .ref a6, .ref a7, .int (nI (cAg C)), .int (-9 : Int32), .int i10, .int i11, .int i12, .ref a13, .ref a14, .ref a15, .ref a16, .int (nI (mN T)), .ref a18, .ref a19, .ref a20, .ref a21, .ref a22, .ref a23, .ref a24, .ref a25, .int (nI (mN E)), .ref a27, .ref a28, .ref a29, .ref a30, .ref a31, .ref a32, .ref a33, .ref a34, .int i35]))]) hD hS hA [0] rfl
            refine va_calll (va_runV (As := [.int (nI 3)]) (rest := []) ⟨hx, hb, hml, hown, hts⟩ (c_X10_failedLong lL D cI cS _ m0 a1 a3 a5 a6 a7 a13 a14 a15 a16 a18 a19 a20 a21 a22 a23 a24 a25 a27 a28 a29 a30 a31 a32 a33 a34 (nI 0) (nI (cSp C)) (nI (cLa C)) (nI (cAg C)) (-9 : Int32) i10 i11 i12 (nI (mN T)) (nI (mN E)) i35 (nI 3)) (cwV 1 hts gX10_cell_X10_failedLong rfl rfl rfl cd_X10_failedLong ⟨Nat.le_of_ble_eq_true rfl, Nat.le_of_ble_eq_true rfl⟩) ⟨kB_blind, va_recv hK hP (ci := 9) (q0 := 0) rfl rfl, fun U hU hW => ⟨rfl, by rw [hU], by rw [hU]; exact hP.sub [0] rfl, va_K.moved hW.alike hK, (hD.sub [0] (by decide) rfl).weaken (fun _ _ _ _ => trivial)⟩⟩ rfl rfl hl.1 rfl (lv_room (Nat.le_of_ble_eq_true rfl)) dX10_cell_69 ⟨Nat.le_of_ble_eq_true rfl, Nat.le_of_ble_eq_true rfl⟩) hS (fun q _ h => hF q h) hF (fun r_30 u_30 t H1 locs ht hvm hw_30 hB hz1 hk1 hS => ?_)
            obtain ⟨hP, hD⟩ := kk_join2 (wc := [(m0, .inr (9, [.int (nI 0), .ref a1, .int (nI (cSp C)), .ref a3, .int (nI (cLa C)), .ref a5, .ref a6, .ref a7, .int (nI (cAg C)), .int (-9 : Int32), .int i10, .int i11, .int i12, .ref a13, .ref a14, .ref a15, .ref a16, .int (nI (mN T)), .ref a18, .ref a19, .ref a20, .ref a21, .ref a22, .ref a23, .ref a24, .ref a25, .int (nI (mN E)), .ref a27, .ref a28, .ref a29, .ref a30, .ref a31, .ref a32, .ref a33, .ref a34, .int i35]))]) (w1 := [(m0, .inr (9, [.int (nI 3), .ref a1, .int (nI (cSp C)), .ref a3, .int (nI (cLa C)), .ref a5, .ref a6, .ref a7, .int (nI (cAg C)), .int (-9 : Int32), .int i10, .int i11, .int i12, .ref a13, .ref a14, .ref a15, .ref a16, .int (nI (mN T)), .ref a18, .ref a19, .ref a20, .ref a21, .ref a22, .ref a23, .ref a24, .ref a25, .int (nI (mN E)), .ref a27, .ref a28, .ref a29, .ref a30, .ref a31, .ref a32, .ref a33, .ref a34, .int i35]))]) (ws' := [(m0, .inr (9, [.int (nI 3), .ref a1, .int (nI (cSp C)), .ref a3, .int (nI (cLa C)), .ref a5, .ref a6, .ref a7, .int (nI (cAg C)), .int (-9 : Int32), .int i10, .int i11, .int i12, .ref a13, .ref a14, .ref a15, .ref a16, .int (nI (mN T)), .ref a18, .ref a19, .ref a20, .ref a21, .ref a22, .ref a23, .ref a24, .ref a25, .int (nI (mN E)), .ref a27, .ref a28, .ref a29, .ref a30, .ref a31, .ref a32, .ref a33, .ref a34, .int i35])), (a31, .inl (cI, 4, .inl zz)), (a32, .inl (cI, 4, .inl zl)), (a33, .inl (cI, 240, .inl zs))]) (wr := [(a31, .inl (cI, 4, .inl zz)), (a32, .inl (cI, 4, .inl zl)), (a33, .inl (cI, 240, .inl zs))]) (H1 := H1) hP hD [0] [1, 2, 3] rfl rfl rfl rfl 4 rfl (by decide) [m0, a31, a32, a33] rfl rfl hk1 (by rw [← ht]; exact hB)
            have hw_30 : r_30 = lostC ∧ True := hw_30
            clear hF hB hk1 hz1 hvm
            clear ht
            generalize H1 = H at hP hS ⊢
            obtain ⟨rfl, hw_30⟩ := hw_30
            refine lv_goto (tgt := 87) hx hb dX10_cell_72 (by decide) ?_
            have hq : lostC = sp_cell rl len cf (nI x1N) x2 (nI x3N) ∧ (nI 3) = nf_cell rl len (nI x1N) x2 (nI x3N) := by refine ⟨by simp only [sp_cell, hb_2, hb_5, hrd_x1, hlan, hbc, t_x1, t_x3, cond_true, cond_false, lostC], by simp only [nf_cell, hb_2, hb_5, hrd_x1, hlan, hbc, t_x1, t_x3, cond_true, cond_false]⟩
            refine kk_QQ hQQ ?_
            exact W.lret (v := lostC) hx hb hr (fun t ht hW => ⟨⟨lostC, (nI 3), rfl, hq, by show va_P D vwCl _ t.heap; rw [ht]; exact hP⟩, hS.F ht⟩) hS.2.2 dX10_cell_87
        · skip
          have hlan : decide (rl ≠ (-1 : Int32) ∧ rl ≠ (nI x3N)) = true := decide_eq_true ⟨hr_x1, c_13⟩
          refine lv_aload_n hx hb dX10_cell_47 rfl (lv_at hl 0 rfl) ?_
          refine lv_iconst (v := nI 2) hx hb dX10_cell_48 (by decide +kernel) ?_
          have hF := va_free (wc := [(m0, .inr (9, [.int (nI 0), .ref a1, .int (nI (cSp C)), .ref a3, .int (nI (cLa C)), .ref a5, .ref a6, .ref a7, .int (nI (cAg C)), .int (-9 : Int32), .int i10, .int i11, .int i12, .ref a13, .ref a14, .ref a15, .ref a16, .int (nI (mN T)), .ref a18, .ref a19, .ref a20, .ref a21, .ref a22, .ref a23, .ref a24, .ref a25, .int (nI (mN E)), .ref a27, .ref a28, .ref a29, .ref a30, .ref a31, .ref a32, .ref a33, .ref a34, .int i35]))]) hD hS hA [0] rfl
          refine va_calll (va_runV (As := [.int (nI 2)]) (rest := []) ⟨hx, hb, hml, hown, hts⟩ (c_X10_failedLong lL D cI cS _ m0 a1 a3 a5 a6 a7 a13 a14 a15 a16 a18 a19 a20 a21 a22 a23 a24 a25 a27 a28 a29 a30 a31 a32 a33 a34 (nI 0) (nI (cSp C)) (nI (cLa C)) (nI (cAg C)) (-9 : Int32) i10 i11 i12 (nI (mN T)) (nI (mN E)) i35 (nI 2)) (cwV 1 hts gX10_cell_X10_failedLong rfl rfl rfl cd_X10_failedLong ⟨Nat.le_of_ble_eq_true rfl, Nat.le_of_ble_eq_true rfl⟩) ⟨kB_blind, va_recv hK hP (ci := 9) (q0 := 0) rfl rfl, fun U hU hW => ⟨rfl, by rw [hU], by rw [hU]; exact hP.sub [0] rfl, va_K.moved hW.alike hK, (hD.sub [0] (by decide) rfl).weaken (fun _ _ _ _ => trivial)⟩⟩ rfl rfl hl.1 rfl (lv_room (Nat.le_of_ble_eq_true rfl)) dX10_cell_49 ⟨Nat.le_of_ble_eq_true rfl, Nat.le_of_ble_eq_true rfl⟩) hS (fun q _ h => hF q h) hF (fun r_31 u_31 t H1 locs ht hvm hw_31 hB hz1 hk1 hS => ?_)
          obtain ⟨hP, hD⟩ := kk_join2 (wc := [(m0, .inr (9, [.int (nI 0), .ref a1, .int (nI (cSp C)), .ref a3, .int (nI (cLa C)), .ref a5, .ref a6, .ref a7, .int (nI (cAg C)), .int (-9 : Int32), .int i10, .int i11, .int i12, .ref a13, .ref a14, .ref a15, .ref a16, .int (nI (mN T)), .ref a18, .ref a19, .ref a20, .ref a21, .ref a22, .ref a23, .ref a24, .ref a25, .int (nI (mN E)), .ref a27, .ref a28, .ref a29, .ref a30, .ref a31, .ref a32, .ref a33, .ref a34, .int i35]))]) (w1 := [(m0, .inr (9, [.int (nI 2), .ref a1, .int (nI (cSp C)), .ref a3, .int (nI (cLa C)), .ref a5, .ref a6, .ref a7, .int (nI (cAg C)), .int (-9 : Int32), .int i10, .int i11, .int i12, .ref a13, .ref a14, .ref a15, .ref a16, .int (nI (mN T)), .ref a18, .ref a19, .ref a20, .ref a21, .ref a22, .ref a23, .ref a24, .ref a25, .int (nI (mN E)), .ref a27, .ref a28, .ref a29, .ref a30, .ref a31, .ref a32, .ref a33, .ref a34, .int i35]))]) (ws' := [(m0, .inr (9, [.int (nI 2), .ref a1, .int (nI (cSp C)), .ref a3, .int (nI (cLa C)), .ref a5, .ref a6, .ref a7, .int (nI (cAg C)), .int (-9 : Int32), .int i10, .int i11, .int i12, .ref a13, .ref a14, .ref a15, .ref a16, .int (nI (mN T)), .ref a18, .ref a19, .ref a20, .ref a21, .ref a22, .ref a23, .ref a24, .ref a25, .int (nI (mN E)), .ref a27, .ref a28, .ref a29, .ref a30, .ref a31, .ref a32, .ref a33, .ref a34, .int i35])), (a31, .inl (cI, 4, .inl zz)), (a32, .inl (cI, 4, .inl zl)), (a33, .inl (cI, 240, .inl zs))]) (wr := [(a31, .inl (cI, 4, .inl zz)), (a32, .inl (cI, 4, .inl zl)), (a33, .inl (cI, 240, .inl zs))]) (H1 := H1) hP hD [0] [1, 2, 3] rfl rfl rfl rfl 4 rfl (by decide) [m0, a31, a32, a33] rfl rfl hk1 (by rw [← ht]; exact hB)
          have hw_31 : r_31 = lostC ∧ True := hw_31
          clear hF hB hk1 hz1 hvm
          clear ht
          generalize H1 = H at hP hS ⊢
          obtain ⟨rfl, hw_31⟩ := hw_31
          have hq : lostC = sp_cell rl len cf (nI x1N) x2 (nI x3N) ∧ (nI 2) = nf_cell rl len (nI x1N) x2 (nI x3N) := by refine ⟨by simp only [sp_cell, hb_2, hb_5, hrd_x1, hlan, t_x1, t_x3, cond_true, cond_false, lostC], by simp only [nf_cell, hb_2, hb_5, hrd_x1, hlan, t_x1, t_x3, cond_true, cond_false]⟩
          refine kk_QQ hQQ ?_
          exact W.lret (v := lostC) hx hb hr (fun t ht hW => ⟨⟨lostC, (nI 2), rfl, hq, by show va_P D vwCl _ t.heap; rw [ht]; exact hP⟩, hS.F ht⟩) hS.2.2 dX10_cell_52
    · skip
      refine vp_callSl (W.runS (As := []) (rest := []) ⟨hx, hb, hml, hown, hts⟩ (c_X10_lost lL D cI cS ) (va_cwS 0 hts gX10_cell_X10_lost rfl rfl rfl cd_X10_lost ⟨Nat.le_of_ble_eq_true rfl, Nat.le_of_ble_eq_true rfl⟩) ⟨kBp_blind, fun U hU hW => ⟨rfl, by rw [hU]; exact hP.sub [] rfl, va_K.moved hW.alike hK⟩⟩ rfl rfl hl.1 rfl (lv_room (Nat.le_of_ble_eq_true rfl)) dX10_cell_24 ⟨Nat.le_of_ble_eq_true rfl, Nat.le_of_ble_eq_true rfl⟩) (fun r_32 hw_32 => ?_)
      obtain rfl : r_32 = lostC := hw_32
      have hq : lostC = sp_cell rl len cf (nI x1N) x2 x3 ∧ (nI 0) = nf_cell rl len (nI x1N) x2 x3 := by refine ⟨by simp only [sp_cell, hb_2, hb_5, t_x1, cond_true, cond_false, lostC], by simp only [nf_cell, hb_2, hb_5, t_x1, cond_true, cond_false]⟩
      refine kk_QQ hQQ ?_
      exact W.lret (v := lostC) hx hb hr (fun t ht hW => ⟨⟨lostC, (nI 0), rfl, hq, by show va_P D vwCl _ t.heap; rw [ht]; exact hP⟩, hS.F ht⟩) hS.2.2 dX10_cell_27

abbrev rmX10_cellsBarred : Room := { frames := 1, cells := 0, slots := 0, locals := 23 }
set_option maxHeartbeats 4000000 in
set_option maxRecDepth 100000 in
theorem c_X10_cellsBarred (lL : Launch) (D : va_G) (cI cS : ClassId) (sz : Nat) (m0 : Nat) (a1 : Nat) (a3 : Nat) (a5 : Nat) (a6 : Nat) (a7 : Nat) (a13 : Nat) (a14 : Nat) (a15 : Nat) (a16 : Nat) (a18 : Nat) (a19 : Nat) (a20 : Nat) (a21 : Nat) (a22 : Nat) (a23 : Nat) (a24 : Nat) (a25 : Nat) (a27 : Nat) (a28 : Nat) (a29 : Nat) (a30 : Nat) (a31 : Nat) (a32 : Nat) (a33 : Nat) (a34 : Nat) (i0 : Int32) (i2 : Int32) (i4 : Int32) (i8 : Int32) (i9 : Int32) (i10 : Int32) (i11 : Int32) (i12 : Int32) (i17 : Int32) (i26 : Int32) (i35 : Int32) (zz : Nat → Int32) (zl : Nat → Int32) (zs : Nat → Int32) (k : Nat) (y : Int32) (z : Int32) (q : Int32) (rl : Int32) (len : Nat) (cf : Nat → Int32) (hk : k < 4) (hz : zR k rl len cf zz zl zs) : Met lL yX10_cellsBarred wsX10_cellsBarred rmX10_cellsBarred (va_Pc [.ref m0, .int (nI k), .int y, .int z, .long q.toInt64] (kB D cI cS [(m0, .inr (9, [.int i0, .ref a1, .int i2, .ref a3, .int i4, .ref a5, .ref a6, .ref a7, .int i8, .int i9, .int i10, .int i11, .int i12, .ref a13, .ref a14, .ref a15, .ref a16, .int i17, .ref a18, .ref a19, .ref a20, .ref a21, .ref a22, .ref a23, .ref a24, .ref a25, .int i26, .ref a27, .ref a28, .ref a29, .ref a30, .ref a31, .ref a32, .ref a33, .ref a34, .int i35])), (a31, .inl (cI, 4, .inl zz)), (a32, .inl (cI, 4, .inl zl)), (a33, .inl (cI, 240, .inl zs))] sz)) (kQi D (fun (r : Int32) (u : Int32) => (hasC len z q = true ∧ decide (rl ≠ (-1 : Int32) ∧ rl ≠ y) = false ∧ decide (rl = (-1 : Int32)) = false ∧ 0 ≤ q ∧ r = nI 0 ∧ u = i0) ∨ (r = cb_r rl len y z q ∧ u = cb_f rl len y z q ∧ r < 0)) (fun u : Int32 => [(m0, .inr (9, [.int u, .ref a1, .int i2, .ref a3, .int i4, .ref a5, .ref a6, .ref a7, .int i8, .int i9, .int i10, .int i11, .int i12, .ref a13, .ref a14, .ref a15, .ref a16, .int i17, .ref a18, .ref a19, .ref a20, .ref a21, .ref a22, .ref a23, .ref a24, .ref a25, .int i26, .ref a27, .ref a28, .ref a29, .ref a30, .ref a31, .ref a32, .ref a33, .ref a34, .int i35])), (a31, .inl (cI, 4, .inl zz)), (a32, .inl (cI, 4, .inl zl)), (a33, .inl (cI, 240, .inl zs))]) (va_A [(m0, .inr (9, [.int i0, .ref a1, .int i2, .ref a3, .int i4, .ref a5, .ref a6, .ref a7, .int i8, .int i9, .int i10, .int i11, .int i12, .ref a13, .ref a14, .ref a15, .ref a16, .int i17, .ref a18, .ref a19, .ref a20, .ref a21, .ref a22, .ref a23, .ref a24, .ref a25, .int i26, .ref a27, .ref a28, .ref a29, .ref a30, .ref a31, .ref a32, .ref a33, .ref a34, .int i35])), (a31, .inl (cI, 4, .inl zz)), (a32, .inl (cI, 4, .inl zl)), (a33, .inl (cI, 240, .inl zs))] sz)) 0 0 (va_A [(m0, .inr (9, [.int i0, .ref a1, .int i2, .ref a3, .int i4, .ref a5, .ref a6, .ref a7, .int i8, .int i9, .int i10, .int i11, .int i12, .ref a13, .ref a14, .ref a15, .ref a16, .int i17, .ref a18, .ref a19, .ref a20, .ref a21, .ref a22, .ref a23, .ref a24, .ref a25, .int i26, .ref a27, .ref a28, .ref a29, .ref a30, .ref a31, .ref a32, .ref a33, .ref a34, .int i35])), (a31, .inl (cI, 4, .inl zz)), (a32, .inl (cI, 4, .inl zl)), (a33, .inl (cI, 240, .inl zs))] sz) := by
  refine Met.ofW (cc := cX10_cellsBarred) (maxL := 6) (ret := (some .int)) (by decide) rfl ?_
  intro pP eE sS mM args below meth cC s₁ B hml hv
  obtain ⟨rfl, hsz, hP, hK, hD0⟩ := hv
  have hx := B.exec
  have hb := B.bytes
  have hr := B.returns
  have hts := atoms_spec (ws := wsX10_cellsBarred) B.pre
  have hown : sS.vm.findClass RX10 = some mM.cls := findClass_of_methodNamed B.named
  have hlocks := B.notSynchronized
  subst hsz
  have hD := hD0.self (sz := sS.heap.size)
  generalize hAe : va_A [(m0, .inr (9, [.int i0, .ref a1, .int i2, .ref a3, .int i4, .ref a5, .ref a6, .ref a7, .int i8, .int i9, .int i10, .int i11, .int i12, .ref a13, .ref a14, .ref a15, .ref a16, .int i17, .ref a18, .ref a19, .ref a20, .ref a21, .ref a22, .ref a23, .ref a24, .ref a25, .int i26, .ref a27, .ref a28, .ref a29, .ref a30, .ref a31, .ref a32, .ref a33, .ref a34, .int i35])), (a31, .inl (cI, 4, .inl zz)), (a32, .inl (cI, 4, .inl zl)), (a33, .inl (cI, 240, .inl zs))] sS.heap.size = A at hD ⊢
  have hA : ∀ q : Nat, sS.heap.size ≤ q → A q := fun q h => by rw [← hAe]; exact Or.inr h
  have hS : va_S A sS.heap sS.heap [] := va_S.rf
  have hP : va_P D vwCl [(m0, .inr (9, [.int i0, .ref a1, .int i2, .ref a3, .int i4, .ref a5, .ref a6, .ref a7, .int i8, .int i9, .int i10, .int i11, .int i12, .ref a13, .ref a14, .ref a15, .ref a16, .int i17, .ref a18, .ref a19, .ref a20, .ref a21, .ref a22, .ref a23, .ref a24, .ref a25, .int i26, .ref a27, .ref a28, .ref a29, .ref a30, .ref a31, .ref a32, .ref a33, .ref a34, .int i35])), (a31, .inl (cI, 4, .inl zz)), (a32, .inl (cI, 4, .inl zl)), (a33, .inl (cI, 240, .inl zs))] sS.heap := hP
  have hD : va_D A [(m0, .inr (9, [.int i0, .ref a1, .int i2, .ref a3, .int i4, .ref a5, .ref a6, .ref a7, .int i8, .int i9, .int i10, .int i11, .int i12, .ref a13, .ref a14, .ref a15, .ref a16, .int i17, .ref a18, .ref a19, .ref a20, .ref a21, .ref a22, .ref a23, .ref a24, .ref a25, .int i26, .ref a27, .ref a28, .ref a29, .ref a30, .ref a31, .ref a32, .ref a33, .ref a34, .int i35])), (a31, .inl (cI, 4, .inl zz)), (a32, .inl (cI, 4, .inl zl)), (a33, .inl (cI, 240, .inl zs))] := hD
  have hf_73 := hts (.fieldLink RX10 73 "OldLampsModel" "sheetSize" "[I") (List.mem_of_getElem? (i := 1) rfl)
  have hf_76 := hts (.fieldLink RX10 76 "OldLampsModel" "sheetLane" "[I") (List.mem_of_getElem? (i := 2) rfl)
  have hwX10 : ∀ w ∈ wsX100, w ∈ wsX10_cellsBarred := fun _ h => List.mem_cons_of_mem _ (List.mem_append_right _ h)
  have hl := lv_entry ([.ref m0, .int (nI k), .int y, .int z, .long q.toInt64]) (n := 6) (Nat.le_of_ble_eq_true rfl)
  rw [lg_entry_eq]
  generalize (lg_sl ([.ref m0, .int (nI k), .int y, .int z, .long q.toInt64]) ++ List.replicate (6 - (lg_sl ([.ref m0, .int (nI k), .int y, .int z, .long q.toInt64])).length) Slot.unset).toArray = ls at hl ⊢
  have hl : lv_has ls 6 [(0, .ref m0), (1, .int (nI k)), (2, .int y), (3, .int z), (4, .long q.toInt64)] := hl
  obtain ⟨QQ, hQQ⟩ : ∃ QQ : State → Prop, QQ = MQ below (kQi D (fun (r : Int32) (u : Int32) => (hasC len z q = true ∧ decide (rl ≠ (-1 : Int32) ∧ rl ≠ y) = false ∧ decide (rl = (-1 : Int32)) = false ∧ 0 ≤ q ∧ r = nI 0 ∧ u = i0) ∨ (r = cb_r rl len y z q ∧ u = cb_f rl len y z q ∧ r < 0)) (fun u : Int32 => [(m0, .inr (9, [.int u, .ref a1, .int i2, .ref a3, .int i4, .ref a5, .ref a6, .ref a7, .int i8, .int i9, .int i10, .int i11, .int i12, .ref a13, .ref a14, .ref a15, .ref a16, .int i17, .ref a18, .ref a19, .ref a20, .ref a21, .ref a22, .ref a23, .ref a24, .ref a25, .int i26, .ref a27, .ref a28, .ref a29, .ref a30, .ref a31, .ref a32, .ref a33, .ref a34, .int i35])), (a31, .inl (cI, 4, .inl zz)), (a32, .inl (cI, 4, .inl zl)), (a33, .inl (cI, 240, .inl zs))]) A) ([.ref m0, .int (nI k), .int y, .int z, .long q.toInt64]).toArray sS 0 0 A := ⟨_, rfl⟩
  refine kk_QQ hQQ.symm ?_
  obtain ⟨hzc_k, hzl_k, hzs_k⟩ := hz
  rcases hzc_k with ⟨hr_k, hz1_k, hz2_k⟩ | ⟨hr_k, hz1_k, hz2_k⟩
  · skip
    have hrd_k : decide (rl = (-1 : Int32)) = true := decide_eq_true hr_k
    refine lv_aload_n hx hb dX10_cellsBarred_0 rfl (lv_at hl 0 rfl) ?_
    refine va_get (D := D) (ci := 9) (v := .ref a31) (C := RX10) (T := TX10) (N := 36) hx hb hts hwX10 hown hK hP 0 rfl rfl 31 (by decide) hf_73 (fun _ h9 => h9) rfl dX10_cellsBarred_1 ?_
    refine lv_iload_n hx hb dX10_cellsBarred_4 rfl (lv_at hl 1 rfl) ?_
    refine kk_iald hx hb hK hP 1 rfl rfl (i := k) (by omega) (by decide) dX10_cellsBarred_5 ?_
    refine kk_top (y := (-1 : Int32)) hz1_k ?_
    refine lv_if_lt (tgt := 25) hx hb dX10_cellsBarred_6 (by decide) (fun h => ?_) (fun h => absurd (by decide) h)
    have hlan : decide (rl ≠ (-1 : Int32) ∧ rl ≠ y) = false := decide_eq_false (fun z => z.1 hr_k)
    refine lv_aload_n hx hb dX10_cellsBarred_25 rfl (lv_at hl 0 rfl) ?_
    refine va_get (D := D) (ci := 9) (v := .ref a31) (C := RX10) (T := TX10) (N := 36) hx hb hts hwX10 hown hK hP 0 rfl rfl 31 (by decide) hf_73 (fun _ h9 => h9) rfl dX10_cellsBarred_26 ?_
    refine lv_iload_n hx hb dX10_cellsBarred_29 rfl (lv_at hl 1 rfl) ?_
    refine kk_iald hx hb hK hP 1 rfl rfl (i := k) (by omega) (by decide) dX10_cellsBarred_30 ?_
    refine kk_top (y := (-1 : Int32)) hz1_k ?_
    refine lv_if_ge (tgt := 40) hx hb dX10_cellsBarred_31 (by decide) (fun h => absurd h (by decide)) (fun h => ?_)
    refine lv_aload_n hx hb dX10_cellsBarred_34 rfl (lv_at hl 0 rfl) ?_
    refine lv_iconst (v := nI 1) hx hb dX10_cellsBarred_35 (by decide +kernel) ?_
    have hF := va_free (wc := [(m0, .inr (9, [.int i0, .ref a1, .int i2, .ref a3, .int i4, .ref a5, .ref a6, .ref a7, .int i8, .int i9, .int i10, .int i11, .int i12, .ref a13, .ref a14, .ref a15, .ref a16, .int i17, .ref a18, .ref a19, .ref a20, .ref a21, .ref a22, .ref a23, .ref a24, .ref a25, .int i26, .ref a27, .ref a28, .ref a29, .ref a30, .ref a31, .ref a32, .ref a33, .ref a34, .int i35]))]) hD hS hA [0] rfl
    refine va_calli (va_runV (As := [.int (nI 1)]) (rest := []) ⟨hx, hb, hml, hown, hts⟩ (c_X10_failed lL D cI cS _ m0 a1 a3 a5 a6 a7 a13 a14 a15 a16 a18 a19 a20 a21 a22 a23 a24 a25 a27 a28 a29 a30 a31 a32 a33 a34 i0 i2 i4 i8 i9 i10 i11 i12 i17 i26 i35 (nI 1)) (cwV 1 hts gX10_cellsBarred_X10_failed rfl rfl rfl cd_X10_failed ⟨Nat.le_of_ble_eq_true rfl, Nat.le_of_ble_eq_true rfl⟩) ⟨kB_blind, va_recv hK hP (ci := 9) (q0 := 0) rfl rfl, fun U hU hW => ⟨rfl, by rw [hU], by rw [hU]; exact hP.sub [0] rfl, va_K.moved hW.alike hK, (hD.sub [0] (by decide) rfl).weaken (fun _ _ _ _ => trivial)⟩⟩ rfl rfl hl.1 rfl (lv_room (Nat.le_of_ble_eq_true rfl)) dX10_cellsBarred_36 ⟨Nat.le_of_ble_eq_true rfl, Nat.le_of_ble_eq_true rfl⟩) hS (fun q _ h => hF q h) hF (fun r_1 u_1 t H1 locs ht hvm hw_1 hB hz1 hk1 hS => ?_)
    obtain ⟨hP, hD⟩ := kk_join2 (wc := [(m0, .inr (9, [.int i0, .ref a1, .int i2, .ref a3, .int i4, .ref a5, .ref a6, .ref a7, .int i8, .int i9, .int i10, .int i11, .int i12, .ref a13, .ref a14, .ref a15, .ref a16, .int i17, .ref a18, .ref a19, .ref a20, .ref a21, .ref a22, .ref a23, .ref a24, .ref a25, .int i26, .ref a27, .ref a28, .ref a29, .ref a30, .ref a31, .ref a32, .ref a33, .ref a34, .int i35]))]) (w1 := [(m0, .inr (9, [.int (nI 1), .ref a1, .int i2, .ref a3, .int i4, .ref a5, .ref a6, .ref a7, .int i8, .int i9, .int i10, .int i11, .int i12, .ref a13, .ref a14, .ref a15, .ref a16, .int i17, .ref a18, .ref a19, .ref a20, .ref a21, .ref a22, .ref a23, .ref a24, .ref a25, .int i26, .ref a27, .ref a28, .ref a29, .ref a30, .ref a31, .ref a32, .ref a33, .ref a34, .int i35]))]) (ws' := [(m0, .inr (9, [.int (nI 1), .ref a1, .int i2, .ref a3, .int i4, .ref a5, .ref a6, .ref a7, .int i8, .int i9, .int i10, .int i11, .int i12, .ref a13, .ref a14, .ref a15, .ref a16, .int i17, .ref a18, .ref a19, .ref a20, .ref a21, .ref a22, .ref a23, .ref a24, .ref a25, .int i26, .ref a27, .ref a28, .ref a29, .ref a30, .ref a31, .ref a32, .ref a33, .ref a34, .int i35])), (a31, .inl (cI, 4, .inl zz)), (a32, .inl (cI, 4, .inl zl)), (a33, .inl (cI, 240, .inl zs))]) (wr := [(a31, .inl (cI, 4, .inl zz)), (a32, .inl (cI, 4, .inl zl)), (a33, .inl (cI, 240, .inl zs))]) (H1 := H1) hP hD [0] [1, 2, 3] rfl rfl rfl rfl 4 rfl (by decide) [m0, a31, a32, a33] rfl rfl hk1 (by rw [← ht]; exact hB)
    have hw_1 : r_1 = (-10 : Int32) - (nI 1) ∧ True := hw_1
    clear hF hB hk1 hz1 hvm
    clear ht
    generalize H1 = H at hP hS ⊢
    obtain ⟨rfl, hw_1⟩ := hw_1
    have hq : (hasC len z q = true ∧ decide (rl ≠ (-1 : Int32) ∧ rl ≠ y) = false ∧ decide (rl = (-1 : Int32)) = false ∧ 0 ≤ q ∧ ((-10 : Int32) - (nI 1)) = nI 0 ∧ (nI 1) = i0) ∨ (((-10 : Int32) - (nI 1)) = cb_r rl len y z q ∧ (nI 1) = cb_f rl len y z q ∧ ((-10 : Int32) - (nI 1)) < 0) := by refine Or.inr ⟨by simp only [cb_r, hrd_k, hlan, cond_true, cond_false], by simp only [cb_f, hrd_k, hlan, cond_true, cond_false], by decide +kernel⟩
    refine kk_QQ hQQ ?_
    exact W.iret (v := (-10 : Int32) - (nI 1)) hx hb hr (fun t ht hW => ⟨⟨(-10 : Int32) - (nI 1), (nI 1), rfl, hq, by show va_P D vwCl _ t.heap; rw [ht]; exact hP⟩, hS.F ht⟩) hS.2.2 dX10_cellsBarred_39
  · skip
    have hrd_k : decide (rl = (-1 : Int32)) = false := decide_eq_false hr_k
    refine lv_aload_n hx hb dX10_cellsBarred_0 rfl (lv_at hl 0 rfl) ?_
    refine va_get (D := D) (ci := 9) (v := .ref a31) (C := RX10) (T := TX10) (N := 36) hx hb hts hwX10 hown hK hP 0 rfl rfl 31 (by decide) hf_73 (fun _ h9 => h9) rfl dX10_cellsBarred_1 ?_
    refine lv_iload_n hx hb dX10_cellsBarred_4 rfl (lv_at hl 1 rfl) ?_
    refine kk_iald hx hb hK hP 1 rfl rfl (i := k) (by omega) (by decide) dX10_cellsBarred_5 ?_
    refine kk_top (y := nI len) (hz1_k) ?_
    refine kk_if_lt (tgt := 25) hx hb dX10_cellsBarred_6 (by omega) (by decide) ?_
    refine lv_aload_n hx hb dX10_cellsBarred_9 rfl (lv_at hl 0 rfl) ?_
    refine va_get (D := D) (ci := 9) (v := .ref a32) (C := RX10) (T := TX10) (N := 36) hx hb hts hwX10 hown hK hP 0 rfl rfl 32 (by decide) hf_76 (fun _ h9 => h9) rfl dX10_cellsBarred_10 ?_
    refine lv_iload_n hx hb dX10_cellsBarred_13 rfl (lv_at hl 1 rfl) ?_
    refine kk_iald hx hb hK hP 2 rfl rfl (i := k) (by omega) (by decide) dX10_cellsBarred_14 ?_
    refine kk_top (y := rl) hz2_k ?_
    refine lv_iload_n hx hb dX10_cellsBarred_15 rfl (lv_at hl 2 rfl) ?_
    refine lv_icmp_eq (tgt := 25) hx hb dX10_cellsBarred_16 (by decide) (fun c_2 => ?_) (fun c_2 => ?_)
    · skip
      have hlan : decide (rl ≠ (-1 : Int32) ∧ rl ≠ y) = false := decide_eq_false (fun z => z.2 c_2)
      refine lv_aload_n hx hb dX10_cellsBarred_25 rfl (lv_at hl 0 rfl) ?_
      refine va_get (D := D) (ci := 9) (v := .ref a31) (C := RX10) (T := TX10) (N := 36) hx hb hts hwX10 hown hK hP 0 rfl rfl 31 (by decide) hf_73 (fun _ h9 => h9) rfl dX10_cellsBarred_26 ?_
      refine lv_iload_n hx hb dX10_cellsBarred_29 rfl (lv_at hl 1 rfl) ?_
      refine kk_iald hx hb hK hP 1 rfl rfl (i := k) (by omega) (by decide) dX10_cellsBarred_30 ?_
      refine kk_top (y := nI len) (hz1_k) ?_
      refine kk_if_ge (tgt := 40) hx hb dX10_cellsBarred_31 (by decide) (by omega) ?_
      refine lv_lload hx hb dX10_cellsBarred_40 (lv_at hl 4 rfl) ?_
      refine lv_lconst (v := lN 0) hx hb dX10_cellsBarred_42 (by decide +kernel) ?_
      refine W.lcmp hx hb dX10_cellsBarred_43 ?_
      refine lv_if_ge (tgt := 53) hx hb dX10_cellsBarred_44 (by decide) (fun c_3 => ?_) (fun c_3 => ?_)
      · skip
        have hqp := l64_pos ((lg_cmp_ge _ _).mp c_3)
        refine lv_iload_n hx hb dX10_cellsBarred_53 rfl (lv_at hl 3 rfl) ?_
        refine lv_lload hx hb dX10_cellsBarred_54 (lv_at hl 4 rfl) ?_
        refine lv_aload_n hx hb dX10_cellsBarred_56 rfl (lv_at hl 0 rfl) ?_
        refine va_get (D := D) (ci := 9) (v := .ref a31) (C := RX10) (T := TX10) (N := 36) hx hb hts hwX10 hown hK hP 0 rfl rfl 31 (by decide) hf_73 (fun _ h9 => h9) rfl dX10_cellsBarred_57 ?_
        refine lv_iload_n hx hb dX10_cellsBarred_60 rfl (lv_at hl 1 rfl) ?_
        refine kk_iald hx hb hK hP 1 rfl rfl (i := k) (by omega) (by decide) dX10_cellsBarred_61 ?_
        refine kk_top (y := nI len) (hz1_k) ?_
        have o_4 : len ≤ 60 := by omega
        refine vp_callSi (W.runS (As := [.int z, .long q.toInt64, .int (nI len)]) (rest := []) ⟨hx, hb, hml, hown, hts⟩ (c_X10_isBeyond lL D cI cS z q len o_4) (va_cwS 3 hts gX10_cellsBarred_X10_isBeyond rfl rfl rfl cd_X10_isBeyond ⟨Nat.le_of_ble_eq_true rfl, Nat.le_of_ble_eq_true rfl⟩) ⟨kBp_blind, fun U hU hW => ⟨rfl, by rw [hU]; exact hP.sub [] rfl, va_K.moved hW.alike hK⟩⟩ rfl rfl hl.1 rfl (lv_room (Nat.le_of_ble_eq_true rfl)) dX10_cellsBarred_62 ⟨Nat.le_of_ble_eq_true rfl, Nat.le_of_ble_eq_true rfl⟩) (fun r_5 hw_5 => ?_)
        obtain rfl : r_5 = kb (!hasC len z q) := hw_5
        refine kk_ifn_eq (tgt := 76) hx hb dX10_cellsBarred_65 (by decide) (fun hb_6 => ?_) (fun hb_6 => ?_)
        · skip
          have hnl := hlan
          have hrn := hrd_k
          refine lv_iconst (v := nI 0) hx hb dX10_cellsBarred_76 (by decide +kernel) ?_
          have hq : (hasC len z q = true ∧ decide (rl ≠ (-1 : Int32) ∧ rl ≠ y) = false ∧ decide (rl = (-1 : Int32)) = false ∧ 0 ≤ q ∧ (nI 0) = nI 0 ∧ i0 = i0) ∨ ((nI 0) = cb_r rl len y z q ∧ i0 = cb_f rl len y z q ∧ (nI 0) < 0) := by exact Or.inl ⟨hb_6, hnl, hrn, l64_pos ((lg_cmp_ge _ _).mp c_3), rfl, rfl⟩
          refine kk_QQ hQQ ?_
          exact W.iret (v := nI 0) hx hb hr (fun t ht hW => ⟨⟨nI 0, i0, rfl, hq, by show va_P D vwCl _ t.heap; rw [ht]; exact hP⟩, hS.F ht⟩) hS.2.2 dX10_cellsBarred_77
        · skip
          refine lv_aload_n hx hb dX10_cellsBarred_68 rfl (lv_at hl 0 rfl) ?_
          refine lv_iconst (v := nI 3) hx hb dX10_cellsBarred_69 (by decide +kernel) ?_
          have hF := va_free (wc := [(m0, .inr (9, [.int i0, .ref a1, .int i2, .ref a3, .int i4, .ref a5, .ref a6, .ref a7, .int i8, .int i9, .int i10, .int i11, .int i12, .ref a13, .ref a14, .ref a15, .ref a16, .int i17, .ref a18, .ref a19, .ref a20, .ref a21, .ref a22, .ref a23, .ref a24, .ref a25, .int i26, .ref a27, .ref a28, .ref a29, .ref a30, .ref a31, .ref a32, .ref a33, .ref a34, .int i35]))]) hD hS hA [0] rfl
          refine va_calli (va_runV (As := [.int (nI 3)]) (rest := []) ⟨hx, hb, hml, hown, hts⟩ (c_X10_failed lL D cI cS _ m0 a1 a3 a5 a6 a7 a13 a14 a15 a16 a18 a19 a20 a21 a22 a23 a24 a25 a27 a28 a29 a30 a31 a32 a33 a34 i0 i2 i4 i8 i9 i10 i11 i12 i17 i26 i35 (nI 3)) (cwV 1 hts gX10_cellsBarred_X10_failed rfl rfl rfl cd_X10_failed ⟨Nat.le_of_ble_eq_true rfl, Nat.le_of_ble_eq_true rfl⟩) ⟨kB_blind, va_recv hK hP (ci := 9) (q0 := 0) rfl rfl, fun U hU hW => ⟨rfl, by rw [hU], by rw [hU]; exact hP.sub [0] rfl, va_K.moved hW.alike hK, (hD.sub [0] (by decide) rfl).weaken (fun _ _ _ _ => trivial)⟩⟩ rfl rfl hl.1 rfl (lv_room (Nat.le_of_ble_eq_true rfl)) dX10_cellsBarred_70 ⟨Nat.le_of_ble_eq_true rfl, Nat.le_of_ble_eq_true rfl⟩) hS (fun q _ h => hF q h) hF (fun r_7 u_7 t H1 locs ht hvm hw_7 hB hz1 hk1 hS => ?_)
          obtain ⟨hP, hD⟩ := kk_join2 (wc := [(m0, .inr (9, [.int i0, .ref a1, .int i2, .ref a3, .int i4, .ref a5, .ref a6, .ref a7, .int i8, .int i9, .int i10, .int i11, .int i12, .ref a13, .ref a14, .ref a15, .ref a16, .int i17, .ref a18, .ref a19, .ref a20, .ref a21, .ref a22, .ref a23, .ref a24, .ref a25, .int i26, .ref a27, .ref a28, .ref a29, .ref a30, .ref a31, .ref a32, .ref a33, .ref a34, .int i35]))]) (w1 := [(m0, .inr (9, [.int (nI 3), .ref a1, .int i2, .ref a3, .int i4, .ref a5, .ref a6, .ref a7, .int i8, .int i9, .int i10, .int i11, .int i12, .ref a13, .ref a14, .ref a15, .ref a16, .int i17, .ref a18, .ref a19, .ref a20, .ref a21, .ref a22, .ref a23, .ref a24, .ref a25, .int i26, .ref a27, .ref a28, .ref a29, .ref a30, .ref a31, .ref a32, .ref a33, .ref a34, .int i35]))]) (ws' := [(m0, .inr (9, [.int (nI 3), .ref a1, .int i2, .ref a3, .int i4, .ref a5, .ref a6, .ref a7, .int i8, .int i9, .int i10, .int i11, .int i12, .ref a13, .ref a14, .ref a15, .ref a16, .int i17, .ref a18, .ref a19, .ref a20, .ref a21, .ref a22, .ref a23, .ref a24, .ref a25, .int i26, .ref a27, .ref a28, .ref a29, .ref a30, .ref a31, .ref a32, .ref a33, .ref a34, .int i35])), (a31, .inl (cI, 4, .inl zz)), (a32, .inl (cI, 4, .inl zl)), (a33, .inl (cI, 240, .inl zs))]) (wr := [(a31, .inl (cI, 4, .inl zz)), (a32, .inl (cI, 4, .inl zl)), (a33, .inl (cI, 240, .inl zs))]) (H1 := H1) hP hD [0] [1, 2, 3] rfl rfl rfl rfl 4 rfl (by decide) [m0, a31, a32, a33] rfl rfl hk1 (by rw [← ht]; exact hB)
          have hw_7 : r_7 = (-10 : Int32) - (nI 3) ∧ True := hw_7
          clear hF hB hk1 hz1 hvm
          clear ht
          generalize H1 = H at hP hS ⊢
          obtain ⟨rfl, hw_7⟩ := hw_7
          refine lv_goto (tgt := 77) hx hb dX10_cellsBarred_73 (by decide) ?_
          have hq : (hasC len z q = true ∧ decide (rl ≠ (-1 : Int32) ∧ rl ≠ y) = false ∧ decide (rl = (-1 : Int32)) = false ∧ 0 ≤ q ∧ ((-10 : Int32) - (nI 3)) = nI 0 ∧ (nI 3) = i0) ∨ (((-10 : Int32) - (nI 3)) = cb_r rl len y z q ∧ (nI 3) = cb_f rl len y z q ∧ ((-10 : Int32) - (nI 3)) < 0) := by refine Or.inr ⟨by simp only [cb_r, hrd_k, hlan, hb_6, cond_true, cond_false, if_pos hqp], by simp only [cb_f, hrd_k, hlan, hb_6, cond_true, cond_false, if_pos hqp], by decide +kernel⟩
          refine kk_QQ hQQ ?_
          exact W.iret (v := (-10 : Int32) - (nI 3)) hx hb hr (fun t ht hW => ⟨⟨(-10 : Int32) - (nI 3), (nI 3), rfl, hq, by show va_P D vwCl _ t.heap; rw [ht]; exact hP⟩, hS.F ht⟩) hS.2.2 dX10_cellsBarred_77
      · skip
        have hqn := l64_neg (fun z => c_3 ((lg_cmp_ge _ _).mpr z))
        refine lv_aload_n hx hb dX10_cellsBarred_47 rfl (lv_at hl 0 rfl) ?_
        refine lv_iconst (v := nI 4) hx hb dX10_cellsBarred_48 (by decide +kernel) ?_
        have hF := va_free (wc := [(m0, .inr (9, [.int i0, .ref a1, .int i2, .ref a3, .int i4, .ref a5, .ref a6, .ref a7, .int i8, .int i9, .int i10, .int i11, .int i12, .ref a13, .ref a14, .ref a15, .ref a16, .int i17, .ref a18, .ref a19, .ref a20, .ref a21, .ref a22, .ref a23, .ref a24, .ref a25, .int i26, .ref a27, .ref a28, .ref a29, .ref a30, .ref a31, .ref a32, .ref a33, .ref a34, .int i35]))]) hD hS hA [0] rfl
        refine va_calli (va_runV (As := [.int (nI 4)]) (rest := []) ⟨hx, hb, hml, hown, hts⟩ (c_X10_failed lL D cI cS _ m0 a1 a3 a5 a6 a7 a13 a14 a15 a16 a18 a19 a20 a21 a22 a23 a24 a25 a27 a28 a29 a30 a31 a32 a33 a34 i0 i2 i4 i8 i9 i10 i11 i12 i17 i26 i35 (nI 4)) (cwV 1 hts gX10_cellsBarred_X10_failed rfl rfl rfl cd_X10_failed ⟨Nat.le_of_ble_eq_true rfl, Nat.le_of_ble_eq_true rfl⟩) ⟨kB_blind, va_recv hK hP (ci := 9) (q0 := 0) rfl rfl, fun U hU hW => ⟨rfl, by rw [hU], by rw [hU]; exact hP.sub [0] rfl, va_K.moved hW.alike hK, (hD.sub [0] (by decide) rfl).weaken (fun _ _ _ _ => trivial)⟩⟩ rfl rfl hl.1 rfl (lv_room (Nat.le_of_ble_eq_true rfl)) dX10_cellsBarred_49 ⟨Nat.le_of_ble_eq_true rfl, Nat.le_of_ble_eq_true rfl⟩) hS (fun q _ h => hF q h) hF (fun r_8 u_8 t H1 locs ht hvm hw_8 hB hz1 hk1 hS => ?_)
        obtain ⟨hP, hD⟩ := kk_join2 (wc := [(m0, .inr (9, [.int i0, .ref a1, .int i2, .ref a3, .int i4, .ref a5, .ref a6, .ref a7, .int i8, .int i9, .int i10, .int i11, .int i12, .ref a13, .ref a14, .ref a15, .ref a16, .int i17, .ref a18, .ref a19, .ref a20, .ref a21, .ref a22, .ref a23, .ref a24, .ref a25, .int i26, .ref a27, .ref a28, .ref a29, .ref a30, .ref a31, .ref a32, .ref a33, .ref a34, .int i35]))]) (w1 := [(m0, .inr (9, [.int (nI 4), .ref a1, .int i2, .ref a3, .int i4, .ref a5, .ref a6, .ref a7, .int i8, .int i9, .int i10, .int i11, .int i12, .ref a13, .ref a14, .ref a15, .ref a16, .int i17, .ref a18, .ref a19, .ref a20, .ref a21, .ref a22, .ref a23, .ref a24, .ref a25, .int i26, .ref a27, .ref a28, .ref a29, .ref a30, .ref a31, .ref a32, .ref a33, .ref a34, .int i35]))]) (ws' := [(m0, .inr (9, [.int (nI 4), .ref a1, .int i2, .ref a3, .int i4, .ref a5, .ref a6, .ref a7, .int i8, .int i9, .int i10, .int i11, .int i12, .ref a13, .ref a14, .ref a15, .ref a16, .int i17, .ref a18, .ref a19, .ref a20, .ref a21, .ref a22, .ref a23, .ref a24, .ref a25, .int i26, .ref a27, .ref a28, .ref a29, .ref a30, .ref a31, .ref a32, .ref a33, .ref a34, .int i35])), (a31, .inl (cI, 4, .inl zz)), (a32, .inl (cI, 4, .inl zl)), (a33, .inl (cI, 240, .inl zs))]) (wr := [(a31, .inl (cI, 4, .inl zz)), (a32, .inl (cI, 4, .inl zl)), (a33, .inl (cI, 240, .inl zs))]) (H1 := H1) hP hD [0] [1, 2, 3] rfl rfl rfl rfl 4 rfl (by decide) [m0, a31, a32, a33] rfl rfl hk1 (by rw [← ht]; exact hB)
        have hw_8 : r_8 = (-10 : Int32) - (nI 4) ∧ True := hw_8
        clear hF hB hk1 hz1 hvm
        clear ht
        generalize H1 = H at hP hS ⊢
        obtain ⟨rfl, hw_8⟩ := hw_8
        have hq : (hasC len z q = true ∧ decide (rl ≠ (-1 : Int32) ∧ rl ≠ y) = false ∧ decide (rl = (-1 : Int32)) = false ∧ 0 ≤ q ∧ ((-10 : Int32) - (nI 4)) = nI 0 ∧ (nI 4) = i0) ∨ (((-10 : Int32) - (nI 4)) = cb_r rl len y z q ∧ (nI 4) = cb_f rl len y z q ∧ ((-10 : Int32) - (nI 4)) < 0) := by refine Or.inr ⟨by simp only [cb_r, hrd_k, hlan, cond_true, cond_false, if_neg hqn], by simp only [cb_f, hrd_k, hlan, cond_true, cond_false, if_neg hqn], by decide +kernel⟩
        refine kk_QQ hQQ ?_
        exact W.iret (v := (-10 : Int32) - (nI 4)) hx hb hr (fun t ht hW => ⟨⟨(-10 : Int32) - (nI 4), (nI 4), rfl, hq, by show va_P D vwCl _ t.heap; rw [ht]; exact hP⟩, hS.F ht⟩) hS.2.2 dX10_cellsBarred_52
    · skip
      have hlan : decide (rl ≠ (-1 : Int32) ∧ rl ≠ y) = true := decide_eq_true ⟨hr_k, c_2⟩
      refine lv_aload_n hx hb dX10_cellsBarred_19 rfl (lv_at hl 0 rfl) ?_
      refine lv_iconst (v := nI 2) hx hb dX10_cellsBarred_20 (by decide +kernel) ?_
      have hF := va_free (wc := [(m0, .inr (9, [.int i0, .ref a1, .int i2, .ref a3, .int i4, .ref a5, .ref a6, .ref a7, .int i8, .int i9, .int i10, .int i11, .int i12, .ref a13, .ref a14, .ref a15, .ref a16, .int i17, .ref a18, .ref a19, .ref a20, .ref a21, .ref a22, .ref a23, .ref a24, .ref a25, .int i26, .ref a27, .ref a28, .ref a29, .ref a30, .ref a31, .ref a32, .ref a33, .ref a34, .int i35]))]) hD hS hA [0] rfl
      refine va_calli (va_runV (As := [.int (nI 2)]) (rest := []) ⟨hx, hb, hml, hown, hts⟩ (c_X10_failed lL D cI cS _ m0 a1 a3 a5 a6 a7 a13 a14 a15 a16 a18 a19 a20 a21 a22 a23 a24 a25 a27 a28 a29 a30 a31 a32 a33 a34 i0 i2 i4 i8 i9 i10 i11 i12 i17 i26 i35 (nI 2)) (cwV 1 hts gX10_cellsBarred_X10_failed rfl rfl rfl cd_X10_failed ⟨Nat.le_of_ble_eq_true rfl, Nat.le_of_ble_eq_true rfl⟩) ⟨kB_blind, va_recv hK hP (ci := 9) (q0 := 0) rfl rfl, fun U hU hW => ⟨rfl, by rw [hU], by rw [hU]; exact hP.sub [0] rfl, va_K.moved hW.alike hK, (hD.sub [0] (by decide) rfl).weaken (fun _ _ _ _ => trivial)⟩⟩ rfl rfl hl.1 rfl (lv_room (Nat.le_of_ble_eq_true rfl)) dX10_cellsBarred_21 ⟨Nat.le_of_ble_eq_true rfl, Nat.le_of_ble_eq_true rfl⟩) hS (fun q _ h => hF q h) hF (fun r_9 u_9 t H1 locs ht hvm hw_9 hB hz1 hk1 hS => ?_)
      obtain ⟨hP, hD⟩ := kk_join2 (wc := [(m0, .inr (9, [.int i0, .ref a1, .int i2, .ref a3, .int i4, .ref a5, .ref a6, .ref a7, .int i8, .int i9, .int i10, .int i11, .int i12, .ref a13, .ref a14, .ref a15, .ref a16, .int i17, .ref a18, .ref a19, .ref a20, .ref a21, .ref a22, .ref a23, .ref a24, .ref a25, .int i26, .ref a27, .ref a28, .ref a29, .ref a30, .ref a31, .ref a32, .ref a33, .ref a34, .int i35]))]) (w1 := [(m0, .inr (9, [.int (nI 2), .ref a1, .int i2, .ref a3, .int i4, .ref a5, .ref a6, .ref a7, .int i8, .int i9, .int i10, .int i11, .int i12, .ref a13, .ref a14, .ref a15, .ref a16, .int i17, .ref a18, .ref a19, .ref a20, .ref a21, .ref a22, .ref a23, .ref a24, .ref a25, .int i26, .ref a27, .ref a28, .ref a29, .ref a30, .ref a31, .ref a32, .ref a33, .ref a34, .int i35]))]) (ws' := [(m0, .inr (9, [.int (nI 2), .ref a1, .int i2, .ref a3, .int i4, .ref a5, .ref a6, .ref a7, .int i8, .int i9, .int i10, .int i11, .int i12, .ref a13, .ref a14, .ref a15, .ref a16, .int i17, .ref a18, .ref a19, .ref a20, .ref a21, .ref a22, .ref a23, .ref a24, .ref a25, .int i26, .ref a27, .ref a28, .ref a29, .ref a30, .ref a31, .ref a32, .ref a33, .ref a34, .int i35])), (a31, .inl (cI, 4, .inl zz)), (a32, .inl (cI, 4, .inl zl)), (a33, .inl (cI, 240, .inl zs))]) (wr := [(a31, .inl (cI, 4, .inl zz)), (a32, .inl (cI, 4, .inl zl)), (a33, .inl (cI, 240, .inl zs))]) (H1 := H1) hP hD [0] [1, 2, 3] rfl rfl rfl rfl 4 rfl (by decide) [m0, a31, a32, a33] rfl rfl hk1 (by rw [← ht]; exact hB)
      have hw_9 : r_9 = (-10 : Int32) - (nI 2) ∧ True := hw_9
      clear hF hB hk1 hz1 hvm
      clear ht
      generalize H1 = H at hP hS ⊢
      obtain ⟨rfl, hw_9⟩ := hw_9
      have hq : (hasC len z q = true ∧ decide (rl ≠ (-1 : Int32) ∧ rl ≠ y) = false ∧ decide (rl = (-1 : Int32)) = false ∧ 0 ≤ q ∧ ((-10 : Int32) - (nI 2)) = nI 0 ∧ (nI 2) = i0) ∨ (((-10 : Int32) - (nI 2)) = cb_r rl len y z q ∧ (nI 2) = cb_f rl len y z q ∧ ((-10 : Int32) - (nI 2)) < 0) := by refine Or.inr ⟨by simp only [cb_r, hrd_k, hlan, cond_true, cond_false], by simp only [cb_f, hrd_k, hlan, cond_true, cond_false], by decide +kernel⟩
      refine kk_QQ hQQ ?_
      exact W.iret (v := (-10 : Int32) - (nI 2)) hx hb hr (fun t ht hW => ⟨⟨(-10 : Int32) - (nI 2), (nI 2), rfl, hq, by show va_P D vwCl _ t.heap; rw [ht]; exact hP⟩, hS.F ht⟩) hS.2.2 dX10_cellsBarred_24

abbrev rmX10_copy : Room := { frames := 2, cells := 0, slots := 0, locals := 45 }
set_option maxHeartbeats 4000000 in
set_option maxRecDepth 100000 in
theorem c_X10_copy (lL : Launch) (D : va_G) (cI cS : ClassId) (sz : Nat) (C : Co) (T : Mv) (E : Mv) (m0 : Nat) (a1 : Nat) (a3 : Nat) (a5 : Nat) (a6 : Nat) (a7 : Nat) (a13 : Nat) (a14 : Nat) (a15 : Nat) (a16 : Nat) (a18 : Nat) (a19 : Nat) (a20 : Nat) (a21 : Nat) (a22 : Nat) (a23 : Nat) (a24 : Nat) (a25 : Nat) (a27 : Nat) (a28 : Nat) (a29 : Nat) (a30 : Nat) (a31 : Nat) (a32 : Nat) (a33 : Nat) (a34 : Nat) (i0 : Int32) (i10 : Int32) (i11 : Int32) (i12 : Int32) (i35 : Int32) (zz : Nat → Int32) (zl : Nat → Int32) (zs : Nat → Int32) (zh : Nat → Int32) (x1 : Int32) (x2 : Int32) (x3 : Int32) (x4 : Int32) (x5 : Int32) (rl : Int32) (len : Nat) (cf : Nat → Int32) (rb : Int32) (lenb : Nat) (df : Nat → Int32) (hX : okX C T E) (hza : ∀ j, x1 = nI j → j < 4 → zR j rl len cf zz zl zs) (hzb : ∀ j, x3 = nI j → j < 4 → zR j rb lenb df zz zl zs) : Met lL yX10_copy wsX10_copy rmX10_copy (va_Pc [.ref m0, .int x1, .int x2, .int x3, .int x4, .int x5] (kB D cI cS [(m0, .inr (9, [.int i0, .ref a1, .int (nI (cSp C)), .ref a3, .int (nI (cLa C)), .ref a5, .ref a6, .ref a7, .int (nI (cAg C)), .int (-9 : Int32), .int i10, .int i11, .int i12, .ref a13, .ref a14, .ref a15, .ref a16, .int (nI (mN T)), .ref a18, .ref a19, .ref a20, .ref a21, .ref a22, .ref a23, .ref a24, .ref a25, .int (nI (mN E)), .ref a27, .ref a28, .ref a29, .ref a30, .ref a31, .ref a32, .ref a33, .ref a34, .int i35])), (a31, .inl (cI, 4, .inl zz)), (a32, .inl (cI, 4, .inl zl)), (a33, .inl (cI, 240, .inl zs)), (a34, .inl (cI, 60, .inl zh))] sz)) (kQi D (fun (r : Int32) (u : Int32 × (Nat → Int32) × (Nat → Int32)) => r = sp_copy rl len rb lenb x1 x2 x3 x4 x5 ∧ u.1 = nf_copy rl len rb lenb x1 x2 x3 x4 x5 ∧ (bif ok_copy rl len rb lenb x1 x2 x3 x4 x5 then ∀ j, u.2.1 j = (if 60 * tn x3 + tn x4 ≤ j ∧ j < 60 * tn x3 + tn x4 + tn x5 then zs (60 * tn x1 + tn x2 + (j - (60 * tn x3 + tn x4))) else zs j) else u.2.1 = zs)) (fun u : Int32 × (Nat → Int32) × (Nat → Int32) => [(m0, .inr (9, [.int u.1, .ref a1, .int (nI (cSp C)), .ref a3, .int (nI (cLa C)), .ref a5, .ref a6, .ref a7, .int (nI (cAg C)), .int (-9 : Int32), .int i10, .int i11, .int i12, .ref a13, .ref a14, .ref a15, .ref a16, .int (nI (mN T)), .ref a18, .ref a19, .ref a20, .ref a21, .ref a22, .ref a23, .ref a24, .ref a25, .int (nI (mN E)), .ref a27, .ref a28, .ref a29, .ref a30, .ref a31, .ref a32, .ref a33, .ref a34, .int i35])), (a31, .inl (cI, 4, .inl zz)), (a32, .inl (cI, 4, .inl zl)), (a33, .inl (cI, 240, .inl u.2.1)), (a34, .inl (cI, 60, .inl u.2.2))]) (va_A [(m0, .inr (9, [.int i0, .ref a1, .int (nI (cSp C)), .ref a3, .int (nI (cLa C)), .ref a5, .ref a6, .ref a7, .int (nI (cAg C)), .int (-9 : Int32), .int i10, .int i11, .int i12, .ref a13, .ref a14, .ref a15, .ref a16, .int (nI (mN T)), .ref a18, .ref a19, .ref a20, .ref a21, .ref a22, .ref a23, .ref a24, .ref a25, .int (nI (mN E)), .ref a27, .ref a28, .ref a29, .ref a30, .ref a31, .ref a32, .ref a33, .ref a34, .int i35])), (a31, .inl (cI, 4, .inl zz)), (a32, .inl (cI, 4, .inl zl)), (a33, .inl (cI, 240, .inl zs)), (a34, .inl (cI, 60, .inl zh))] sz)) 0 0 (va_A [(m0, .inr (9, [.int i0, .ref a1, .int (nI (cSp C)), .ref a3, .int (nI (cLa C)), .ref a5, .ref a6, .ref a7, .int (nI (cAg C)), .int (-9 : Int32), .int i10, .int i11, .int i12, .ref a13, .ref a14, .ref a15, .ref a16, .int (nI (mN T)), .ref a18, .ref a19, .ref a20, .ref a21, .ref a22, .ref a23, .ref a24, .ref a25, .int (nI (mN E)), .ref a27, .ref a28, .ref a29, .ref a30, .ref a31, .ref a32, .ref a33, .ref a34, .int i35])), (a31, .inl (cI, 4, .inl zz)), (a32, .inl (cI, 4, .inl zl)), (a33, .inl (cI, 240, .inl zs)), (a34, .inl (cI, 60, .inl zh))] sz) := by
  refine Met.ofW (cc := cX10_copy) (maxL := 7) (ret := (some .int)) (by decide) rfl ?_
  intro pP eE sS mM args below meth cC s₁ B hml hv
  obtain ⟨rfl, hsz, hP, hK, hD0⟩ := hv
  have hx := B.exec
  have hb := B.bytes
  have hr := B.returns
  have hts := atoms_spec (ws := wsX10_copy) B.pre
  have hown : sS.vm.findClass RX10 = some mM.cls := findClass_of_methodNamed B.named
  have hlocks := B.notSynchronized
  subst hsz
  have hD := hD0.self (sz := sS.heap.size)
  generalize hAe : va_A [(m0, .inr (9, [.int i0, .ref a1, .int (nI (cSp C)), .ref a3, .int (nI (cLa C)), .ref a5, .ref a6, .ref a7, .int (nI (cAg C)), .int (-9 : Int32), .int i10, .int i11, .int i12, .ref a13, .ref a14, .ref a15, .ref a16, .int (nI (mN T)), .ref a18, .ref a19, .ref a20, .ref a21, .ref a22, .ref a23, .ref a24, .ref a25, .int (nI (mN E)), .ref a27, .ref a28, .ref a29, .ref a30, .ref a31, .ref a32, .ref a33, .ref a34, .int i35])), (a31, .inl (cI, 4, .inl zz)), (a32, .inl (cI, 4, .inl zl)), (a33, .inl (cI, 240, .inl zs)), (a34, .inl (cI, 60, .inl zh))] sS.heap.size = A at hD ⊢
  have hA : ∀ q : Nat, sS.heap.size ≤ q → A q := fun q h => by rw [← hAe]; exact Or.inr h
  have hS : va_S A sS.heap sS.heap [] := va_S.rf
  have hP : va_P D vwCl [(m0, .inr (9, [.int i0, .ref a1, .int (nI (cSp C)), .ref a3, .int (nI (cLa C)), .ref a5, .ref a6, .ref a7, .int (nI (cAg C)), .int (-9 : Int32), .int i10, .int i11, .int i12, .ref a13, .ref a14, .ref a15, .ref a16, .int (nI (mN T)), .ref a18, .ref a19, .ref a20, .ref a21, .ref a22, .ref a23, .ref a24, .ref a25, .int (nI (mN E)), .ref a27, .ref a28, .ref a29, .ref a30, .ref a31, .ref a32, .ref a33, .ref a34, .int i35])), (a31, .inl (cI, 4, .inl zz)), (a32, .inl (cI, 4, .inl zl)), (a33, .inl (cI, 240, .inl zs)), (a34, .inl (cI, 60, .inl zh))] sS.heap := hP
  have hD : va_D A [(m0, .inr (9, [.int i0, .ref a1, .int (nI (cSp C)), .ref a3, .int (nI (cLa C)), .ref a5, .ref a6, .ref a7, .int (nI (cAg C)), .int (-9 : Int32), .int i10, .int i11, .int i12, .ref a13, .ref a14, .ref a15, .ref a16, .int (nI (mN T)), .ref a18, .ref a19, .ref a20, .ref a21, .ref a22, .ref a23, .ref a24, .ref a25, .int (nI (mN E)), .ref a27, .ref a28, .ref a29, .ref a30, .ref a31, .ref a32, .ref a33, .ref a34, .int i35])), (a31, .inl (cI, 4, .inl zz)), (a32, .inl (cI, 4, .inl zl)), (a33, .inl (cI, 240, .inl zs)), (a34, .inl (cI, 60, .inl zh))] := hD
  have hf_73 := hts (.fieldLink RX10 73 "OldLampsModel" "sheetSize" "[I") (List.mem_of_getElem? (i := 1) rfl)
  have hf_76 := hts (.fieldLink RX10 76 "OldLampsModel" "sheetLane" "[I") (List.mem_of_getElem? (i := 2) rfl)
  have hf_79 := hts (.fieldLink RX10 79 "OldLampsModel" "sheet" "[I") (List.mem_of_getElem? (i := 4) rfl)
  have hf_82 := hts (.fieldLink RX10 82 "OldLampsModel" "hands" "[I") (List.mem_of_getElem? (i := 3) rfl)
  have hwX10 : ∀ w ∈ wsX100, w ∈ wsX10_copy := fun _ h => List.mem_cons_of_mem _ (List.mem_append_right _ h)
  have hl := lv_entry ([.ref m0, .int x1, .int x2, .int x3, .int x4, .int x5]) (n := 7) (Nat.le_of_ble_eq_true rfl)
  rw [lg_entry_eq]
  generalize (lg_sl ([.ref m0, .int x1, .int x2, .int x3, .int x4, .int x5]) ++ List.replicate (7 - (lg_sl ([.ref m0, .int x1, .int x2, .int x3, .int x4, .int x5])).length) Slot.unset).toArray = ls at hl ⊢
  have hl : lv_has ls 7 [(0, .ref m0), (1, .int x1), (2, .int x2), (3, .int x3), (4, .int x4), (5, .int x5)] := hl
  obtain ⟨QQ, hQQ⟩ : ∃ QQ : State → Prop, QQ = MQ below (kQi D (fun (r : Int32) (u : Int32 × (Nat → Int32) × (Nat → Int32)) => r = sp_copy rl len rb lenb x1 x2 x3 x4 x5 ∧ u.1 = nf_copy rl len rb lenb x1 x2 x3 x4 x5 ∧ (bif ok_copy rl len rb lenb x1 x2 x3 x4 x5 then ∀ j, u.2.1 j = (if 60 * tn x3 + tn x4 ≤ j ∧ j < 60 * tn x3 + tn x4 + tn x5 then zs (60 * tn x1 + tn x2 + (j - (60 * tn x3 + tn x4))) else zs j) else u.2.1 = zs)) (fun u : Int32 × (Nat → Int32) × (Nat → Int32) => [(m0, .inr (9, [.int u.1, .ref a1, .int (nI (cSp C)), .ref a3, .int (nI (cLa C)), .ref a5, .ref a6, .ref a7, .int (nI (cAg C)), .int (-9 : Int32), .int i10, .int i11, .int i12, .ref a13, .ref a14, .ref a15, .ref a16, .int (nI (mN T)), .ref a18, .ref a19, .ref a20, .ref a21, .ref a22, .ref a23, .ref a24, .ref a25, .int (nI (mN E)), .ref a27, .ref a28, .ref a29, .ref a30, .ref a31, .ref a32, .ref a33, .ref a34, .int i35])), (a31, .inl (cI, 4, .inl zz)), (a32, .inl (cI, 4, .inl zl)), (a33, .inl (cI, 240, .inl u.2.1)), (a34, .inl (cI, 60, .inl u.2.2))]) A) ([.ref m0, .int x1, .int x2, .int x3, .int x4, .int x5]).toArray sS 0 0 A := ⟨_, rfl⟩
  refine kk_QQ hQQ.symm ?_
  obtain ⟨hX1, hX2, hX3, hX4⟩ := okX_le hX
  refine lv_iload_n hx hb dX10_copy_0 rfl (lv_at hl 1 rfl) ?_
  refine vp_callSi (W.runS (As := [.int x1]) (rest := []) ⟨hx, hb, hml, hown, hts⟩ (c_X10_noSheet lL D cI cS x1) (va_cwS 1 hts gX10_copy_X10_noSheet rfl rfl rfl cd_X10_noSheet ⟨Nat.le_of_ble_eq_true rfl, Nat.le_of_ble_eq_true rfl⟩) ⟨kBp_blind, fun U hU hW => ⟨rfl, by rw [hU]; exact hP.sub [] rfl, va_K.moved hW.alike hK⟩⟩ rfl rfl hl.1 rfl (lv_room (Nat.le_of_ble_eq_true rfl)) dX10_copy_1 ⟨Nat.le_of_ble_eq_true rfl, Nat.le_of_ble_eq_true rfl⟩) (fun r_1 hw_1 => ?_)
  obtain rfl : r_1 = kb (!inB x1 4) := hw_1
  refine kk_ifn_ne (tgt := 14) hx hb dX10_copy_4 (by decide) (fun hb_2 => ?_) (fun hb_2 => ?_)
  · skip
    refine lv_aload_n hx hb dX10_copy_14 rfl (lv_at hl 0 rfl) ?_
    refine lv_iconst (v := (-1 : Int32)) hx hb dX10_copy_15 (by decide +kernel) ?_
    have hF := va_free (wc := [(m0, .inr (9, [.int i0, .ref a1, .int (nI (cSp C)), .ref a3, .int (nI (cLa C)), .ref a5, .ref a6, .ref a7, .int (nI (cAg C)), .int (-9 : Int32), .int i10, .int i11, .int i12, .ref a13, .ref a14, .ref a15, .ref a16, .int (nI (mN T)), .ref a18, .ref a19, .ref a20, .ref a21, .ref a22, .ref a23, .ref a24, .ref a25, .int (nI (mN E)), .ref a27, .ref a28, .ref a29, .ref a30, .ref a31, .ref a32, .ref a33, .ref a34, .int i35]))]) hD hS hA [0] rfl
    refine va_calli (va_runV (As := [.int (-1 : Int32)]) (rest := []) ⟨hx, hb, hml, hown, hts⟩ (c_X10_refused lL D cI cS _ m0 a1 a3 a5 a6 a7 a13 a14 a15 a16 a18 a19 a20 a21 a22 a23 a24 a25 a27 a28 a29 a30 a31 a32 a33 a34 i0 (nI (cSp C)) (nI (cLa C)) (nI (cAg C)) (-9 : Int32) i10 i11 i12 (nI (mN T)) (nI (mN E)) i35 (-1 : Int32)) (cwV 1 hts gX10_copy_X10_refused rfl rfl rfl cd_X10_refused ⟨Nat.le_of_ble_eq_true rfl, Nat.le_of_ble_eq_true rfl⟩) ⟨kB_blind, va_recv hK hP (ci := 9) (q0 := 0) rfl rfl, fun U hU hW => ⟨rfl, by rw [hU], by rw [hU]; exact hP.sub [0] rfl, va_K.moved hW.alike hK, (hD.sub [0] (by decide) rfl).weaken (fun _ _ _ _ => trivial)⟩⟩ rfl rfl hl.1 rfl (lv_room (Nat.le_of_ble_eq_true rfl)) dX10_copy_16 ⟨Nat.le_of_ble_eq_true rfl, Nat.le_of_ble_eq_true rfl⟩) hS (fun q _ h => hF q h) hF (fun r_3 u_3 t H1 locs ht hvm hw_3 hB hz1 hk1 hS => ?_)
    obtain ⟨hP, hD⟩ := kk_join2 (wc := [(m0, .inr (9, [.int i0, .ref a1, .int (nI (cSp C)), .ref a3, .int (nI (cLa C)), .ref a5, .ref a6, .ref a7, .int (nI (cAg C)), .int (-9 : Int32), .int i10, .int i11, .int i12, .ref a13, .ref a14, .ref a15, .ref a16, .int (nI (mN T)), .ref a18, .ref a19, .ref a20, .ref a21, .ref a22, .ref a23, .ref a24, .ref a25, .int (nI (mN E)), .ref a27, .ref a28, .ref a29, .ref a30, .ref a31, .ref a32, .ref a33, .ref a34, .int i35]))]) (w1 := [(m0, .inr (9, [.int (nI 0), .ref a1, .int (nI (cSp C)), .ref a3, .int (nI (cLa C)), .ref a5, .ref a6, .ref a7, .int (nI (cAg C)), .int (-9 : Int32), .int i10, .int i11, .int i12, .ref a13, .ref a14, .ref a15, .ref a16, .int (nI (mN T)), .ref a18, .ref a19, .ref a20, .ref a21, .ref a22, .ref a23, .ref a24, .ref a25, .int (nI (mN E)), .ref a27, .ref a28, .ref a29, .ref a30, .ref a31, .ref a32, .ref a33, .ref a34, .int i35]))]) (ws' := [(m0, .inr (9, [.int (nI 0), .ref a1, .int (nI (cSp C)), .ref a3, .int (nI (cLa C)), .ref a5, .ref a6, .ref a7, .int (nI (cAg C)), .int (-9 : Int32), .int i10, .int i11, .int i12, .ref a13, .ref a14, .ref a15, .ref a16, .int (nI (mN T)), .ref a18, .ref a19, .ref a20, .ref a21, .ref a22, .ref a23, .ref a24, .ref a25, .int (nI (mN E)), .ref a27, .ref a28, .ref a29, .ref a30, .ref a31, .ref a32, .ref a33, .ref a34, .int i35])), (a31, .inl (cI, 4, .inl zz)), (a32, .inl (cI, 4, .inl zl)), (a33, .inl (cI, 240, .inl zs)), (a34, .inl (cI, 60, .inl zh))]) (wr := [(a31, .inl (cI, 4, .inl zz)), (a32, .inl (cI, 4, .inl zl)), (a33, .inl (cI, 240, .inl zs)), (a34, .inl (cI, 60, .inl zh))]) (H1 := H1) hP hD [0] [1, 2, 3, 4] rfl rfl rfl rfl 5 rfl (by decide) [m0, a31, a32, a33, a34] rfl rfl hk1 (by rw [← ht]; exact hB)
    have hw_3 : r_3 = (-1 : Int32) ∧ True := hw_3
    clear hF hB hk1 hz1 hvm
    clear ht
    generalize H1 = H at hP hS ⊢
    obtain ⟨rfl, hw_3⟩ := hw_3
    have hq : (-1 : Int32) = sp_copy rl len rb lenb x1 x2 x3 x4 x5 ∧ (nI 0) = nf_copy rl len rb lenb x1 x2 x3 x4 x5 ∧ (bif ok_copy rl len rb lenb x1 x2 x3 x4 x5 then ∀ j, zs j = (if 60 * tn x3 + tn x4 ≤ j ∧ j < 60 * tn x3 + tn x4 + tn x5 then zs (60 * tn x1 + tn x2 + (j - (60 * tn x3 + tn x4))) else zs j) else zs = zs) := by
      have hok : ok_copy rl len rb lenb x1 x2 x3 x4 x5 = false := by simp only [ok_copy, hb_2, cond_true, cond_false]
      rw [hok]
      exact ⟨by simp only [sp_copy, hb_2, cond_true, cond_false], by simp only [nf_copy, hb_2, cond_true, cond_false], rfl⟩
    refine kk_QQ hQQ ?_
    exact W.iret (v := (-1 : Int32)) hx hb hr (fun t ht hW => ⟨⟨(-1 : Int32), (nI 0, zs, zh), rfl, hq, by show va_P D vwCl _ t.heap; rw [ht]; exact hP⟩, hS.F ht⟩) hS.2.2 dX10_copy_19
  · skip
    obtain ⟨x1N, hx1N, rfl⟩ := inB_t hb_2
    have t_x1 := nI_clamp (show x1N < 2 ^ 31 by omega)
    refine lv_iload_n hx hb dX10_copy_7 rfl (lv_at hl 3 rfl) ?_
    refine vp_callSi (W.runS (As := [.int x3]) (rest := []) ⟨hx, hb, hml, hown, hts⟩ (c_X10_noSheet lL D cI cS x3) (va_cwS 1 hts gX10_copy_X10_noSheet rfl rfl rfl cd_X10_noSheet ⟨Nat.le_of_ble_eq_true rfl, Nat.le_of_ble_eq_true rfl⟩) ⟨kBp_blind, fun U hU hW => ⟨rfl, by rw [hU]; exact hP.sub [] rfl, va_K.moved hW.alike hK⟩⟩ rfl rfl hl.1 rfl (lv_room (Nat.le_of_ble_eq_true rfl)) dX10_copy_8 ⟨Nat.le_of_ble_eq_true rfl, Nat.le_of_ble_eq_true rfl⟩) (fun r_4 hw_4 => ?_)
    obtain rfl : r_4 = kb (!inB x3 4) := hw_4
    refine kk_ifn_eq (tgt := 20) hx hb dX10_copy_11 (by decide) (fun hb_5 => ?_) (fun hb_5 => ?_)
    · skip
      obtain ⟨x3N, hx3N, rfl⟩ := inB_t hb_5
      have t_x3 := nI_clamp (show x3N < 2 ^ 31 by omega)
      have hz_x1 := hza x1N rfl (by omega)
      obtain ⟨hzc_x1, hzl_x1, hzs_x1⟩ := hz_x1
      rcases hzc_x1 with ⟨hr_x1, hz1_x1, hz2_x1⟩ | ⟨hr_x1, hz1_x1, hz2_x1⟩
      · skip
        have hrd_x1 : decide (rl = (-1 : Int32)) = true := decide_eq_true hr_x1
        refine lv_aload_n hx hb dX10_copy_20 rfl (lv_at hl 0 rfl) ?_
        refine va_get (D := D) (ci := 9) (v := .ref a31) (C := RX10) (T := TX10) (N := 36) hx hb hts hwX10 hown hK hP 0 rfl rfl 31 (by decide) hf_73 (fun _ h9 => h9) rfl dX10_copy_21 ?_
        refine lv_iload_n hx hb dX10_copy_24 rfl (lv_at hl 1 rfl) ?_
        refine kk_iald hx hb hK hP 1 rfl rfl (i := x1N) (by omega) (by decide) dX10_copy_25 ?_
        refine kk_top (y := (-1 : Int32)) hz1_x1 ?_
        refine lv_if_lt (tgt := 38) hx hb dX10_copy_26 (by decide) (fun h => ?_) (fun h => absurd (by decide) h)
        refine lv_aload_n hx hb dX10_copy_38 rfl (lv_at hl 0 rfl) ?_
        refine lv_iconst (v := nI 1) hx hb dX10_copy_39 (by decide +kernel) ?_
        have hF := va_free (wc := [(m0, .inr (9, [.int i0, .ref a1, .int (nI (cSp C)), .ref a3, .int (nI (cLa C)), .ref a5, .ref a6, .ref a7, .int (nI (cAg C)), .int (-9 : Int32), .int i10, .int i11, .int i12, .ref a13, .ref a14, .ref a15, .ref a16, .int (nI (mN T)), .ref a18, .ref a19, .ref a20, .ref a21, .ref a22, .ref a23, .ref a24, .ref a25, .int (nI (mN E)), .ref a27, .ref a28, .ref a29, .ref a30, .ref a31, .ref a32, .ref a33, .ref a34, .int i35]))]) hD hS hA [0] rfl
        refine va_calli (va_runV (As := [.int (nI 1)]) (rest := []) ⟨hx, hb, hml, hown, hts⟩ (c_X10_failed lL D cI cS _ m0 a1 a3 a5 a6 a7 a13 a14 a15 a16 a18 a19 a20 a21 a22 a23 a24 a25 a27 a28 a29 a30 a31 a32 a33 a34 i0 (nI (cSp C)) (nI (cLa C)) (nI (cAg C)) (-9 : Int32) i10 i11 i12 (nI (mN T)) (nI (mN E)) i35 (nI 1)) (cwV 1 hts gX10_copy_X10_failed rfl rfl rfl cd_X10_failed ⟨Nat.le_of_ble_eq_true rfl, Nat.le_of_ble_eq_true rfl⟩) ⟨kB_blind, va_recv hK hP (ci := 9) (q0 := 0) rfl rfl, fun U hU hW => ⟨rfl, by rw [hU], by rw [hU]; exact hP.sub [0] rfl, va_K.moved hW.alike hK, (hD.sub [0] (by decide) rfl).weaken (fun _ _ _ _ => trivial)⟩⟩ rfl rfl hl.1 rfl (lv_room (Nat.le_of_ble_eq_true rfl)) dX10_copy_40 ⟨Nat.le_of_ble_eq_true rfl, Nat.le_of_ble_eq_true rfl⟩) hS (fun q _ h => hF q h) hF (fun r_6 u_6 t H1 locs ht hvm hw_6 hB hz1 hk1 hS => ?_)
        obtain ⟨hP, hD⟩ := kk_join2 (wc := [(m0, .inr (9, [.int i0, .ref a1, .int (nI (cSp C)), .ref a3, .int (nI (cLa C)), .ref a5, .ref a6, .ref a7, .int (nI (cAg C)), .int (-9 : Int32), .int i10, .int i11, .int i12, .ref a13, .ref a14, .ref a15, .ref a16, .int (nI (mN T)), .ref a18, .ref a19, .ref a20, .ref a21, .ref a22, .ref a23, .ref a24, .ref a25, .int (nI (mN E)), .ref a27, .ref a28, .ref a29, .ref a30, .ref a31, .ref a32, .ref a33, .ref a34, .int i35]))]) (w1 := [(m0, .inr (9, [.int (nI 1), .ref a1, .int (nI (cSp C)), .ref a3, .int (nI (cLa C)), .ref a5, .ref a6, .ref a7, .int (nI (cAg C)), .int (-9 : Int32), .int i10, .int i11, .int i12, .ref a13, .ref a14, .ref a15, .ref a16, .int (nI (mN T)), .ref a18, .ref a19, .ref a20, .ref a21, .ref a22, .ref a23, .ref a24, .ref a25, .int (nI (mN E)), .ref a27, .ref a28, .ref a29, .ref a30, .ref a31, .ref a32, .ref a33, .ref a34, .int i35]))]) (ws' := [(m0, .inr (9, [.int (nI 1), .ref a1, .int (nI (cSp C)), .ref a3, .int (nI (cLa C)), .ref a5, .ref a6, .ref a7, .int (nI (cAg C)), .int (-9 : Int32), .int i10, .int i11, .int i12, .ref a13, .ref a14, .ref a15, .ref a16, .int (nI (mN T)), .ref a18, .ref a19, .ref a20, .ref a21, .ref a22, .ref a23, .ref a24, .ref a25, .int (nI (mN E)), .ref a27, .ref a28, .ref a29, .ref a30, .ref a31, .ref a32, .ref a33, .ref a34, .int i35])), (a31, .inl (cI, 4, .inl zz)), (a32, .inl (cI, 4, .inl zl)), (a33, .inl (cI, 240, .inl zs)), (a34, .inl (cI, 60, .inl zh))]) (wr := [(a31, .inl (cI, 4, .inl zz)), (a32, .inl (cI, 4, .inl zl)), (a33, .inl (cI, 240, .inl zs)), (a34, .inl (cI, 60, .inl zh))]) (H1 := H1) hP hD [0] [1, 2, 3, 4] rfl rfl rfl rfl 5 rfl (by decide) [m0, a31, a32, a33, a34] rfl rfl hk1 (by rw [← ht]; exact hB)
        have hw_6 : r_6 = (-10 : Int32) - (nI 1) ∧ True := hw_6
        clear hF hB hk1 hz1 hvm
        clear ht
        generalize H1 = H at hP hS ⊢
        obtain ⟨rfl, hw_6⟩ := hw_6
        have hq : ((-10 : Int32) - (nI 1)) = sp_copy rl len rb lenb (nI x1N) x2 (nI x3N) x4 x5 ∧ (nI 1) = nf_copy rl len rb lenb (nI x1N) x2 (nI x3N) x4 x5 ∧ (bif ok_copy rl len rb lenb (nI x1N) x2 (nI x3N) x4 x5 then ∀ j, zs j = (if 60 * tn (nI x3N) + tn x4 ≤ j ∧ j < 60 * tn (nI x3N) + tn x4 + tn x5 then zs (60 * tn (nI x1N) + tn x2 + (j - (60 * tn (nI x3N) + tn x4))) else zs j) else zs = zs) := by
          have hok : ok_copy rl len rb lenb (nI x1N) x2 (nI x3N) x4 x5 = false := by simp only [ok_copy, hb_2, hb_5, hrd_x1, t_x1, t_x3, cond_true, cond_false]
          rw [hok]
          exact ⟨by simp only [sp_copy, hb_2, hb_5, hrd_x1, t_x1, t_x3, cond_true, cond_false], by simp only [nf_copy, hb_2, hb_5, hrd_x1, t_x1, t_x3, cond_true, cond_false], rfl⟩
        refine kk_QQ hQQ ?_
        exact W.iret (v := (-10 : Int32) - (nI 1)) hx hb hr (fun t ht hW => ⟨⟨(-10 : Int32) - (nI 1), (nI 1, zs, zh), rfl, hq, by show va_P D vwCl _ t.heap; rw [ht]; exact hP⟩, hS.F ht⟩) hS.2.2 dX10_copy_43
      · skip
        have hrd_x1 : decide (rl = (-1 : Int32)) = false := decide_eq_false hr_x1
        refine lv_aload_n hx hb dX10_copy_20 rfl (lv_at hl 0 rfl) ?_
        refine va_get (D := D) (ci := 9) (v := .ref a31) (C := RX10) (T := TX10) (N := 36) hx hb hts hwX10 hown hK hP 0 rfl rfl 31 (by decide) hf_73 (fun _ h9 => h9) rfl dX10_copy_21 ?_
        refine lv_iload_n hx hb dX10_copy_24 rfl (lv_at hl 1 rfl) ?_
        refine kk_iald hx hb hK hP 1 rfl rfl (i := x1N) (by omega) (by decide) dX10_copy_25 ?_
        refine kk_top (y := nI len) (hz1_x1) ?_
        refine kk_if_lt (tgt := 38) hx hb dX10_copy_26 (by omega) (by decide) ?_
        have hz_x3 := hzb x3N rfl (by omega)
        obtain ⟨hzc_x3, hzl_x3, hzs_x3⟩ := hz_x3
        rcases hzc_x3 with ⟨hr_x3, hz1_x3, hz2_x3⟩ | ⟨hr_x3, hz1_x3, hz2_x3⟩
        · skip
          have hrd_x3 : decide (rb = (-1 : Int32)) = true := decide_eq_true hr_x3
          refine lv_aload_n hx hb dX10_copy_29 rfl (lv_at hl 0 rfl) ?_
          refine va_get (D := D) (ci := 9) (v := .ref a31) (C := RX10) (T := TX10) (N := 36) hx hb hts hwX10 hown hK hP 0 rfl rfl 31 (by decide) hf_73 (fun _ h9 => h9) rfl dX10_copy_30 ?_
          refine lv_iload_n hx hb dX10_copy_33 rfl (lv_at hl 3 rfl) ?_
          refine kk_iald hx hb hK hP 1 rfl rfl (i := x3N) (by omega) (by decide) dX10_copy_34 ?_
          refine kk_top (y := (-1 : Int32)) hz1_x3 ?_
          refine lv_if_ge (tgt := 44) hx hb dX10_copy_35 (by decide) (fun h => absurd h (by decide)) (fun h => ?_)
          refine lv_aload_n hx hb dX10_copy_38 rfl (lv_at hl 0 rfl) ?_
          refine lv_iconst (v := nI 1) hx hb dX10_copy_39 (by decide +kernel) ?_
          have hF := va_free (wc := [(m0, .inr (9, [.int i0, .ref a1, .int (nI (cSp C)), .ref a3, .int (nI (cLa C)), .ref a5, .ref a6, .ref a7, .int (nI (cAg C)), .int (-9 : Int32), .int i10, .int i11, .int i12, .ref a13, .ref a14, .ref a15, .ref a16, .int (nI (mN T)), .ref a18, .ref a19, .ref a20, .ref a21, .ref a22, .ref a23, .ref a24, .ref a25, .int (nI (mN E)), .ref a27, .ref a28, .ref a29, .ref a30, .ref a31, .ref a32, .ref a33, .ref a34, .int i35]))]) hD hS hA [0] rfl
          refine va_calli (va_runV (As := [.int (nI 1)]) (rest := []) ⟨hx, hb, hml, hown, hts⟩ (c_X10_failed lL D cI cS _ m0 a1 a3 a5 a6 a7 a13 a14 a15 a16 a18 a19 a20 a21 a22 a23 a24 a25 a27 a28 a29 a30 a31 a32 a33 a34 i0 (nI (cSp C)) (nI (cLa C)) (nI (cAg C)) (-9 : Int32) i10 i11 i12 (nI (mN T)) (nI (mN E)) i35 (nI 1)) (cwV 1 hts gX10_copy_X10_failed rfl rfl rfl cd_X10_failed ⟨Nat.le_of_ble_eq_true rfl, Nat.le_of_ble_eq_true rfl⟩) ⟨kB_blind, va_recv hK hP (ci := 9) (q0 := 0) rfl rfl, fun U hU hW => ⟨rfl, by rw [hU], by rw [hU]; exact hP.sub [0] rfl, va_K.moved hW.alike hK, (hD.sub [0] (by decide) rfl).weaken (fun _ _ _ _ => trivial)⟩⟩ rfl rfl hl.1 rfl (lv_room (Nat.le_of_ble_eq_true rfl)) dX10_copy_40 ⟨Nat.le_of_ble_eq_true rfl, Nat.le_of_ble_eq_true rfl⟩) hS (fun q _ h => hF q h) hF (fun r_7 u_7 t H1 locs ht hvm hw_7 hB hz1 hk1 hS => ?_)
          obtain ⟨hP, hD⟩ := kk_join2 (wc := [(m0, .inr (9, [.int i0, .ref a1, .int (nI (cSp C)), .ref a3, .int (nI (cLa C)), .ref a5, .ref a6, .ref a7, .int (nI (cAg C)), .int (-9 : Int32), .int i10, .int i11, .int i12, .ref a13, .ref a14, .ref a15, .ref a16, .int (nI (mN T)), .ref a18, .ref a19, .ref a20, .ref a21, .ref a22, .ref a23, .ref a24, .ref a25, .int (nI (mN E)), .ref a27, .ref a28, .ref a29, .ref a30, .ref a31, .ref a32, .ref a33, .ref a34, .int i35]))]) (w1 := [(m0, .inr (9, [.int (nI 1), .ref a1, .int (nI (cSp C)), .ref a3, .int (nI (cLa C)), .ref a5, .ref a6, .ref a7, .int (nI (cAg C)), .int (-9 : Int32), .int i10, .int i11, .int i12, .ref a13, .ref a14, .ref a15, .ref a16, .int (nI (mN T)), .ref a18, .ref a19, .ref a20, .ref a21, .ref a22, .ref a23, .ref a24, .ref a25, .int (nI (mN E)), .ref a27, .ref a28, .ref a29, .ref a30, .ref a31, .ref a32, .ref a33, .ref a34, .int i35]))]) (ws' := [(m0, .inr (9, [.int (nI 1), .ref a1, .int (nI (cSp C)), .ref a3, .int (nI (cLa C)), .ref a5, .ref a6, .ref a7, .int (nI (cAg C)), .int (-9 : Int32), .int i10, .int i11, .int i12, .ref a13, .ref a14, .ref a15, .ref a16, .int (nI (mN T)), .ref a18, .ref a19, .ref a20, .ref a21, .ref a22, .ref a23, .ref a24, .ref a25, .int (nI (mN E)), .ref a27, .ref a28, .ref a29, .ref a30, .ref a31, .ref a32, .ref a33, .ref a34, .int i35])), (a31, .inl (cI, 4, .inl zz)), (a32, .inl (cI, 4, .inl zl)), (a33, .inl (cI, 240, .inl zs)), (a34, .inl (cI, 60, .inl zh))]) (wr := [(a31, .inl (cI, 4, .inl zz)), (a32, .inl (cI, 4, .inl zl)), (a33, .inl (cI, 240, .inl zs)), (a34, .inl (cI, 60, .inl zh))]) (H1 := H1) hP hD [0] [1, 2, 3, 4] rfl rfl rfl rfl 5 rfl (by decide) [m0, a31, a32, a33, a34] rfl rfl hk1 (by rw [← ht]; exact hB)
          have hw_7 : r_7 = (-10 : Int32) - (nI 1) ∧ True := hw_7
          clear hF hB hk1 hz1 hvm
          clear ht
          generalize H1 = H at hP hS ⊢
          obtain ⟨rfl, hw_7⟩ := hw_7
          have hq : ((-10 : Int32) - (nI 1)) = sp_copy rl len rb lenb (nI x1N) x2 (nI x3N) x4 x5 ∧ (nI 1) = nf_copy rl len rb lenb (nI x1N) x2 (nI x3N) x4 x5 ∧ (bif ok_copy rl len rb lenb (nI x1N) x2 (nI x3N) x4 x5 then ∀ j, zs j = (if 60 * tn (nI x3N) + tn x4 ≤ j ∧ j < 60 * tn (nI x3N) + tn x4 + tn x5 then zs (60 * tn (nI x1N) + tn x2 + (j - (60 * tn (nI x3N) + tn x4))) else zs j) else zs = zs) := by
            have hok : ok_copy rl len rb lenb (nI x1N) x2 (nI x3N) x4 x5 = false := by simp only [ok_copy, hb_2, hb_5, hrd_x1, hrd_x3, t_x1, t_x3, cond_true, cond_false]
            rw [hok]
            exact ⟨by simp only [sp_copy, hb_2, hb_5, hrd_x1, hrd_x3, t_x1, t_x3, cond_true, cond_false], by simp only [nf_copy, hb_2, hb_5, hrd_x1, hrd_x3, t_x1, t_x3, cond_true, cond_false], rfl⟩
          refine kk_QQ hQQ ?_
          exact W.iret (v := (-10 : Int32) - (nI 1)) hx hb hr (fun t ht hW => ⟨⟨(-10 : Int32) - (nI 1), (nI 1, zs, zh), rfl, hq, by show va_P D vwCl _ t.heap; rw [ht]; exact hP⟩, hS.F ht⟩) hS.2.2 dX10_copy_43
        · skip
          have hrd_x3 : decide (rb = (-1 : Int32)) = false := decide_eq_false hr_x3
          refine lv_aload_n hx hb dX10_copy_29 rfl (lv_at hl 0 rfl) ?_
          refine va_get (D := D) (ci := 9) (v := .ref a31) (C := RX10) (T := TX10) (N := 36) hx hb hts hwX10 hown hK hP 0 rfl rfl 31 (by decide) hf_73 (fun _ h9 => h9) rfl dX10_copy_30 ?_
          refine lv_iload_n hx hb dX10_copy_33 rfl (lv_at hl 3 rfl) ?_
          refine kk_iald hx hb hK hP 1 rfl rfl (i := x3N) (by omega) (by decide) dX10_copy_34 ?_
          refine kk_top (y := nI lenb) (hz1_x3) ?_
          refine kk_if_ge (tgt := 44) hx hb dX10_copy_35 (by decide) (by omega) ?_
          refine lv_aload_n hx hb dX10_copy_44 rfl (lv_at hl 0 rfl) ?_
          refine va_get (D := D) (ci := 9) (v := .ref a32) (C := RX10) (T := TX10) (N := 36) hx hb hts hwX10 hown hK hP 0 rfl rfl 32 (by decide) hf_76 (fun _ h9 => h9) rfl dX10_copy_45 ?_
          refine lv_iload_n hx hb dX10_copy_48 rfl (lv_at hl 1 rfl) ?_
          refine kk_iald hx hb hK hP 2 rfl rfl (i := x1N) (by omega) (by decide) dX10_copy_49 ?_
          refine kk_top (y := rl) hz2_x1 ?_
          refine lv_aload_n hx hb dX10_copy_50 rfl (lv_at hl 0 rfl) ?_
          refine va_get (D := D) (ci := 9) (v := .ref a32) (C := RX10) (T := TX10) (N := 36) hx hb hts hwX10 hown hK hP 0 rfl rfl 32 (by decide) hf_76 (fun _ h9 => h9) rfl dX10_copy_51 ?_
          refine lv_iload_n hx hb dX10_copy_54 rfl (lv_at hl 3 rfl) ?_
          refine kk_iald hx hb hK hP 2 rfl rfl (i := x3N) (by omega) (by decide) dX10_copy_55 ?_
          refine kk_top (y := rb) hz2_x3 ?_
          refine lv_icmp_eq (tgt := 65) hx hb dX10_copy_56 (by decide) (fun c_8 => ?_) (fun c_8 => ?_)
          · skip
            have hlan : decide (rl ≠ (-1 : Int32) ∧ rl ≠ rb) = false := decide_eq_false (fun z => z.2 c_8)
            refine lv_iload_n hx hb dX10_copy_65 rfl (lv_at hl 2 rfl) ?_
            refine lv_iload hx hb dX10_copy_66 (lv_at hl 5 rfl) ?_
            refine lv_i2l (v := x5.toInt64) hx hb dX10_copy_68 rfl ?_
            refine lv_aload_n hx hb dX10_copy_69 rfl (lv_at hl 0 rfl) ?_
            refine va_get (D := D) (ci := 9) (v := .ref a31) (C := RX10) (T := TX10) (N := 36) hx hb hts hwX10 hown hK hP 0 rfl rfl 31 (by decide) hf_73 (fun _ h9 => h9) rfl dX10_copy_70 ?_
            refine lv_iload_n hx hb dX10_copy_73 rfl (lv_at hl 1 rfl) ?_
            refine kk_iald hx hb hK hP 1 rfl rfl (i := x1N) (by omega) (by decide) dX10_copy_74 ?_
            refine kk_top (y := nI len) (hz1_x1) ?_
            have o_9 : len ≤ 60 := by omega
            refine vp_callSi (W.runS (As := [.int x2, .long x5.toInt64, .int (nI len)]) (rest := []) ⟨hx, hb, hml, hown, hts⟩ (c_X10_isBeyond lL D cI cS x2 x5 len o_9) (va_cwS 3 hts gX10_copy_X10_isBeyond rfl rfl rfl cd_X10_isBeyond ⟨Nat.le_of_ble_eq_true rfl, Nat.le_of_ble_eq_true rfl⟩) ⟨kBp_blind, fun U hU hW => ⟨rfl, by rw [hU]; exact hP.sub [] rfl, va_K.moved hW.alike hK⟩⟩ rfl rfl hl.1 rfl (lv_room (Nat.le_of_ble_eq_true rfl)) dX10_copy_75 ⟨Nat.le_of_ble_eq_true rfl, Nat.le_of_ble_eq_true rfl⟩) (fun r_10 hw_10 => ?_)
            obtain rfl : r_10 = kb (!hasC len x2 x5) := hw_10
            refine kk_ifn_ne (tgt := 98) hx hb dX10_copy_78 (by decide) (fun hb_11 => ?_) (fun hb_11 => ?_)
            · skip
              refine lv_aload_n hx hb dX10_copy_98 rfl (lv_at hl 0 rfl) ?_
              refine lv_iconst (v := nI 3) hx hb dX10_copy_99 (by decide +kernel) ?_
              have hF := va_free (wc := [(m0, .inr (9, [.int i0, .ref a1, .int (nI (cSp C)), .ref a3, .int (nI (cLa C)), .ref a5, .ref a6, .ref a7, .int (nI (cAg C)), .int (-9 : Int32), .int i10, .int i11, .int i12, .ref a13, .ref a14, .ref a15, .ref a16, .int (nI (mN T)), .ref a18, .ref a19, .ref a20, .ref a21, .ref a22, .ref a23, .ref a24, .ref a25, .int (nI (mN E)), .ref a27, .ref a28, .ref a29, .ref a30, .ref a31, .ref a32, .ref a33, .ref a34, .int i35]))]) hD hS hA [0] rfl
              refine va_calli (va_runV (As := [.int (nI 3)]) (rest := []) ⟨hx, hb, hml, hown, hts⟩ (c_X10_failed lL D cI cS _ m0 a1 a3 a5 a6 a7 a13 a14 a15 a16 a18 a19 a20 a21 a22 a23 a24 a25 a27 a28 a29 a30 a31 a32 a33 a34 i0 (nI (cSp C)) (nI (cLa C)) (nI (cAg C)) (-9 : Int32) i10 i11 i12 (nI (mN T)) (nI (mN E)) i35 (nI 3)) (cwV 1 hts gX10_copy_X10_failed rfl rfl rfl cd_X10_failed ⟨Nat.le_of_ble_eq_true rfl, Nat.le_of_ble_eq_true rfl⟩) ⟨kB_blind, va_recv hK hP (ci := 9) (q0 := 0) rfl rfl, fun U hU hW => ⟨rfl, by rw [hU], by rw [hU]; exact hP.sub [0] rfl, va_K.moved hW.alike hK, (hD.sub [0] (by decide) rfl).weaken (fun _ _ _ _ => trivial)⟩⟩ rfl rfl hl.1 rfl (lv_room (Nat.le_of_ble_eq_true rfl)) dX10_copy_100 ⟨Nat.le_of_ble_eq_true rfl, Nat.le_of_ble_eq_true rfl⟩) hS (fun q _ h => hF q h) hF (fun r_12 u_12 t H1 locs ht hvm hw_12 hB hz1 hk1 hS => ?_)
              obtain ⟨hP, hD⟩ := kk_join2 (wc := [(m0, .inr (9, [.int i0, .ref a1, .int (nI (cSp C)), .ref a3, .int (nI (cLa C)), .ref a5, .ref a6, .ref a7, .int (nI (cAg C)), .int (-9 : Int32), .int i10, .int i11, .int i12, .ref a13, .ref a14, .ref a15, .ref a16, .int (nI (mN T)), .ref a18, .ref a19, .ref a20, .ref a21, .ref a22, .ref a23, .ref a24, .ref a25, .int (nI (mN E)), .ref a27, .ref a28, .ref a29, .ref a30, .ref a31, .ref a32, .ref a33, .ref a34, .int i35]))]) (w1 := [(m0, .inr (9, [.int (nI 3), .ref a1, .int (nI (cSp C)), .ref a3, .int (nI (cLa C)), .ref a5, .ref a6, .ref a7, .int (nI (cAg C)), .int (-9 : Int32), .int i10, .int i11, .int i12, .ref a13, .ref a14, .ref a15, .ref a16, .int (nI (mN T)), .ref a18, .ref a19, .ref a20, .ref a21, .ref a22, .ref a23, .ref a24, .ref a25, .int (nI (mN E)), .ref a27, .ref a28, .ref a29, .ref a30, .ref a31, .ref a32, .ref a33, .ref a34, .int i35]))]) (ws' := [(m0, .inr (9, [.int (nI 3), .ref a1, .int (nI (cSp C)), .ref a3, .int (nI (cLa C)), .ref a5, .ref a6, .ref a7, .int (nI (cAg C)), .int (-9 : Int32), .int i10, .int i11, .int i12, .ref a13, .ref a14, .ref a15, .ref a16, .int (nI (mN T)), .ref a18, .ref a19, .ref a20, .ref a21, .ref a22, .ref a23, .ref a24, .ref a25, .int (nI (mN E)), .ref a27, .ref a28, .ref a29, .ref a30, .ref a31, .ref a32, .ref a33, .ref a34, .int i35])), (a31, .inl (cI, 4, .inl zz)), (a32, .inl (cI, 4, .inl zl)), (a33, .inl (cI, 240, .inl zs)), (a34, .inl (cI, 60, .inl zh))]) (wr := [(a31, .inl (cI, 4, .inl zz)), (a32, .inl (cI, 4, .inl zl)), (a33, .inl (cI, 240, .inl zs)), (a34, .inl (cI, 60, .inl zh))]) (H1 := H1) hP hD [0] [1, 2, 3, 4] rfl rfl rfl rfl 5 rfl (by decide) [m0, a31, a32, a33, a34] rfl rfl hk1 (by rw [← ht]; exact hB)
              have hw_12 : r_12 = (-10 : Int32) - (nI 3) ∧ True := hw_12
              clear hF hB hk1 hz1 hvm
              clear ht
              generalize H1 = H at hP hS ⊢
              obtain ⟨rfl, hw_12⟩ := hw_12
              have hq : ((-10 : Int32) - (nI 3)) = sp_copy rl len rb lenb (nI x1N) x2 (nI x3N) x4 x5 ∧ (nI 3) = nf_copy rl len rb lenb (nI x1N) x2 (nI x3N) x4 x5 ∧ (bif ok_copy rl len rb lenb (nI x1N) x2 (nI x3N) x4 x5 then ∀ j, zs j = (if 60 * tn (nI x3N) + tn x4 ≤ j ∧ j < 60 * tn (nI x3N) + tn x4 + tn x5 then zs (60 * tn (nI x1N) + tn x2 + (j - (60 * tn (nI x3N) + tn x4))) else zs j) else zs = zs) := by
                have hok : ok_copy rl len rb lenb (nI x1N) x2 (nI x3N) x4 x5 = false := by simp only [ok_copy, hb_2, hb_5, hrd_x1, hrd_x3, hlan, hb_11, t_x1, t_x3, cond_true, cond_false]
                rw [hok]
                exact ⟨by simp only [sp_copy, hb_2, hb_5, hrd_x1, hrd_x3, hlan, hb_11, t_x1, t_x3, cond_true, cond_false], by simp only [nf_copy, hb_2, hb_5, hrd_x1, hrd_x3, hlan, hb_11, t_x1, t_x3, cond_true, cond_false], rfl⟩
              refine kk_QQ hQQ ?_
              exact W.iret (v := (-10 : Int32) - (nI 3)) hx hb hr (fun t ht hW => ⟨⟨(-10 : Int32) - (nI 3), (nI 3, zs, zh), rfl, hq, by show va_P D vwCl _ t.heap; rw [ht]; exact hP⟩, hS.F ht⟩) hS.2.2 dX10_copy_103
            · skip
              obtain ⟨x2N, x5N, hx2N, rfl, rfl⟩ := hasC_2 (by omega) hb_11
              have t_x2 := nI_clamp (show x2N < 2 ^ 31 by omega)
              have t_x5 := nI_clamp (show x5N < 2 ^ 31 by omega)
              refine lv_iload hx hb dX10_copy_81 (lv_at hl 4 rfl) ?_
              refine lv_iload hx hb dX10_copy_83 (lv_at hl 5 rfl) ?_
              refine lv_i2l (v := (nI x5N).toInt64) hx hb dX10_copy_85 rfl ?_
              refine lv_aload_n hx hb dX10_copy_86 rfl (lv_at hl 0 rfl) ?_
              refine va_get (D := D) (ci := 9) (v := .ref a31) (C := RX10) (T := TX10) (N := 36) hx hb hts hwX10 hown hK hP 0 rfl rfl 31 (by decide) hf_73 (fun _ h9 => h9) rfl dX10_copy_87 ?_
              refine lv_iload_n hx hb dX10_copy_90 rfl (lv_at hl 3 rfl) ?_
              refine kk_iald hx hb hK hP 1 rfl rfl (i := x3N) (by omega) (by decide) dX10_copy_91 ?_
              refine kk_top (y := nI lenb) (hz1_x3) ?_
              have o_13 : lenb ≤ 60 := by omega
              refine vp_callSi (W.runS (As := [.int x4, .long ((nI x5N).toInt64), .int (nI lenb)]) (rest := []) ⟨hx, hb, hml, hown, hts⟩ (c_X10_isBeyond lL D cI cS x4 (nI x5N) lenb o_13) (va_cwS 3 hts gX10_copy_X10_isBeyond rfl rfl rfl cd_X10_isBeyond ⟨Nat.le_of_ble_eq_true rfl, Nat.le_of_ble_eq_true rfl⟩) ⟨kBp_blind, fun U hU hW => ⟨rfl, by rw [hU]; exact hP.sub [] rfl, va_K.moved hW.alike hK⟩⟩ rfl rfl hl.1 rfl (lv_room (Nat.le_of_ble_eq_true rfl)) dX10_copy_92 ⟨Nat.le_of_ble_eq_true rfl, Nat.le_of_ble_eq_true rfl⟩) (fun r_14 hw_14 => ?_)
              obtain rfl : r_14 = kb (!hasC lenb x4 (nI x5N)) := hw_14
              refine kk_ifn_eq (tgt := 104) hx hb dX10_copy_95 (by decide) (fun hb_15 => ?_) (fun hb_15 => ?_)
              · skip
                obtain ⟨x4N, hx4N, rfl⟩ := hasC_n (by omega) (by omega) hb_15
                have t_x4 := nI_clamp (show x4N < 2 ^ 31 by omega)
                refine lv_iconst (v := nI 0) hx hb dX10_copy_104 (by decide +kernel) ?_
                refine lv_istore (lv' := [(6, .int (nI 0)), (0, .ref m0), (1, .int (nI x1N)), (2, .int (nI x2N)), (3, .int (nI x3N)), (4, .int (nI x4N)), (5, .int (nI x5N))]) hx hb dX10_copy_105 hl (by decide) rfl (fun ls hl => ?_)
                have L_107 : ∀ (n_107 : Nat) (x : Nat) (hX9 : Nat → Int32), (x ≤ x5N) → (∀ j, j < x → hX9 j = zs (60 * x1N + x2N + j)) → x5N + 1 ≤ x + n_107 → ∀ (H : Heap) (locs : List Loc), va_P D vwCl [(m0, .inr (9, [.int i0, .ref a1, .int (nI (cSp C)), .ref a3, .int (nI (cLa C)), .ref a5, .ref a6, .ref a7, .int (nI (cAg C)), .int (-9 : Int32), .int i10, .int i11, .int i12, .ref a13, .ref a14, .ref a15, .ref a16, .int (nI (mN T)), .ref a18, .ref a19, .ref a20, .ref a21, .ref a22, .ref a23, .ref a24, .ref a25, .int (nI (mN E)), .ref a27, .ref a28, .ref a29, .ref a30, .ref a31, .ref a32, .ref a33, .ref a34, .int i35])), (a31, .inl (cI, 4, .inl zz)), (a32, .inl (cI, 4, .inl zl)), (a33, .inl (cI, 240, .inl zs)), (a34, .inl (cI, 60, .inl hX9))] H → va_D A [(m0, .inr (9, [.int i0, .ref a1, .int (nI (cSp C)), .ref a3, .int (nI (cLa C)), .ref a5, .ref a6, .ref a7, .int (nI (cAg C)), .int (-9 : Int32), .int i10, .int i11, .int i12, .ref a13, .ref a14, .ref a15, .ref a16, .int (nI (mN T)), .ref a18, .ref a19, .ref a20, .ref a21, .ref a22, .ref a23, .ref a24, .ref a25, .int (nI (mN E)), .ref a27, .ref a28, .ref a29, .ref a30, .ref a31, .ref a32, .ref a33, .ref a34, .int i35])), (a31, .inl (cI, 4, .inl zz)), (a32, .inl (cI, 4, .inl zl)), (a33, .inl (cI, 240, .inl zs)), (a34, .inl (cI, 60, .inl hX9))] → va_S A sS.heap H locs → ∀ (ls : Array Slot), lv_has ls 7 [(6, .int (nI x)), (0, .ref m0), (1, .int (nI x1N)), (2, .int (nI x2N)), (3, .int (nI x3N)), (4, .int (nI x4N)), (5, .int (nI x5N))] → W pP lL eE (headSpec wsX10_copy rmX10_copy).room sS mM ([.ref m0, .int (nI x1N), .int (nI x2N), .int (nI x3N), .int (nI x4N), .int (nI x5N)]).toArray below meth cC H locs 0 0 QQ (F0 mM 107 ls []) := by
                  intro n_107
                  induction n_107 with
                  | zero =>
                    intro x hX9 hx9 z1 hn_107 H locs hP hD hS ls hl
                    exact absurd hn_107 (by omega)
                  | succ n_107 ih_107 =>
                    intro x hX9 hx9 z1 hn_107 H locs hP hD hS ls hl
                    refine lv_iload hx hb dX10_copy_107 (lv_at hl 0 rfl) ?_
                    refine lv_iload hx hb dX10_copy_109 (lv_at hl 6 rfl) ?_
                    refine kk_icmp_ge (tgt := 141) hx hb dX10_copy_111 (by decide) (by omega) (by omega) (fun c_16 => ?_) (fun c_16 => ?_)
                    · skip
                      refine lv_iconst (v := nI 0) hx hb dX10_copy_141 (by decide +kernel) ?_
                      refine lv_istore (lv' := [(6, .int (nI 0)), (0, .ref m0), (1, .int (nI x1N)), (2, .int (nI x2N)), (3, .int (nI x3N)), (4, .int (nI x4N)), (5, .int (nI x5N))]) hx hb dX10_copy_142 hl (by decide) rfl (fun ls hl => ?_)
                      have L_144 : ∀ (n_144 : Nat) (x : Nat) (sX : Nat → Int32), (x ≤ x5N) → (∀ j, sX j = (if 60 * x3N + x4N ≤ j ∧ j < 60 * x3N + x4N + x then zs (60 * x1N + x2N + (j - (60 * x3N + x4N))) else zs j)) → x5N + 1 ≤ x + n_144 → ∀ (H : Heap) (locs : List Loc), va_P D vwCl [(m0, .inr (9, [.int i0, .ref a1, .int (nI (cSp C)), .ref a3, .int (nI (cLa C)), .ref a5, .ref a6, .ref a7, .int (nI (cAg C)), .int (-9 : Int32), .int i10, .int i11, .int i12, .ref a13, .ref a14, .ref a15, .ref a16, .int (nI (mN T)), .ref a18, .ref a19, .ref a20, .ref a21, .ref a22, .ref a23, .ref a24, .ref a25, .int (nI (mN E)), .ref a27, .ref a28, .ref a29, .ref a30, .ref a31, .ref a32, .ref a33, .ref a34, .int i35])), (a31, .inl (cI, 4, .inl zz)), (a32, .inl (cI, 4, .inl zl)), (a33, .inl (cI, 240, .inl sX)), (a34, .inl (cI, 60, .inl hX9))] H → va_D A [(m0, .inr (9, [.int i0, .ref a1, .int (nI (cSp C)), .ref a3, .int (nI (cLa C)), .ref a5, .ref a6, .ref a7, .int (nI (cAg C)), .int (-9 : Int32), .int i10, .int i11, .int i12, .ref a13, .ref a14, .ref a15, .ref a16, .int (nI (mN T)), .ref a18, .ref a19, .ref a20, .ref a21, .ref a22, .ref a23, .ref a24, .ref a25, .int (nI (mN E)), .ref a27, .ref a28, .ref a29, .ref a30, .ref a31, .ref a32, .ref a33, .ref a34, .int i35])), (a31, .inl (cI, 4, .inl zz)), (a32, .inl (cI, 4, .inl zl)), (a33, .inl (cI, 240, .inl sX)), (a34, .inl (cI, 60, .inl hX9))] → va_S A sS.heap H locs → ∀ (ls : Array Slot), lv_has ls 7 [(6, .int (nI x)), (0, .ref m0), (1, .int (nI x1N)), (2, .int (nI x2N)), (3, .int (nI x3N)), (4, .int (nI x4N)), (5, .int (nI x5N))] → W pP lL eE (headSpec wsX10_copy rmX10_copy).room sS mM ([.ref m0, .int (nI x1N), .int (nI x2N), .int (nI x3N), .int (nI x4N), .int (nI x5N)]).toArray below meth cC H locs 0 0 QQ (F0 mM 144 ls []) := by
                        intro n_144
                        induction n_144 with
                        | zero =>
                          intro x sX hx8 z2 hn_144 H locs hP hD hS ls hl
                          exact absurd hn_144 (by omega)
                        | succ n_144 ih_144 =>
                          intro x sX hx8 z2 hn_144 H locs hP hD hS ls hl
                          refine lv_iload hx hb dX10_copy_144 (lv_at hl 0 rfl) ?_
                          refine lv_iload hx hb dX10_copy_146 (lv_at hl 6 rfl) ?_
                          refine kk_icmp_ge (tgt := 179) hx hb dX10_copy_148 (by decide) (by omega) (by omega) (fun c_17 => ?_) (fun c_17 => ?_)
                          · skip
                            refine lv_aload_n hx hb dX10_copy_179 rfl (lv_at hl 1 rfl) ?_
                            refine lv_iload hx hb dX10_copy_180 (lv_at hl 6 rfl) ?_
                            have hF := va_free (wc := [(m0, .inr (9, [.int i0, .ref a1, .int (nI (cSp C)), .ref a3, .int (nI (cLa C)), .ref a5, .ref a6, .ref a7, .int (nI (cAg C)), .int (-9 : Int32), .int i10, .int i11, .int i12, .ref a13, .ref a14, .ref a15, .ref a16, .int (nI (mN T)), .ref a18, .ref a19, .ref a20, .ref a21, .ref a22, .ref a23, .ref a24, .ref a25, .int (nI (mN E)), .ref a27, .ref a28, .ref a29, .ref a30, .ref a31, .ref a32, .ref a33, .ref a34, .int i35]))]) hD hS hA [0] rfl
                            refine va_calli (va_runV (As := [.int (nI x5N)]) (rest := []) ⟨hx, hb, hml, hown, hts⟩ (c_X10_refused lL D cI cS _ m0 a1 a3 a5 a6 a7 a13 a14 a15 a16 a18 a19 a20 a21 a22 a23 a24 a25 a27 a28 a29 a30 a31 a32 a33 a34 i0 (nI (cSp C)) (nI (cLa C)) (nI (cAg C)) (-9 : Int32) i10 i11 i12 (nI (mN T)) (nI (mN E)) i35 (nI x5N)) (cwV 1 hts gX10_copy_X10_refused rfl rfl rfl cd_X10_refused ⟨Nat.le_of_ble_eq_true rfl, Nat.le_of_ble_eq_true rfl⟩) ⟨kB_blind, va_recv hK hP (ci := 9) (q0 := 0) rfl rfl, fun U hU hW => ⟨rfl, by rw [hU], by rw [hU]; exact hP.sub [0] rfl, va_K.moved hW.alike hK, (hD.sub [0] (by decide) rfl).weaken (fun _ _ _ _ => trivial)⟩⟩ rfl rfl hl.1 rfl (lv_room (Nat.le_of_ble_eq_true rfl)) dX10_copy_182 ⟨Nat.le_of_ble_eq_true rfl, Nat.le_of_ble_eq_true rfl⟩) hS (fun q _ h => hF q h) hF (fun r_18 u_18 t H1 locs ht hvm hw_18 hB hz1 hk1 hS => ?_)
                            obtain ⟨hP, hD⟩ := kk_join2 (wc := [(m0, .inr (9, [.int i0, .ref a1, .int (nI (cSp C)), .ref a3, .int (nI (cLa C)), .ref a5, .ref a6, .ref a7, .int (nI (cAg C)), .int (-9 : Int32), .int i10, .int i11, .int i12, .ref a13, .ref a14, .ref a15, .ref a16, .int (nI (mN T)), .ref a18, .ref a19, .ref a20, .ref a21, .ref a22, .ref a23, .ref a24, .ref a25, .int (nI (mN E)), .ref a27, .ref a28, .ref a29, .ref a30, .ref a31, .ref a32, .ref a33, .ref a34, .int i35]))]) (w1 := [(m0, .inr (9, [.int (nI 0), .ref a1, .int (nI (cSp C)), .ref a3, .int (nI (cLa C)), .ref a5, .ref a6, .ref a7, .int (nI (cAg C)), .int (-9 : Int32), .int i10, .int i11, .int i12, .ref a13, .ref a14, .ref a15, .ref a16, .int (nI (mN T)), .ref a18, .ref a19, .ref a20, .ref a21, .ref a22, .ref a23, .ref a24, .ref a25, .int (nI (mN E)), .ref a27, .ref a28, .ref a29, .ref a30, .ref a31, .ref a32, .ref a33, .ref a34, .int i35]))]) (ws' := [(m0, .inr (9, [.int (nI 0), .ref a1, .int (nI (cSp C)), .ref a3, .int (nI (cLa C)), .ref a5, .ref a6, .ref a7, .int (nI (cAg C)), .int (-9 : Int32), .int i10, .int i11, .int i12, .ref a13, .ref a14, .ref a15, .ref a16, .int (nI (mN T)), .ref a18, .ref a19, .ref a20, .ref a21, .ref a22, .ref a23, .ref a24, .ref a25, .int (nI (mN E)), .ref a27, .ref a28, .ref a29, .ref a30, .ref a31, .ref a32, .ref a33, .ref a34, .int i35])), (a31, .inl (cI, 4, .inl zz)), (a32, .inl (cI, 4, .inl zl)), (a33, .inl (cI, 240, .inl sX)), (a34, .inl (cI, 60, .inl hX9))]) (wr := [(a31, .inl (cI, 4, .inl zz)), (a32, .inl (cI, 4, .inl zl)), (a33, .inl (cI, 240, .inl sX)), (a34, .inl (cI, 60, .inl hX9))]) (H1 := H1) hP hD [0] [1, 2, 3, 4] rfl rfl rfl rfl 5 rfl (by decide) [m0, a31, a32, a33, a34] rfl rfl hk1 (by rw [← ht]; exact hB)
                            have hw_18 : r_18 = (nI x5N) ∧ True := hw_18
                            clear hF hB hk1 hz1 hvm
                            clear ht
                            generalize H1 = H at hP hS ⊢
                            obtain ⟨rfl, hw_18⟩ := hw_18
                            have hq : (nI x5N) = sp_copy rl len rb lenb (nI x1N) (nI x2N) (nI x3N) (nI x4N) (nI x5N) ∧ (nI 0) = nf_copy rl len rb lenb (nI x1N) (nI x2N) (nI x3N) (nI x4N) (nI x5N) ∧ (bif ok_copy rl len rb lenb (nI x1N) (nI x2N) (nI x3N) (nI x4N) (nI x5N) then ∀ j, sX j = (if 60 * tn (nI x3N) + tn (nI x4N) ≤ j ∧ j < 60 * tn (nI x3N) + tn (nI x4N) + tn (nI x5N) then zs (60 * tn (nI x1N) + tn (nI x2N) + (j - (60 * tn (nI x3N) + tn (nI x4N)))) else zs j) else sX = zs) := by
                              have hok : ok_copy rl len rb lenb (nI x1N) (nI x2N) (nI x3N) (nI x4N) (nI x5N) = true := by simp only [ok_copy, hb_2, hb_5, hrd_x1, hrd_x3, hlan, hb_11, hb_15, t_x1, t_x3, t_x2, t_x5, t_x4, cond_true, cond_false]
                              rw [hok]
                              refine ⟨by simp only [sp_copy, hb_2, hb_5, hrd_x1, hrd_x3, hlan, hb_11, hb_15, t_x1, t_x3, t_x2, t_x5, t_x4, cond_true, cond_false], by simp only [nf_copy, hb_2, hb_5, hrd_x1, hrd_x3, hlan, hb_11, hb_15, t_x1, t_x3, t_x2, t_x5, t_x4, cond_true, cond_false], ?_⟩
                              simp only [t_x1, t_x2, t_x3, t_x4, t_x5, cond_true]
                              intro j
                              have e_x : x = x5N := by omega
                              subst e_x
                              exact z2 j
                            refine kk_QQ hQQ ?_
                            exact W.iret (v := (nI x5N)) hx hb hr (fun t ht hW => ⟨⟨(nI x5N), (nI 0, sX, hX9), rfl, hq, by show va_P D vwCl _ t.heap; rw [ht]; exact hP⟩, hS.F ht⟩) hS.2.2 dX10_copy_185
                          · skip
                            refine lv_aload_n hx hb dX10_copy_151 rfl (lv_at hl 1 rfl) ?_
                            refine va_get (D := D) (ci := 9) (v := .ref a33) (C := RX10) (T := TX10) (N := 36) hx hb hts hwX10 hown hK hP 0 rfl rfl 33 (by decide) hf_79 (fun _ h9 => h9) rfl dX10_copy_152 ?_
                            refine lv_bipush (v := nI 60) hx hb dX10_copy_155 (by decide +kernel) ?_
                            refine lv_iload_n hx hb dX10_copy_157 rfl (lv_at hl 4 rfl) ?_
                            refine kk_imul hx hb dX10_copy_158 ?_
                            refine lv_iload hx hb dX10_copy_159 (lv_at hl 5 rfl) ?_
                            refine kk_iadd hx hb dX10_copy_161 ?_
                            refine lv_iload hx hb dX10_copy_162 (lv_at hl 0 rfl) ?_
                            refine kk_iadd hx hb dX10_copy_164 ?_
                            refine lv_aload_n hx hb dX10_copy_165 rfl (lv_at hl 1 rfl) ?_
                            refine va_get (D := D) (ci := 9) (v := .ref a34) (C := RX10) (T := TX10) (N := 36) hx hb hts hwX10 hown hK hP 0 rfl rfl 34 (by decide) hf_82 (fun _ h9 => h9) rfl dX10_copy_166 ?_
                            refine lv_iload hx hb dX10_copy_169 (lv_at hl 0 rfl) ?_
                            refine kk_iald hx hb hK hP 4 rfl rfl (i := x) (by omega) (by decide) dX10_copy_171 ?_
                            refine kk_iast hx hb hK hP hD hS 3 rfl rfl (i := ((60 * x3N) + x4N) + x) (by omega) (by decide) dX10_copy_172 (fun H locs hP hD hS => ?_)
                            have hP : va_P D vwCl [(m0, .inr (9, [.int i0, .ref a1, .int (nI (cSp C)), .ref a3, .int (nI (cLa C)), .ref a5, .ref a6, .ref a7, .int (nI (cAg C)), .int (-9 : Int32), .int i10, .int i11, .int i12, .ref a13, .ref a14, .ref a15, .ref a16, .int (nI (mN T)), .ref a18, .ref a19, .ref a20, .ref a21, .ref a22, .ref a23, .ref a24, .ref a25, .int (nI (mN E)), .ref a27, .ref a28, .ref a29, .ref a30, .ref a31, .ref a32, .ref a33, .ref a34, .int i35])), (a31, .inl (cI, 4, .inl zz)), (a32, .inl (cI, 4, .inl zl)), (a33, .inl (cI, 240, .inl (upd sX (((60 * x3N) + x4N) + x) (hX9 x)))), (a34, .inl (cI, 60, .inl hX9))] H := hP
                            have hD : va_D A [(m0, .inr (9, [.int i0, .ref a1, .int (nI (cSp C)), .ref a3, .int (nI (cLa C)), .ref a5, .ref a6, .ref a7, .int (nI (cAg C)), .int (-9 : Int32), .int i10, .int i11, .int i12, .ref a13, .ref a14, .ref a15, .ref a16, .int (nI (mN T)), .ref a18, .ref a19, .ref a20, .ref a21, .ref a22, .ref a23, .ref a24, .ref a25, .int (nI (mN E)), .ref a27, .ref a28, .ref a29, .ref a30, .ref a31, .ref a32, .ref a33, .ref a34, .int i35])), (a31, .inl (cI, 4, .inl zz)), (a32, .inl (cI, 4, .inl zl)), (a33, .inl (cI, 240, .inl (upd sX (((60 * x3N) + x4N) + x) (hX9 x)))), (a34, .inl (cI, 60, .inl hX9))] := hD
                            refine lv_iinc (v := nI (x + 1)) (lv' := [(6, .int (nI (x + 1))), (0, .ref m0), (1, .int (nI x1N)), (2, .int (nI x2N)), (3, .int (nI x3N)), (4, .int (nI x4N)), (5, .int (nI x5N))]) hx hb dX10_copy_173 hl (k := 0) rfl (nI_add x 1) (by decide) rfl (fun ls hl => ?_)
                            refine lv_goto (tgt := 144) hx hb dX10_copy_176 (by decide) ?_
                            have o_19 : (x + 1) ≤ x5N := by omega
                            have o_20 : ∀ j, (upd sX (((60 * x3N) + x4N) + x) (hX9 x)) j = (if 60 * x3N + x4N ≤ j ∧ j < 60 * x3N + x4N + (x + 1) then zs (60 * x1N + x2N + (j - (60 * x3N + x4N))) else zs j) := by
                              intro j
                              by_cases e : j = 60 * x3N + x4N + x
                              · subst e; rw [up_at, if_pos (by omega), z1 x (by omega)]; congr 1; omega
                              · rw [up_ne _ _ e, z2 j]
                                by_cases e2 : 60 * x3N + x4N ≤ j ∧ j < 60 * x3N + x4N + x
                                · rw [if_pos e2, if_pos (by omega)]
                                · rw [if_neg e2, if_neg (by omega)]
                            have o_21 : x5N + 1 ≤ (x + 1) + n_144 := by omega
                            exact ih_144 (x + 1) (upd sX (((60 * x3N) + x4N) + x) (hX9 x)) o_19 o_20 o_21 _ _ hP hD hS ls (lv_sub hl [0, 1, 2, 3, 4, 5, 6] rfl)
                      have o_22 : 0 ≤ x5N := by omega
                      have o_23 : ∀ j, zs j = (if 60 * x3N + x4N ≤ j ∧ j < 60 * x3N + x4N + 0 then zs (60 * x1N + x2N + (j - (60 * x3N + x4N))) else zs j) := by intro j; rw [if_neg (by omega)]
                      have o_24 : x5N + 1 ≤ 0 + (x5N + 1) := by omega
                      exact L_144 (x5N + 1) 0 zs o_22 o_23 o_24 _ _ hP hD hS ls (lv_sub hl [0, 1, 2, 3, 4, 5, 6] rfl)
                    · skip
                      refine lv_aload_n hx hb dX10_copy_114 rfl (lv_at hl 1 rfl) ?_
                      refine va_get (D := D) (ci := 9) (v := .ref a34) (C := RX10) (T := TX10) (N := 36) hx hb hts hwX10 hown hK hP 0 rfl rfl 34 (by decide) hf_82 (fun _ h9 => h9) rfl dX10_copy_115 ?_
                      refine lv_iload hx hb dX10_copy_118 (lv_at hl 0 rfl) ?_
                      refine lv_aload_n hx hb dX10_copy_120 rfl (lv_at hl 1 rfl) ?_
                      refine va_get (D := D) (ci := 9) (v := .ref a33) (C := RX10) (T := TX10) (N := 36) hx hb hts hwX10 hown hK hP 0 rfl rfl 33 (by decide) hf_79 (fun _ h9 => h9) rfl dX10_copy_121 ?_
                      refine lv_bipush (v := nI 60) hx hb dX10_copy_124 (by decide +kernel) ?_
                      refine lv_iload_n hx hb dX10_copy_126 rfl (lv_at hl 2 rfl) ?_
                      refine kk_imul hx hb dX10_copy_127 ?_
                      refine lv_iload_n hx hb dX10_copy_128 rfl (lv_at hl 3 rfl) ?_
                      refine kk_iadd hx hb dX10_copy_129 ?_
                      refine lv_iload hx hb dX10_copy_130 (lv_at hl 0 rfl) ?_
                      refine kk_iadd hx hb dX10_copy_132 ?_
                      refine kk_iald hx hb hK hP 3 rfl rfl (i := ((60 * x1N) + x2N) + x) (by omega) (by decide) dX10_copy_133 ?_
                      refine kk_iast hx hb hK hP hD hS 4 rfl rfl (i := x) (by omega) (by decide) dX10_copy_134 (fun H locs hP hD hS => ?_)
                      have hP : va_P D vwCl [(m0, .inr (9, [.int i0, .ref a1, .int (nI (cSp C)), .ref a3, .int (nI (cLa C)), .ref a5, .ref a6, .ref a7, .int (nI (cAg C)), .int (-9 : Int32), .int i10, .int i11, .int i12, .ref a13, .ref a14, .ref a15, .ref a16, .int (nI (mN T)), .ref a18, .ref a19, .ref a20, .ref a21, .ref a22, .ref a23, .ref a24, .ref a25, .int (nI (mN E)), .ref a27, .ref a28, .ref a29, .ref a30, .ref a31, .ref a32, .ref a33, .ref a34, .int i35])), (a31, .inl (cI, 4, .inl zz)), (a32, .inl (cI, 4, .inl zl)), (a33, .inl (cI, 240, .inl zs)), (a34, .inl (cI, 60, .inl (upd hX9 x (zs (((60 * x1N) + x2N) + x)))))] H := hP
                      have hD : va_D A [(m0, .inr (9, [.int i0, .ref a1, .int (nI (cSp C)), .ref a3, .int (nI (cLa C)), .ref a5, .ref a6, .ref a7, .int (nI (cAg C)), .int (-9 : Int32), .int i10, .int i11, .int i12, .ref a13, .ref a14, .ref a15, .ref a16, .int (nI (mN T)), .ref a18, .ref a19, .ref a20, .ref a21, .ref a22, .ref a23, .ref a24, .ref a25, .int (nI (mN E)), .ref a27, .ref a28, .ref a29, .ref a30, .ref a31, .ref a32, .ref a33, .ref a34, .int i35])), (a31, .inl (cI, 4, .inl zz)), (a32, .inl (cI, 4, .inl zl)), (a33, .inl (cI, 240, .inl zs)), (a34, .inl (cI, 60, .inl (upd hX9 x (zs (((60 * x1N) + x2N) + x)))))] := hD
                      refine lv_iinc (v := nI (x + 1)) (lv' := [(6, .int (nI (x + 1))), (0, .ref m0), (1, .int (nI x1N)), (2, .int (nI x2N)), (3, .int (nI x3N)), (4, .int (nI x4N)), (5, .int (nI x5N))]) hx hb dX10_copy_135 hl (k := 0) rfl (nI_add x 1) (by decide) rfl (fun ls hl => ?_)
                      refine lv_goto (tgt := 107) hx hb dX10_copy_138 (by decide) ?_
                      have o_25 : (x + 1) ≤ x5N := by omega
                      have o_26 : ∀ j, j < (x + 1) → (upd hX9 x (zs (((60 * x1N) + x2N) + x))) j = zs (60 * x1N + x2N + j) := by
                        intro j h
                        by_cases e : j = x
                        · subst e; exact up_at _ _ _
                        · rw [up_ne _ _ e]; exact z1 j (by omega)
                      have o_27 : x5N + 1 ≤ (x + 1) + n_107 := by omega
                      exact ih_107 (x + 1) (upd hX9 x (zs (((60 * x1N) + x2N) + x))) o_25 o_26 o_27 _ _ hP hD hS ls (lv_sub hl [0, 1, 2, 3, 4, 5, 6] rfl)
                have o_28 : 0 ≤ x5N := by omega
                have o_29 : ∀ j, j < 0 → zh j = zs (60 * x1N + x2N + j) := by intro j h; omega
                have o_30 : x5N + 1 ≤ 0 + (x5N + 1) := by omega
                exact L_107 (x5N + 1) 0 zh o_28 o_29 o_30 _ _ hP hD hS ls (lv_sub hl [0, 1, 2, 3, 4, 5, 6] rfl)
              · skip
                refine lv_aload_n hx hb dX10_copy_98 rfl (lv_at hl 0 rfl) ?_
                refine lv_iconst (v := nI 3) hx hb dX10_copy_99 (by decide +kernel) ?_
                have hF := va_free (wc := [(m0, .inr (9, [.int i0, .ref a1, .int (nI (cSp C)), .ref a3, .int (nI (cLa C)), .ref a5, .ref a6, .ref a7, .int (nI (cAg C)), .int (-9 : Int32), .int i10, .int i11, .int i12, .ref a13, .ref a14, .ref a15, .ref a16, .int (nI (mN T)), .ref a18, .ref a19, .ref a20, .ref a21, .ref a22, .ref a23, .ref a24, .ref a25, .int (nI (mN E)), .ref a27, .ref a28, .ref a29, .ref a30, .ref a31, .ref a32, .ref a33, .ref a34, .int i35]))]) hD hS hA [0] rfl
                refine va_calli (va_runV (As := [.int (nI 3)]) (rest := []) ⟨hx, hb, hml, hown, hts⟩ (c_X10_failed lL D cI cS _ m0 a1 a3 a5 a6 a7 a13 a14 a15 a16 a18 a19 a20 a21 a22 a23 a24 a25 a27 a28 a29 a30 a31 a32 a33 a34 i0 (nI (cSp C)) (nI (cLa C)) (nI (cAg C)) (-9 : Int32) i10 i11 i12 (nI (mN T)) (nI (mN E)) i35 (nI 3)) (cwV 1 hts gX10_copy_X10_failed rfl rfl rfl cd_X10_failed ⟨Nat.le_of_ble_eq_true rfl, Nat.le_of_ble_eq_true rfl⟩) ⟨kB_blind, va_recv hK hP (ci := 9) (q0 := 0) rfl rfl, fun U hU hW => ⟨rfl, by rw [hU], by rw [hU]; exact hP.sub [0] rfl, va_K.moved hW.alike hK, (hD.sub [0] (by decide) rfl).weaken (fun _ _ _ _ => trivial)⟩⟩ rfl rfl hl.1 rfl (lv_room (Nat.le_of_ble_eq_true rfl)) dX10_copy_100 ⟨Nat.le_of_ble_eq_true rfl, Nat.le_of_ble_eq_true rfl⟩) hS (fun q _ h => hF q h) hF (fun r_31 u_31 t H1 locs ht hvm hw_31 hB hz1 hk1 hS => ?_)
                obtain ⟨hP, hD⟩ := kk_join2 (wc := [(m0, .inr (9, [.int i0, .ref a1, .int (nI (cSp C)), .ref a3, .int (nI (cLa C)), .ref a5, .ref a6, .ref a7, .int (nI (cAg C)), .int (-9 : Int32), .int i10, .int i11, .int i12, .ref a13, .ref a14, .ref a15, .ref a16, .int (nI (mN T)), .ref a18, .ref a19, .ref a20, .ref a21, .ref a22, .ref a23, .ref a24, .ref a25, .int (nI (mN E)), .ref a27, .ref a28, .ref a29, .ref a30, .ref a31, .ref a32, .ref a33, .ref a34, .int i35]))]) (w1 := [(m0, .inr (9, [.int (nI 3), .ref a1, .int (nI (cSp C)), .ref a3, .int (nI (cLa C)), .ref a5, .ref a6, .ref a7, .int (nI (cAg C)), .int (-9 : Int32), .int i10, .int i11, .int i12, .ref a13, .ref a14, .ref a15, .ref a16, .int (nI (mN T)), .ref a18, .ref a19, .ref a20, .ref a21, .ref a22, .ref a23, .ref a24, .ref a25, .int (nI (mN E)), .ref a27, .ref a28, .ref a29, .ref a30, .ref a31, .ref a32, .ref a33, .ref a34, .int i35]))]) (ws' := [(m0, .inr (9, [.int (nI 3), .ref a1, .int (nI (cSp C)), .ref a3, .int (nI (cLa C)), .ref a5, .ref a6, .ref a7, .int (nI (cAg C)), .int (-9 : Int32), .int i10, .int i11, .int i12, .ref a13, .ref a14, .ref a15, .ref a16, .int (nI (mN T)), .ref a18, .ref a19, .ref a20, .ref a21, .ref a22, .ref a23, .ref a24, .ref a25, .int (nI (mN E)), .ref a27, .ref a28, .ref a29, .ref a30, .ref a31, .ref a32, .ref a33, .ref a34, .int i35])), (a31, .inl (cI, 4, .inl zz)), (a32, .inl (cI, 4, .inl zl)), (a33, .inl (cI, 240, .inl zs)), (a34, .inl (cI, 60, .inl zh))]) (wr := [(a31, .inl (cI, 4, .inl zz)), (a32, .inl (cI, 4, .inl zl)), (a33, .inl (cI, 240, .inl zs)), (a34, .inl (cI, 60, .inl zh))]) (H1 := H1) hP hD [0] [1, 2, 3, 4] rfl rfl rfl rfl 5 rfl (by decide) [m0, a31, a32, a33, a34] rfl rfl hk1 (by rw [← ht]; exact hB)
                have hw_31 : r_31 = (-10 : Int32) - (nI 3) ∧ True := hw_31
                clear hF hB hk1 hz1 hvm
                clear ht
                generalize H1 = H at hP hS ⊢
                obtain ⟨rfl, hw_31⟩ := hw_31
                have hq : ((-10 : Int32) - (nI 3)) = sp_copy rl len rb lenb (nI x1N) (nI x2N) (nI x3N) x4 (nI x5N) ∧ (nI 3) = nf_copy rl len rb lenb (nI x1N) (nI x2N) (nI x3N) x4 (nI x5N) ∧ (bif ok_copy rl len rb lenb (nI x1N) (nI x2N) (nI x3N) x4 (nI x5N) then ∀ j, zs j = (if 60 * tn (nI x3N) + tn x4 ≤ j ∧ j < 60 * tn (nI x3N) + tn x4 + tn (nI x5N) then zs (60 * tn (nI x1N) + tn (nI x2N) + (j - (60 * tn (nI x3N) + tn x4))) else zs j) else zs = zs) := by
                  have hok : ok_copy rl len rb lenb (nI x1N) (nI x2N) (nI x3N) x4 (nI x5N) = false := by simp only [ok_copy, hb_2, hb_5, hrd_x1, hrd_x3, hlan, hb_11, hb_15, t_x1, t_x3, t_x2, t_x5, cond_true, cond_false]
                  rw [hok]
                  exact ⟨by simp only [sp_copy, hb_2, hb_5, hrd_x1, hrd_x3, hlan, hb_11, hb_15, t_x1, t_x3, t_x2, t_x5, cond_true, cond_false], by simp only [nf_copy, hb_2, hb_5, hrd_x1, hrd_x3, hlan, hb_11, hb_15, t_x1, t_x3, t_x2, t_x5, cond_true, cond_false], rfl⟩
                refine kk_QQ hQQ ?_
                exact W.iret (v := (-10 : Int32) - (nI 3)) hx hb hr (fun t ht hW => ⟨⟨(-10 : Int32) - (nI 3), (nI 3, zs, zh), rfl, hq, by show va_P D vwCl _ t.heap; rw [ht]; exact hP⟩, hS.F ht⟩) hS.2.2 dX10_copy_103
          · skip
            have hlan : decide (rl ≠ (-1 : Int32) ∧ rl ≠ rb) = true := decide_eq_true ⟨hr_x1, c_8⟩
            refine lv_aload_n hx hb dX10_copy_59 rfl (lv_at hl 0 rfl) ?_
            refine lv_iconst (v := nI 2) hx hb dX10_copy_60 (by decide +kernel) ?_
            have hF := va_free (wc := [(m0, .inr (9, [.int i0, .ref a1, .int (nI (cSp C)), .ref a3, .int (nI (cLa C)), .ref a5, .ref a6, .ref a7, .int (nI (cAg C)), .int (-9 : Int32), .int i10, .int i11, .int i12, .ref a13, .ref a14, .ref a15, .ref a16, .int (nI (mN T)), .ref a18, .ref a19, .ref a20, .ref a21, .ref a22, .ref a23, .ref a24, .ref a25, .int (nI (mN E)), .ref a27, .ref a28, .ref a29, .ref a30, .ref a31, .ref a32, .ref a33, .ref a34, .int i35]))]) hD hS hA [0] rfl
            refine va_calli (va_runV (As := [.int (nI 2)]) (rest := []) ⟨hx, hb, hml, hown, hts⟩ (c_X10_failed lL D cI cS _ m0 a1 a3 a5 a6 a7 a13 a14 a15 a16 a18 a19 a20 a21 a22 a23 a24 a25 a27 a28 a29 a30 a31 a32 a33 a34 i0 (nI (cSp C)) (nI (cLa C)) (nI (cAg C)) (-9 : Int32) i10 i11 i12 (nI (mN T)) (nI (mN E)) i35 (nI 2)) (cwV 1 hts gX10_copy_X10_failed rfl rfl rfl cd_X10_failed ⟨Nat.le_of_ble_eq_true rfl, Nat.le_of_ble_eq_true rfl⟩) ⟨kB_blind, va_recv hK hP (ci := 9) (q0 := 0) rfl rfl, fun U hU hW => ⟨rfl, by rw [hU], by rw [hU]; exact hP.sub [0] rfl, va_K.moved hW.alike hK, (hD.sub [0] (by decide) rfl).weaken (fun _ _ _ _ => trivial)⟩⟩ rfl rfl hl.1 rfl (lv_room (Nat.le_of_ble_eq_true rfl)) dX10_copy_61 ⟨Nat.le_of_ble_eq_true rfl, Nat.le_of_ble_eq_true rfl⟩) hS (fun q _ h => hF q h) hF (fun r_32 u_32 t H1 locs ht hvm hw_32 hB hz1 hk1 hS => ?_)
            obtain ⟨hP, hD⟩ := kk_join2 (wc := [(m0, .inr (9, [.int i0, .ref a1, .int (nI (cSp C)), .ref a3, .int (nI (cLa C)), .ref a5, .ref a6, .ref a7, .int (nI (cAg C)), .int (-9 : Int32), .int i10, .int i11, .int i12, .ref a13, .ref a14, .ref a15, .ref a16, .int (nI (mN T)), .ref a18, .ref a19, .ref a20, .ref a21, .ref a22, .ref a23, .ref a24, .ref a25, .int (nI (mN E)), .ref a27, .ref a28, .ref a29, .ref a30, .ref a31, .ref a32, .ref a33, .ref a34, .int i35]))]) (w1 := [(m0, .inr (9, [.int (nI 2), .ref a1, .int (nI (cSp C)), .ref a3, .int (nI (cLa C)), .ref a5, .ref a6, .ref a7, .int (nI (cAg C)), .int (-9 : Int32), .int i10, .int i11, .int i12, .ref a13, .ref a14, .ref a15, .ref a16, .int (nI (mN T)), .ref a18, .ref a19, .ref a20, .ref a21, .ref a22, .ref a23, .ref a24, .ref a25, .int (nI (mN E)), .ref a27, .ref a28, .ref a29, .ref a30, .ref a31, .ref a32, .ref a33, .ref a34, .int i35]))]) (ws' := [(m0, .inr (9, [.int (nI 2), .ref a1, .int (nI (cSp C)), .ref a3, .int (nI (cLa C)), .ref a5, .ref a6, .ref a7, .int (nI (cAg C)), .int (-9 : Int32), .int i10, .int i11, .int i12, .ref a13, .ref a14, .ref a15, .ref a16, .int (nI (mN T)), .ref a18, .ref a19, .ref a20, .ref a21, .ref a22, .ref a23, .ref a24, .ref a25, .int (nI (mN E)), .ref a27, .ref a28, .ref a29, .ref a30, .ref a31, .ref a32, .ref a33, .ref a34, .int i35])), (a31, .inl (cI, 4, .inl zz)), (a32, .inl (cI, 4, .inl zl)), (a33, .inl (cI, 240, .inl zs)), (a34, .inl (cI, 60, .inl zh))]) (wr := [(a31, .inl (cI, 4, .inl zz)), (a32, .inl (cI, 4, .inl zl)), (a33, .inl (cI, 240, .inl zs)), (a34, .inl (cI, 60, .inl zh))]) (H1 := H1) hP hD [0] [1, 2, 3, 4] rfl rfl rfl rfl 5 rfl (by decide) [m0, a31, a32, a33, a34] rfl rfl hk1 (by rw [← ht]; exact hB)
            have hw_32 : r_32 = (-10 : Int32) - (nI 2) ∧ True := hw_32
            clear hF hB hk1 hz1 hvm
            clear ht
            generalize H1 = H at hP hS ⊢
            obtain ⟨rfl, hw_32⟩ := hw_32
            have hq : ((-10 : Int32) - (nI 2)) = sp_copy rl len rb lenb (nI x1N) x2 (nI x3N) x4 x5 ∧ (nI 2) = nf_copy rl len rb lenb (nI x1N) x2 (nI x3N) x4 x5 ∧ (bif ok_copy rl len rb lenb (nI x1N) x2 (nI x3N) x4 x5 then ∀ j, zs j = (if 60 * tn (nI x3N) + tn x4 ≤ j ∧ j < 60 * tn (nI x3N) + tn x4 + tn x5 then zs (60 * tn (nI x1N) + tn x2 + (j - (60 * tn (nI x3N) + tn x4))) else zs j) else zs = zs) := by
              have hok : ok_copy rl len rb lenb (nI x1N) x2 (nI x3N) x4 x5 = false := by simp only [ok_copy, hb_2, hb_5, hrd_x1, hrd_x3, hlan, t_x1, t_x3, cond_true, cond_false]
              rw [hok]
              exact ⟨by simp only [sp_copy, hb_2, hb_5, hrd_x1, hrd_x3, hlan, t_x1, t_x3, cond_true, cond_false], by simp only [nf_copy, hb_2, hb_5, hrd_x1, hrd_x3, hlan, t_x1, t_x3, cond_true, cond_false], rfl⟩
            refine kk_QQ hQQ ?_
            exact W.iret (v := (-10 : Int32) - (nI 2)) hx hb hr (fun t ht hW => ⟨⟨(-10 : Int32) - (nI 2), (nI 2, zs, zh), rfl, hq, by show va_P D vwCl _ t.heap; rw [ht]; exact hP⟩, hS.F ht⟩) hS.2.2 dX10_copy_64
    · skip
      refine lv_aload_n hx hb dX10_copy_14 rfl (lv_at hl 0 rfl) ?_
      refine lv_iconst (v := (-1 : Int32)) hx hb dX10_copy_15 (by decide +kernel) ?_
      have hF := va_free (wc := [(m0, .inr (9, [.int i0, .ref a1, .int (nI (cSp C)), .ref a3, .int (nI (cLa C)), .ref a5, .ref a6, .ref a7, .int (nI (cAg C)), .int (-9 : Int32), .int i10, .int i11, .int i12, .ref a13, .ref a14, .ref a15, .ref a16, .int (nI (mN T)), .ref a18, .ref a19, .ref a20, .ref a21, .ref a22, .ref a23, .ref a24, .ref a25, .int (nI (mN E)), .ref a27, .ref a28, .ref a29, .ref a30, .ref a31, .ref a32, .ref a33, .ref a34, .int i35]))]) hD hS hA [0] rfl
      refine va_calli (va_runV (As := [.int (-1 : Int32)]) (rest := []) ⟨hx, hb, hml, hown, hts⟩ (c_X10_refused lL D cI cS _ m0 a1 a3 a5 a6 a7 a13 a14 a15 a16 a18 a19 a20 a21 a22 a23 a24 a25 a27 a28 a29 a30 a31 a32 a33 a34 i0 (nI (cSp C)) (nI (cLa C)) (nI (cAg C)) (-9 : Int32) i10 i11 i12 (nI (mN T)) (nI (mN E)) i35 (-1 : Int32)) (cwV 1 hts gX10_copy_X10_refused rfl rfl rfl cd_X10_refused ⟨Nat.le_of_ble_eq_true rfl, Nat.le_of_ble_eq_true rfl⟩) ⟨kB_blind, va_recv hK hP (ci := 9) (q0 := 0) rfl rfl, fun U hU hW => ⟨rfl, by rw [hU], by rw [hU]; exact hP.sub [0] rfl, va_K.moved hW.alike hK, (hD.sub [0] (by decide) rfl).weaken (fun _ _ _ _ => trivial)⟩⟩ rfl rfl hl.1 rfl (lv_room (Nat.le_of_ble_eq_true rfl)) dX10_copy_16 ⟨Nat.le_of_ble_eq_true rfl, Nat.le_of_ble_eq_true rfl⟩) hS (fun q _ h => hF q h) hF (fun r_33 u_33 t H1 locs ht hvm hw_33 hB hz1 hk1 hS => ?_)
      obtain ⟨hP, hD⟩ := kk_join2 (wc := [(m0, .inr (9, [.int i0, .ref a1, .int (nI (cSp C)), .ref a3, .int (nI (cLa C)), .ref a5, .ref a6, .ref a7, .int (nI (cAg C)), .int (-9 : Int32), .int i10, .int i11, .int i12, .ref a13, .ref a14, .ref a15, .ref a16, .int (nI (mN T)), .ref a18, .ref a19, .ref a20, .ref a21, .ref a22, .ref a23, .ref a24, .ref a25, .int (nI (mN E)), .ref a27, .ref a28, .ref a29, .ref a30, .ref a31, .ref a32, .ref a33, .ref a34, .int i35]))]) (w1 := [(m0, .inr (9, [.int (nI 0), .ref a1, .int (nI (cSp C)), .ref a3, .int (nI (cLa C)), .ref a5, .ref a6, .ref a7, .int (nI (cAg C)), .int (-9 : Int32), .int i10, .int i11, .int i12, .ref a13, .ref a14, .ref a15, .ref a16, .int (nI (mN T)), .ref a18, .ref a19, .ref a20, .ref a21, .ref a22, .ref a23, .ref a24, .ref a25, .int (nI (mN E)), .ref a27, .ref a28, .ref a29, .ref a30, .ref a31, .ref a32, .ref a33, .ref a34, .int i35]))]) (ws' := [(m0, .inr (9, [.int (nI 0), .ref a1, .int (nI (cSp C)), .ref a3, .int (nI (cLa C)), .ref a5, .ref a6, .ref a7, .int (nI (cAg C)), .int (-9 : Int32), .int i10, .int i11, .int i12, .ref a13, .ref a14, .ref a15, .ref a16, .int (nI (mN T)), .ref a18, .ref a19, .ref a20, .ref a21, .ref a22, .ref a23, .ref a24, .ref a25, .int (nI (mN E)), .ref a27, .ref a28, .ref a29, .ref a30, .ref a31, .ref a32, .ref a33, .ref a34, .int i35])), (a31, .inl (cI, 4, .inl zz)), (a32, .inl (cI, 4, .inl zl)), (a33, .inl (cI, 240, .inl zs)), (a34, .inl (cI, 60, .inl zh))]) (wr := [(a31, .inl (cI, 4, .inl zz)), (a32, .inl (cI, 4, .inl zl)), (a33, .inl (cI, 240, .inl zs)), (a34, .inl (cI, 60, .inl zh))]) (H1 := H1) hP hD [0] [1, 2, 3, 4] rfl rfl rfl rfl 5 rfl (by decide) [m0, a31, a32, a33, a34] rfl rfl hk1 (by rw [← ht]; exact hB)
      have hw_33 : r_33 = (-1 : Int32) ∧ True := hw_33
      clear hF hB hk1 hz1 hvm
      clear ht
      generalize H1 = H at hP hS ⊢
      obtain ⟨rfl, hw_33⟩ := hw_33
      have hq : (-1 : Int32) = sp_copy rl len rb lenb (nI x1N) x2 x3 x4 x5 ∧ (nI 0) = nf_copy rl len rb lenb (nI x1N) x2 x3 x4 x5 ∧ (bif ok_copy rl len rb lenb (nI x1N) x2 x3 x4 x5 then ∀ j, zs j = (if 60 * tn x3 + tn x4 ≤ j ∧ j < 60 * tn x3 + tn x4 + tn x5 then zs (60 * tn (nI x1N) + tn x2 + (j - (60 * tn x3 + tn x4))) else zs j) else zs = zs) := by
        have hok : ok_copy rl len rb lenb (nI x1N) x2 x3 x4 x5 = false := by simp only [ok_copy, hb_2, hb_5, t_x1, cond_true, cond_false]
        rw [hok]
        exact ⟨by simp only [sp_copy, hb_2, hb_5, t_x1, cond_true, cond_false], by simp only [nf_copy, hb_2, hb_5, t_x1, cond_true, cond_false], rfl⟩
      refine kk_QQ hQQ ?_
      exact W.iret (v := (-1 : Int32)) hx hb hr (fun t ht hW => ⟨⟨(-1 : Int32), (nI 0, zs, zh), rfl, hq, by show va_P D vwCl _ t.heap; rw [ht]; exact hP⟩, hS.F ht⟩) hS.2.2 dX10_copy_19
