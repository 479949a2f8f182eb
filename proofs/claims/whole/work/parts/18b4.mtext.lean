theorem cd_X10_readsLamp : yX10_readsLamp.cls = RX10 ∧ yX10_readsLamp.cls ≠ "java/lang/invoke/MethodHandle" ∧ yX10_readsLamp.cls ≠ "java/lang/invoke/VarHandle" ∧ (parseMethodDescriptor yX10_readsLamp.desc).map (fun d => d.parameters.length) = some 2 := by decide +kernel
theorem cd_X10_readsSpot : yX10_readsSpot.cls = RX10 ∧ yX10_readsSpot.cls ≠ "java/lang/invoke/MethodHandle" ∧ yX10_readsSpot.cls ≠ "java/lang/invoke/VarHandle" ∧ (parseMethodDescriptor yX10_readsSpot.desc).map (fun d => d.parameters.length) = some 2 := by decide +kernel
abbrev rmX10_readsCoast : Room := { frames := 3, cells := 0, slots := 0, locals := 74 }
set_option maxHeartbeats 4000000 in
set_option maxRecDepth 100000 in
theorem c_X10_readsCoast (lL : Launch) (D : va_G) (cI cS : ClassId) (sz : Nat) (m0 : Nat) (a1 : Nat) (a3 : Nat) (a5 : Nat) (a6 : Nat) (a7 : Nat) (a13 : Nat) (a14 : Nat) (a15 : Nat) (a16 : Nat) (a18 : Nat) (a19 : Nat) (a20 : Nat) (a21 : Nat) (a22 : Nat) (a23 : Nat) (a24 : Nat) (a25 : Nat) (a27 : Nat) (a28 : Nat) (a29 : Nat) (a30 : Nat) (a31 : Nat) (a32 : Nat) (a33 : Nat) (a34 : Nat) (i0 : Int32) (i2 : Int32) (i4 : Int32) (i8 : Int32) (i9 : Int32) (i10 : Int32) (i11 : Int32) (i12 : Int32) (i17 : Int32) (i26 : Int32) (i35 : Int32) (qs : Nat → Int32) (qh : Nat → Int32) (qk : Nat → Int32) (qt : Nat → Int32) (zs : Nat → Int32) (fr : Nat) (nn : Nat) (hfn : fr + nn ≤ 240) : Met lL yX10_readsCoast wsX10_readsCoast rmX10_readsCoast (va_Pc [.ref m0, .int (nI fr), .int (nI nn)] (kB D cI cS [(m0, .inr (9, [.int i0, .ref a1, .int i2, .ref a3, .int i4, .ref a5, .ref a6, .ref a7, .int i8, .int i9, .int i10, .int i11, .int i12, .ref a13, .ref a14, .ref a15, .ref a16, .int i17, .ref a18, .ref a19, .ref a20, .ref a21, .ref a22, .ref a23, .ref a24, .ref a25, .int i26, .ref a27, .ref a28, .ref a29, .ref a30, .ref a31, .ref a32, .ref a33, .ref a34, .int i35])), (a13, .inl (cI, 6, .inl qs)), (a14, .inl (cI, 4, .inl qh)), (a15, .inl (cI, 4, .inl qk)), (a16, .inl (cI, 4, .inl qt)), (a33, .inl (cI, 240, .inl zs))] sz)) (kQi D (fun (r : Int32) (u : Nat × Nat × Nat × (Nat → Int32) × (Nat → Int32) × (Nat → Int32) × (Nat → Int32)) => r = kb (rdT (cdT zs fr nn) nn).1 ∧ u.1 = (rdT (cdT zs fr nn) nn).2 ∧ ((rdT (cdT zs fr nn) nn).1 = true → u.2.1 = rSp (cdT zs fr nn) ∧ u.2.2.1 = rLa (cdT zs fr nn) ∧ (∀ j, j < 6 → u.2.2.2.1 j = nI (dv (cdT zs fr nn) (1 + j))) ∧ (∀ j, j < rSp (cdT zs fr nn) → u.2.2.2.2.1 j = nI (dv (cdT zs fr nn) (8 + 2 * j))) ∧ (∀ j, j < rLa (cdT zs fr nn) → u.2.2.2.2.2.1 j = nI (kdOf ((cdT zs fr nn) (aLa (cdT zs fr nn) + 3 * j + 1)))) ∧ ∀ j, j < rLa (cdT zs fr nn) → u.2.2.2.2.2.2 j = nI (dv (cdT zs fr nn) (aLa (cdT zs fr nn) + 3 * j + 2)))) (fun u : Nat × Nat × Nat × (Nat → Int32) × (Nat → Int32) × (Nat → Int32) × (Nat → Int32) => [(m0, .inr (9, [.int i0, .ref a1, .int i2, .ref a3, .int i4, .ref a5, .ref a6, .ref a7, .int i8, .int i9, .int (nI u.1), .int (nI u.2.1), .int (nI u.2.2.1), .ref a13, .ref a14, .ref a15, .ref a16, .int i17, .ref a18, .ref a19, .ref a20, .ref a21, .ref a22, .ref a23, .ref a24, .ref a25, .int i26, .ref a27, .ref a28, .ref a29, .ref a30, .ref a31, .ref a32, .ref a33, .ref a34, .int i35])), (a13, .inl (cI, 6, .inl u.2.2.2.1)), (a14, .inl (cI, 4, .inl u.2.2.2.2.1)), (a15, .inl (cI, 4, .inl u.2.2.2.2.2.1)), (a16, .inl (cI, 4, .inl u.2.2.2.2.2.2)), (a33, .inl (cI, 240, .inl zs))]) (va_A [(m0, .inr (9, [.int i0, .ref a1, .int i2, .ref a3, .int i4, .ref a5, .ref a6, .ref a7, .int i8, .int i9, .int i10, .int i11, .int i12, .ref a13, .ref a14, .ref a15, .ref a16, .int i17, .ref a18, .ref a19, .ref a20, .ref a21, .ref a22, .ref a23, .ref a24, .ref a25, .int i26, .ref a27, .ref a28, .ref a29, .ref a30, .ref a31, .ref a32, .ref a33, .ref a34, .int i35])), (a13, .inl (cI, 6, .inl qs)), (a14, .inl (cI, 4, .inl qh)), (a15, .inl (cI, 4, .inl qk)), (a16, .inl (cI, 4, .inl qt)), (a33, .inl (cI, 240, .inl zs))] sz)) 0 0 (va_A [(m0, .inr (9, [.int i0, .ref a1, .int i2, .ref a3, .int i4, .ref a5, .ref a6, .ref a7, .int i8, .int i9, .int i10, .int i11, .int i12, .ref a13, .ref a14, .ref a15, .ref a16, .int i17, .ref a18, .ref a19, .ref a20, .ref a21, .ref a22, .ref a23, .ref a24, .ref a25, .int i26, .ref a27, .ref a28, .ref a29, .ref a30, .ref a31, .ref a32, .ref a33, .ref a34, .int i35])), (a13, .inl (cI, 6, .inl qs)), (a14, .inl (cI, 4, .inl qh)), (a15, .inl (cI, 4, .inl qk)), (a16, .inl (cI, 4, .inl qt)), (a33, .inl (cI, 240, .inl zs))] sz) := by
  refine Met.ofW (cc := cX10_readsCoast) (maxL := 5) (ret := (some .boolean)) (by decide) rfl ?_
  intro pP eE sS mM args below meth cC s₁ B hml hv
  obtain ⟨rfl, hsz, hP, hK, hD0⟩ := hv
  have hx := B.exec
  have hb := B.bytes
  have hr := B.returns
  have hts := atoms_spec (ws := wsX10_readsCoast) B.pre
  have hown : sS.vm.findClass RX10 = some mM.cls := findClass_of_methodNamed B.named
  have hlocks := B.notSynchronized
  subst hsz
  have hD := hD0.self (sz := sS.heap.size)
  generalize hAe : va_A [(m0, .inr (9, [.int i0, .ref a1, .int i2, .ref a3, .int i4, .ref a5, .ref a6, .ref a7, .int i8, .int i9, .int i10, .int i11, .int i12, .ref a13, .ref a14, .ref a15, .ref a16, .int i17, .ref a18, .ref a19, .ref a20, .ref a21, .ref a22, .ref a23, .ref a24, .ref a25, .int i26, .ref a27, .ref a28, .ref a29, .ref a30, .ref a31, .ref a32, .ref a33, .ref a34, .int i35])), (a13, .inl (cI, 6, .inl qs)), (a14, .inl (cI, 4, .inl qh)), (a15, .inl (cI, 4, .inl qk)), (a16, .inl (cI, 4, .inl qt)), (a33, .inl (cI, 240, .inl zs))] sS.heap.size = A at hD ⊢
  have hA : ∀ q : Nat, sS.heap.size ≤ q → A q := fun q h => by rw [← hAe]; exact Or.inr h
  have hS : va_S A sS.heap sS.heap [] := va_S.rf
  have hP : va_P D vwCl [(m0, .inr (9, [.int i0, .ref a1, .int i2, .ref a3, .int i4, .ref a5, .ref a6, .ref a7, .int i8, .int i9, .int i10, .int i11, .int i12, .ref a13, .ref a14, .ref a15, .ref a16, .int i17, .ref a18, .ref a19, .ref a20, .ref a21, .ref a22, .ref a23, .ref a24, .ref a25, .int i26, .ref a27, .ref a28, .ref a29, .ref a30, .ref a31, .ref a32, .ref a33, .ref a34, .int i35])), (a13, .inl (cI, 6, .inl qs)), (a14, .inl (cI, 4, .inl qh)), (a15, .inl (cI, 4, .inl qk)), (a16, .inl (cI, 4, .inl qt)), (a33, .inl (cI, 240, .inl zs))] sS.heap := hP
  have hD : va_D A [(m0, .inr (9, [.int i0, .ref a1, .int i2, .ref a3, .int i4, .ref a5, .ref a6, .ref a7, .int i8, .int i9, .int i10, .int i11, .int i12, .ref a13, .ref a14, .ref a15, .ref a16, .int i17, .ref a18, .ref a19, .ref a20, .ref a21, .ref a22, .ref a23, .ref a24, .ref a25, .int i26, .ref a27, .ref a28, .ref a29, .ref a30, .ref a31, .ref a32, .ref a33, .ref a34, .int i35])), (a13, .inl (cI, 6, .inl qs)), (a14, .inl (cI, 4, .inl qh)), (a15, .inl (cI, 4, .inl qk)), (a16, .inl (cI, 4, .inl qt)), (a33, .inl (cI, 240, .inl zs))] := hD
  have hf_25 := hts (.fieldLink RX10 25 "OldLampsModel" "readSky" "[I") (List.mem_of_getElem? (i := 4) rfl)
  have hf_110 := hts (.fieldLink RX10 110 "OldLampsModel" "readAt" "I") (List.mem_of_getElem? (i := 1) rfl)
  have hf_117 := hts (.fieldLink RX10 117 "OldLampsModel" "readSpots" "I") (List.mem_of_getElem? (i := 2) rfl)
  have hf_124 := hts (.fieldLink RX10 124 "OldLampsModel" "readLamps" "I") (List.mem_of_getElem? (i := 3) rfl)
  have hwX10 : ∀ w ∈ wsX100, w ∈ wsX10_readsCoast := fun _ h => List.mem_cons_of_mem _ (List.mem_append_right _ h)
  have hl := lv_entry ([.ref m0, .int (nI fr), .int (nI nn)]) (n := 5) (Nat.le_of_ble_eq_true rfl)
  rw [lg_entry_eq]
  generalize (lg_sl ([.ref m0, .int (nI fr), .int (nI nn)]) ++ List.replicate (5 - (lg_sl ([.ref m0, .int (nI fr), .int (nI nn)])).length) Slot.unset).toArray = ls at hl ⊢
  have hl : lv_has ls 5 [(0, .ref m0), (1, .int (nI fr)), (2, .int (nI nn))] := hl
  obtain ⟨QQ, hQQ⟩ : ∃ QQ : State → Prop, QQ = MQ below (kQi D (fun (r : Int32) (u : Nat × Nat × Nat × (Nat → Int32) × (Nat → Int32) × (Nat → Int32) × (Nat → Int32)) => r = kb (rdT (cdT zs fr nn) nn).1 ∧ u.1 = (rdT (cdT zs fr nn) nn).2 ∧ ((rdT (cdT zs fr nn) nn).1 = true → u.2.1 = rSp (cdT zs fr nn) ∧ u.2.2.1 = rLa (cdT zs fr nn) ∧ (∀ j, j < 6 → u.2.2.2.1 j = nI (dv (cdT zs fr nn) (1 + j))) ∧ (∀ j, j < rSp (cdT zs fr nn) → u.2.2.2.2.1 j = nI (dv (cdT zs fr nn) (8 + 2 * j))) ∧ (∀ j, j < rLa (cdT zs fr nn) → u.2.2.2.2.2.1 j = nI (kdOf ((cdT zs fr nn) (aLa (cdT zs fr nn) + 3 * j + 1)))) ∧ ∀ j, j < rLa (cdT zs fr nn) → u.2.2.2.2.2.2 j = nI (dv (cdT zs fr nn) (aLa (cdT zs fr nn) + 3 * j + 2)))) (fun u : Nat × Nat × Nat × (Nat → Int32) × (Nat → Int32) × (Nat → Int32) × (Nat → Int32) => [(m0, .inr (9, [.int i0, .ref a1, .int i2, .ref a3, .int i4, .ref a5, .ref a6, .ref a7, .int i8, .int i9, .int (nI u.1), .int (nI u.2.1), .int (nI u.2.2.1), .ref a13, .ref a14, .ref a15, .ref a16, .int i17, .ref a18, .ref a19, .ref a20, .ref a21, .ref a22, .ref a23, .ref a24, .ref a25, .int i26, .ref a27, .ref a28, .ref a29, .ref a30, .ref a31, .ref a32, .ref a33, .ref a34, .int i35])), (a13, .inl (cI, 6, .inl u.2.2.2.1)), (a14, .inl (cI, 4, .inl u.2.2.2.2.1)), (a15, .inl (cI, 4, .inl u.2.2.2.2.2.1)), (a16, .inl (cI, 4, .inl u.2.2.2.2.2.2)), (a33, .inl (cI, 240, .inl zs))]) A) ([.ref m0, .int (nI fr), .int (nI nn)]).toArray sS 0 0 A := ⟨_, rfl⟩
  refine kk_QQ hQQ.symm ?_
  refine lv_aload_n hx hb dX10_readsCoast_0 rfl (lv_at hl 0 rfl) ?_
  refine lv_iconst (v := nI 0) hx hb dX10_readsCoast_1 (by decide +kernel) ?_
  refine va_put (D := D) (ci := 9) (v := .int (nI 0)) (ty := .int) (C := RX10) (T := TX10) (N := 36) hx hb hts hwX10 tyX10 tyX10_ok nmX10 hown hK hP hD hS 0 rfl rfl 10 (by decide) hf_110 (fun _ h9 => h9) rfl (by decide +kernel) rfl rfl (Nat.le_of_ble_eq_true rfl) dX10_readsCoast_2 (fun H locs hP hD hS => ?_)
  have hP : va_P D vwCl [(m0, .inr (9, [.int i0, .ref a1, .int i2, .ref a3, .int i4, .ref a5, .ref a6, .ref a7, .int i8, .int i9, .int (nI 0), .int i11, .int i12, .ref a13, .ref a14, .ref a15, .ref a16, .int i17, .ref a18, .ref a19, .ref a20, .ref a21, .ref a22, .ref a23, .ref a24, .ref a25, .int i26, .ref a27, .ref a28, .ref a29, .ref a30, .ref a31, .ref a32, .ref a33, .ref a34, .int i35])), (a13, .inl (cI, 6, .inl qs)), (a14, .inl (cI, 4, .inl qh)), (a15, .inl (cI, 4, .inl qk)), (a16, .inl (cI, 4, .inl qt)), (a33, .inl (cI, 240, .inl zs))] H := hP
  have hD : va_D A [(m0, .inr (9, [.int i0, .ref a1, .int i2, .ref a3, .int i4, .ref a5, .ref a6, .ref a7, .int i8, .int i9, .int (nI 0), .int i11, .int i12, .ref a13, .ref a14, .ref a15, .ref a16, .int i17, .ref a18, .ref a19, .ref a20, .ref a21, .ref a22, .ref a23, .ref a24, .ref a25, .int i26, .ref a27, .ref a28, .ref a29, .ref a30, .ref a31, .ref a32, .ref a33, .ref a34, .int i35])), (a13, .inl (cI, 6, .inl qs)), (a14, .inl (cI, 4, .inl qh)), (a15, .inl (cI, 4, .inl qk)), (a16, .inl (cI, 4, .inl qt)), (a33, .inl (cI, 240, .inl zs))] := hD
  refine lv_aload_n hx hb dX10_readsCoast_5 rfl (lv_at hl 0 rfl) ?_
  refine lv_iconst (v := nI 0) hx hb dX10_readsCoast_6 (by decide +kernel) ?_
  refine va_put (D := D) (ci := 9) (v := .int (nI 0)) (ty := .int) (C := RX10) (T := TX10) (N := 36) hx hb hts hwX10 tyX10 tyX10_ok nmX10 hown hK hP hD hS 0 rfl rfl 11 (by decide) hf_117 (fun _ h9 => h9) rfl (by decide +kernel) rfl rfl (Nat.le_of_ble_eq_true rfl) dX10_readsCoast_7 (fun H locs hP hD hS => ?_)
  have hP : va_P D vwCl [(m0, .inr (9, [.int i0, .ref a1, .int i2, .ref a3, .int i4, .ref a5, .ref a6, .ref a7, .int i8, .int i9, .int (nI 0), .int (nI 0), .int i12, .ref a13, .ref a14, .ref a15, .ref a16, .int i17, .ref a18, .ref a19, .ref a20, .ref a21, .ref a22, .ref a23, .ref a24, .ref a25, .int i26, .ref a27, .ref a28, .ref a29, .ref a30, .ref a31, .ref a32, .ref a33, .ref a34, .int i35])), (a13, .inl (cI, 6, .inl qs)), (a14, .inl (cI, 4, .inl qh)), (a15, .inl (cI, 4, .inl qk)), (a16, .inl (cI, 4, .inl qt)), (a33, .inl (cI, 240, .inl zs))] H := hP
  have hD : va_D A [(m0, .inr (9, [.int i0, .ref a1, .int i2, .ref a3, .int i4, .ref a5, .ref a6, .ref a7, .int i8, .int i9, .int (nI 0), .int (nI 0), .int i12, .ref a13, .ref a14, .ref a15, .ref a16, .int i17, .ref a18, .ref a19, .ref a20, .ref a21, .ref a22, .ref a23, .ref a24, .ref a25, .int i26, .ref a27, .ref a28, .ref a29, .ref a30, .ref a31, .ref a32, .ref a33, .ref a34, .int i35])), (a13, .inl (cI, 6, .inl qs)), (a14, .inl (cI, 4, .inl qh)), (a15, .inl (cI, 4, .inl qk)), (a16, .inl (cI, 4, .inl qt)), (a33, .inl (cI, 240, .inl zs))] := hD
  refine lv_aload_n hx hb dX10_readsCoast_10 rfl (lv_at hl 0 rfl) ?_
  refine lv_iconst (v := nI 0) hx hb dX10_readsCoast_11 (by decide +kernel) ?_
  refine va_put (D := D) (ci := 9) (v := .int (nI 0)) (ty := .int) (C := RX10) (T := TX10) (N := 36) hx hb hts hwX10 tyX10 tyX10_ok nmX10 hown hK hP hD hS 0 rfl rfl 12 (by decide) hf_124 (fun _ h9 => h9) rfl (by decide +kernel) rfl rfl (Nat.le_of_ble_eq_true rfl) dX10_readsCoast_12 (fun H locs hP hD hS => ?_)
  have hP : va_P D vwCl [(m0, .inr (9, [.int i0, .ref a1, .int i2, .ref a3, .int i4, .ref a5, .ref a6, .ref a7, .int i8, .int i9, .int (nI 0), .int (nI 0), .int (nI 0), .ref a13, .ref a14, .ref a15, .ref a16, .int i17, .ref a18, .ref a19, .ref a20, .ref a21, .ref a22, .ref a23, .ref a24, .ref a25, .int i26, .ref a27, .ref a28, .ref a29, .ref a30, .ref a31, .ref a32, .ref a33, .ref a34, .int i35])), (a13, .inl (cI, 6, .inl qs)), (a14, .inl (cI, 4, .inl qh)), (a15, .inl (cI, 4, .inl qk)), (a16, .inl (cI, 4, .inl qt)), (a33, .inl (cI, 240, .inl zs))] H := hP
  have hD : va_D A [(m0, .inr (9, [.int i0, .ref a1, .int i2, .ref a3, .int i4, .ref a5, .ref a6, .ref a7, .int i8, .int i9, .int (nI 0), .int (nI 0), .int (nI 0), .ref a13, .ref a14, .ref a15, .ref a16, .int i17, .ref a18, .ref a19, .ref a20, .ref a21, .ref a22, .ref a23, .ref a24, .ref a25, .int i26, .ref a27, .ref a28, .ref a29, .ref a30, .ref a31, .ref a32, .ref a33, .ref a34, .int i35])), (a13, .inl (cI, 6, .inl qs)), (a14, .inl (cI, 4, .inl qh)), (a15, .inl (cI, 4, .inl qk)), (a16, .inl (cI, 4, .inl qt)), (a33, .inl (cI, 240, .inl zs))] := hD
  refine lv_aload_n hx hb dX10_readsCoast_15 rfl (lv_at hl 0 rfl) ?_
  refine lv_iload_n hx hb dX10_readsCoast_16 rfl (lv_at hl 1 rfl) ?_
  refine lv_iload_n hx hb dX10_readsCoast_17 rfl (lv_at hl 2 rfl) ?_
  have o_1 : fr + nn ≤ 240 := by omega
  have o_2 : 0 ≤ 400 := by omega
  refine vp_callSi (W.runV (As := [.int (nI fr), .int (nI nn)]) (rest := []) ⟨hx, hb, hml, hown, hts⟩ (c_X10_codeAt lL D cI cS m0 a1 a3 a5 a6 a7 a13 a14 a15 a16 a18 a19 a20 a21 a22 a23 a24 a25 a27 a28 a29 a30 a31 a32 a33 a34 i0 i2 i4 i8 i9 (nI 0) (nI 0) i17 i26 i35 zs fr nn 0 o_1 o_2) (cwV 2 hts gX10_readsCoast_X10_codeAt rfl rfl rfl cd_X10_codeAt ⟨Nat.le_of_ble_eq_true rfl, Nat.le_of_ble_eq_true rfl⟩) ⟨kBp_blind, va_recv hK hP (ci := 9) (q0 := 0) rfl rfl, fun U hU hW => ⟨rfl, by rw [hU]; exact hP.sub [0, 5] rfl, va_K.moved hW.alike hK⟩⟩ rfl rfl hl.1 rfl (lv_room (Nat.le_of_ble_eq_true rfl)) dX10_readsCoast_18 ⟨Nat.le_of_ble_eq_true rfl, Nat.le_of_ble_eq_true rfl⟩) (fun r_3 hw_3 => ?_)
  obtain rfl : r_3 = cdT zs fr nn 0 := hw_3
  refine lv_bipush (v := nI 111) hx hb dX10_readsCoast_21 (by decide +kernel) ?_
  refine lv_icmp_ne (tgt := 30) hx hb dX10_readsCoast_23 (by decide) (fun c_4 => ?_) (fun c_4 => ?_)
  · skip
    refine lv_iconst (v := nI 0) hx hb dX10_readsCoast_30 (by decide +kernel) ?_
    refine lv_istore_n (lv' := [(3, .int (nI 0)), (0, .ref m0), (1, .int (nI fr)), (2, .int (nI nn))]) hx hb dX10_readsCoast_31 rfl hl (by decide) rfl (fun ls hl => ?_)
    refine lv_aload_n hx hb dX10_readsCoast_32 rfl (lv_at hl 1 rfl) ?_
    refine lv_dup hx hb dX10_readsCoast_33 rfl ?_
    refine va_get (D := D) (ci := 9) (v := .int (nI 0)) (C := RX10) (T := TX10) (N := 36) hx hb hts hwX10 hown hK hP 0 rfl rfl 10 (by decide) hf_110 (fun _ h9 => h9) rfl dX10_readsCoast_34 ?_
    refine lv_iload_n hx hb dX10_readsCoast_37 rfl (lv_at hl 0 rfl) ?_
    refine kk_if_eq (x := 0) (tgt := 45) hx hb dX10_readsCoast_38 (by decide) (by decide) (fun h => ?_) (fun h => absurd h (by decide))
    refine lv_iconst (v := nI 0) hx hb dX10_readsCoast_45 (by decide +kernel) ?_
    refine kk_iadd hx hb dX10_readsCoast_46 ?_
    refine va_put (D := D) (ci := 9) (v := .int (nI (0 + 0))) (ty := .int) (C := RX10) (T := TX10) (N := 36) hx hb hts hwX10 tyX10 tyX10_ok nmX10 hown hK hP hD hS 0 rfl rfl 10 (by decide) hf_110 (fun _ h9 => h9) rfl (by decide +kernel) rfl rfl (Nat.le_of_ble_eq_true rfl) dX10_readsCoast_47 (fun H locs hP hD hS => ?_)
    have hP : va_P D vwCl [(m0, .inr (9, [.int i0, .ref a1, .int i2, .ref a3, .int i4, .ref a5, .ref a6, .ref a7, .int i8, .int i9, .int (nI (0 + 0)), .int (nI 0), .int (nI 0), .ref a13, .ref a14, .ref a15, .ref a16, .int i17, .ref a18, .ref a19, .ref a20, .ref a21, .ref a22, .ref a23, .ref a24, .ref a25, .int i26, .ref a27, .ref a28, .ref a29, .ref a30, .ref a31, .ref a32, .ref a33, .ref a34, .int i35])), (a13, .inl (cI, 6, .inl qs)), (a14, .inl (cI, 4, .inl qh)), (a15, .inl (cI, 4, .inl qk)), (a16, .inl (cI, 4, .inl qt)), (a33, .inl (cI, 240, .inl zs))] H := hP
    have hD : va_D A [(m0, .inr (9, [.int i0, .ref a1, .int i2, .ref a3, .int i4, .ref a5, .ref a6, .ref a7, .int i8, .int i9, .int (nI (0 + 0)), .int (nI 0), .int (nI 0), .ref a13, .ref a14, .ref a15, .ref a16, .int i17, .ref a18, .ref a19, .ref a20, .ref a21, .ref a22, .ref a23, .ref a24, .ref a25, .int i26, .ref a27, .ref a28, .ref a29, .ref a30, .ref a31, .ref a32, .ref a33, .ref a34, .int i35])), (a13, .inl (cI, 6, .inl qs)), (a14, .inl (cI, 4, .inl qh)), (a15, .inl (cI, 4, .inl qk)), (a16, .inl (cI, 4, .inl qt)), (a33, .inl (cI, 240, .inl zs))] := hD
    refine lv_iconst (v := nI 0) hx hb dX10_readsCoast_50 (by decide +kernel) ?_
    refine lv_istore (lv' := [(4, .int (nI 0)), (3, .int (nI 0)), (0, .ref m0), (1, .int (nI fr)), (2, .int (nI nn))]) hx hb dX10_readsCoast_51 hl (by decide) rfl (fun ls hl => ?_)
    refine lv_iload hx hb dX10_readsCoast_53 (lv_at hl 0 rfl) ?_
    refine lv_bipush (v := nI 6) hx hb dX10_readsCoast_55 (by decide +kernel) ?_
    refine kk_icmp_ge (tgt := 101) hx hb dX10_readsCoast_57 (by decide) (by decide) (by decide) (fun h => absurd h (by decide)) (fun h => ?_)
    refine lv_iload_n hx hb dX10_readsCoast_60 rfl (lv_at hl 1 rfl) ?_
    refine kk_if_eq (x := 0) (tgt := 101) hx hb dX10_readsCoast_61 (by decide) (by decide) (fun h => ?_) (fun h => absurd h (by decide))
    refine lv_iload_n hx hb dX10_readsCoast_101 rfl (lv_at hl 1 rfl) ?_
    refine kk_if_eq (x := 0) (tgt := 133) hx hb dX10_readsCoast_102 (by decide) (by decide) (fun h => ?_) (fun h => absurd h (by decide))
    refine lv_iload_n hx hb dX10_readsCoast_133 rfl (lv_at hl 1 rfl) ?_
    refine kk_if_eq (x := 0) (tgt := 162) hx hb dX10_readsCoast_134 (by decide) (by decide) (fun h => ?_) (fun h => absurd h (by decide))
    refine lv_iload_n hx hb dX10_readsCoast_162 rfl (lv_at hl 1 rfl) ?_
    have hq : (nI 0) = kb (rdT (cdT zs fr nn) nn).1 ∧ (0 + 0) = (rdT (cdT zs fr nn) nn).2 ∧ ((rdT (cdT zs fr nn) nn).1 = true → 0 = rSp (cdT zs fr nn) ∧ 0 = rLa (cdT zs fr nn) ∧ (∀ j, j < 6 → qs j = nI (dv (cdT zs fr nn) (1 + j))) ∧ (∀ j, j < rSp (cdT zs fr nn) → qh j = nI (dv (cdT zs fr nn) (8 + 2 * j))) ∧ (∀ j, j < rLa (cdT zs fr nn) → qk j = nI (kdOf ((cdT zs fr nn) (aLa (cdT zs fr nn) + 3 * j + 1)))) ∧ ∀ j, j < rLa (cdT zs fr nn) → qt j = nI (dv (cdT zs fr nn) (aLa (cdT zs fr nn) + 3 * j + 2))) := by exact rdT_no (a := 0) (rdT_o c_4)
    refine kk_QQ hQQ ?_
    exact W.zret (v := nI 0) (ty := .boolean) hx hb hr (by decide +kernel) (fun t ht hW => ⟨⟨nI 0, (0 + 0, 0, 0, qs, qh, qk, qt), rfl, hq, by show va_P D vwCl _ t.heap; rw [ht]; exact hP⟩, hS.F ht⟩) hS.2.2 dX10_readsCoast_163
  · skip
    refine lv_iconst (v := nI 1) hx hb dX10_readsCoast_26 (by decide +kernel) ?_
    refine lv_goto (tgt := 31) hx hb dX10_readsCoast_27 (by decide) ?_
    refine lv_istore_n (lv' := [(3, .int (nI 1)), (0, .ref m0), (1, .int (nI fr)), (2, .int (nI nn))]) hx hb dX10_readsCoast_31 rfl hl (by decide) rfl (fun ls hl => ?_)
    refine lv_aload_n hx hb dX10_readsCoast_32 rfl (lv_at hl 1 rfl) ?_
    refine lv_dup hx hb dX10_readsCoast_33 rfl ?_
    refine va_get (D := D) (ci := 9) (v := .int (nI 0)) (C := RX10) (T := TX10) (N := 36) hx hb hts hwX10 hown hK hP 0 rfl rfl 10 (by decide) hf_110 (fun _ h9 => h9) rfl dX10_readsCoast_34 ?_
    refine lv_iload_n hx hb dX10_readsCoast_37 rfl (lv_at hl 0 rfl) ?_
    refine kk_if_eq (x := 1) (tgt := 45) hx hb dX10_readsCoast_38 (by decide) (by decide) (fun h => absurd h (by decide)) (fun h => ?_)
    refine lv_iconst (v := nI 1) hx hb dX10_readsCoast_41 (by decide +kernel) ?_
    refine lv_goto (tgt := 46) hx hb dX10_readsCoast_42 (by decide) ?_
    refine kk_iadd hx hb dX10_readsCoast_46 ?_
    refine va_put (D := D) (ci := 9) (v := .int (nI (0 + 1))) (ty := .int) (C := RX10) (T := TX10) (N := 36) hx hb hts hwX10 tyX10 tyX10_ok nmX10 hown hK hP hD hS 0 rfl rfl 10 (by decide) hf_110 (fun _ h9 => h9) rfl (by decide +kernel) rfl rfl (Nat.le_of_ble_eq_true rfl) dX10_readsCoast_47 (fun H locs hP hD hS => ?_)
    have hP : va_P D vwCl [(m0, .inr (9, [.int i0, .ref a1, .int i2, .ref a3, .int i4, .ref a5, .ref a6, .ref a7, .int i8, .int i9, .int (nI (0 + 1)), .int (nI 0), .int (nI 0), .ref a13, .ref a14, .ref a15, .ref a16, .int i17, .ref a18, .ref a19, .ref a20, .ref a21, .ref a22, .ref a23, .ref a24, .ref a25, .int i26, .ref a27, .ref a28, .ref a29, .ref a30, .ref a31, .ref a32, .ref a33, .ref a34, .int i35])), (a13, .inl (cI, 6, .inl qs)), (a14, .inl (cI, 4, .inl qh)), (a15, .inl (cI, 4, .inl qk)), (a16, .inl (cI, 4, .inl qt)), (a33, .inl (cI, 240, .inl zs))] H := hP
    have hD : va_D A [(m0, .inr (9, [.int i0, .ref a1, .int i2, .ref a3, .int i4, .ref a5, .ref a6, .ref a7, .int i8, .int i9, .int (nI (0 + 1)), .int (nI 0), .int (nI 0), .ref a13, .ref a14, .ref a15, .ref a16, .int i17, .ref a18, .ref a19, .ref a20, .ref a21, .ref a22, .ref a23, .ref a24, .ref a25, .int i26, .ref a27, .ref a28, .ref a29, .ref a30, .ref a31, .ref a32, .ref a33, .ref a34, .int i35])), (a13, .inl (cI, 6, .inl qs)), (a14, .inl (cI, 4, .inl qh)), (a15, .inl (cI, 4, .inl qk)), (a16, .inl (cI, 4, .inl qt)), (a33, .inl (cI, 240, .inl zs))] := hD
    refine lv_iconst (v := nI 0) hx hb dX10_readsCoast_50 (by decide +kernel) ?_
    refine lv_istore (lv' := [(4, .int (nI 0)), (3, .int (nI 1)), (0, .ref m0), (1, .int (nI fr)), (2, .int (nI nn))]) hx hb dX10_readsCoast_51 hl (by decide) rfl (fun ls hl => ?_)
    have L_53 : ∀ (n_53 : Nat) (k : Nat) (b : Bool) (a : Nat) (qsX : Nat → Int32), (k ≤ 6) → (b = true → a = 1 + k ∧ a ≤ nn ∧ (∀ j, j < k → dg (cdT zs fr nn) (1 + j) 10 = true) ∧ ∀ j, j < k → qsX j = nI (dv (cdT zs fr nn) (1 + j))) → (b = false → rdT (cdT zs fr nn) nn = (false, a)) → 7 ≤ k + n_53 → ∀ (H : Heap) (locs : List Loc), va_P D vwCl [(m0, .inr (9, [.int i0, .ref a1, .int i2, .ref a3, .int i4, .ref a5, .ref a6, .ref a7, .int i8, .int i9, .int (nI a), .int (nI 0), .int (nI 0), .ref a13, .ref a14, .ref a15, .ref a16, .int i17, .ref a18, .ref a19, .ref a20, .ref a21, .ref a22, .ref a23, .ref a24, .ref a25, .int i26, .ref a27, .ref a28, .ref a29, .ref a30, .ref a31, .ref a32, .ref a33, .ref a34, .int i35])), (a13, .inl (cI, 6, .inl qsX)), (a14, .inl (cI, 4, .inl qh)), (a15, .inl (cI, 4, .inl qk)), (a16, .inl (cI, 4, .inl qt)), (a33, .inl (cI, 240, .inl zs))] H → va_D A [(m0, .inr (9, [.int i0, .ref a1, .int i2, .ref a3, .int i4, .ref a5, .ref a6, .ref a7, .int i8, .int i9, .int (nI a), .int (nI 0), .int (nI 0), .ref a13, .ref a14, .ref a15, .ref a16, .int i17, .ref a18, .ref a19, .ref a20, .ref a21, .ref a22, .ref a23, .ref a24, .ref a25, .int i26, .ref a27, .ref a28, .ref a29, .ref a30, .ref a31, .ref a32, .ref a33, .ref a34, .int i35])), (a13, .inl (cI, 6, .inl qsX)), (a14, .inl (cI, 4, .inl qh)), (a15, .inl (cI, 4, .inl qk)), (a16, .inl (cI, 4, .inl qt)), (a33, .inl (cI, 240, .inl zs))] → va_S A sS.heap H locs → ∀ (ls : Array Slot), lv_has ls 5 [(4, .int (nI k)), (3, .int (kb b)), (0, .ref m0), (1, .int (nI fr)), (2, .int (nI nn))] → W pP lL eE (headSpec wsX10_readsCoast rmX10_readsCoast).room sS mM ([.ref m0, .int (nI fr), .int (nI nn)]).toArray below meth cC H locs 0 0 QQ (F0 mM 53 ls []) := by
      intro n_53
      induction n_53 with
      | zero =>
        intro k b a qsX hk6 hw1 hw0 hn_53 H locs hP hD hS ls hl
        exact absurd hn_53 (by omega)
      | succ n_53 ih_53 =>
        intro k b a qsX hk6 hw1 hw0 hn_53 H locs hP hD hS ls hl
        refine lv_iload hx hb dX10_readsCoast_53 (lv_at hl 0 rfl) ?_
        refine lv_bipush (v := nI 6) hx hb dX10_readsCoast_55 (by decide +kernel) ?_
        refine kk_icmp_ge (tgt := 101) hx hb dX10_readsCoast_57 (by decide) (by omega) (by omega) (fun c_5 => ?_) (fun c_5 => ?_)
        · skip
          rcases (show b = true ∨ b = false by cases b <;> simp) with hbt | hbt
          · skip
            subst hbt
            have hl : lv_has ls 5 [(4, .int (nI k)), (3, .int (nI 1)), (0, .ref m0), (1, .int (nI fr)), (2, .int (nI nn))] := hl
            have hw := hw1 rfl
            have hsky : oSk (cdT zs fr nn) := ⟨c_4, fun j hj => hw.2.2.1 j (by omega)⟩
            have hqs : ∀ j, j < 6 → qsX j = nI (dv (cdT zs fr nn) (1 + j)) := fun j hj => hw.2.2.2 j (by omega)
            have ha7 : a = 7 := by have := hw.1; omega
            have ha7n : a ≤ nn := hw.2.1
            have L_101 : ∀ (n_101 : Nat) (b : Bool) (s : Nat) (a : Nat) (qhX : Nat → Int32), (s ≤ 4) → (b = true → a = 7 + 2 * s ∧ a ≤ nn ∧ (∀ j, j < s → pSp (cdT zs fr nn) j = true) ∧ ∀ j, j < s → qhX j = nI (dv (cdT zs fr nn) (8 + 2 * j))) → (b = false → rdT (cdT zs fr nn) nn = (false, a)) → (bif b then 5 - s else 0) < n_101 → ∀ (H : Heap) (locs : List Loc), va_P D vwCl [(m0, .inr (9, [.int i0, .ref a1, .int i2, .ref a3, .int i4, .ref a5, .ref a6, .ref a7, .int i8, .int i9, .int (nI a), .int (nI s), .int (nI 0), .ref a13, .ref a14, .ref a15, .ref a16, .int i17, .ref a18, .ref a19, .ref a20, .ref a21, .ref a22, .ref a23, .ref a24, .ref a25, .int i26, .ref a27, .ref a28, .ref a29, .ref a30, .ref a31, .ref a32, .ref a33, .ref a34, .int i35])), (a13, .inl (cI, 6, .inl qsX)), (a14, .inl (cI, 4, .inl qhX)), (a15, .inl (cI, 4, .inl qk)), (a16, .inl (cI, 4, .inl qt)), (a33, .inl (cI, 240, .inl zs))] H → va_D A [(m0, .inr (9, [.int i0, .ref a1, .int i2, .ref a3, .int i4, .ref a5, .ref a6, .ref a7, .int i8, .int i9, .int (nI a), .int (nI s), .int (nI 0), .ref a13, .ref a14, .ref a15, .ref a16, .int i17, .ref a18, .ref a19, .ref a20, .ref a21, .ref a22, .ref a23, .ref a24, .ref a25, .int i26, .ref a27, .ref a28, .ref a29, .ref a30, .ref a31, .ref a32, .ref a33, .ref a34, .int i35])), (a13, .inl (cI, 6, .inl qsX)), (a14, .inl (cI, 4, .inl qhX)), (a15, .inl (cI, 4, .inl qk)), (a16, .inl (cI, 4, .inl qt)), (a33, .inl (cI, 240, .inl zs))] → va_S A sS.heap H locs → ∀ (ls : Array Slot), lv_has ls 5 [(3, .int (kb b)), (0, .ref m0), (1, .int (nI fr)), (2, .int (nI nn))] → W pP lL eE (headSpec wsX10_readsCoast rmX10_readsCoast).room sS mM ([.ref m0, .int (nI fr), .int (nI nn)]).toArray below meth cC H locs 0 0 QQ (F0 mM 101 ls []) := by
              intro n_101
              induction n_101 with
              | zero =>
                intro b s a qhX hsle hs1 hs0 hn_101 H locs hP hD hS ls hl
                exact absurd hn_101 (by omega)
              | succ n_101 ih_101 =>
                intro b s a qhX hsle hs1 hs0 hn_101 H locs hP hD hS ls hl
                refine lv_iload_n hx hb dX10_readsCoast_101 rfl (lv_at hl 0 rfl) ?_
                -- if b
                refine kk_ifb_eq (tgt := 133) hx hb dX10_readsCoast_102 (by decide) (fun hb_6 => ?_) (fun hb_6 => ?_)
                · skip
                  subst hb_6
                  have hl : lv_has ls 5 [(3, .int (nI 0)), (0, .ref m0), (1, .int (nI fr)), (2, .int (nI nn))] := hl
                  have hfail := hs0 rfl
                  refine lv_iload_n hx hb dX10_readsCoast_133 rfl (lv_at hl 0 rfl) ?_
                  refine kk_if_eq (x := 0) (tgt := 162) hx hb dX10_readsCoast_134 (by decide) (by decide) (fun h => ?_) (fun h => absurd h (by decide))
                  refine lv_iload_n hx hb dX10_readsCoast_162 rfl (lv_at hl 0 rfl) ?_
                  have hq : (nI 0) = kb (rdT (cdT zs fr nn) nn).1 ∧ a = (rdT (cdT zs fr nn) nn).2 ∧ ((rdT (cdT zs fr nn) nn).1 = true → s = rSp (cdT zs fr nn) ∧ 0 = rLa (cdT zs fr nn) ∧ (∀ j, j < 6 → qsX j = nI (dv (cdT zs fr nn) (1 + j))) ∧ (∀ j, j < rSp (cdT zs fr nn) → qhX j = nI (dv (cdT zs fr nn) (8 + 2 * j))) ∧ (∀ j, j < rLa (cdT zs fr nn) → qk j = nI (kdOf ((cdT zs fr nn) (aLa (cdT zs fr nn) + 3 * j + 1)))) ∧ ∀ j, j < rLa (cdT zs fr nn) → qt j = nI (dv (cdT zs fr nn) (aLa (cdT zs fr nn) + 3 * j + 2))) := by exact rdT_no hfail
                  refine kk_QQ hQQ ?_
                  exact W.zret (v := nI 0) (ty := .boolean) hx hb hr (by decide +kernel) (fun t ht hW => ⟨⟨nI 0, (a, s, 0, qsX, qhX, qk, qt), rfl, hq, by show va_P D vwCl _ t.heap; rw [ht]; exact hP⟩, hS.F ht⟩) hS.2.2 dX10_readsCoast_163
                · skip
                  subst hb_6
                  have hl : lv_has ls 5 [(3, .int (nI 1)), (0, .ref m0), (1, .int (nI fr)), (2, .int (nI nn))] := hl
                  have hs := hs1 rfl
                  have hs1v := hs
                  have hs := hsle
                  refine lv_aload_n hx hb dX10_readsCoast_105 rfl (lv_at hl 1 rfl) ?_
                  refine va_get (D := D) (ci := 9) (v := .int (nI s)) (C := RX10) (T := TX10) (N := 36) hx hb hts hwX10 hown hK hP 0 rfl rfl 11 (by decide) hf_117 (fun _ h9 => h9) rfl dX10_readsCoast_106 ?_
                  refine kk_if_eq (tgt := 123) hx hb dX10_readsCoast_109 (by decide) (by omega) (fun c_7 => ?_) (fun c_7 => ?_)
                  · skip
                    have hc59 : 0 < s → (cdT zs fr nn) a = nI 59 := fun z => by omega
                    refine lv_aload_n hx hb dX10_readsCoast_123 rfl (lv_at hl 1 rfl) ?_
                    refine lv_iload_n hx hb dX10_readsCoast_124 rfl (lv_at hl 2 rfl) ?_
                    refine lv_iload_n hx hb dX10_readsCoast_125 rfl (lv_at hl 3 rfl) ?_
                    have o_8 : fr + nn ≤ 240 := by omega
                    have o_9 : s ≤ 4 := by exact hsle
                    have o_10 : a ≤ 390 := by have := hs1v.2.1; omega
                    have hF := va_free (wc := [(m0, .inr (9, [.int i0, .ref a1, .int i2, .ref a3, .int i4, .ref a5, .ref a6, .ref a7, .int i8, .int i9, .int (nI a), .int (nI s), .int (nI 0), .ref a13, .ref a14, .ref a15, .ref a16, .int i17, .ref a18, .ref a19, .ref a20, .ref a21, .ref a22, .ref a23, .ref a24, .ref a25, .int i26, .ref a27, .ref a28, .ref a29, .ref a30, .ref a31, .ref a32, .ref a33, .ref a34, .int i35])), (a14, .inl (cI, 4, .inl qhX)), (a33, .inl (cI, 240, .inl zs))]) hD hS hA [0, 2, 5] rfl
                    refine va_calli (va_runV (As := [.int (nI fr), .int (nI nn)]) (rest := []) ⟨hx, hb, hml, hown, hts⟩ (c_X10_readsSpot lL D cI cS _ m0 a1 a3 a5 a6 a7 a13 a14 a15 a16 a18 a19 a20 a21 a22 a23 a24 a25 a27 a28 a29 a30 a31 a32 a33 a34 i0 i2 i4 i8 i9 (nI 0) i17 i26 i35 qhX zs fr nn a s o_8 o_9 o_10) (cwV 2 hts gX10_readsCoast_X10_readsSpot rfl rfl rfl cd_X10_readsSpot ⟨Nat.le_of_ble_eq_true rfl, Nat.le_of_ble_eq_true rfl⟩) ⟨kB_blind, va_recv hK hP (ci := 9) (q0 := 0) rfl rfl, fun U hU hW => ⟨rfl, by rw [hU], by rw [hU]; exact hP.sub [0, 2, 5] rfl, va_K.moved hW.alike hK, (hD.sub [0, 2, 5] (by decide) rfl).weaken (fun _ _ _ _ => trivial)⟩⟩ rfl rfl hl.1 rfl (lv_room (Nat.le_of_ble_eq_true rfl)) dX10_readsCoast_126 ⟨Nat.le_of_ble_eq_true rfl, Nat.le_of_ble_eq_true rfl⟩) hS (fun q _ h => hF q h) hF (fun r_11 u_11 t H1 locs ht hvm hw_11 hB hz1 hk1 hS => ?_)
                    obtain ⟨ra2_11, rs2_11, qh2_11⟩ := u_11
                    obtain ⟨hP, hD⟩ := kk_join2 (wc := [(m0, .inr (9, [.int i0, .ref a1, .int i2, .ref a3, .int i4, .ref a5, .ref a6, .ref a7, .int i8, .int i9, .int (nI a), .int (nI s), .int (nI 0), .ref a13, .ref a14, .ref a15, .ref a16, .int i17, .ref a18, .ref a19, .ref a20, .ref a21, .ref a22, .ref a23, .ref a24, .ref a25, .int i26, .ref a27, .ref a28, .ref a29, .ref a30, .ref a31, .ref a32, .ref a33, .ref a34, .int i35])), (a14, .inl (cI, 4, .inl qhX)), (a33, .inl (cI, 240, .inl zs))]) (w1 := [(m0, .inr (9, [.int i0, .ref a1, .int i2, .ref a3, .int i4, .ref a5, .ref a6, .ref a7, .int i8, .int i9, .int (nI ra2_11), .int (nI rs2_11), .int (nI 0), .ref a13, .ref a14, .ref a15, .ref a16, .int i17, .ref a18, .ref a19, .ref a20, .ref a21, .ref a22, .ref a23, .ref a24, .ref a25, .int i26, .ref a27, .ref a28, .ref a29, .ref a30, .ref a31, .ref a32, .ref a33, .ref a34, .int i35])), (a14, .inl (cI, 4, .inl qh2_11)), (a33, .inl (cI, 240, .inl zs))]) (ws' := [(m0, .inr (9, [.int i0, .ref a1, .int i2, .ref a3, .int i4, .ref a5, .ref a6, .ref a7, .int i8, .int i9, .int (nI ra2_11), .int (nI rs2_11), .int (nI 0), .ref a13, .ref a14, .ref a15, .ref a16, .int i17, .ref a18, .ref a19, .ref a20, .ref a21, .ref a22, .ref a23, .ref a24, .ref a25, .int i26, .ref a27, .ref a28, .ref a29, .ref a30, .ref a31, .ref a32, .ref a33, .ref a34, .int i35])), (a13, .inl (cI, 6, .inl qsX)), (a14, .inl (cI, 4, .inl qh2_11)), (a15, .inl (cI, 4, .inl qk)), (a16, .inl (cI, 4, .inl qt)), (a33, .inl (cI, 240, .inl zs))]) (wr := [(a13, .inl (cI, 6, .inl qsX)), (a15, .inl (cI, 4, .inl qk)), (a16, .inl (cI, 4, .inl qt))]) (H1 := H1) hP hD [0, 2, 5] [1, 3, 4] rfl rfl rfl rfl 6 rfl (by decide) [m0, a13, a14, a15, a16, a33] rfl rfl hk1 (by rw [← ht]; exact hB)
                    have hw_11 : (s < 4 ∧ (cdT zs fr nn) a = nI 59 ∧ dg (cdT zs fr nn) (a + 1) 10 = true ∧ r_11 = nI 1 ∧ ra2_11 = a + 2 ∧ rs2_11 = s + 1 ∧ qh2_11 = upd qhX s (nI (dv (cdT zs fr nn) (a + 1)))) ∨ (r_11 = nI 0 ∧ rs2_11 = s ∧ qh2_11 = qhX ∧ ((¬ (s < 4 ∧ (cdT zs fr nn) a = nI 59) ∧ ra2_11 = a) ∨ (s < 4 ∧ (cdT zs fr nn) a = nI 59 ∧ dg (cdT zs fr nn) (a + 1) 10 = false ∧ ra2_11 = a + 1))) := hw_11
                    clear hF hB hk1 hz1 hvm
                    clear ht
                    generalize H1 = H at hP hS ⊢
                    rcases hw_11 with ⟨q1, q2, q3, q4, q5, q6, q7⟩ | ⟨q4, q5, q6, q7⟩
                    · skip
                      have q4 := q4.symm
                      have q5 := q5.symm
                      have q6 := q6.symm
                      have q7 := q7.symm
                      subst q4 q5 q6 q7
                      refine lv_istore_n (lv' := [(3, .int (nI 1)), (0, .ref m0), (1, .int (nI fr)), (2, .int (nI nn))]) hx hb dX10_readsCoast_129 rfl hl (by decide) rfl (fun ls hl => ?_)
                      refine lv_goto (tgt := 101) hx hb dX10_readsCoast_130 (by decide) ?_
                      have o_12 : (s + 1) ≤ 4 := by omega
                      have o_13 : true = true → (a + 2) = 7 + 2 * (s + 1) ∧ (a + 2) ≤ nn ∧ (∀ j, j < (s + 1) → pSp (cdT zs fr nn) j = true) ∧ ∀ j, j < (s + 1) → (upd qhX s (nI (dv (cdT zs fr nn) (a + 1)))) j = nI (dv (cdT zs fr nn) (8 + 2 * j)) := by
                        intro _
                        obtain ⟨w1, w2, w3, w4⟩ := hs1v
                        have hlt := dg_lt q3
                        refine ⟨by omega, by omega, fun j hj => ?_, fun j hj => ?_⟩
                        · by_cases e : j = s
                          · subst e
                            exact pSp_t (by rw [w1] at q2; exact q2) (by rw [w1, show 7 + 2 * j + 1 = 8 + 2 * j by omega] at q3; exact q3)
                          · exact w3 j (by omega)
                        · by_cases e : j = s
                          · subst e
                            rw [up_at, w1, show 7 + 2 * j + 1 = 8 + 2 * j by omega]
                          · rw [up_ne _ _ e]; exact w4 j (by omega)
                      have o_14 : true = false → rdT (cdT zs fr nn) nn = (false, (a + 2)) := by intro z; cases z
                      have o_15 : (bif true then 5 - (s + 1) else 0) < n_101 := by first | exact Nat.lt_of_lt_of_le (show 5 - (s + 1) < 5 - s by omega) (Nat.le_of_lt_succ hn_101) | exact Nat.lt_of_lt_of_le (show 0 < 5 - s by omega) (Nat.le_of_lt_succ hn_101)
                      exact ih_101 true (s + 1) (a + 2) (upd qhX s (nI (dv (cdT zs fr nn) (a + 1)))) o_12 o_13 o_14 o_15 _ _ hP hD hS ls (lv_sub hl [0, 1, 2, 3] rfl)
                    · skip
                      have q4 := q4.symm
                      have q5 := q5.symm
                      have q6 := q6.symm
                      subst q4 q5 q6
                      refine lv_istore_n (lv' := [(3, .int (nI 0)), (0, .ref m0), (1, .int (nI fr)), (2, .int (nI nn))]) hx hb dX10_readsCoast_129 rfl hl (by decide) rfl (fun ls hl => ?_)
                      refine lv_goto (tgt := 101) hx hb dX10_readsCoast_130 (by decide) ?_
                      have o_16 : s ≤ 4 := by omega
                      have o_17 : false = true → ra2_11 = 7 + 2 * s ∧ ra2_11 ≤ nn ∧ (∀ j, j < s → pSp (cdT zs fr nn) j = true) ∧ ∀ j, j < s → qhX j = nI (dv (cdT zs fr nn) (8 + 2 * j)) := by intro z; cases z
                      have o_18 : false = false → rdT (cdT zs fr nn) nn = (false, ra2_11) := by
                        intro _
                        obtain ⟨w1, w2, w3, w4⟩ := hs1v
                        rcases q7 with ⟨q8, q9⟩ | ⟨q8, q9, q10, q11⟩
                        · subst q9
                          rcases Nat.eq_zero_or_pos s with e0 | e0
                          · subst e0
                            rw [w1]
                            exact rdT_sp0 hsky (fun z => q8 ⟨by omega, by rw [w1]; exact z⟩)
                          · have e4 : s = 4 := by
                              refine Classical.byContradiction fun z => q8 ⟨by omega, hc59 (by omega)⟩
                            subst e4
                            obtain ⟨o1, o2⟩ := oSp_of hsky (s := 4) (by omega) (by omega) w3 (Or.inl rfl)
                            rw [rdT_la0 o2 (by rw [aLa, o1]; rw [w1] at hc59; rw [hc59 (by omega)]; decide +kernel), aLa, o1, w1]
                        · subst q11
                          rw [rdT_sp1 hsky q8 w3 (by rw [w1] at q9; exact q9) (by rw [w1, show 7 + 2 * s + 1 = 8 + 2 * s by omega] at q10; exact q10), w1, show 7 + 2 * s + 1 = 8 + 2 * s by omega]
                      have o_19 : (bif false then 5 - s else 0) < n_101 := by first | exact Nat.lt_of_lt_of_le (show 5 - (s + 1) < 5 - s by omega) (Nat.le_of_lt_succ hn_101) | exact Nat.lt_of_lt_of_le (show 0 < 5 - s by omega) (Nat.le_of_lt_succ hn_101)
                      exact ih_101 false s ra2_11 qhX o_16 o_17 o_18 o_19 _ _ hP hD hS ls (lv_sub hl [0, 1, 2, 3] rfl)
                  · skip
                    refine lv_aload_n hx hb dX10_readsCoast_112 rfl (lv_at hl 1 rfl) ?_
                    refine lv_iload_n hx hb dX10_readsCoast_113 rfl (lv_at hl 2 rfl) ?_
                    refine lv_iload_n hx hb dX10_readsCoast_114 rfl (lv_at hl 3 rfl) ?_
                    have o_20 : fr + nn ≤ 240 := by omega
                    have o_21 : a ≤ 400 := by have := hs1v.2.1; omega
                    refine vp_callSi (W.runV (As := [.int (nI fr), .int (nI nn)]) (rest := []) ⟨hx, hb, hml, hown, hts⟩ (c_X10_codeAt lL D cI cS m0 a1 a3 a5 a6 a7 a13 a14 a15 a16 a18 a19 a20 a21 a22 a23 a24 a25 a27 a28 a29 a30 a31 a32 a33 a34 i0 i2 i4 i8 i9 (nI s) (nI 0) i17 i26 i35 zs fr nn a o_20 o_21) (cwV 2 hts gX10_readsCoast_X10_codeAt rfl rfl rfl cd_X10_codeAt ⟨Nat.le_of_ble_eq_true rfl, Nat.le_of_ble_eq_true rfl⟩) ⟨kBp_blind, va_recv hK hP (ci := 9) (q0 := 0) rfl rfl, fun U hU hW => ⟨rfl, by rw [hU]; exact hP.sub [0, 5] rfl, va_K.moved hW.alike hK⟩⟩ rfl rfl hl.1 rfl (lv_room (Nat.le_of_ble_eq_true rfl)) dX10_readsCoast_115 ⟨Nat.le_of_ble_eq_true rfl, Nat.le_of_ble_eq_true rfl⟩) (fun r_22 hw_22 => ?_)
                    obtain rfl : r_22 = cdT zs fr nn a := hw_22
                    refine lv_bipush (v := nI 59) hx hb dX10_readsCoast_118 (by decide +kernel) ?_
                    refine lv_icmp_ne (tgt := 133) hx hb dX10_readsCoast_120 (by decide) (fun c_23 => ?_) (fun c_23 => ?_)
                    · skip
                      obtain ⟨hse, hosp⟩ := oSp_of hsky (s := s) (by omega) hsle hs1v.2.2.1 (Or.inr (by rw [← hs1v.1]; exact c_23))
                      have hqh := hs1v.2.2.2
                      have hal7 : a = aLa (cdT zs fr nn) := by rw [aLa, hse]; exact hs1v.1
                      have haln := hs1v.2.1
                      have hs0 : 0 < s := by omega
                      have L_133 : ∀ (n_133 : Nat) (b : Bool) (k : Nat) (a : Nat) (qkX : Nat → Int32) (qtX : Nat → Int32), (k ≤ 4) → (b = true → a = aLa (cdT zs fr nn) + 3 * k ∧ a ≤ nn ∧ (∀ j, j < k → pLa (cdT zs fr nn) j = true) ∧ (∀ j, j < k → qkX j = nI (kdOf ((cdT zs fr nn) (aLa (cdT zs fr nn) + 3 * j + 1)))) ∧ ∀ j, j < k → qtX j = nI (dv (cdT zs fr nn) (aLa (cdT zs fr nn) + 3 * j + 2))) → (b = false → rdT (cdT zs fr nn) nn = (false, a)) → (bif b then 5 - k else 0) < n_133 → ∀ (H : Heap) (locs : List Loc), va_P D vwCl [(m0, .inr (9, [.int i0, .ref a1, .int i2, .ref a3, .int i4, .ref a5, .ref a6, .ref a7, .int i8, .int i9, .int (nI a), .int (nI s), .int (nI k), .ref a13, .ref a14, .ref a15, .ref a16, .int i17, .ref a18, .ref a19, .ref a20, .ref a21, .ref a22, .ref a23, .ref a24, .ref a25, .int i26, .ref a27, .ref a28, .ref a29, .ref a30, .ref a31, .ref a32, .ref a33, .ref a34, .int i35])), (a13, .inl (cI, 6, .inl qsX)), (a14, .inl (cI, 4, .inl qhX)), (a15, .inl (cI, 4, .inl qkX)), (a16, .inl (cI, 4, .inl qtX)), (a33, .inl (cI, 240, .inl zs))] H → va_D A [(m0, .inr (9, [.int i0, .ref a1, .int i2, .ref a3, .int i4, .ref a5, .ref a6, .ref a7, .int i8, .int i9, .int (nI a), .int (nI s), .int (nI k), .ref a13, .ref a14, .ref a15, .ref a16, .int i17, .ref a18, .ref a19, .ref a20, .ref a21, .ref a22, .ref a23, .ref a24, .ref a25, .int i26, .ref a27, .ref a28, .ref a29, .ref a30, .ref a31, .ref a32, .ref a33, .ref a34, .int i35])), (a13, .inl (cI, 6, .inl qsX)), (a14, .inl (cI, 4, .inl qhX)), (a15, .inl (cI, 4, .inl qkX)), (a16, .inl (cI, 4, .inl qtX)), (a33, .inl (cI, 240, .inl zs))] → va_S A sS.heap H locs → ∀ (ls : Array Slot), lv_has ls 5 [(3, .int (kb b)), (0, .ref m0), (1, .int (nI fr)), (2, .int (nI nn))] → W pP lL eE (headSpec wsX10_readsCoast rmX10_readsCoast).room sS mM ([.ref m0, .int (nI fr), .int (nI nn)]).toArray below meth cC H locs 0 0 QQ (F0 mM 133 ls []) := by
                        intro n_133
                        induction n_133 with
                        | zero =>
                          intro b k a qkX qtX hkle hk1 hk0 hn_133 H locs hP hD hS ls hl
                          exact absurd hn_133 (by omega)
                        | succ n_133 ih_133 =>
                          intro b k a qkX qtX hkle hk1 hk0 hn_133 H locs hP hD hS ls hl
                          refine lv_iload_n hx hb dX10_readsCoast_133 rfl (lv_at hl 0 rfl) ?_
                          -- if b
                          refine kk_ifb_eq (tgt := 162) hx hb dX10_readsCoast_134 (by decide) (fun hb_24 => ?_) (fun hb_24 => ?_)
                          · skip
                            subst hb_24
                            have hl : lv_has ls 5 [(3, .int (nI 0)), (0, .ref m0), (1, .int (nI fr)), (2, .int (nI nn))] := hl
                            have hfail := hk0 rfl
                            refine lv_iload_n hx hb dX10_readsCoast_162 rfl (lv_at hl 0 rfl) ?_
                            have hq : (nI 0) = kb (rdT (cdT zs fr nn) nn).1 ∧ a = (rdT (cdT zs fr nn) nn).2 ∧ ((rdT (cdT zs fr nn) nn).1 = true → s = rSp (cdT zs fr nn) ∧ k = rLa (cdT zs fr nn) ∧ (∀ j, j < 6 → qsX j = nI (dv (cdT zs fr nn) (1 + j))) ∧ (∀ j, j < rSp (cdT zs fr nn) → qhX j = nI (dv (cdT zs fr nn) (8 + 2 * j))) ∧ (∀ j, j < rLa (cdT zs fr nn) → qkX j = nI (kdOf ((cdT zs fr nn) (aLa (cdT zs fr nn) + 3 * j + 1)))) ∧ ∀ j, j < rLa (cdT zs fr nn) → qtX j = nI (dv (cdT zs fr nn) (aLa (cdT zs fr nn) + 3 * j + 2))) := by exact rdT_no hfail
                            refine kk_QQ hQQ ?_
                            exact W.zret (v := nI 0) (ty := .boolean) hx hb hr (by decide +kernel) (fun t ht hW => ⟨⟨nI 0, (a, s, k, qsX, qhX, qkX, qtX), rfl, hq, by show va_P D vwCl _ t.heap; rw [ht]; exact hP⟩, hS.F ht⟩) hS.2.2 dX10_readsCoast_163
                          · skip
                            subst hb_24
                            have hl : lv_has ls 5 [(3, .int (nI 1)), (0, .ref m0), (1, .int (nI fr)), (2, .int (nI nn))] := hl
                            have hk := hk1 rfl
                            have hk1v := hk
                            have hk := hkle
                            refine lv_aload_n hx hb dX10_readsCoast_137 rfl (lv_at hl 1 rfl) ?_
                            refine va_get (D := D) (ci := 9) (v := .int (nI k)) (C := RX10) (T := TX10) (N := 36) hx hb hts hwX10 hown hK hP 0 rfl rfl 12 (by decide) hf_124 (fun _ h9 => h9) rfl dX10_readsCoast_138 ?_
                            refine kk_if_eq (tgt := 152) hx hb dX10_readsCoast_141 (by decide) (by omega) (fun c_25 => ?_) (fun c_25 => ?_)
                            · skip
                              have hlt9 : 0 < k → a < nn := fun z => by omega
                              refine lv_aload_n hx hb dX10_readsCoast_152 rfl (lv_at hl 1 rfl) ?_
                              refine lv_iload_n hx hb dX10_readsCoast_153 rfl (lv_at hl 2 rfl) ?_
                              refine lv_iload_n hx hb dX10_readsCoast_154 rfl (lv_at hl 3 rfl) ?_
                              have o_26 : fr + nn ≤ 240 := by omega
                              have o_27 : s ≤ 4 := by exact hsle
                              have o_28 : 0 < s := by exact hs0
                              have o_29 : k ≤ 4 := by exact hkle
                              have o_30 : a ≤ 390 := by have := hk1v.2.1; omega
                              have hF := va_free (wc := [(m0, .inr (9, [.int i0, .ref a1, .int i2, .ref a3, .int i4, .ref a5, .ref a6, .ref a7, .int i8, .int i9, .int (nI a), .int (nI s), .int (nI k), .ref a13, .ref a14, .ref a15, .ref a16, .int i17, .ref a18, .ref a19, .ref a20, .ref a21, .ref a22, .ref a23, .ref a24, .ref a25, .int i26, .ref a27, .ref a28, .ref a29, .ref a30, .ref a31, .ref a32, .ref a33, .ref a34, .int i35])), (a15, .inl (cI, 4, .inl qkX)), (a16, .inl (cI, 4, .inl qtX)), (a33, .inl (cI, 240, .inl zs))]) hD hS hA [0, 3, 4, 5] rfl
                              refine va_calli (va_runV (As := [.int (nI fr), .int (nI nn)]) (rest := []) ⟨hx, hb, hml, hown, hts⟩ (c_X10_readsLamp lL D cI cS _ m0 a1 a3 a5 a6 a7 a13 a14 a15 a16 a18 a19 a20 a21 a22 a23 a24 a25 a27 a28 a29 a30 a31 a32 a33 a34 i0 i2 i4 i8 i9 i17 i26 i35 qkX qtX zs fr nn a s k o_26 o_27 o_28 o_29 o_30) (cwV 2 hts gX10_readsCoast_X10_readsLamp rfl rfl rfl cd_X10_readsLamp ⟨Nat.le_of_ble_eq_true rfl, Nat.le_of_ble_eq_true rfl⟩) ⟨kB_blind, va_recv hK hP (ci := 9) (q0 := 0) rfl rfl, fun U hU hW => ⟨rfl, by rw [hU], by rw [hU]; exact hP.sub [0, 3, 4, 5] rfl, va_K.moved hW.alike hK, (hD.sub [0, 3, 4, 5] (by decide) rfl).weaken (fun _ _ _ _ => trivial)⟩⟩ rfl rfl hl.1 rfl (lv_room (Nat.le_of_ble_eq_true rfl)) dX10_readsCoast_155 ⟨Nat.le_of_ble_eq_true rfl, Nat.le_of_ble_eq_true rfl⟩) hS (fun q _ h => hF q h) hF (fun r_31 u_31 t H1 locs ht hvm hw_31 hB hz1 hk1 hS => ?_)
                              obtain ⟨ra2_31, rq2_31, qk2_31, qt2_31⟩ := u_31
                              obtain ⟨hP, hD⟩ := kk_join2 (wc := [(m0, .inr (9, [.int i0, .ref a1, .int i2, .ref a3, .int i4, .ref a5, .ref a6, .ref a7, .int i8, .int i9, .int (nI a), .int (nI s), .int (nI k), .ref a13, .ref a14, .ref a15, .ref a16, .int i17, .ref a18, .ref a19, .ref a20, .ref a21, .ref a22, .ref a23, .ref a24, .ref a25, .int i26, .ref a27, .ref a28, .ref a29, .ref a30, .ref a31, .ref a32, .ref a33, .ref a34, .int i35])), (a15, .inl (cI, 4, .inl qkX)), (a16, .inl (cI, 4, .inl qtX)), (a33, .inl (cI, 240, .inl zs))]) (w1 := [(m0, .inr (9, [.int i0, .ref a1, .int i2, .ref a3, .int i4, .ref a5, .ref a6, .ref a7, .int i8, .int i9, .int (nI ra2_31), .int (nI s), .int (nI rq2_31), .ref a13, .ref a14, .ref a15, .ref a16, .int i17, .ref a18, .ref a19, .ref a20, .ref a21, .ref a22, .ref a23, .ref a24, .ref a25, .int i26, .ref a27, .ref a28, .ref a29, .ref a30, .ref a31, .ref a32, .ref a33, .ref a34, .int i35])), (a15, .inl (cI, 4, .inl qk2_31)), (a16, .inl (cI, 4, .inl qt2_31)), (a33, .inl (cI, 240, .inl zs))]) (ws' := [(m0, .inr (9, [.int i0, .ref a1, .int i2, .ref a3, .int i4, .ref a5, .ref a6, .ref a7, .int i8, .int i9, .int (nI ra2_31), .int (nI s), .int (nI rq2_31), .ref a13, .ref a14, .ref a15, .ref a16, .int i17, .ref a18, .ref a19, .ref a20, .ref a21, .ref a22, .ref a23, .ref a24, .ref a25, .int i26, .ref a27, .ref a28, .ref a29, .ref a30, .ref a31, .ref a32, .ref a33, .ref a34, .int i35])), (a13, .inl (cI, 6, .inl qsX)), (a14, .inl (cI, 4, .inl qhX)), (a15, .inl (cI, 4, .inl qk2_31)), (a16, .inl (cI, 4, .inl qt2_31)), (a33, .inl (cI, 240, .inl zs))]) (wr := [(a13, .inl (cI, 6, .inl qsX)), (a14, .inl (cI, 4, .inl qhX))]) (H1 := H1) hP hD [0, 3, 4, 5] [1, 2] rfl rfl rfl rfl 6 rfl (by decide) [m0, a13, a14, a15, a16, a33] rfl rfl hk1 (by rw [← ht]; exact hB)
                              have hw_31 : (k < 4 ∧ (cdT zs fr nn) a = nI 44 ∧ isK ((cdT zs fr nn) (a + 1)) = true ∧ dg (cdT zs fr nn) (a + 2) s = true ∧ r_31 = nI 1 ∧ ra2_31 = a + 3 ∧ rq2_31 = k + 1 ∧ qk2_31 = upd qkX k (nI (kdOf ((cdT zs fr nn) (a + 1)))) ∧ qt2_31 = upd qtX k (nI (dv (cdT zs fr nn) (a + 2)))) ∨ (r_31 = nI 0 ∧ rq2_31 = k ∧ qk2_31 = qkX ∧ qt2_31 = qtX ∧ ((¬ (k < 4 ∧ (cdT zs fr nn) a = nI 44) ∧ ra2_31 = a) ∨ (k < 4 ∧ (cdT zs fr nn) a = nI 44 ∧ isK ((cdT zs fr nn) (a + 1)) = false ∧ ra2_31 = a + 1) ∨ (k < 4 ∧ (cdT zs fr nn) a = nI 44 ∧ isK ((cdT zs fr nn) (a + 1)) = true ∧ dg (cdT zs fr nn) (a + 2) s = false ∧ ra2_31 = a + 2))) := hw_31
                              clear hF hB hk1 hz1 hvm
                              clear ht
                              generalize H1 = H at hP hS ⊢
                              rcases hw_31 with ⟨q1, q2, q3, q4, q5, q6, q7, q8, q9⟩ | ⟨q5, q6, q7, q8, q9⟩
                              · skip
                                have q5 := q5.symm
                                have q6 := q6.symm
                                have q7 := q7.symm
                                have q8 := q8.symm
                                have q9 := q9.symm
                                subst q5 q6 q7 q8 q9
                                refine lv_istore_n (lv' := [(3, .int (nI 1)), (0, .ref m0), (1, .int (nI fr)), (2, .int (nI nn))]) hx hb dX10_readsCoast_158 rfl hl (by decide) rfl (fun ls hl => ?_)
                                refine lv_goto (tgt := 133) hx hb dX10_readsCoast_159 (by decide) ?_
                                have o_32 : (k + 1) ≤ 4 := by omega
                                have o_33 : true = true → (a + 3) = aLa (cdT zs fr nn) + 3 * (k + 1) ∧ (a + 3) ≤ nn ∧ (∀ j, j < (k + 1) → pLa (cdT zs fr nn) j = true) ∧ (∀ j, j < (k + 1) → (upd qkX k (nI (kdOf ((cdT zs fr nn) (a + 1))))) j = nI (kdOf ((cdT zs fr nn) (aLa (cdT zs fr nn) + 3 * j + 1)))) ∧ ∀ j, j < (k + 1) → (upd qtX k (nI (dv (cdT zs fr nn) (a + 2)))) j = nI (dv (cdT zs fr nn) (aLa (cdT zs fr nn) + 3 * j + 2)) := by
                                  intro _
                                  obtain ⟨w1, w2, w3, w4, w5⟩ := hk1v
                                  have hlt := dg_lt q4
                                  refine ⟨by omega, by omega, fun j hj => ?_, fun j hj => ?_, fun j hj => ?_⟩
                                  · by_cases e : j = k
                                    · subst e
                                      exact pLa_t (by rw [w1] at q2; exact q2) (by rw [w1] at q3; exact q3) (by rw [w1, ← hse] at q4; exact q4)
                                    · exact w3 j (by omega)
                                  · by_cases e : j = k
                                    · subst e; rw [up_at, w1]
                                    · rw [up_ne _ _ e]; exact w4 j (by omega)
                                  · by_cases e : j = k
                                    · subst e; rw [up_at, w1]
                                    · rw [up_ne _ _ e]; exact w5 j (by omega)
                                have o_34 : true = false → rdT (cdT zs fr nn) nn = (false, (a + 3)) := by intro z; cases z
                                have o_35 : (bif true then 5 - (k + 1) else 0) < n_133 := by first | exact Nat.lt_of_lt_of_le (show 5 - (k + 1) < 5 - k by omega) (Nat.le_of_lt_succ hn_133) | exact Nat.lt_of_lt_of_le (show 0 < 5 - k by omega) (Nat.le_of_lt_succ hn_133)
                                exact ih_133 true (k + 1) (a + 3) (upd qkX k (nI (kdOf ((cdT zs fr nn) (a + 1))))) (upd qtX k (nI (dv (cdT zs fr nn) (a + 2)))) o_32 o_33 o_34 o_35 _ _ hP hD hS ls (lv_sub hl [0, 1, 2, 3] rfl)
                              · skip
                                have q5 := q5.symm
                                have q6 := q6.symm
                                have q7 := q7.symm
                                have q8 := q8.symm
                                subst q5 q6 q7 q8
                                refine lv_istore_n (lv' := [(3, .int (nI 0)), (0, .ref m0), (1, .int (nI fr)), (2, .int (nI nn))]) hx hb dX10_readsCoast_158 rfl hl (by decide) rfl (fun ls hl => ?_)
                                refine lv_goto (tgt := 133) hx hb dX10_readsCoast_159 (by decide) ?_
                                have o_36 : k ≤ 4 := by omega
                                have o_37 : false = true → ra2_31 = aLa (cdT zs fr nn) + 3 * k ∧ ra2_31 ≤ nn ∧ (∀ j, j < k → pLa (cdT zs fr nn) j = true) ∧ (∀ j, j < k → qkX j = nI (kdOf ((cdT zs fr nn) (aLa (cdT zs fr nn) + 3 * j + 1)))) ∧ ∀ j, j < k → qtX j = nI (dv (cdT zs fr nn) (aLa (cdT zs fr nn) + 3 * j + 2)) := by intro z; cases z
                                have o_38 : false = false → rdT (cdT zs fr nn) nn = (false, ra2_31) := by
                                  intro _
                                  obtain ⟨w1, w2, w3, w4, w5⟩ := hk1v
                                  rcases q9 with ⟨p1, p2⟩ | ⟨p1, p2, p3, p4⟩ | ⟨p1, p2, p3, p4, p5⟩
                                  · subst p2
                                    rcases Nat.eq_zero_or_pos k with e0 | e0
                                    · subst e0
                                      rw [w1]
                                      exact rdT_la0 hosp (fun z => p1 ⟨by omega, by rw [w1]; exact z⟩)
                                    · have hx := rdT_end (n := nn) hosp (k := k) e0 hkle w3 (by
                                        rcases Nat.lt_or_ge k 4 with h4 | h4
                                        · exact Or.inr (fun z => p1 ⟨h4, by rw [w1]; exact z⟩)
                                        · exact Or.inl (by omega))
                                      rw [hx.2, ← w1, decide_eq_false (by have := hlt9 e0; omega)]
                                  · subst p4
                                    rw [rdT_la1 hosp p1 w3 (by rw [w1] at p2; exact p2) (by rw [w1] at p3; exact p3), w1]
                                  · subst p5
                                    rw [rdT_la2 hosp p1 w3 (by rw [w1] at p2; exact p2) (by rw [w1] at p3; exact p3) (by rw [w1, ← hse] at p4; exact p4), w1]
                                have o_39 : (bif false then 5 - k else 0) < n_133 := by first | exact Nat.lt_of_lt_of_le (show 5 - (k + 1) < 5 - k by omega) (Nat.le_of_lt_succ hn_133) | exact Nat.lt_of_lt_of_le (show 0 < 5 - k by omega) (Nat.le_of_lt_succ hn_133)
                                exact ih_133 false k ra2_31 qkX qtX o_36 o_37 o_38 o_39 _ _ hP hD hS ls (lv_sub hl [0, 1, 2, 3] rfl)
                            · skip
                              refine lv_aload_n hx hb dX10_readsCoast_144 rfl (lv_at hl 1 rfl) ?_
                              refine va_get (D := D) (ci := 9) (v := .int (nI a)) (C := RX10) (T := TX10) (N := 36) hx hb hts hwX10 hown hK hP 0 rfl rfl 10 (by decide) hf_110 (fun _ h9 => h9) rfl dX10_readsCoast_145 ?_
                              refine lv_iload_n hx hb dX10_readsCoast_148 rfl (lv_at hl 3 rfl) ?_
                              refine kk_icmp_ge (tgt := 162) hx hb dX10_readsCoast_149 (by decide) (by omega) (by omega) (fun c_40 => ?_) (fun c_40 => ?_)
                              · skip
                                refine lv_iload_n hx hb dX10_readsCoast_162 rfl (lv_at hl 0 rfl) ?_
                                have hq : (nI 1) = kb (rdT (cdT zs fr nn) nn).1 ∧ a = (rdT (cdT zs fr nn) nn).2 ∧ ((rdT (cdT zs fr nn) nn).1 = true → s = rSp (cdT zs fr nn) ∧ k = rLa (cdT zs fr nn) ∧ (∀ j, j < 6 → qsX j = nI (dv (cdT zs fr nn) (1 + j))) ∧ (∀ j, j < rSp (cdT zs fr nn) → qhX j = nI (dv (cdT zs fr nn) (8 + 2 * j))) ∧ (∀ j, j < rLa (cdT zs fr nn) → qkX j = nI (kdOf ((cdT zs fr nn) (aLa (cdT zs fr nn) + 3 * j + 1)))) ∧ ∀ j, j < rLa (cdT zs fr nn) → qtX j = nI (dv (cdT zs fr nn) (aLa (cdT zs fr nn) + 3 * j + 2))) := by
                                  obtain ⟨w1, w2, w3, w4, w5⟩ := hk1v
                                  have e_n : a = nn := by omega
                                  have hx := rdT_end (n := nn) hosp (k := k) (by omega) hkle w3 (Or.inr (fun z => by
                                    have h9 := cd_lt (by decide) z
                                    omega))
                                  have e : rdT (cdT zs fr nn) nn = (true, a) := hx.2.trans (by rw [← w1, decide_eq_true e_n])
                                  refine rdT_yes e ⟨hse.symm, hx.1.symm, hqs, ?_, ?_, ?_⟩
                                  · rw [hse]; exact hqh
                                  · rw [hx.1]; exact w4
                                  · rw [hx.1]; exact w5
                                refine kk_QQ hQQ ?_
                                exact W.zret (v := nI 1) (ty := .boolean) hx hb hr (by decide +kernel) (fun t ht hW => ⟨⟨nI 1, (a, s, k, qsX, qhX, qkX, qtX), rfl, hq, by show va_P D vwCl _ t.heap; rw [ht]; exact hP⟩, hS.F ht⟩) hS.2.2 dX10_readsCoast_163
                              · skip
                                have hlt9 : 0 < k → a < nn := fun _ => by omega
                                refine lv_aload_n hx hb dX10_readsCoast_152 rfl (lv_at hl 1 rfl) ?_
                                refine lv_iload_n hx hb dX10_readsCoast_153 rfl (lv_at hl 2 rfl) ?_
                                refine lv_iload_n hx hb dX10_readsCoast_154 rfl (lv_at hl 3 rfl) ?_
                                have o_41 : fr + nn ≤ 240 := by omega
                                have o_42 : s ≤ 4 := by exact hsle
                                have o_43 : 0 < s := by exact hs0
                                have o_44 : k ≤ 4 := by exact hkle
                                have o_45 : a ≤ 390 := by have := hk1v.2.1; omega
                                have hF := va_free (wc := [(m0, .inr (9, [.int i0, .ref a1, .int i2, .ref a3, .int i4, .ref a5, .ref a6, .ref a7, .int i8, .int i9, .int (nI a), .int (nI s), .int (nI k), .ref a13, .ref a14, .ref a15, .ref a16, .int i17, .ref a18, .ref a19, .ref a20, .ref a21, .ref a22, .ref a23, .ref a24, .ref a25, .int i26, .ref a27, .ref a28, .ref a29, .ref a30, .ref a31, .ref a32, .ref a33, .ref a34, .int i35])), (a15, .inl (cI, 4, .inl qkX)), (a16, .inl (cI, 4, .inl qtX)), (a33, .inl (cI, 240, .inl zs))]) hD hS hA [0, 3, 4, 5] rfl
                                refine va_calli (va_runV (As := [.int (nI fr), .int (nI nn)]) (rest := []) ⟨hx, hb, hml, hown, hts⟩ (c_X10_readsLamp lL D cI cS _ m0 a1 a3 a5 a6 a7 a13 a14 a15 a16 a18 a19 a20 a21 a22 a23 a24 a25 a27 a28 a29 a30 a31 a32 a33 a34 i0 i2 i4 i8 i9 i17 i26 i35 qkX qtX zs fr nn a s k o_41 o_42 o_43 o_44 o_45) (cwV 2 hts gX10_readsCoast_X10_readsLamp rfl rfl rfl cd_X10_readsLamp ⟨Nat.le_of_ble_eq_true rfl, Nat.le_of_ble_eq_true rfl⟩) ⟨kB_blind, va_recv hK hP (ci := 9) (q0 := 0) rfl rfl, fun U hU hW => ⟨rfl, by rw [hU], by rw [hU]; exact hP.sub [0, 3, 4, 5] rfl, va_K.moved hW.alike hK, (hD.sub [0, 3, 4, 5] (by decide) rfl).weaken (fun _ _ _ _ => trivial)⟩⟩ rfl rfl hl.1 rfl (lv_room (Nat.le_of_ble_eq_true rfl)) dX10_readsCoast_155 ⟨Nat.le_of_ble_eq_true rfl, Nat.le_of_ble_eq_true rfl⟩) hS (fun q _ h => hF q h) hF (fun r_46 u_46 t H1 locs ht hvm hw_46 hB hz1 hk1 hS => ?_)
                                obtain ⟨ra2_46, rq2_46, qk2_46, qt2_46⟩ := u_46
                                obtain ⟨hP, hD⟩ := kk_join2 (wc := [(m0, .inr (9, [.int i0, .ref a1, .int i2, .ref a3, .int i4, .ref a5, .ref a6, .ref a7, .int i8, .int i9, .int (nI a), .int (nI s), .int (nI k), .ref a13, .ref a14, .ref a15, .ref a16, .int i17, .ref a18, .ref a19, .ref a20, .ref a21, .ref a22, .ref a23, .ref a24, .ref a25, .int i26, .ref a27, .ref a28, .ref a29, .ref a30, .ref a31, .ref a32, .ref a33, .ref a34, .int i35])), (a15, .inl (cI, 4, .inl qkX)), (a16, .inl (cI, 4, .inl qtX)), (a33, .inl (cI, 240, .inl zs))]) (w1 := [(m0, .inr (9, [.int i0, .ref a1, .int i2, .ref a3, .int i4, .ref a5, .ref a6, .ref a7, .int i8, .int i9, .int (nI ra2_46), .int (nI s), .int (nI rq2_46), .ref a13, .ref a14, .ref a15, .ref a16, .int i17, .ref a18, .ref a19, .ref a20, .ref a21, .ref a22, .ref a23, .ref a24, .ref a25, .int i26, .ref a27, .ref a28, .ref a29, .ref a30, .ref a31, .ref a32, .ref a33, .ref a34, .int i35])), (a15, .inl (cI, 4, .inl qk2_46)), (a16, .inl (cI, 4, .inl qt2_46)), (a33, .inl (cI, 240, .inl zs))]) (ws' := [(m0, .inr (9, [.int i0, .ref a1, .int i2, .ref a3, .int i4, .ref a5, .ref a6, .ref a7, .int i8, .int i9, .int (nI ra2_46), .int (nI s), .int (nI rq2_46), .ref a13, .ref a14, .ref a15, .ref a16, .int i17, .ref a18, .ref a19, .ref a20, .ref a21, .ref a22, .ref a23, .ref a24, .ref a25, .int i26, .ref a27, .ref a28, .ref a29, .ref a30, .ref a31, .ref a32, .ref a33, .ref a34, .int i35])), (a13, .inl (cI, 6, .inl qsX)), (a14, .inl (cI, 4, .inl qhX)), (a15, .inl (cI, 4, .inl qk2_46)), (a16, .inl (cI, 4, .inl qt2_46)), (a33, .inl (cI, 240, .inl zs))]) (wr := [(a13, .inl (cI, 6, .inl qsX)), (a14, .inl (cI, 4, .inl qhX))]) (H1 := H1) hP hD [0, 3, 4, 5] [1, 2] rfl rfl rfl rfl 6 rfl (by decide) [m0, a13, a14, a15, a16, a33] rfl rfl hk1 (by rw [← ht]; exact hB)
                                have hw_46 : (k < 4 ∧ (cdT zs fr nn) a = nI 44 ∧ isK ((cdT zs fr nn) (a + 1)) = true ∧ dg (cdT zs fr nn) (a + 2) s = true ∧ r_46 = nI 1 ∧ ra2_46 = a + 3 ∧ rq2_46 = k + 1 ∧ qk2_46 = upd qkX k (nI (kdOf ((cdT zs fr nn) (a + 1)))) ∧ qt2_46 = upd qtX k (nI (dv (cdT zs fr nn) (a + 2)))) ∨ (r_46 = nI 0 ∧ rq2_46 = k ∧ qk2_46 = qkX ∧ qt2_46 = qtX ∧ ((¬ (k < 4 ∧ (cdT zs fr nn) a = nI 44) ∧ ra2_46 = a) ∨ (k < 4 ∧ (cdT zs fr nn) a = nI 44 ∧ isK ((cdT zs fr nn) (a + 1)) = false ∧ ra2_46 = a + 1) ∨ (k < 4 ∧ (cdT zs fr nn) a = nI 44 ∧ isK ((cdT zs fr nn) (a + 1)) = true ∧ dg (cdT zs fr nn) (a + 2) s = false ∧ ra2_46 = a + 2))) := hw_46
                                clear hF hB hk1 hz1 hvm
                                clear ht
                                generalize H1 = H at hP hS ⊢
                                rcases hw_46 with ⟨q1, q2, q3, q4, q5, q6, q7, q8, q9⟩ | ⟨q5, q6, q7, q8, q9⟩
                                · skip
                                  have q5 := q5.symm
                                  have q6 := q6.symm
                                  have q7 := q7.symm
                                  have q8 := q8.symm
                                  have q9 := q9.symm
                                  subst q5 q6 q7 q8 q9
                                  refine lv_istore_n (lv' := [(3, .int (nI 1)), (0, .ref m0), (1, .int (nI fr)), (2, .int (nI nn))]) hx hb dX10_readsCoast_158 rfl hl (by decide) rfl (fun ls hl => ?_)
                                  refine lv_goto (tgt := 133) hx hb dX10_readsCoast_159 (by decide) ?_
                                  have o_47 : (k + 1) ≤ 4 := by omega
                                  have o_48 : true = true → (a + 3) = aLa (cdT zs fr nn) + 3 * (k + 1) ∧ (a + 3) ≤ nn ∧ (∀ j, j < (k + 1) → pLa (cdT zs fr nn) j = true) ∧ (∀ j, j < (k + 1) → (upd qkX k (nI (kdOf ((cdT zs fr nn) (a + 1))))) j = nI (kdOf ((cdT zs fr nn) (aLa (cdT zs fr nn) + 3 * j + 1)))) ∧ ∀ j, j < (k + 1) → (upd qtX k (nI (dv (cdT zs fr nn) (a + 2)))) j = nI (dv (cdT zs fr nn) (aLa (cdT zs fr nn) + 3 * j + 2)) := by
                                    intro _
                                    obtain ⟨w1, w2, w3, w4, w5⟩ := hk1v
                                    have hlt := dg_lt q4
                                    refine ⟨by omega, by omega, fun j hj => ?_, fun j hj => ?_, fun j hj => ?_⟩
                                    · by_cases e : j = k
                                      · subst e
                                        exact pLa_t (by rw [w1] at q2; exact q2) (by rw [w1] at q3; exact q3) (by rw [w1, ← hse] at q4; exact q4)
                                      · exact w3 j (by omega)
                                    · by_cases e : j = k
                                      · subst e; rw [up_at, w1]
                                      · rw [up_ne _ _ e]; exact w4 j (by omega)
                                    · by_cases e : j = k
                                      · subst e; rw [up_at, w1]
                                      · rw [up_ne _ _ e]; exact w5 j (by omega)
                                  have o_49 : true = false → rdT (cdT zs fr nn) nn = (false, (a + 3)) := by intro z; cases z
                                  have o_50 : (bif true then 5 - (k + 1) else 0) < n_133 := by first | exact Nat.lt_of_lt_of_le (show 5 - (k + 1) < 5 - k by omega) (Nat.le_of_lt_succ hn_133) | exact Nat.lt_of_lt_of_le (show 0 < 5 - k by omega) (Nat.le_of_lt_succ hn_133)
                                  exact ih_133 true (k + 1) (a + 3) (upd qkX k (nI (kdOf ((cdT zs fr nn) (a + 1))))) (upd qtX k (nI (dv (cdT zs fr nn) (a + 2)))) o_47 o_48 o_49 o_50 _ _ hP hD hS ls (lv_sub hl [0, 1, 2, 3] rfl)
                                · skip
                                  have q5 := q5.symm
                                  have q6 := q6.symm
                                  have q7 := q7.symm
                                  have q8 := q8.symm
                                  subst q5 q6 q7 q8
                                  refine lv_istore_n (lv' := [(3, .int (nI 0)), (0, .ref m0), (1, .int (nI fr)), (2, .int (nI nn))]) hx hb dX10_readsCoast_158 rfl hl (by decide) rfl (fun ls hl => ?_)
                                  refine lv_goto (tgt := 133) hx hb dX10_readsCoast_159 (by decide) ?_
                                  have o_51 : k ≤ 4 := by omega
                                  have o_52 : false = true → ra2_46 = aLa (cdT zs fr nn) + 3 * k ∧ ra2_46 ≤ nn ∧ (∀ j, j < k → pLa (cdT zs fr nn) j = true) ∧ (∀ j, j < k → qkX j = nI (kdOf ((cdT zs fr nn) (aLa (cdT zs fr nn) + 3 * j + 1)))) ∧ ∀ j, j < k → qtX j = nI (dv (cdT zs fr nn) (aLa (cdT zs fr nn) + 3 * j + 2)) := by intro z; cases z
                                  have o_53 : false = false → rdT (cdT zs fr nn) nn = (false, ra2_46) := by
                                    intro _
                                    obtain ⟨w1, w2, w3, w4, w5⟩ := hk1v
                                    rcases q9 with ⟨p1, p2⟩ | ⟨p1, p2, p3, p4⟩ | ⟨p1, p2, p3, p4, p5⟩
                                    · subst p2
                                      rcases Nat.eq_zero_or_pos k with e0 | e0
                                      · subst e0
                                        rw [w1]
                                        exact rdT_la0 hosp (fun z => p1 ⟨by omega, by rw [w1]; exact z⟩)
                                      · have hx := rdT_end (n := nn) hosp (k := k) e0 hkle w3 (by
                                          rcases Nat.lt_or_ge k 4 with h4 | h4
                                          · exact Or.inr (fun z => p1 ⟨h4, by rw [w1]; exact z⟩)
                                          · exact Or.inl (by omega))
                                        rw [hx.2, ← w1, decide_eq_false (by have := hlt9 e0; omega)]
                                    · subst p4
                                      rw [rdT_la1 hosp p1 w3 (by rw [w1] at p2; exact p2) (by rw [w1] at p3; exact p3), w1]
                                    · subst p5
                                      rw [rdT_la2 hosp p1 w3 (by rw [w1] at p2; exact p2) (by rw [w1] at p3; exact p3) (by rw [w1, ← hse] at p4; exact p4), w1]
                                  have o_54 : (bif false then 5 - k else 0) < n_133 := by first | exact Nat.lt_of_lt_of_le (show 5 - (k + 1) < 5 - k by omega) (Nat.le_of_lt_succ hn_133) | exact Nat.lt_of_lt_of_le (show 0 < 5 - k by omega) (Nat.le_of_lt_succ hn_133)
                                  exact ih_133 false k ra2_46 qkX qtX o_51 o_52 o_53 o_54 _ _ hP hD hS ls (lv_sub hl [0, 1, 2, 3] rfl)
                      have o_55 : 0 ≤ 4 := by omega
                      have o_56 : true = true → a = aLa (cdT zs fr nn) + 3 * 0 ∧ a ≤ nn ∧ (∀ j, j < 0 → pLa (cdT zs fr nn) j = true) ∧ (∀ j, j < 0 → qk j = nI (kdOf ((cdT zs fr nn) (aLa (cdT zs fr nn) + 3 * j + 1)))) ∧ ∀ j, j < 0 → qt j = nI (dv (cdT zs fr nn) (aLa (cdT zs fr nn) + 3 * j + 2)) := by exact fun _ => ⟨by omega, haln, fun j hj => by omega, fun j hj => by omega, fun j hj => by omega⟩
                      have o_57 : true = false → rdT (cdT zs fr nn) nn = (false, a) := by intro z; cases z
                      have o_58 : (bif true then 5 - 0 else 0) < 6 := by exact (show 5 - 0 < 6 by omega)
                      exact L_133 6 true 0 a qk qt o_55 o_56 o_57 o_58 _ _ hP hD hS ls (lv_sub hl [0, 1, 2, 3] rfl)
                    · skip
                      have hc59 : 0 < s → (cdT zs fr nn) a = nI 59 := fun _ => c_23
                      refine lv_aload_n hx hb dX10_readsCoast_123 rfl (lv_at hl 1 rfl) ?_
                      refine lv_iload_n hx hb dX10_readsCoast_124 rfl (lv_at hl 2 rfl) ?_
                      refine lv_iload_n hx hb dX10_readsCoast_125 rfl (lv_at hl 3 rfl) ?_
                      have o_59 : fr + nn ≤ 240 := by omega
                      have o_60 : s ≤ 4 := by exact hsle
                      have o_61 : a ≤ 390 := by have := hs1v.2.1; omega
                      have hF := va_free (wc := [(m0, .inr (9, [.int i0, .ref a1, .int i2, .ref a3, .int i4, .ref a5, .ref a6, .ref a7, .int i8, .int i9, .int (nI a), .int (nI s), .int (nI 0), .ref a13, .ref a14, .ref a15, .ref a16, .int i17, .ref a18, .ref a19, .ref a20, .ref a21, .ref a22, .ref a23, .ref a24, .ref a25, .int i26, .ref a27, .ref a28, .ref a29, .ref a30, .ref a31, .ref a32, .ref a33, .ref a34, .int i35])), (a14, .inl (cI, 4, .inl qhX)), (a33, .inl (cI, 240, .inl zs))]) hD hS hA [0, 2, 5] rfl
                      refine va_calli (va_runV (As := [.int (nI fr), .int (nI nn)]) (rest := []) ⟨hx, hb, hml, hown, hts⟩ (c_X10_readsSpot lL D cI cS _ m0 a1 a3 a5 a6 a7 a13 a14 a15 a16 a18 a19 a20 a21 a22 a23 a24 a25 a27 a28 a29 a30 a31 a32 a33 a34 i0 i2 i4 i8 i9 (nI 0) i17 i26 i35 qhX zs fr nn a s o_59 o_60 o_61) (cwV 2 hts gX10_readsCoast_X10_readsSpot rfl rfl rfl cd_X10_readsSpot ⟨Nat.le_of_ble_eq_true rfl, Nat.le_of_ble_eq_true rfl⟩) ⟨kB_blind, va_recv hK hP (ci := 9) (q0 := 0) rfl rfl, fun U hU hW => ⟨rfl, by rw [hU], by rw [hU]; exact hP.sub [0, 2, 5] rfl, va_K.moved hW.alike hK, (hD.sub [0, 2, 5] (by decide) rfl).weaken (fun _ _ _ _ => trivial)⟩⟩ rfl rfl hl.1 rfl (lv_room (Nat.le_of_ble_eq_true rfl)) dX10_readsCoast_126 ⟨Nat.le_of_ble_eq_true rfl, Nat.le_of_ble_eq_true rfl⟩) hS (fun q _ h => hF q h) hF (fun r_62 u_62 t H1 locs ht hvm hw_62 hB hz1 hk1 hS => ?_)
                      obtain ⟨ra2_62, rs2_62, qh2_62⟩ := u_62
                      obtain ⟨hP, hD⟩ := kk_join2 (wc := [(m0, .inr (9, [.int i0, .ref a1, .int i2, .ref a3, .int i4, .ref a5, .ref a6, .ref a7, .int i8, .int i9, .int (nI a), .int (nI s), .int (nI 0), .ref a13, .ref a14, .ref a15, .ref a16, .int i17, .ref a18, .ref a19, .ref a20, .ref a21, .ref a22, .ref a23, .ref a24, .ref a25, .int i26, .ref a27, .ref a28, .ref a29, .ref a30, .ref a31, .ref a32, .ref a33, .ref a34, .int i35])), (a14, .inl (cI, 4, .inl qhX)), (a33, .inl (cI, 240, .inl zs))]) (w1 := [(m0, .inr (9, [.int i0, .ref a1, .int i2, .ref a3, .int i4, .ref a5, .ref a6, .ref a7, .int i8, .int i9, .int (nI ra2_62), .int (nI rs2_62), .int (nI 0), .ref a13, .ref a14, .ref a15, .ref a16, .int i17, .ref a18, .ref a19, .ref a20, .ref a21, .ref a22, .ref a23, .ref a24, .ref a25, .int i26, .ref a27, .ref a28, .ref a29, .ref a30, .ref a31, .ref a32, .ref a33, .ref a34, .int i35])), (a14, .inl (cI, 4, .inl qh2_62)), (a33, .inl (cI, 240, .inl zs))]) (ws' := [(m0, .inr (9, [.int i0, .ref a1, .int i2, .ref a3, .int i4, .ref a5, .ref a6, .ref a7, .int i8, .int i9, .int (nI ra2_62), .int (nI rs2_62), .int (nI 0), .ref a13, .ref a14, .ref a15, .ref a16, .int i17, .ref a18, .ref a19, .ref a20, .ref a21, .ref a22, .ref a23, .ref a24, .ref a25, .int i26, .ref a27, .ref a28, .ref a29, .ref a30, .ref a31, .ref a32, .ref a33, .ref a34, .int i35])), (a13, .inl (cI, 6, .inl qsX)), (a14, .inl (cI, 4, .inl qh2_62)), (a15, .inl (cI, 4, .inl qk)), (a16, .inl (cI, 4, .inl qt)), (a33, .inl (cI, 240, .inl zs))]) (wr := [(a13, .inl (cI, 6, .inl qsX)), (a15, .inl (cI, 4, .inl qk)), (a16, .inl (cI, 4, .inl qt))]) (H1 := H1) hP hD [0, 2, 5] [1, 3, 4] rfl rfl rfl rfl 6 rfl (by decide) [m0, a13, a14, a15, a16, a33] rfl rfl hk1 (by rw [← ht]; exact hB)
                      have hw_62 : (s < 4 ∧ (cdT zs fr nn) a = nI 59 ∧ dg (cdT zs fr nn) (a + 1) 10 = true ∧ r_62 = nI 1 ∧ ra2_62 = a + 2 ∧ rs2_62 = s + 1 ∧ qh2_62 = upd qhX s (nI (dv (cdT zs fr nn) (a + 1)))) ∨ (r_62 = nI 0 ∧ rs2_62 = s ∧ qh2_62 = qhX ∧ ((¬ (s < 4 ∧ (cdT zs fr nn) a = nI 59) ∧ ra2_62 = a) ∨ (s < 4 ∧ (cdT zs fr nn) a = nI 59 ∧ dg (cdT zs fr nn) (a + 1) 10 = false ∧ ra2_62 = a + 1))) := hw_62
                      clear hF hB hk1 hz1 hvm
                      clear ht
                      generalize H1 = H at hP hS ⊢
                      rcases hw_62 with ⟨q1, q2, q3, q4, q5, q6, q7⟩ | ⟨q4, q5, q6, q7⟩
                      · skip
                        have q4 := q4.symm
                        have q5 := q5.symm
                        have q6 := q6.symm
                        have q7 := q7.symm
                        subst q4 q5 q6 q7
                        refine lv_istore_n (lv' := [(3, .int (nI 1)), (0, .ref m0), (1, .int (nI fr)), (2, .int (nI nn))]) hx hb dX10_readsCoast_129 rfl hl (by decide) rfl (fun ls hl => ?_)
                        refine lv_goto (tgt := 101) hx hb dX10_readsCoast_130 (by decide) ?_
                        have o_63 : (s + 1) ≤ 4 := by omega
                        have o_64 : true = true → (a + 2) = 7 + 2 * (s + 1) ∧ (a + 2) ≤ nn ∧ (∀ j, j < (s + 1) → pSp (cdT zs fr nn) j = true) ∧ ∀ j, j < (s + 1) → (upd qhX s (nI (dv (cdT zs fr nn) (a + 1)))) j = nI (dv (cdT zs fr nn) (8 + 2 * j)) := by
                          intro _
                          obtain ⟨w1, w2, w3, w4⟩ := hs1v
                          have hlt := dg_lt q3
                          refine ⟨by omega, by omega, fun j hj => ?_, fun j hj => ?_⟩
                          · by_cases e : j = s
                            · subst e
                              exact pSp_t (by rw [w1] at q2; exact q2) (by rw [w1, show 7 + 2 * j + 1 = 8 + 2 * j by omega] at q3; exact q3)
                            · exact w3 j (by omega)
                          · by_cases e : j = s
                            · subst e
                              rw [up_at, w1, show 7 + 2 * j + 1 = 8 + 2 * j by omega]
                            · rw [up_ne _ _ e]; exact w4 j (by omega)
                        have o_65 : true = false → rdT (cdT zs fr nn) nn = (false, (a + 2)) := by intro z; cases z
                        have o_66 : (bif true then 5 - (s + 1) else 0) < n_101 := by first | exact Nat.lt_of_lt_of_le (show 5 - (s + 1) < 5 - s by omega) (Nat.le_of_lt_succ hn_101) | exact Nat.lt_of_lt_of_le (show 0 < 5 - s by omega) (Nat.le_of_lt_succ hn_101)
                        exact ih_101 true (s + 1) (a + 2) (upd qhX s (nI (dv (cdT zs fr nn) (a + 1)))) o_63 o_64 o_65 o_66 _ _ hP hD hS ls (lv_sub hl [0, 1, 2, 3] rfl)
                      · skip
                        have q4 := q4.symm
                        have q5 := q5.symm
                        have q6 := q6.symm
                        subst q4 q5 q6
                        refine lv_istore_n (lv' := [(3, .int (nI 0)), (0, .ref m0), (1, .int (nI fr)), (2, .int (nI nn))]) hx hb dX10_readsCoast_129 rfl hl (by decide) rfl (fun ls hl => ?_)
                        refine lv_goto (tgt := 101) hx hb dX10_readsCoast_130 (by decide) ?_
                        have o_67 : s ≤ 4 := by omega
                        have o_68 : false = true → ra2_62 = 7 + 2 * s ∧ ra2_62 ≤ nn ∧ (∀ j, j < s → pSp (cdT zs fr nn) j = true) ∧ ∀ j, j < s → qhX j = nI (dv (cdT zs fr nn) (8 + 2 * j)) := by intro z; cases z
                        have o_69 : false = false → rdT (cdT zs fr nn) nn = (false, ra2_62) := by
                          intro _
                          obtain ⟨w1, w2, w3, w4⟩ := hs1v
                          rcases q7 with ⟨q8, q9⟩ | ⟨q8, q9, q10, q11⟩
                          · subst q9
                            rcases Nat.eq_zero_or_pos s with e0 | e0
                            · subst e0
                              rw [w1]
                              exact rdT_sp0 hsky (fun z => q8 ⟨by omega, by rw [w1]; exact z⟩)
                            · have e4 : s = 4 := by
                                refine Classical.byContradiction fun z => q8 ⟨by omega, hc59 (by omega)⟩
                              subst e4
                              obtain ⟨o1, o2⟩ := oSp_of hsky (s := 4) (by omega) (by omega) w3 (Or.inl rfl)
                              rw [rdT_la0 o2 (by rw [aLa, o1]; rw [w1] at hc59; rw [hc59 (by omega)]; decide +kernel), aLa, o1, w1]
                          · subst q11
                            rw [rdT_sp1 hsky q8 w3 (by rw [w1] at q9; exact q9) (by rw [w1, show 7 + 2 * s + 1 = 8 + 2 * s by omega] at q10; exact q10), w1, show 7 + 2 * s + 1 = 8 + 2 * s by omega]
                        have o_70 : (bif false then 5 - s else 0) < n_101 := by first | exact Nat.lt_of_lt_of_le (show 5 - (s + 1) < 5 - s by omega) (Nat.le_of_lt_succ hn_101) | exact Nat.lt_of_lt_of_le (show 0 < 5 - s by omega) (Nat.le_of_lt_succ hn_101)
                        exact ih_101 false s ra2_62 qhX o_67 o_68 o_69 o_70 _ _ hP hD hS ls (lv_sub hl [0, 1, 2, 3] rfl)
            have o_71 : 0 ≤ 4 := by omega
            have o_72 : true = true → a = 7 + 2 * 0 ∧ a ≤ nn ∧ (∀ j, j < 0 → pSp (cdT zs fr nn) j = true) ∧ ∀ j, j < 0 → qh j = nI (dv (cdT zs fr nn) (8 + 2 * j)) := by exact fun _ => ⟨by have := hw.1; omega, hw.2.1, fun j hj => by omega, fun j hj => by omega⟩
            have o_73 : true = false → rdT (cdT zs fr nn) nn = (false, a) := by intro z; cases z
            have o_74 : (bif true then 5 - 0 else 0) < 6 := by exact (show 5 - 0 < 6 by omega)
            exact L_101 6 true 0 a qh o_71 o_72 o_73 o_74 _ _ hP hD hS ls (lv_sub hl [1, 2, 3, 4] rfl)
          · skip
            subst hbt
            have hl : lv_has ls 5 [(4, .int (nI k)), (3, .int (nI 0)), (0, .ref m0), (1, .int (nI fr)), (2, .int (nI nn))] := hl
            have hfail := hw0 rfl
            refine lv_iload_n hx hb dX10_readsCoast_101 rfl (lv_at hl 1 rfl) ?_
            refine kk_if_eq (x := 0) (tgt := 133) hx hb dX10_readsCoast_102 (by decide) (by decide) (fun h => ?_) (fun h => absurd h (by decide))
            refine lv_iload_n hx hb dX10_readsCoast_133 rfl (lv_at hl 1 rfl) ?_
            refine kk_if_eq (x := 0) (tgt := 162) hx hb dX10_readsCoast_134 (by decide) (by decide) (fun h => ?_) (fun h => absurd h (by decide))
            refine lv_iload_n hx hb dX10_readsCoast_162 rfl (lv_at hl 1 rfl) ?_
            have hq : (nI 0) = kb (rdT (cdT zs fr nn) nn).1 ∧ a = (rdT (cdT zs fr nn) nn).2 ∧ ((rdT (cdT zs fr nn) nn).1 = true → 0 = rSp (cdT zs fr nn) ∧ 0 = rLa (cdT zs fr nn) ∧ (∀ j, j < 6 → qsX j = nI (dv (cdT zs fr nn) (1 + j))) ∧ (∀ j, j < rSp (cdT zs fr nn) → qh j = nI (dv (cdT zs fr nn) (8 + 2 * j))) ∧ (∀ j, j < rLa (cdT zs fr nn) → qk j = nI (kdOf ((cdT zs fr nn) (aLa (cdT zs fr nn) + 3 * j + 1)))) ∧ ∀ j, j < rLa (cdT zs fr nn) → qt j = nI (dv (cdT zs fr nn) (aLa (cdT zs fr nn) + 3 * j + 2))) := by exact rdT_no hfail
            refine kk_QQ hQQ ?_
            exact W.zret (v := nI 0) (ty := .boolean) hx hb hr (by decide +kernel) (fun t ht hW => ⟨⟨nI 0, (a, 0, 0, qsX, qh, qk, qt), rfl, hq, by show va_P D vwCl _ t.heap; rw [ht]; exact hP⟩, hS.F ht⟩) hS.2.2 dX10_readsCoast_163
        · skip
          refine lv_iload_n hx hb dX10_readsCoast_60 rfl (lv_at hl 1 rfl) ?_
          -- if b
          refine kk_ifb_eq (tgt := 101) hx hb dX10_readsCoast_61 (by decide) (fun hb_75 => ?_) (fun hb_75 => ?_)
          · skip
            subst hb_75
            have hl : lv_has ls 5 [(4, .int (nI k)), (3, .int (nI 0)), (0, .ref m0), (1, .int (nI fr)), (2, .int (nI nn))] := hl
            have hfail := hw0 rfl
            refine lv_iload_n hx hb dX10_readsCoast_101 rfl (lv_at hl 1 rfl) ?_
            refine kk_if_eq (x := 0) (tgt := 133) hx hb dX10_readsCoast_102 (by decide) (by decide) (fun h => ?_) (fun h => absurd h (by decide))
            refine lv_iload_n hx hb dX10_readsCoast_133 rfl (lv_at hl 1 rfl) ?_
            refine kk_if_eq (x := 0) (tgt := 162) hx hb dX10_readsCoast_134 (by decide) (by decide) (fun h => ?_) (fun h => absurd h (by decide))
            refine lv_iload_n hx hb dX10_readsCoast_162 rfl (lv_at hl 1 rfl) ?_
            have hq : (nI 0) = kb (rdT (cdT zs fr nn) nn).1 ∧ a = (rdT (cdT zs fr nn) nn).2 ∧ ((rdT (cdT zs fr nn) nn).1 = true → 0 = rSp (cdT zs fr nn) ∧ 0 = rLa (cdT zs fr nn) ∧ (∀ j, j < 6 → qsX j = nI (dv (cdT zs fr nn) (1 + j))) ∧ (∀ j, j < rSp (cdT zs fr nn) → qh j = nI (dv (cdT zs fr nn) (8 + 2 * j))) ∧ (∀ j, j < rLa (cdT zs fr nn) → qk j = nI (kdOf ((cdT zs fr nn) (aLa (cdT zs fr nn) + 3 * j + 1)))) ∧ ∀ j, j < rLa (cdT zs fr nn) → qt j = nI (dv (cdT zs fr nn) (aLa (cdT zs fr nn) + 3 * j + 2))) := by exact rdT_no hfail
            refine kk_QQ hQQ ?_
            exact W.zret (v := nI 0) (ty := .boolean) hx hb hr (by decide +kernel) (fun t ht hW => ⟨⟨nI 0, (a, 0, 0, qsX, qh, qk, qt), rfl, hq, by show va_P D vwCl _ t.heap; rw [ht]; exact hP⟩, hS.F ht⟩) hS.2.2 dX10_readsCoast_163
          · skip
            subst hb_75
            have hl : lv_has ls 5 [(4, .int (nI k)), (3, .int (nI 1)), (0, .ref m0), (1, .int (nI fr)), (2, .int (nI nn))] := hl
            have hw := hw1 rfl
            refine lv_aload_n hx hb dX10_readsCoast_64 rfl (lv_at hl 2 rfl) ?_
            refine va_get (D := D) (ci := 9) (v := .ref a13) (C := RX10) (T := TX10) (N := 36) hx hb hts hwX10 hown hK hP 0 rfl rfl 13 (by decide) hf_25 (fun _ h9 => h9) rfl dX10_readsCoast_65 ?_
            refine lv_iload hx hb dX10_readsCoast_68 (lv_at hl 0 rfl) ?_
            refine lv_aload_n hx hb dX10_readsCoast_70 rfl (lv_at hl 2 rfl) ?_
            refine lv_iload_n hx hb dX10_readsCoast_71 rfl (lv_at hl 3 rfl) ?_
            refine lv_iload_n hx hb dX10_readsCoast_72 rfl (lv_at hl 4 rfl) ?_
            refine lv_bipush (v := nI 9) hx hb dX10_readsCoast_73 (by decide +kernel) ?_
            have o_76 : fr + nn ≤ 240 := by omega
            have o_77 : 9 ≤ 9 := by omega
            have o_78 : a ≤ 400 := by have := hw.2.1; omega
            have hF := va_free (wc := [(m0, .inr (9, [.int i0, .ref a1, .int i2, .ref a3, .int i4, .ref a5, .ref a6, .ref a7, .int i8, .int i9, .int (nI a), .int (nI 0), .int (nI 0), .ref a13, .ref a14, .ref a15, .ref a16, .int i17, .ref a18, .ref a19, .ref a20, .ref a21, .ref a22, .ref a23, .ref a24, .ref a25, .int i26, .ref a27, .ref a28, .ref a29, .ref a30, .ref a31, .ref a32, .ref a33, .ref a34, .int i35])), (a33, .inl (cI, 240, .inl zs))]) hD hS hA [0, 5] rfl
            refine va_calli (va_runV (As := [.int (nI fr), .int (nI nn), .int (nI 9)]) (rest := [.int (nI k), .ref a13]) ⟨hx, hb, hml, hown, hts⟩ (c_X10_figure lL D cI cS _ m0 a1 a3 a5 a6 a7 a13 a14 a15 a16 a18 a19 a20 a21 a22 a23 a24 a25 a27 a28 a29 a30 a31 a32 a33 a34 i0 i2 i4 i8 i9 (nI 0) (nI 0) i17 i26 i35 zs fr nn 9 a o_76 o_77 o_78) (cwV 3 hts gX10_readsCoast_X10_figure rfl rfl rfl cd_X10_figure ⟨Nat.le_of_ble_eq_true rfl, Nat.le_of_ble_eq_true rfl⟩) ⟨kB_blind, va_recv hK hP (ci := 9) (q0 := 0) rfl rfl, fun U hU hW => ⟨rfl, by rw [hU], by rw [hU]; exact hP.sub [0, 5] rfl, va_K.moved hW.alike hK, (hD.sub [0, 5] (by decide) rfl).weaken (fun _ _ _ _ => trivial)⟩⟩ rfl rfl hl.1 rfl (lv_room (Nat.le_of_ble_eq_true rfl)) dX10_readsCoast_75 ⟨Nat.le_of_ble_eq_true rfl, Nat.le_of_ble_eq_true rfl⟩) hS (fun q _ h => hF q h) hF (fun r_79 u_79 t H1 locs ht hvm hw_79 hB hz1 hk1 hS => ?_)
            obtain ⟨hP, hD⟩ := kk_join2 (wc := [(m0, .inr (9, [.int i0, .ref a1, .int i2, .ref a3, .int i4, .ref a5, .ref a6, .ref a7, .int i8, .int i9, .int (nI a), .int (nI 0), .int (nI 0), .ref a13, .ref a14, .ref a15, .ref a16, .int i17, .ref a18, .ref a19, .ref a20, .ref a21, .ref a22, .ref a23, .ref a24, .ref a25, .int i26, .ref a27, .ref a28, .ref a29, .ref a30, .ref a31, .ref a32, .ref a33, .ref a34, .int i35])), (a33, .inl (cI, 240, .inl zs))]) (w1 := [(m0, .inr (9, [.int i0, .ref a1, .int i2, .ref a3, .int i4, .ref a5, .ref a6, .ref a7, .int i8, .int i9, .int (nI u_79), .int (nI 0), .int (nI 0), .ref a13, .ref a14, .ref a15, .ref a16, .int i17, .ref a18, .ref a19, .ref a20, .ref a21, .ref a22, .ref a23, .ref a24, .ref a25, .int i26, .ref a27, .ref a28, .ref a29, .ref a30, .ref a31, .ref a32, .ref a33, .ref a34, .int i35])), (a33, .inl (cI, 240, .inl zs))]) (ws' := [(m0, .inr (9, [.int i0, .ref a1, .int i2, .ref a3, .int i4, .ref a5, .ref a6, .ref a7, .int i8, .int i9, .int (nI u_79), .int (nI 0), .int (nI 0), .ref a13, .ref a14, .ref a15, .ref a16, .int i17, .ref a18, .ref a19, .ref a20, .ref a21, .ref a22, .ref a23, .ref a24, .ref a25, .int i26, .ref a27, .ref a28, .ref a29, .ref a30, .ref a31, .ref a32, .ref a33, .ref a34, .int i35])), (a13, .inl (cI, 6, .inl qsX)), (a14, .inl (cI, 4, .inl qh)), (a15, .inl (cI, 4, .inl qk)), (a16, .inl (cI, 4, .inl qt)), (a33, .inl (cI, 240, .inl zs))]) (wr := [(a13, .inl (cI, 6, .inl qsX)), (a14, .inl (cI, 4, .inl qh)), (a15, .inl (cI, 4, .inl qk)), (a16, .inl (cI, 4, .inl qt))]) (H1 := H1) hP hD [0, 5] [1, 2, 3, 4] rfl rfl rfl rfl 6 rfl (by decide) [m0, a13, a14, a15, a16, a33] rfl rfl hk1 (by rw [← ht]; exact hB)
            have hw_79 : (dg (cdT zs fr nn) a (9 + 1) = true ∧ r_79 = nI (dv (cdT zs fr nn) a) ∧ u_79 = a + 1) ∨ (dg (cdT zs fr nn) a (9 + 1) = false ∧ r_79 = (-9) ∧ u_79 = a) := hw_79
            clear hF hB hk1 hz1 hvm
            clear ht
            generalize H1 = H at hP hS ⊢
            rcases hw_79 with ⟨q1, q2, q3⟩ | ⟨q1, q2, q3⟩
            · skip
              have q2 := q2.symm
              have q3 := q3.symm
              subst q2 q3
              have qd := (dg_t q1).1
              refine kk_iast hx hb hK hP hD hS 1 rfl rfl (i := k) (by omega) (by decide) dX10_readsCoast_78 (fun H locs hP hD hS => ?_)
              have hP : va_P D vwCl [(m0, .inr (9, [.int i0, .ref a1, .int i2, .ref a3, .int i4, .ref a5, .ref a6, .ref a7, .int i8, .int i9, .int (nI (a + 1)), .int (nI 0), .int (nI 0), .ref a13, .ref a14, .ref a15, .ref a16, .int i17, .ref a18, .ref a19, .ref a20, .ref a21, .ref a22, .ref a23, .ref a24, .ref a25, .int i26, .ref a27, .ref a28, .ref a29, .ref a30, .ref a31, .ref a32, .ref a33, .ref a34, .int i35])), (a13, .inl (cI, 6, .inl (upd qsX k (nI (dv (cdT zs fr nn) a))))), (a14, .inl (cI, 4, .inl qh)), (a15, .inl (cI, 4, .inl qk)), (a16, .inl (cI, 4, .inl qt)), (a33, .inl (cI, 240, .inl zs))] H := hP
              have hD : va_D A [(m0, .inr (9, [.int i0, .ref a1, .int i2, .ref a3, .int i4, .ref a5, .ref a6, .ref a7, .int i8, .int i9, .int (nI (a + 1)), .int (nI 0), .int (nI 0), .ref a13, .ref a14, .ref a15, .ref a16, .int i17, .ref a18, .ref a19, .ref a20, .ref a21, .ref a22, .ref a23, .ref a24, .ref a25, .int i26, .ref a27, .ref a28, .ref a29, .ref a30, .ref a31, .ref a32, .ref a33, .ref a34, .int i35])), (a13, .inl (cI, 6, .inl (upd qsX k (nI (dv (cdT zs fr nn) a))))), (a14, .inl (cI, 4, .inl qh)), (a15, .inl (cI, 4, .inl qk)), (a16, .inl (cI, 4, .inl qt)), (a33, .inl (cI, 240, .inl zs))] := hD
              refine lv_aload_n hx hb dX10_readsCoast_79 rfl (lv_at hl 2 rfl) ?_
              refine va_get (D := D) (ci := 9) (v := .ref a13) (C := RX10) (T := TX10) (N := 36) hx hb hts hwX10 hown hK hP 0 rfl rfl 13 (by decide) hf_25 (fun _ h9 => h9) rfl dX10_readsCoast_80 ?_
              refine lv_iload hx hb dX10_readsCoast_83 (lv_at hl 0 rfl) ?_
              refine kk_iald hx hb hK hP 1 rfl rfl (i := k) (by omega) (by decide) dX10_readsCoast_85 ?_
              refine kk_top (y := nI (dv (cdT zs fr nn) a)) (up_at _ _ _) ?_
              refine kk_if_lt (tgt := 93) hx hb dX10_readsCoast_86 (by omega) (by decide) ?_
              refine lv_iconst (v := nI 1) hx hb dX10_readsCoast_89 (by decide +kernel) ?_
              refine lv_goto (tgt := 94) hx hb dX10_readsCoast_90 (by decide) ?_
              refine lv_istore_n (lv' := [(3, .int (nI 1)), (4, .int (nI k)), (0, .ref m0), (1, .int (nI fr)), (2, .int (nI nn))]) hx hb dX10_readsCoast_94 rfl hl (by decide) rfl (fun ls hl => ?_)
              refine lv_iinc (v := nI (k + 1)) (lv' := [(4, .int (nI (k + 1))), (3, .int (nI 1)), (0, .ref m0), (1, .int (nI fr)), (2, .int (nI nn))]) hx hb dX10_readsCoast_95 hl (k := 1) rfl (nI_add k 1) (by decide) rfl (fun ls hl => ?_)
              refine lv_goto (tgt := 53) hx hb dX10_readsCoast_98 (by decide) ?_
              have o_80 : (k + 1) ≤ 6 := by omega
              have o_81 : true = true → (a + 1) = 1 + (k + 1) ∧ (a + 1) ≤ nn ∧ (∀ j, j < (k + 1) → dg (cdT zs fr nn) (1 + j) 10 = true) ∧ ∀ j, j < (k + 1) → (upd qsX k (nI (dv (cdT zs fr nn) a))) j = nI (dv (cdT zs fr nn) (1 + j)) := by
                intro _
                exact sky_up hw.1 (dg_lt q1) hw.2.2.1 hw.2.2.2 (dg_10 q1 rfl)
              have o_82 : true = false → rdT (cdT zs fr nn) nn = (false, (a + 1)) := by intro z; cases z
              have o_83 : 7 ≤ (k + 1) + n_53 := by omega
              exact ih_53 (k + 1) true (a + 1) (upd qsX k (nI (dv (cdT zs fr nn) a))) o_80 o_81 o_82 o_83 _ _ hP hD hS ls (lv_sub hl [0, 1, 2, 3, 4] rfl)
            · skip
              have q2 := q2.symm
              have q3 := q3.symm
              subst q2 q3
              refine kk_iast hx hb hK hP hD hS 1 rfl rfl (i := k) (by omega) (by decide) dX10_readsCoast_78 (fun H locs hP hD hS => ?_)
              have hP : va_P D vwCl [(m0, .inr (9, [.int i0, .ref a1, .int i2, .ref a3, .int i4, .ref a5, .ref a6, .ref a7, .int i8, .int i9, .int (nI (a)), .int (nI 0), .int (nI 0), .ref a13, .ref a14, .ref a15, .ref a16, .int i17, .ref a18, .ref a19, .ref a20, .ref a21, .ref a22, .ref a23, .ref a24, .ref a25, .int i26, .ref a27, .ref a28, .ref a29, .ref a30, .ref a31, .ref a32, .ref a33, .ref a34, .int i35])), (a13, .inl (cI, 6, .inl (upd qsX k (-9 : Int32)))), (a14, .inl (cI, 4, .inl qh)), (a15, .inl (cI, 4, .inl qk)), (a16, .inl (cI, 4, .inl qt)), (a33, .inl (cI, 240, .inl zs))] H := hP
              have hD : va_D A [(m0, .inr (9, [.int i0, .ref a1, .int i2, .ref a3, .int i4, .ref a5, .ref a6, .ref a7, .int i8, .int i9, .int (nI (a)), .int (nI 0), .int (nI 0), .ref a13, .ref a14, .ref a15, .ref a16, .int i17, .ref a18, .ref a19, .ref a20, .ref a21, .ref a22, .ref a23, .ref a24, .ref a25, .int i26, .ref a27, .ref a28, .ref a29, .ref a30, .ref a31, .ref a32, .ref a33, .ref a34, .int i35])), (a13, .inl (cI, 6, .inl (upd qsX k (-9 : Int32)))), (a14, .inl (cI, 4, .inl qh)), (a15, .inl (cI, 4, .inl qk)), (a16, .inl (cI, 4, .inl qt)), (a33, .inl (cI, 240, .inl zs))] := hD
              refine lv_aload_n hx hb dX10_readsCoast_79 rfl (lv_at hl 2 rfl) ?_
              refine va_get (D := D) (ci := 9) (v := .ref a13) (C := RX10) (T := TX10) (N := 36) hx hb hts hwX10 hown hK hP 0 rfl rfl 13 (by decide) hf_25 (fun _ h9 => h9) rfl dX10_readsCoast_80 ?_
              refine lv_iload hx hb dX10_readsCoast_83 (lv_at hl 0 rfl) ?_
              refine kk_iald hx hb hK hP 1 rfl rfl (i := k) (by omega) (by decide) dX10_readsCoast_85 ?_
              refine kk_top (y := (-9 : Int32)) (up_at _ _ _) ?_
              refine lv_if_lt (tgt := 93) hx hb dX10_readsCoast_86 (by decide) (fun h => ?_) (fun h => absurd (by decide) h)
              refine lv_iconst (v := nI 0) hx hb dX10_readsCoast_93 (by decide +kernel) ?_
              refine lv_istore_n (lv' := [(3, .int (nI 0)), (4, .int (nI k)), (0, .ref m0), (1, .int (nI fr)), (2, .int (nI nn))]) hx hb dX10_readsCoast_94 rfl hl (by decide) rfl (fun ls hl => ?_)
              refine lv_iinc (v := nI (k + 1)) (lv' := [(4, .int (nI (k + 1))), (3, .int (nI 0)), (0, .ref m0), (1, .int (nI fr)), (2, .int (nI nn))]) hx hb dX10_readsCoast_95 hl (k := 1) rfl (nI_add k 1) (by decide) rfl (fun ls hl => ?_)
              refine lv_goto (tgt := 53) hx hb dX10_readsCoast_98 (by decide) ?_
              have o_84 : (k + 1) ≤ 6 := by omega
              have o_85 : false = true → (a) = 1 + (k + 1) ∧ (a) ≤ nn ∧ (∀ j, j < (k + 1) → dg (cdT zs fr nn) (1 + j) 10 = true) ∧ ∀ j, j < (k + 1) → (upd qsX k (-9 : Int32)) j = nI (dv (cdT zs fr nn) (1 + j)) := by intro z; cases z
              have o_86 : false = false → rdT (cdT zs fr nn) nn = (false, (a)) := by
                intro _
                exact sky_no c_4 (by omega) hw.1 hw.2.2.1 (dg_10 q1 rfl)
              have o_87 : 7 ≤ (k + 1) + n_53 := by omega
              exact ih_53 (k + 1) false (a) (upd qsX k (-9 : Int32)) o_84 o_85 o_86 o_87 _ _ hP hD hS ls (lv_sub hl [0, 1, 2, 3, 4] rfl)
    have o_88 : 0 ≤ 6 := by omega
    have o_89 : true = true → (0 + 1) = 1 + 0 ∧ (0 + 1) ≤ nn ∧ (∀ j, j < 0 → dg (cdT zs fr nn) (1 + j) 10 = true) ∧ ∀ j, j < 0 → qs j = nI (dv (cdT zs fr nn) (1 + j)) := by exact fun _ => ⟨rfl, by have := cd_lt (by decide) c_4; omega, fun j hj => by omega, fun j hj => by omega⟩
    have o_90 : true = false → rdT (cdT zs fr nn) nn = (false, (0 + 1)) := by intro z; cases z
    have o_91 : 7 ≤ 0 + 7 := by omega
    exact L_53 7 0 true (0 + 1) qs o_88 o_89 o_90 o_91 _ _ hP hD hS ls (lv_sub hl [0, 1, 2, 3, 4] rfl)
