abbrev rmX10_readsLamp : Room := { frames := 2, cells := 0, slots := 0, locals := 50 }
set_option maxHeartbeats 4000000 in
set_option maxRecDepth 100000 in
theorem c_X10_readsLamp (lL : Launch) (D : va_G) (cI cS : ClassId) (sz : Nat) (m0 : Nat) (a1 : Nat) (a3 : Nat) (a5 : Nat) (a6 : Nat) (a7 : Nat) (a13 : Nat) (a14 : Nat) (a15 : Nat) (a16 : Nat) (a18 : Nat) (a19 : Nat) (a20 : Nat) (a21 : Nat) (a22 : Nat) (a23 : Nat) (a24 : Nat) (a25 : Nat) (a27 : Nat) (a28 : Nat) (a29 : Nat) (a30 : Nat) (a31 : Nat) (a32 : Nat) (a33 : Nat) (a34 : Nat) (i0 : Int32) (i2 : Int32) (i4 : Int32) (i8 : Int32) (i9 : Int32) (i17 : Int32) (i26 : Int32) (i35 : Int32) (qk : Nat → Int32) (qt : Nat → Int32) (zs : Nat → Int32) (fr : Nat) (nn : Nat) (ra : Nat) (rs : Nat) (rq : Nat) (hfn : fr + nn ≤ 240) (hrs : rs ≤ 4) (hrs0 : 0 < rs) (hrq : rq ≤ 4) (hra9 : ra ≤ 390) : Met lL yX10_readsLamp wsX10_readsLamp rmX10_readsLamp (va_Pc [.ref m0, .int (nI fr), .int (nI nn)] (kB D cI cS [(m0, .inr (9, [.int i0, .ref a1, .int i2, .ref a3, .int i4, .ref a5, .ref a6, .ref a7, .int i8, .int i9, .int (nI ra), .int (nI rs), .int (nI rq), .ref a13, .ref a14, .ref a15, .ref a16, .int i17, .ref a18, .ref a19, .ref a20, .ref a21, .ref a22, .ref a23, .ref a24, .ref a25, .int i26, .ref a27, .ref a28, .ref a29, .ref a30, .ref a31, .ref a32, .ref a33, .ref a34, .int i35])), (a15, .inl (cI, 4, .inl qk)), (a16, .inl (cI, 4, .inl qt)), (a33, .inl (cI, 240, .inl zs))] sz)) (kQi D (fun (r : Int32) (u : Nat × Nat × (Nat → Int32) × (Nat → Int32)) => (rq < 4 ∧ (cdT zs fr nn) ra = nI 44 ∧ isK ((cdT zs fr nn) (ra + 1)) = true ∧ dg (cdT zs fr nn) (ra + 2) rs = true ∧ r = nI 1 ∧ u.1 = ra + 3 ∧ u.2.1 = rq + 1 ∧ u.2.2.1 = upd qk rq (nI (kdOf ((cdT zs fr nn) (ra + 1)))) ∧ u.2.2.2 = upd qt rq (nI (dv (cdT zs fr nn) (ra + 2)))) ∨ (r = nI 0 ∧ u.2.1 = rq ∧ u.2.2.1 = qk ∧ u.2.2.2 = qt ∧ ((¬ (rq < 4 ∧ (cdT zs fr nn) ra = nI 44) ∧ u.1 = ra) ∨ (rq < 4 ∧ (cdT zs fr nn) ra = nI 44 ∧ isK ((cdT zs fr nn) (ra + 1)) = false ∧ u.1 = ra + 1) ∨ (rq < 4 ∧ (cdT zs fr nn) ra = nI 44 ∧ isK ((cdT zs fr nn) (ra + 1)) = true ∧ dg (cdT zs fr nn) (ra + 2) rs = false ∧ u.1 = ra + 2)))) (fun u : Nat × Nat × (Nat → Int32) × (Nat → Int32) => [(m0, .inr (9, [.int i0, .ref a1, .int i2, .ref a3, .int i4, .ref a5, .ref a6, .ref a7, .int i8, .int i9, .int (nI u.1), .int (nI rs), .int (nI u.2.1), .ref a13, .ref a14, .ref a15, .ref a16, .int i17, .ref a18, .ref a19, .ref a20, .ref a21, .ref a22, .ref a23, .ref a24, .ref a25, .int i26, .ref a27, .ref a28, .ref a29, .ref a30, .ref a31, .ref a32, .ref a33, .ref a34, .int i35])), (a15, .inl (cI, 4, .inl u.2.2.1)), (a16, .inl (cI, 4, .inl u.2.2.2)), (a33, .inl (cI, 240, .inl zs))]) (va_A [(m0, .inr (9, [.int i0, .ref a1, .int i2, .ref a3, .int i4, .ref a5, .ref a6, .ref a7, .int i8, .int i9, .int (nI ra), .int (nI rs), .int (nI rq), .ref a13, .ref a14, .ref a15, .ref a16, .int i17, .ref a18, .ref a19, .ref a20, .ref a21, .ref a22, .ref a23, .ref a24, .ref a25, .int i26, .ref a27, .ref a28, .ref a29, .ref a30, .ref a31, .ref a32, .ref a33, .ref a34, .int i35])), (a15, .inl (cI, 4, .inl qk)), (a16, .inl (cI, 4, .inl qt)), (a33, .inl (cI, 240, .inl zs))] sz)) 0 0 (va_A [(m0, .inr (9, [.int i0, .ref a1, .int i2, .ref a3, .int i4, .ref a5, .ref a6, .ref a7, .int i8, .int i9, .int (nI ra), .int (nI rs), .int (nI rq), .ref a13, .ref a14, .ref a15, .ref a16, .int i17, .ref a18, .ref a19, .ref a20, .ref a21, .ref a22, .ref a23, .ref a24, .ref a25, .int i26, .ref a27, .ref a28, .ref a29, .ref a30, .ref a31, .ref a32, .ref a33, .ref a34, .int i35])), (a15, .inl (cI, 4, .inl qk)), (a16, .inl (cI, 4, .inl qt)), (a33, .inl (cI, 240, .inl zs))] sz) := by
  refine Met.ofW (cc := cX10_readsLamp) (maxL := 5) (ret := (some .boolean)) (by decide) rfl ?_
  intro pP eE sS mM args below meth cC s₁ B hml hv
  obtain ⟨rfl, hsz, hP, hK, hD0⟩ := hv
  have hx := B.exec
  have hb := B.bytes
  have hr := B.returns
  have hts := atoms_spec (ws := wsX10_readsLamp) B.pre
  have hown : sS.vm.findClass RX10 = some mM.cls := findClass_of_methodNamed B.named
  have hlocks := B.notSynchronized
  subst hsz
  have hD := hD0.self (sz := sS.heap.size)
  generalize hAe : va_A [(m0, .inr (9, [.int i0, .ref a1, .int i2, .ref a3, .int i4, .ref a5, .ref a6, .ref a7, .int i8, .int i9, .int (nI ra), .int (nI rs), .int (nI rq), .ref a13, .ref a14, .ref a15, .ref a16, .int i17, .ref a18, .ref a19, .ref a20, .ref a21, .ref a22, .ref a23, .ref a24, .ref a25, .int i26, .ref a27, .ref a28, .ref a29, .ref a30, .ref a31, .ref a32, .ref a33, .ref a34, .int i35])), (a15, .inl (cI, 4, .inl qk)), (a16, .inl (cI, 4, .inl qt)), (a33, .inl (cI, 240, .inl zs))] sS.heap.size = A at hD ⊢
  have hA : ∀ q : Nat, sS.heap.size ≤ q → A q := fun q h => by rw [← hAe]; exact Or.inr h
  have hS : va_S A sS.heap sS.heap [] := va_S.rf
  have hP : va_P D vwCl [(m0, .inr (9, [.int i0, .ref a1, .int i2, .ref a3, .int i4, .ref a5, .ref a6, .ref a7, .int i8, .int i9, .int (nI ra), .int (nI rs), .int (nI rq), .ref a13, .ref a14, .ref a15, .ref a16, .int i17, .ref a18, .ref a19, .ref a20, .ref a21, .ref a22, .ref a23, .ref a24, .ref a25, .int i26, .ref a27, .ref a28, .ref a29, .ref a30, .ref a31, .ref a32, .ref a33, .ref a34, .int i35])), (a15, .inl (cI, 4, .inl qk)), (a16, .inl (cI, 4, .inl qt)), (a33, .inl (cI, 240, .inl zs))] sS.heap := hP
  have hD : va_D A [(m0, .inr (9, [.int i0, .ref a1, .int i2, .ref a3, .int i4, .ref a5, .ref a6, .ref a7, .int i8, .int i9, .int (nI ra), .int (nI rs), .int (nI rq), .ref a13, .ref a14, .ref a15, .ref a16, .int i17, .ref a18, .ref a19, .ref a20, .ref a21, .ref a22, .ref a23, .ref a24, .ref a25, .int i26, .ref a27, .ref a28, .ref a29, .ref a30, .ref a31, .ref a32, .ref a33, .ref a34, .int i35])), (a15, .inl (cI, 4, .inl qk)), (a16, .inl (cI, 4, .inl qt)), (a33, .inl (cI, 240, .inl zs))] := hD
  have hf_31 := hts (.fieldLink RX10 31 "OldLampsModel" "readKind" "[I") (List.mem_of_getElem? (i := 4) rfl)
  have hf_34 := hts (.fieldLink RX10 34 "OldLampsModel" "readStood" "[I") (List.mem_of_getElem? (i := 5) rfl)
  have hf_110 := hts (.fieldLink RX10 110 "OldLampsModel" "readAt" "I") (List.mem_of_getElem? (i := 2) rfl)
  have hf_117 := hts (.fieldLink RX10 117 "OldLampsModel" "readSpots" "I") (List.mem_of_getElem? (i := 3) rfl)
  have hf_124 := hts (.fieldLink RX10 124 "OldLampsModel" "readLamps" "I") (List.mem_of_getElem? (i := 1) rfl)
  have hwX10 : ∀ w ∈ wsX100, w ∈ wsX10_readsLamp := fun _ h => List.mem_cons_of_mem _ (List.mem_append_right _ h)
  have hl := lv_entry ([.ref m0, .int (nI fr), .int (nI nn)]) (n := 5) (Nat.le_of_ble_eq_true rfl)
  rw [lg_entry_eq]
  generalize (lg_sl ([.ref m0, .int (nI fr), .int (nI nn)]) ++ List.replicate (5 - (lg_sl ([.ref m0, .int (nI fr), .int (nI nn)])).length) Slot.unset).toArray = ls at hl ⊢
  have hl : lv_has ls 5 [(0, .ref m0), (1, .int (nI fr)), (2, .int (nI nn))] := hl
  obtain ⟨QQ, hQQ⟩ : ∃ QQ : State → Prop, QQ = MQ below (kQi D (fun (r : Int32) (u : Nat × Nat × (Nat → Int32) × (Nat → Int32)) => (rq < 4 ∧ (cdT zs fr nn) ra = nI 44 ∧ isK ((cdT zs fr nn) (ra + 1)) = true ∧ dg (cdT zs fr nn) (ra + 2) rs = true ∧ r = nI 1 ∧ u.1 = ra + 3 ∧ u.2.1 = rq + 1 ∧ u.2.2.1 = upd qk rq (nI (kdOf ((cdT zs fr nn) (ra + 1)))) ∧ u.2.2.2 = upd qt rq (nI (dv (cdT zs fr nn) (ra + 2)))) ∨ (r = nI 0 ∧ u.2.1 = rq ∧ u.2.2.1 = qk ∧ u.2.2.2 = qt ∧ ((¬ (rq < 4 ∧ (cdT zs fr nn) ra = nI 44) ∧ u.1 = ra) ∨ (rq < 4 ∧ (cdT zs fr nn) ra = nI 44 ∧ isK ((cdT zs fr nn) (ra + 1)) = false ∧ u.1 = ra + 1) ∨ (rq < 4 ∧ (cdT zs fr nn) ra = nI 44 ∧ isK ((cdT zs fr nn) (ra + 1)) = true ∧ dg (cdT zs fr nn) (ra + 2) rs = false ∧ u.1 = ra + 2)))) (fun u : Nat × Nat × (Nat → Int32) × (Nat → Int32) => [(m0, .inr (9, [.int i0, .ref a1, .int i2, .ref a3, .int i4, .ref a5, .ref a6, .ref a7, .int i8, .int i9, .int (nI u.1), .int (nI rs), .int (nI u.2.1), .ref a13, .ref a14, .ref a15, .ref a16, .int i17, .ref a18, .ref a19, .ref a20, .ref a21, .ref a22, .ref a23, .ref a24, .ref a25, .int i26, .ref a27, .ref a28, .ref a29, .ref a30, .ref a31, .ref a32, .ref a33, .ref a34, .int i35])), (a15, .inl (cI, 4, .inl u.2.2.1)), (a16, .inl (cI, 4, .inl u.2.2.2)), (a33, .inl (cI, 240, .inl zs))]) A) ([.ref m0, .int (nI fr), .int (nI nn)]).toArray sS 0 0 A := ⟨_, rfl⟩
  refine kk_QQ hQQ.symm ?_
  refine lv_aload_n hx hb dX10_readsLamp_0 rfl (lv_at hl 0 rfl) ?_
  refine va_get (D := D) (ci := 9) (v := .int (nI rq)) (C := RX10) (T := TX10) (N := 36) hx hb hts hwX10 hown hK hP 0 rfl rfl 12 (by decide) hf_124 (fun _ h9 => h9) rfl dX10_readsLamp_1 ?_
  refine lv_iconst (v := nI 4) hx hb dX10_readsLamp_4 (by decide +kernel) ?_
  refine kk_icmp_eq (tgt := 19) hx hb dX10_readsLamp_5 (by decide) (by omega) (by omega) (fun c_1 => ?_) (fun c_1 => ?_)
  · skip
    refine lv_iconst (v := nI 0) hx hb dX10_readsLamp_19 (by decide +kernel) ?_
    have hq : (rq < 4 ∧ (cdT zs fr nn) ra = nI 44 ∧ isK ((cdT zs fr nn) (ra + 1)) = true ∧ dg (cdT zs fr nn) (ra + 2) rs = true ∧ (nI 0) = nI 1 ∧ ra = ra + 3 ∧ rq = rq + 1 ∧ qk = upd qk rq (nI (kdOf ((cdT zs fr nn) (ra + 1)))) ∧ qt = upd qt rq (nI (dv (cdT zs fr nn) (ra + 2)))) ∨ ((nI 0) = nI 0 ∧ rq = rq ∧ qk = qk ∧ qt = qt ∧ ((¬ (rq < 4 ∧ (cdT zs fr nn) ra = nI 44) ∧ ra = ra) ∨ (rq < 4 ∧ (cdT zs fr nn) ra = nI 44 ∧ isK ((cdT zs fr nn) (ra + 1)) = false ∧ ra = ra + 1) ∨ (rq < 4 ∧ (cdT zs fr nn) ra = nI 44 ∧ isK ((cdT zs fr nn) (ra + 1)) = true ∧ dg (cdT zs fr nn) (ra + 2) rs = false ∧ ra = ra + 2))) := by exact Or.inr ⟨rfl, rfl, rfl, rfl, Or.inl ⟨fun z => by omega, rfl⟩⟩
    refine kk_QQ hQQ ?_
    exact W.zret (v := nI 0) (ty := .boolean) hx hb hr (by decide +kernel) (fun t ht hW => ⟨⟨nI 0, (ra, rq, qk, qt), rfl, hq, by show va_P D vwCl _ t.heap; rw [ht]; exact hP⟩, hS.F ht⟩) hS.2.2 dX10_readsLamp_20
  · skip
    refine lv_aload_n hx hb dX10_readsLamp_8 rfl (lv_at hl 0 rfl) ?_
    refine lv_iload_n hx hb dX10_readsLamp_9 rfl (lv_at hl 1 rfl) ?_
    refine lv_iload_n hx hb dX10_readsLamp_10 rfl (lv_at hl 2 rfl) ?_
    have o_2 : fr + nn ≤ 240 := by omega
    have o_3 : ra ≤ 400 := by omega
    refine vp_callSi (W.runV (As := [.int (nI fr), .int (nI nn)]) (rest := []) ⟨hx, hb, hml, hown, hts⟩ (c_X10_codeAt lL D cI cS m0 a1 a3 a5 a6 a7 a13 a14 a15 a16 a18 a19 a20 a21 a22 a23 a24 a25 a27 a28 a29 a30 a31 a32 a33 a34 i0 i2 i4 i8 i9 (nI rs) (nI rq) i17 i26 i35 zs fr nn ra o_2 o_3) (cwV 2 hts gX10_readsLamp_X10_codeAt rfl rfl rfl cd_X10_codeAt ⟨Nat.le_of_ble_eq_true rfl, Nat.le_of_ble_eq_true rfl⟩) ⟨kBp_blind, va_recv hK hP (ci := 9) (q0 := 0) rfl rfl, fun U hU hW => ⟨rfl, by rw [hU]; exact hP.sub [0, 3] rfl, va_K.moved hW.alike hK⟩⟩ rfl rfl hl.1 rfl (lv_room (Nat.le_of_ble_eq_true rfl)) dX10_readsLamp_11 ⟨Nat.le_of_ble_eq_true rfl, Nat.le_of_ble_eq_true rfl⟩) (fun r_4 hw_4 => ?_)
    obtain rfl : r_4 = cdT zs fr nn ra := hw_4
    refine lv_bipush (v := nI 44) hx hb dX10_readsLamp_14 (by decide +kernel) ?_
    refine lv_icmp_eq (tgt := 21) hx hb dX10_readsLamp_16 (by decide) (fun c_5 => ?_) (fun c_5 => ?_)
    · skip
      refine lv_aload_n hx hb dX10_readsLamp_21 rfl (lv_at hl 0 rfl) ?_
      refine lv_dup hx hb dX10_readsLamp_22 rfl ?_
      refine va_get (D := D) (ci := 9) (v := .int (nI ra)) (C := RX10) (T := TX10) (N := 36) hx hb hts hwX10 hown hK hP 0 rfl rfl 10 (by decide) hf_110 (fun _ h9 => h9) rfl dX10_readsLamp_23 ?_
      refine lv_iconst (v := nI 1) hx hb dX10_readsLamp_26 (by decide +kernel) ?_
      refine kk_iadd hx hb dX10_readsLamp_27 ?_
      refine va_put (D := D) (ci := 9) (v := .int (nI (ra + 1))) (ty := .int) (C := RX10) (T := TX10) (N := 36) hx hb hts hwX10 tyX10 tyX10_ok nmX10 hown hK hP hD hS 0 rfl rfl 10 (by decide) hf_110 (fun _ h9 => h9) rfl (by decide +kernel) rfl rfl (Nat.le_of_ble_eq_true rfl) dX10_readsLamp_28 (fun H locs hP hD hS => ?_)
      have hP : va_P D vwCl [(m0, .inr (9, [.int i0, .ref a1, .int i2, .ref a3, .int i4, .ref a5, .ref a6, .ref a7, .int i8, .int i9, .int (nI (ra + 1)), .int (nI rs), .int (nI rq), .ref a13, .ref a14, .ref a15, .ref a16, .int i17, .ref a18, .ref a19, .ref a20, .ref a21, .ref a22, .ref a23, .ref a24, .ref a25, .int i26, .ref a27, .ref a28, .ref a29, .ref a30, .ref a31, .ref a32, .ref a33, .ref a34, .int i35])), (a15, .inl (cI, 4, .inl qk)), (a16, .inl (cI, 4, .inl qt)), (a33, .inl (cI, 240, .inl zs))] H := hP
      have hD : va_D A [(m0, .inr (9, [.int i0, .ref a1, .int i2, .ref a3, .int i4, .ref a5, .ref a6, .ref a7, .int i8, .int i9, .int (nI (ra + 1)), .int (nI rs), .int (nI rq), .ref a13, .ref a14, .ref a15, .ref a16, .int i17, .ref a18, .ref a19, .ref a20, .ref a21, .ref a22, .ref a23, .ref a24, .ref a25, .int i26, .ref a27, .ref a28, .ref a29, .ref a30, .ref a31, .ref a32, .ref a33, .ref a34, .int i35])), (a15, .inl (cI, 4, .inl qk)), (a16, .inl (cI, 4, .inl qt)), (a33, .inl (cI, 240, .inl zs))] := hD
      refine lv_aload_n hx hb dX10_readsLamp_31 rfl (lv_at hl 0 rfl) ?_
      refine lv_iload_n hx hb dX10_readsLamp_32 rfl (lv_at hl 1 rfl) ?_
      refine lv_iload_n hx hb dX10_readsLamp_33 rfl (lv_at hl 2 rfl) ?_
      have o_6 : fr + nn ≤ 240 := by omega
      have o_7 : (ra + 1) ≤ 400 := by omega
      refine vp_callSi (W.runV (As := [.int (nI fr), .int (nI nn)]) (rest := []) ⟨hx, hb, hml, hown, hts⟩ (c_X10_codeAt lL D cI cS m0 a1 a3 a5 a6 a7 a13 a14 a15 a16 a18 a19 a20 a21 a22 a23 a24 a25 a27 a28 a29 a30 a31 a32 a33 a34 i0 i2 i4 i8 i9 (nI rs) (nI rq) i17 i26 i35 zs fr nn (ra + 1) o_6 o_7) (cwV 2 hts gX10_readsLamp_X10_codeAt rfl rfl rfl cd_X10_codeAt ⟨Nat.le_of_ble_eq_true rfl, Nat.le_of_ble_eq_true rfl⟩) ⟨kBp_blind, va_recv hK hP (ci := 9) (q0 := 0) rfl rfl, fun U hU hW => ⟨rfl, by rw [hU]; exact hP.sub [0, 3] rfl, va_K.moved hW.alike hK⟩⟩ rfl rfl hl.1 rfl (lv_room (Nat.le_of_ble_eq_true rfl)) dX10_readsLamp_34 ⟨Nat.le_of_ble_eq_true rfl, Nat.le_of_ble_eq_true rfl⟩) (fun r_8 hw_8 => ?_)
      obtain rfl : r_8 = cdT zs fr nn (ra + 1) := hw_8
      refine lv_istore_n (lv' := [(3, .int (cdT zs fr nn (ra + 1))), (0, .ref m0), (1, .int (nI fr)), (2, .int (nI nn))]) hx hb dX10_readsLamp_37 rfl hl (by decide) rfl (fun ls hl => ?_)
      refine lv_iload_n hx hb dX10_readsLamp_38 rfl (lv_at hl 0 rfl) ?_
      refine lv_bipush (v := nI 108) hx hb dX10_readsLamp_39 (by decide +kernel) ?_
      refine lv_icmp_eq (tgt := 58) hx hb dX10_readsLamp_41 (by decide) (fun c_9 => ?_) (fun c_9 => ?_)
      · skip
        refine lv_aload_n hx hb dX10_readsLamp_58 rfl (lv_at hl 1 rfl) ?_
        refine lv_dup hx hb dX10_readsLamp_59 rfl ?_
        refine va_get (D := D) (ci := 9) (v := .int (nI (ra + 1))) (C := RX10) (T := TX10) (N := 36) hx hb hts hwX10 hown hK hP 0 rfl rfl 10 (by decide) hf_110 (fun _ h9 => h9) rfl dX10_readsLamp_60 ?_
        refine lv_iconst (v := nI 1) hx hb dX10_readsLamp_63 (by decide +kernel) ?_
        refine kk_iadd hx hb dX10_readsLamp_64 ?_
        refine va_put (D := D) (ci := 9) (v := .int (nI ((ra + 1) + 1))) (ty := .int) (C := RX10) (T := TX10) (N := 36) hx hb hts hwX10 tyX10 tyX10_ok nmX10 hown hK hP hD hS 0 rfl rfl 10 (by decide) hf_110 (fun _ h9 => h9) rfl (by decide +kernel) rfl rfl (Nat.le_of_ble_eq_true rfl) dX10_readsLamp_65 (fun H locs hP hD hS => ?_)
        have hP : va_P D vwCl [(m0, .inr (9, [.int i0, .ref a1, .int i2, .ref a3, .int i4, .ref a5, .ref a6, .ref a7, .int i8, .int i9, .int (nI ((ra + 1) + 1)), .int (nI rs), .int (nI rq), .ref a13, .ref a14, .ref a15, .ref a16, .int i17, .ref a18, .ref a19, .ref a20, .ref a21, .ref a22, .ref a23, .ref a24, .ref a25, .int i26, .ref a27, .ref a28, .ref a29, .ref a30, .ref a31, .ref a32, .ref a33, .ref a34, .int i35])), (a15, .inl (cI, 4, .inl qk)), (a16, .inl (cI, 4, .inl qt)), (a33, .inl (cI, 240, .inl zs))] H := hP
        have hD : va_D A [(m0, .inr (9, [.int i0, .ref a1, .int i2, .ref a3, .int i4, .ref a5, .ref a6, .ref a7, .int i8, .int i9, .int (nI ((ra + 1) + 1)), .int (nI rs), .int (nI rq), .ref a13, .ref a14, .ref a15, .ref a16, .int i17, .ref a18, .ref a19, .ref a20, .ref a21, .ref a22, .ref a23, .ref a24, .ref a25, .int i26, .ref a27, .ref a28, .ref a29, .ref a30, .ref a31, .ref a32, .ref a33, .ref a34, .int i35])), (a15, .inl (cI, 4, .inl qk)), (a16, .inl (cI, 4, .inl qt)), (a33, .inl (cI, 240, .inl zs))] := hD
        refine lv_aload_n hx hb dX10_readsLamp_68 rfl (lv_at hl 1 rfl) ?_
        refine lv_iload_n hx hb dX10_readsLamp_69 rfl (lv_at hl 2 rfl) ?_
        refine lv_iload_n hx hb dX10_readsLamp_70 rfl (lv_at hl 3 rfl) ?_
        refine lv_aload_n hx hb dX10_readsLamp_71 rfl (lv_at hl 1 rfl) ?_
        refine va_get (D := D) (ci := 9) (v := .int (nI rs)) (C := RX10) (T := TX10) (N := 36) hx hb hts hwX10 hown hK hP 0 rfl rfl 11 (by decide) hf_117 (fun _ h9 => h9) rfl dX10_readsLamp_72 ?_
        refine lv_iconst (v := nI 1) hx hb dX10_readsLamp_75 (by decide +kernel) ?_
        refine kk_isub hx hb dX10_readsLamp_76 (by omega) ?_
        have o_10 : fr + nn ≤ 240 := by omega
        have o_11 : (rs - 1) ≤ 9 := by omega
        have o_12 : ((ra + 1) + 1) ≤ 400 := by omega
        have hF := va_free (wc := [(m0, .inr (9, [.int i0, .ref a1, .int i2, .ref a3, .int i4, .ref a5, .ref a6, .ref a7, .int i8, .int i9, .int (nI ((ra + 1) + 1)), .int (nI rs), .int (nI rq), .ref a13, .ref a14, .ref a15, .ref a16, .int i17, .ref a18, .ref a19, .ref a20, .ref a21, .ref a22, .ref a23, .ref a24, .ref a25, .int i26, .ref a27, .ref a28, .ref a29, .ref a30, .ref a31, .ref a32, .ref a33, .ref a34, .int i35])), (a33, .inl (cI, 240, .inl zs))]) hD hS hA [0, 3] rfl
        refine va_calli (va_runV (As := [.int (nI fr), .int (nI nn), .int (nI (rs - 1))]) (rest := []) ⟨hx, hb, hml, hown, hts⟩ (c_X10_figure lL D cI cS _ m0 a1 a3 a5 a6 a7 a13 a14 a15 a16 a18 a19 a20 a21 a22 a23 a24 a25 a27 a28 a29 a30 a31 a32 a33 a34 i0 i2 i4 i8 i9 (nI rs) (nI rq) i17 i26 i35 zs fr nn (rs - 1) ((ra + 1) + 1) o_10 o_11 o_12) (cwV 3 hts gX10_readsLamp_X10_figure rfl rfl rfl cd_X10_figure ⟨Nat.le_of_ble_eq_true rfl, Nat.le_of_ble_eq_true rfl⟩) ⟨kB_blind, va_recv hK hP (ci := 9) (q0 := 0) rfl rfl, fun U hU hW => ⟨rfl, by rw [hU], by rw [hU]; exact hP.sub [0, 3] rfl, va_K.moved hW.alike hK, (hD.sub [0, 3] (by decide) rfl).weaken (fun _ _ _ _ => trivial)⟩⟩ rfl rfl hl.1 rfl (lv_room (Nat.le_of_ble_eq_true rfl)) dX10_readsLamp_77 ⟨Nat.le_of_ble_eq_true rfl, Nat.le_of_ble_eq_true rfl⟩) hS (fun q _ h => hF q h) hF (fun r_13 u_13 t H1 locs ht hvm hw_13 hB hz1 hk1 hS => ?_)
        obtain ⟨hP, hD⟩ := kk_join2 (wc := [(m0, .inr (9, [.int i0, .ref a1, .int i2, .ref a3, .int i4, .ref a5, .ref a6, .ref a7, .int i8, .int i9, .int (nI ((ra + 1) + 1)), .int (nI rs), .int (nI rq), .ref a13, .ref a14, .ref a15, .ref a16, .int i17, .ref a18, .ref a19, .ref a20, .ref a21, .ref a22, .ref a23, .ref a24, .ref a25, .int i26, .ref a27, .ref a28, .ref a29, .ref a30, .ref a31, .ref a32, .ref a33, .ref a34, .int i35])), (a33, .inl (cI, 240, .inl zs))]) (w1 := [(m0, .inr (9, [.int i0, .ref a1, .int i2, .ref a3, .int i4, .ref a5, .ref a6, .ref a7, .int i8, .int i9, .int (nI u_13), .int (nI rs), .int (nI rq), .ref a13, .ref a14, .ref a15, .ref a16, .int i17, .ref a18, .ref a19, .ref a20, .ref a21, .ref a22, .ref a23, .ref a24, .ref a25, .int i26, .ref a27, .ref a28, .ref a29, .ref a30, .ref a31, .ref a32, .ref a33, .ref a34, .int i35])), (a33, .inl (cI, 240, .inl zs))]) (ws' := [(m0, .inr (9, [.int i0, .ref a1, .int i2, .ref a3, .int i4, .ref a5, .ref a6, .ref a7, .int i8, .int i9, .int (nI u_13), .int (nI rs), .int (nI rq), .ref a13, .ref a14, .ref a15, .ref a16, .int i17, .ref a18, .ref a19, .ref a20, .ref a21, .ref a22, .ref a23, .ref a24, .ref a25, .int i26, .ref a27, .ref a28, .ref a29, .ref a30, .ref a31, .ref a32, .ref a33, .ref a34, .int i35])), (a15, .inl (cI, 4, .inl qk)), (a16, .inl (cI, 4, .inl qt)), (a33, .inl (cI, 240, .inl zs))]) (wr := [(a15, .inl (cI, 4, .inl qk)), (a16, .inl (cI, 4, .inl qt))]) (H1 := H1) hP hD [0, 3] [1, 2] rfl rfl rfl rfl 4 rfl (by decide) [m0, a15, a16, a33] rfl rfl hk1 (by rw [← ht]; exact hB)
        have hw_13 : (dg (cdT zs fr nn) ((ra + 1) + 1) ((rs - 1) + 1) = true ∧ r_13 = nI (dv (cdT zs fr nn) ((ra + 1) + 1)) ∧ u_13 = ((ra + 1) + 1) + 1) ∨ (dg (cdT zs fr nn) ((ra + 1) + 1) ((rs - 1) + 1) = false ∧ r_13 = (-9) ∧ u_13 = ((ra + 1) + 1)) := hw_13
        clear hF hB hk1 hz1 hvm
        clear ht
        generalize H1 = H at hP hS ⊢
        rcases hw_13 with ⟨q1, q2, q3⟩ | ⟨q1, q2, q3⟩
        · skip
          have q2 := q2.symm
          have q3 := q3.symm
          subst q2 q3
          have qd := (dg_t q1).1
          refine lv_istore (lv' := [(4, .int (nI (dv (cdT zs fr nn) ((ra + 1) + 1)))), (3, .int (cdT zs fr nn (ra + 1))), (0, .ref m0), (1, .int (nI fr)), (2, .int (nI nn))]) hx hb dX10_readsLamp_80 hl (by decide) rfl (fun ls hl => ?_)
          refine lv_iload hx hb dX10_readsLamp_82 (lv_at hl 0 rfl) ?_
          refine kk_if_ge (tgt := 89) hx hb dX10_readsLamp_84 (by decide) (by omega) ?_
          refine lv_aload_n hx hb dX10_readsLamp_89 rfl (lv_at hl 2 rfl) ?_
          refine va_get (D := D) (ci := 9) (v := .ref a15) (C := RX10) (T := TX10) (N := 36) hx hb hts hwX10 hown hK hP 0 rfl rfl 15 (by decide) hf_31 (fun _ h9 => h9) rfl dX10_readsLamp_90 ?_
          refine lv_aload_n hx hb dX10_readsLamp_93 rfl (lv_at hl 2 rfl) ?_
          refine va_get (D := D) (ci := 9) (v := .int (nI rq)) (C := RX10) (T := TX10) (N := 36) hx hb hts hwX10 hown hK hP 0 rfl rfl 12 (by decide) hf_124 (fun _ h9 => h9) rfl dX10_readsLamp_94 ?_
          refine lv_iload_n hx hb dX10_readsLamp_97 rfl (lv_at hl 1 rfl) ?_
          refine lv_bipush (v := nI 108) hx hb dX10_readsLamp_98 (by decide +kernel) ?_
          refine lv_icmp_ne (tgt := 107) hx hb dX10_readsLamp_100 (by decide) (fun c_14 => ?_) (fun c_14 => ?_)
          · skip
            exact absurd c_9 c_14
          · skip
            refine lv_iconst (v := nI 0) hx hb dX10_readsLamp_103 (by decide +kernel) ?_
            refine lv_goto (tgt := 118) hx hb dX10_readsLamp_104 (by decide) ?_
            refine kk_iast hx hb hK hP hD hS 1 rfl rfl (i := rq) (by omega) (by decide) dX10_readsLamp_118 (fun H locs hP hD hS => ?_)
            have hP : va_P D vwCl [(m0, .inr (9, [.int i0, .ref a1, .int i2, .ref a3, .int i4, .ref a5, .ref a6, .ref a7, .int i8, .int i9, .int (nI ((ra + 1) + 1 + 1)), .int (nI rs), .int (nI rq), .ref a13, .ref a14, .ref a15, .ref a16, .int i17, .ref a18, .ref a19, .ref a20, .ref a21, .ref a22, .ref a23, .ref a24, .ref a25, .int i26, .ref a27, .ref a28, .ref a29, .ref a30, .ref a31, .ref a32, .ref a33, .ref a34, .int i35])), (a15, .inl (cI, 4, .inl (upd qk rq (nI 0)))), (a16, .inl (cI, 4, .inl qt)), (a33, .inl (cI, 240, .inl zs))] H := hP
            have hD : va_D A [(m0, .inr (9, [.int i0, .ref a1, .int i2, .ref a3, .int i4, .ref a5, .ref a6, .ref a7, .int i8, .int i9, .int (nI ((ra + 1) + 1 + 1)), .int (nI rs), .int (nI rq), .ref a13, .ref a14, .ref a15, .ref a16, .int i17, .ref a18, .ref a19, .ref a20, .ref a21, .ref a22, .ref a23, .ref a24, .ref a25, .int i26, .ref a27, .ref a28, .ref a29, .ref a30, .ref a31, .ref a32, .ref a33, .ref a34, .int i35])), (a15, .inl (cI, 4, .inl (upd qk rq (nI 0)))), (a16, .inl (cI, 4, .inl qt)), (a33, .inl (cI, 240, .inl zs))] := hD
            refine lv_aload_n hx hb dX10_readsLamp_119 rfl (lv_at hl 2 rfl) ?_
            refine va_get (D := D) (ci := 9) (v := .ref a16) (C := RX10) (T := TX10) (N := 36) hx hb hts hwX10 hown hK hP 0 rfl rfl 16 (by decide) hf_34 (fun _ h9 => h9) rfl dX10_readsLamp_120 ?_
            refine lv_aload_n hx hb dX10_readsLamp_123 rfl (lv_at hl 2 rfl) ?_
            refine va_get (D := D) (ci := 9) (v := .int (nI rq)) (C := RX10) (T := TX10) (N := 36) hx hb hts hwX10 hown hK hP 0 rfl rfl 12 (by decide) hf_124 (fun _ h9 => h9) rfl dX10_readsLamp_124 ?_
            refine lv_iload hx hb dX10_readsLamp_127 (lv_at hl 0 rfl) ?_
            refine kk_iast hx hb hK hP hD hS 2 rfl rfl (i := rq) (by omega) (by decide) dX10_readsLamp_129 (fun H locs hP hD hS => ?_)
            have hP : va_P D vwCl [(m0, .inr (9, [.int i0, .ref a1, .int i2, .ref a3, .int i4, .ref a5, .ref a6, .ref a7, .int i8, .int i9, .int (nI ((ra + 1) + 1 + 1)), .int (nI rs), .int (nI rq), .ref a13, .ref a14, .ref a15, .ref a16, .int i17, .ref a18, .ref a19, .ref a20, .ref a21, .ref a22, .ref a23, .ref a24, .ref a25, .int i26, .ref a27, .ref a28, .ref a29, .ref a30, .ref a31, .ref a32, .ref a33, .ref a34, .int i35])), (a15, .inl (cI, 4, .inl (upd qk rq (nI 0)))), (a16, .inl (cI, 4, .inl (upd qt rq (nI (dv (cdT zs fr nn) ((ra + 1) + 1)))))), (a33, .inl (cI, 240, .inl zs))] H := hP
            have hD : va_D A [(m0, .inr (9, [.int i0, .ref a1, .int i2, .ref a3, .int i4, .ref a5, .ref a6, .ref a7, .int i8, .int i9, .int (nI ((ra + 1) + 1 + 1)), .int (nI rs), .int (nI rq), .ref a13, .ref a14, .ref a15, .ref a16, .int i17, .ref a18, .ref a19, .ref a20, .ref a21, .ref a22, .ref a23, .ref a24, .ref a25, .int i26, .ref a27, .ref a28, .ref a29, .ref a30, .ref a31, .ref a32, .ref a33, .ref a34, .int i35])), (a15, .inl (cI, 4, .inl (upd qk rq (nI 0)))), (a16, .inl (cI, 4, .inl (upd qt rq (nI (dv (cdT zs fr nn) ((ra + 1) + 1)))))), (a33, .inl (cI, 240, .inl zs))] := hD
            refine lv_aload_n hx hb dX10_readsLamp_130 rfl (lv_at hl 2 rfl) ?_
            refine lv_dup hx hb dX10_readsLamp_131 rfl ?_
            refine va_get (D := D) (ci := 9) (v := .int (nI rq)) (C := RX10) (T := TX10) (N := 36) hx hb hts hwX10 hown hK hP 0 rfl rfl 12 (by decide) hf_124 (fun _ h9 => h9) rfl dX10_readsLamp_132 ?_
            refine lv_iconst (v := nI 1) hx hb dX10_readsLamp_135 (by decide +kernel) ?_
            refine kk_iadd hx hb dX10_readsLamp_136 ?_
            refine va_put (D := D) (ci := 9) (v := .int (nI (rq + 1))) (ty := .int) (C := RX10) (T := TX10) (N := 36) hx hb hts hwX10 tyX10 tyX10_ok nmX10 hown hK hP hD hS 0 rfl rfl 12 (by decide) hf_124 (fun _ h9 => h9) rfl (by decide +kernel) rfl rfl (Nat.le_of_ble_eq_true rfl) dX10_readsLamp_137 (fun H locs hP hD hS => ?_)
            have hP : va_P D vwCl [(m0, .inr (9, [.int i0, .ref a1, .int i2, .ref a3, .int i4, .ref a5, .ref a6, .ref a7, .int i8, .int i9, .int (nI ((ra + 1) + 1 + 1)), .int (nI rs), .int (nI (rq + 1)), .ref a13, .ref a14, .ref a15, .ref a16, .int i17, .ref a18, .ref a19, .ref a20, .ref a21, .ref a22, .ref a23, .ref a24, .ref a25, .int i26, .ref a27, .ref a28, .ref a29, .ref a30, .ref a31, .ref a32, .ref a33, .ref a34, .int i35])), (a15, .inl (cI, 4, .inl (upd qk rq (nI 0)))), (a16, .inl (cI, 4, .inl (upd qt rq (nI (dv (cdT zs fr nn) ((ra + 1) + 1)))))), (a33, .inl (cI, 240, .inl zs))] H := hP
            have hD : va_D A [(m0, .inr (9, [.int i0, .ref a1, .int i2, .ref a3, .int i4, .ref a5, .ref a6, .ref a7, .int i8, .int i9, .int (nI ((ra + 1) + 1 + 1)), .int (nI rs), .int (nI (rq + 1)), .ref a13, .ref a14, .ref a15, .ref a16, .int i17, .ref a18, .ref a19, .ref a20, .ref a21, .ref a22, .ref a23, .ref a24, .ref a25, .int i26, .ref a27, .ref a28, .ref a29, .ref a30, .ref a31, .ref a32, .ref a33, .ref a34, .int i35])), (a15, .inl (cI, 4, .inl (upd qk rq (nI 0)))), (a16, .inl (cI, 4, .inl (upd qt rq (nI (dv (cdT zs fr nn) ((ra + 1) + 1)))))), (a33, .inl (cI, 240, .inl zs))] := hD
            refine lv_iconst (v := nI 1) hx hb dX10_readsLamp_140 (by decide +kernel) ?_
            have hq : (rq < 4 ∧ (cdT zs fr nn) ra = nI 44 ∧ isK ((cdT zs fr nn) (ra + 1)) = true ∧ dg (cdT zs fr nn) (ra + 2) rs = true ∧ (nI 1) = nI 1 ∧ ((ra + 1) + 1 + 1) = ra + 3 ∧ (rq + 1) = rq + 1 ∧ (upd qk rq (nI 0)) = upd qk rq (nI (kdOf ((cdT zs fr nn) (ra + 1)))) ∧ (upd qt rq (nI (dv (cdT zs fr nn) ((ra + 1) + 1)))) = upd qt rq (nI (dv (cdT zs fr nn) (ra + 2)))) ∨ ((nI 1) = nI 0 ∧ (rq + 1) = rq ∧ (upd qk rq (nI 0)) = qk ∧ (upd qt rq (nI (dv (cdT zs fr nn) ((ra + 1) + 1)))) = qt ∧ ((¬ (rq < 4 ∧ (cdT zs fr nn) ra = nI 44) ∧ ((ra + 1) + 1 + 1) = ra) ∨ (rq < 4 ∧ (cdT zs fr nn) ra = nI 44 ∧ isK ((cdT zs fr nn) (ra + 1)) = false ∧ ((ra + 1) + 1 + 1) = ra + 1) ∨ (rq < 4 ∧ (cdT zs fr nn) ra = nI 44 ∧ isK ((cdT zs fr nn) (ra + 1)) = true ∧ dg (cdT zs fr nn) (ra + 2) rs = false ∧ ((ra + 1) + 1 + 1) = ra + 2))) := by
              have e_rs : rs - 1 + 1 = rs := Nat.sub_add_cancel hrs0
              have z : dg (cdT zs fr nn) (ra + 2) rs = true := by rw [← e_rs]; exact q1
              have y1 : rq < 4 := by omega
              refine Or.inl ⟨y1, c_5, (isK_0 c_9).1, z, rfl, rfl, rfl, ?_, ?_⟩
              · rw [(isK_0 c_9).2]
              · rw [show ra + 1 + 1 = ra + 2 from rfl]
            refine kk_QQ hQQ ?_
            exact W.zret (v := nI 1) (ty := .boolean) hx hb hr (by decide +kernel) (fun t ht hW => ⟨⟨nI 1, (((ra + 1) + 1 + 1), rq + 1, upd qk rq (nI 0), upd qt rq (nI (dv (cdT zs fr nn) ((ra + 1) + 1)))), rfl, hq, by show va_P D vwCl _ t.heap; rw [ht]; exact hP⟩, hS.F ht⟩) hS.2.2 dX10_readsLamp_141
        · skip
          have q2 := q2.symm
          have q3 := q3.symm
          subst q2 q3
          refine lv_istore (lv' := [(4, .int (-9 : Int32)), (3, .int (cdT zs fr nn (ra + 1))), (0, .ref m0), (1, .int (nI fr)), (2, .int (nI nn))]) hx hb dX10_readsLamp_80 hl (by decide) rfl (fun ls hl => ?_)
          refine lv_iload hx hb dX10_readsLamp_82 (lv_at hl 0 rfl) ?_
          refine lv_if_ge (tgt := 89) hx hb dX10_readsLamp_84 (by decide) (fun h => absurd h (by decide)) (fun h => ?_)
          refine lv_iconst (v := nI 0) hx hb dX10_readsLamp_87 (by decide +kernel) ?_
          have hq : (rq < 4 ∧ (cdT zs fr nn) ra = nI 44 ∧ isK ((cdT zs fr nn) (ra + 1)) = true ∧ dg (cdT zs fr nn) (ra + 2) rs = true ∧ (nI 0) = nI 1 ∧ ((ra + 1) + 1) = ra + 3 ∧ rq = rq + 1 ∧ qk = upd qk rq (nI (kdOf ((cdT zs fr nn) (ra + 1)))) ∧ qt = upd qt rq (nI (dv (cdT zs fr nn) (ra + 2)))) ∨ ((nI 0) = nI 0 ∧ rq = rq ∧ qk = qk ∧ qt = qt ∧ ((¬ (rq < 4 ∧ (cdT zs fr nn) ra = nI 44) ∧ ((ra + 1) + 1) = ra) ∨ (rq < 4 ∧ (cdT zs fr nn) ra = nI 44 ∧ isK ((cdT zs fr nn) (ra + 1)) = false ∧ ((ra + 1) + 1) = ra + 1) ∨ (rq < 4 ∧ (cdT zs fr nn) ra = nI 44 ∧ isK ((cdT zs fr nn) (ra + 1)) = true ∧ dg (cdT zs fr nn) (ra + 2) rs = false ∧ ((ra + 1) + 1) = ra + 2))) := by
            have e_rs : rs - 1 + 1 = rs := Nat.sub_add_cancel hrs0
            have z : dg (cdT zs fr nn) (ra + 2) rs = false := by rw [← e_rs]; exact q1
            refine Or.inr ⟨rfl, rfl, rfl, rfl, Or.inr (Or.inr ?_)⟩
            have y1 : rq < 4 := by omega
            exact ⟨y1, c_5, (isK_0 c_9).1, z, rfl⟩
          refine kk_QQ hQQ ?_
          exact W.zret (v := nI 0) (ty := .boolean) hx hb hr (by decide +kernel) (fun t ht hW => ⟨⟨nI 0, (((ra + 1) + 1), rq, qk, qt), rfl, hq, by show va_P D vwCl _ t.heap; rw [ht]; exact hP⟩, hS.F ht⟩) hS.2.2 dX10_readsLamp_88
      · skip
        refine lv_iload_n hx hb dX10_readsLamp_44 rfl (lv_at hl 0 rfl) ?_
        refine lv_bipush (v := nI 109) hx hb dX10_readsLamp_45 (by decide +kernel) ?_
        refine lv_icmp_eq (tgt := 58) hx hb dX10_readsLamp_47 (by decide) (fun c_15 => ?_) (fun c_15 => ?_)
        · skip
          refine lv_aload_n hx hb dX10_readsLamp_58 rfl (lv_at hl 1 rfl) ?_
          refine lv_dup hx hb dX10_readsLamp_59 rfl ?_
          refine va_get (D := D) (ci := 9) (v := .int (nI (ra + 1))) (C := RX10) (T := TX10) (N := 36) hx hb hts hwX10 hown hK hP 0 rfl rfl 10 (by decide) hf_110 (fun _ h9 => h9) rfl dX10_readsLamp_60 ?_
          refine lv_iconst (v := nI 1) hx hb dX10_readsLamp_63 (by decide +kernel) ?_
          refine kk_iadd hx hb dX10_readsLamp_64 ?_
          refine va_put (D := D) (ci := 9) (v := .int (nI ((ra + 1) + 1))) (ty := .int) (C := RX10) (T := TX10) (N := 36) hx hb hts hwX10 tyX10 tyX10_ok nmX10 hown hK hP hD hS 0 rfl rfl 10 (by decide) hf_110 (fun _ h9 => h9) rfl (by decide +kernel) rfl rfl (Nat.le_of_ble_eq_true rfl) dX10_readsLamp_65 (fun H locs hP hD hS => ?_)
          have hP : va_P D vwCl [(m0, .inr (9, [.int i0, .ref a1, .int i2, .ref a3, .int i4, .ref a5, .ref a6, .ref a7, .int i8, .int i9, .int (nI ((ra + 1) + 1)), .int (nI rs), .int (nI rq), .ref a13, .ref a14, .ref a15, .ref a16, .int i17, .ref a18, .ref a19, .ref a20, .ref a21, .ref a22, .ref a23, .ref a24, .ref a25, .int i26, .ref a27, .ref a28, .ref a29, .ref a30, .ref a31, .ref a32, .ref a33, .ref a34, .int i35])), (a15, .inl (cI, 4, .inl qk)), (a16, .inl (cI, 4, .inl qt)), (a33, .inl (cI, 240, .inl zs))] H := hP
          have hD : va_D A [(m0, .inr (9, [.int i0, .ref a1, .int i2, .ref a3, .int i4, .ref a5, .ref a6, .ref a7, .int i8, .int i9, .int (nI ((ra + 1) + 1)), .int (nI rs), .int (nI rq), .ref a13, .ref a14, .ref a15, .ref a16, .int i17, .ref a18, .ref a19, .ref a20, .ref a21, .ref a22, .ref a23, .ref a24, .ref a25, .int i26, .ref a27, .ref a28, .ref a29, .ref a30, .ref a31, .ref a32, .ref a33, .ref a34, .int i35])), (a15, .inl (cI, 4, .inl qk)), (a16, .inl (cI, 4, .inl qt)), (a33, .inl (cI, 240, .inl zs))] := hD
          refine lv_aload_n hx hb dX10_readsLamp_68 rfl (lv_at hl 1 rfl) ?_
          refine lv_iload_n hx hb dX10_readsLamp_69 rfl (lv_at hl 2 rfl) ?_
          refine lv_iload_n hx hb dX10_readsLamp_70 rfl (lv_at hl 3 rfl) ?_
          refine lv_aload_n hx hb dX10_readsLamp_71 rfl (lv_at hl 1 rfl) ?_
          refine va_get (D := D) (ci := 9) (v := .int (nI rs)) (C := RX10) (T := TX10) (N := 36) hx hb hts hwX10 hown hK hP 0 rfl rfl 11 (by decide) hf_117 (fun _ h9 => h9) rfl dX10_readsLamp_72 ?_
          refine lv_iconst (v := nI 1) hx hb dX10_readsLamp_75 (by decide +kernel) ?_
          refine kk_isub hx hb dX10_readsLamp_76 (by omega) ?_
          have o_16 : fr + nn ≤ 240 := by omega
          have o_17 : (rs - 1) ≤ 9 := by omega
          have o_18 : ((ra + 1) + 1) ≤ 400 := by omega
          have hF := va_free (wc := [(m0, .inr (9, [.int i0, .ref a1, .int i2, .ref a3, .int i4, .ref a5, .ref a6, .ref a7, .int i8, .int i9, .int (nI ((ra + 1) + 1)), .int (nI rs), .int (nI rq), .ref a13, .ref a14, .ref a15, .ref a16, .int i17, .ref a18, .ref a19, .ref a20, .ref a21, .ref a22, .ref a23, .ref a24, .ref a25, .int i26, .ref a27, .ref a28, .ref a29, .ref a30, .ref a31, .ref a32, .ref a33, .ref a34, .int i35])), (a33, .inl (cI, 240, .inl zs))]) hD hS hA [0, 3] rfl
          refine va_calli (va_runV (As := [.int (nI fr), .int (nI nn), .int (nI (rs - 1))]) (rest := []) ⟨hx, hb, hml, hown, hts⟩ (c_X10_figure lL D cI cS _ m0 a1 a3 a5 a6 a7 a13 a14 a15 a16 a18 a19 a20 a21 a22 a23 a24 a25 a27 a28 a29 a30 a31 a32 a33 a34 i0 i2 i4 i8 i9 (nI rs) (nI rq) i17 i26 i35 zs fr nn (rs - 1) ((ra + 1) + 1) o_16 o_17 o_18) (cwV 3 hts gX10_readsLamp_X10_figure rfl rfl rfl cd_X10_figure ⟨Nat.le_of_ble_eq_true rfl, Nat.le_of_ble_eq_true rfl⟩) ⟨kB_blind, va_recv hK hP (ci := 9) (q0 := 0) rfl rfl, fun U hU hW => ⟨rfl, by rw [hU], by rw [hU]; exact hP.sub [0, 3] rfl, va_K.moved hW.alike hK, (hD.sub [0, 3] (by decide) rfl).weaken (fun _ _ _ _ => trivial)⟩⟩ rfl rfl hl.1 rfl (lv_room (Nat.le_of_ble_eq_true rfl)) dX10_readsLamp_77 ⟨Nat.le_of_ble_eq_true rfl, Nat.le_of_ble_eq_true rfl⟩) hS (fun q _ h => hF q h) hF (fun r_19 u_19 t H1 locs ht hvm hw_19 hB hz1 hk1 hS => ?_)
          obtain ⟨hP, hD⟩ := kk_join2 (wc := [(m0, .inr (9, [.int i0, .ref a1, .int i2, .ref a3, .int i4, .ref a5, .ref a6, .ref a7, .int i8, .int i9, .int (nI ((ra + 1) + 1)), .int (nI rs), .int (nI rq), .ref a13, .ref a14, .ref a15, .ref a16, .int i17, .ref a18, .ref a19, .ref a20, .ref a21, .ref a22, .ref a23, .ref a24, .ref a25, .int i26, .ref a27, .ref a28, .ref a29, .ref a30, .ref a31, .ref a32, .ref a33, .ref a34, .int i35])), (a33, .inl (cI, 240, .inl zs))]) (w1 := [(m0, .inr (9, [.int i0, .ref a1, .int i2, .ref a3, .int i4, .ref a5, .ref a6, .ref a7, .int i8, .int i9, .int (nI u_19), .int (nI rs), .int (nI rq), .ref a13, .ref a14, .ref a15, .ref a16, .int i17, .ref a18, .ref a19, .ref a20, .ref a21, .ref a22, .ref a23, .ref a24, .ref a25, .int i26, .ref a27, .ref a28, .ref a29, .ref a30, .ref a31, .ref a32, .ref a33, .ref a34, .int i35])), (a33, .inl (cI, 240, .inl zs))]) (ws' := [(m0, .inr (9, [.int i0, .ref a1, .int i2, .ref a3, .int i4, .ref a5, .ref a6, .ref a7, .int i8, .int i9, .int (nI u_19), .int (nI rs), .int (nI rq), .ref a13, .ref a14, .ref a15, .ref a16, .int i17, .ref a18, .ref a19, .ref a20, .ref a21, .ref a22, .ref a23, .ref a24, .ref a25, .int i26, .ref a27, .ref a28, .ref a29, .ref a30, .ref a31, .ref a32, .ref a33, .ref a34, .int i35])), (a15, .inl (cI, 4, .inl qk)), (a16, .inl (cI, 4, .inl qt)), (a33, .inl (cI, 240, .inl zs))]) (wr := [(a15, .inl (cI, 4, .inl qk)), (a16, .inl (cI, 4, .inl qt))]) (H1 := H1) hP hD [0, 3] [1, 2] rfl rfl rfl rfl 4 rfl (by decide) [m0, a15, a16, a33] rfl rfl hk1 (by rw [← ht]; exact hB)
          have hw_19 : (dg (cdT zs fr nn) ((ra + 1) + 1) ((rs - 1) + 1) = true ∧ r_19 = nI (dv (cdT zs fr nn) ((ra + 1) + 1)) ∧ u_19 = ((ra + 1) + 1) + 1) ∨ (dg (cdT zs fr nn) ((ra + 1) + 1) ((rs - 1) + 1) = false ∧ r_19 = (-9) ∧ u_19 = ((ra + 1) + 1)) := hw_19
          clear hF hB hk1 hz1 hvm
          clear ht
          generalize H1 = H at hP hS ⊢
          rcases hw_19 with ⟨q1, q2, q3⟩ | ⟨q1, q2, q3⟩
          · skip
            have q2 := q2.symm
            have q3 := q3.symm
            subst q2 q3
            have qd := (dg_t q1).1
            refine lv_istore (lv' := [(4, .int (nI (dv (cdT zs fr nn) ((ra + 1) + 1)))), (3, .int (cdT zs fr nn (ra + 1))), (0, .ref m0), (1, .int (nI fr)), (2, .int (nI nn))]) hx hb dX10_readsLamp_80 hl (by decide) rfl (fun ls hl => ?_)
            refine lv_iload hx hb dX10_readsLamp_82 (lv_at hl 0 rfl) ?_
            refine kk_if_ge (tgt := 89) hx hb dX10_readsLamp_84 (by decide) (by omega) ?_
            refine lv_aload_n hx hb dX10_readsLamp_89 rfl (lv_at hl 2 rfl) ?_
            refine va_get (D := D) (ci := 9) (v := .ref a15) (C := RX10) (T := TX10) (N := 36) hx hb hts hwX10 hown hK hP 0 rfl rfl 15 (by decide) hf_31 (fun _ h9 => h9) rfl dX10_readsLamp_90 ?_
            refine lv_aload_n hx hb dX10_readsLamp_93 rfl (lv_at hl 2 rfl) ?_
            refine va_get (D := D) (ci := 9) (v := .int (nI rq)) (C := RX10) (T := TX10) (N := 36) hx hb hts hwX10 hown hK hP 0 rfl rfl 12 (by decide) hf_124 (fun _ h9 => h9) rfl dX10_readsLamp_94 ?_
            refine lv_iload_n hx hb dX10_readsLamp_97 rfl (lv_at hl 1 rfl) ?_
            refine lv_bipush (v := nI 108) hx hb dX10_readsLamp_98 (by decide +kernel) ?_
            refine lv_icmp_ne (tgt := 107) hx hb dX10_readsLamp_100 (by decide) (fun c_20 => ?_) (fun c_20 => ?_)
            · skip
              refine lv_iload_n hx hb dX10_readsLamp_107 rfl (lv_at hl 1 rfl) ?_
              refine lv_bipush (v := nI 109) hx hb dX10_readsLamp_108 (by decide +kernel) ?_
              refine lv_icmp_ne (tgt := 117) hx hb dX10_readsLamp_110 (by decide) (fun c_21 => ?_) (fun c_21 => ?_)
              · skip
                exact absurd c_15 c_21
              · skip
                refine lv_iconst (v := nI 1) hx hb dX10_readsLamp_113 (by decide +kernel) ?_
                refine lv_goto (tgt := 118) hx hb dX10_readsLamp_114 (by decide) ?_
                refine kk_iast hx hb hK hP hD hS 1 rfl rfl (i := rq) (by omega) (by decide) dX10_readsLamp_118 (fun H locs hP hD hS => ?_)
                have hP : va_P D vwCl [(m0, .inr (9, [.int i0, .ref a1, .int i2, .ref a3, .int i4, .ref a5, .ref a6, .ref a7, .int i8, .int i9, .int (nI ((ra + 1) + 1 + 1)), .int (nI rs), .int (nI rq), .ref a13, .ref a14, .ref a15, .ref a16, .int i17, .ref a18, .ref a19, .ref a20, .ref a21, .ref a22, .ref a23, .ref a24, .ref a25, .int i26, .ref a27, .ref a28, .ref a29, .ref a30, .ref a31, .ref a32, .ref a33, .ref a34, .int i35])), (a15, .inl (cI, 4, .inl (upd qk rq (nI 1)))), (a16, .inl (cI, 4, .inl qt)), (a33, .inl (cI, 240, .inl zs))] H := hP
                have hD : va_D A [(m0, .inr (9, [.int i0, .ref a1, .int i2, .ref a3, .int i4, .ref a5, .ref a6, .ref a7, .int i8, .int i9, .int (nI ((ra + 1) + 1 + 1)), .int (nI rs), .int (nI rq), .ref a13, .ref a14, .ref a15, .ref a16, .int i17, .ref a18, .ref a19, .ref a20, .ref a21, .ref a22, .ref a23, .ref a24, .ref a25, .int i26, .ref a27, .ref a28, .ref a29, .ref a30, .ref a31, .ref a32, .ref a33, .ref a34, .int i35])), (a15, .inl (cI, 4, .inl (upd qk rq (nI 1)))), (a16, .inl (cI, 4, .inl qt)), (a33, .inl (cI, 240, .inl zs))] := hD
                refine lv_aload_n hx hb dX10_readsLamp_119 rfl (lv_at hl 2 rfl) ?_
                refine va_get (D := D) (ci := 9) (v := .ref a16) (C := RX10) (T := TX10) (N := 36) hx hb hts hwX10 hown hK hP 0 rfl rfl 16 (by decide) hf_34 (fun _ h9 => h9) rfl dX10_readsLamp_120 ?_
                refine lv_aload_n hx hb dX10_readsLamp_123 rfl (lv_at hl 2 rfl) ?_
                refine va_get (D := D) (ci := 9) (v := .int (nI rq)) (C := RX10) (T := TX10) (N := 36) hx hb hts hwX10 hown hK hP 0 rfl rfl 12 (by decide) hf_124 (fun _ h9 => h9) rfl dX10_readsLamp_124 ?_
                refine lv_iload hx hb dX10_readsLamp_127 (lv_at hl 0 rfl) ?_
                refine kk_iast hx hb hK hP hD hS 2 rfl rfl (i := rq) (by omega) (by decide) dX10_readsLamp_129 (fun H locs hP hD hS => ?_)
                have hP : va_P D vwCl [(m0, .inr (9, [.int i0, .ref a1, .int i2, .ref a3, .int i4, .ref a5, .ref a6, .ref a7, .int i8, .int i9, .int (nI ((ra + 1) + 1 + 1)), .int (nI rs), .int (nI rq), .ref a13, .ref a14, .ref a15, .ref a16, .int i17, .ref a18, .ref a19, .ref a20, .ref a21, .ref a22, .ref a23, .ref a24, .ref a25, .int i26, .ref a27, .ref a28, .ref a29, .ref a30, .ref a31, .ref a32, .ref a33, .ref a34, .int i35])), (a15, .inl (cI, 4, .inl (upd qk rq (nI 1)))), (a16, .inl (cI, 4, .inl (upd qt rq (nI (dv (cdT zs fr nn) ((ra + 1) + 1)))))), (a33, .inl (cI, 240, .inl zs))] H := hP
                have hD : va_D A [(m0, .inr (9, [.int i0, .ref a1, .int i2, .ref a3, .int i4, .ref a5, .ref a6, .ref a7, .int i8, .int i9, .int (nI ((ra + 1) + 1 + 1)), .int (nI rs), .int (nI rq), .ref a13, .ref a14, .ref a15, .ref a16, .int i17, .ref a18, .ref a19, .ref a20, .ref a21, .ref a22, .ref a23, .ref a24, .ref a25, .int i26, .ref a27, .ref a28, .ref a29, .ref a30, .ref a31, .ref a32, .ref a33, .ref a34, .int i35])), (a15, .inl (cI, 4, .inl (upd qk rq (nI 1)))), (a16, .inl (cI, 4, .inl (upd qt rq (nI (dv (cdT zs fr nn) ((ra + 1) + 1)))))), (a33, .inl (cI, 240, .inl zs))] := hD
                refine lv_aload_n hx hb dX10_readsLamp_130 rfl (lv_at hl 2 rfl) ?_
                refine lv_dup hx hb dX10_readsLamp_131 rfl ?_
                refine va_get (D := D) (ci := 9) (v := .int (nI rq)) (C := RX10) (T := TX10) (N := 36) hx hb hts hwX10 hown hK hP 0 rfl rfl 12 (by decide) hf_124 (fun _ h9 => h9) rfl dX10_readsLamp_132 ?_
                refine lv_iconst (v := nI 1) hx hb dX10_readsLamp_135 (by decide +kernel) ?_
                refine kk_iadd hx hb dX10_readsLamp_136 ?_
                refine va_put (D := D) (ci := 9) (v := .int (nI (rq + 1))) (ty := .int) (C := RX10) (T := TX10) (N := 36) hx hb hts hwX10 tyX10 tyX10_ok nmX10 hown hK hP hD hS 0 rfl rfl 12 (by decide) hf_124 (fun _ h9 => h9) rfl (by decide +kernel) rfl rfl (Nat.le_of_ble_eq_true rfl) dX10_readsLamp_137 (fun H locs hP hD hS => ?_)
                have hP : va_P D vwCl [(m0, .inr (9, [.int i0, .ref a1, .int i2, .ref a3, .int i4, .ref a5, .ref a6, .ref a7, .int i8, .int i9, .int (nI ((ra + 1) + 1 + 1)), .int (nI rs), .int (nI (rq + 1)), .ref a13, .ref a14, .ref a15, .ref a16, .int i17, .ref a18, .ref a19, .ref a20, .ref a21, .ref a22, .ref a23, .ref a24, .ref a25, .int i26, .ref a27, .ref a28, .ref a29, .ref a30, .ref a31, .ref a32, .ref a33, .ref a34, .int i35])), (a15, .inl (cI, 4, .inl (upd qk rq (nI 1)))), (a16, .inl (cI, 4, .inl (upd qt rq (nI (dv (cdT zs fr nn) ((ra + 1) + 1)))))), (a33, .inl (cI, 240, .inl zs))] H := hP
                have hD : va_D A [(m0, .inr (9, [.int i0, .ref a1, .int i2, .ref a3, .int i4, .ref a5, .ref a6, .ref a7, .int i8, .int i9, .int (nI ((ra + 1) + 1 + 1)), .int (nI rs), .int (nI (rq + 1)), .ref a13, .ref a14, .ref a15, .ref a16, .int i17, .ref a18, .ref a19, .ref a20, .ref a21, .ref a22, .ref a23, .ref a24, .ref a25, .int i26, .ref a27, .ref a28, .ref a29, .ref a30, .ref a31, .ref a32, .ref a33, .ref a34, .int i35])), (a15, .inl (cI, 4, .inl (upd qk rq (nI 1)))), (a16, .inl (cI, 4, .inl (upd qt rq (nI (dv (cdT zs fr nn) ((ra + 1) + 1)))))), (a33, .inl (cI, 240, .inl zs))] := hD
                refine lv_iconst (v := nI 1) hx hb dX10_readsLamp_140 (by decide +kernel) ?_
                have hq : (rq < 4 ∧ (cdT zs fr nn) ra = nI 44 ∧ isK ((cdT zs fr nn) (ra + 1)) = true ∧ dg (cdT zs fr nn) (ra + 2) rs = true ∧ (nI 1) = nI 1 ∧ ((ra + 1) + 1 + 1) = ra + 3 ∧ (rq + 1) = rq + 1 ∧ (upd qk rq (nI 1)) = upd qk rq (nI (kdOf ((cdT zs fr nn) (ra + 1)))) ∧ (upd qt rq (nI (dv (cdT zs fr nn) ((ra + 1) + 1)))) = upd qt rq (nI (dv (cdT zs fr nn) (ra + 2)))) ∨ ((nI 1) = nI 0 ∧ (rq + 1) = rq ∧ (upd qk rq (nI 1)) = qk ∧ (upd qt rq (nI (dv (cdT zs fr nn) ((ra + 1) + 1)))) = qt ∧ ((¬ (rq < 4 ∧ (cdT zs fr nn) ra = nI 44) ∧ ((ra + 1) + 1 + 1) = ra) ∨ (rq < 4 ∧ (cdT zs fr nn) ra = nI 44 ∧ isK ((cdT zs fr nn) (ra + 1)) = false ∧ ((ra + 1) + 1 + 1) = ra + 1) ∨ (rq < 4 ∧ (cdT zs fr nn) ra = nI 44 ∧ isK ((cdT zs fr nn) (ra + 1)) = true ∧ dg (cdT zs fr nn) (ra + 2) rs = false ∧ ((ra + 1) + 1 + 1) = ra + 2))) := by
                  have e_rs : rs - 1 + 1 = rs := Nat.sub_add_cancel hrs0
                  have z : dg (cdT zs fr nn) (ra + 2) rs = true := by rw [← e_rs]; exact q1
                  have y1 : rq < 4 := by omega
                  refine Or.inl ⟨y1, c_5, (isK_1 c_9 c_15).1, z, rfl, rfl, rfl, ?_, ?_⟩
                  · rw [(isK_1 c_9 c_15).2]
                  · rw [show ra + 1 + 1 = ra + 2 from rfl]
                refine kk_QQ hQQ ?_
                exact W.zret (v := nI 1) (ty := .boolean) hx hb hr (by decide +kernel) (fun t ht hW => ⟨⟨nI 1, (((ra + 1) + 1 + 1), rq + 1, upd qk rq (nI 1), upd qt rq (nI (dv (cdT zs fr nn) ((ra + 1) + 1)))), rfl, hq, by show va_P D vwCl _ t.heap; rw [ht]; exact hP⟩, hS.F ht⟩) hS.2.2 dX10_readsLamp_141
            · skip
              exact absurd c_20 c_9
          · skip
            have q2 := q2.symm
            have q3 := q3.symm
            subst q2 q3
            refine lv_istore (lv' := [(4, .int (-9 : Int32)), (3, .int (cdT zs fr nn (ra + 1))), (0, .ref m0), (1, .int (nI fr)), (2, .int (nI nn))]) hx hb dX10_readsLamp_80 hl (by decide) rfl (fun ls hl => ?_)
            refine lv_iload hx hb dX10_readsLamp_82 (lv_at hl 0 rfl) ?_
            refine lv_if_ge (tgt := 89) hx hb dX10_readsLamp_84 (by decide) (fun h => absurd h (by decide)) (fun h => ?_)
            refine lv_iconst (v := nI 0) hx hb dX10_readsLamp_87 (by decide +kernel) ?_
            have hq : (rq < 4 ∧ (cdT zs fr nn) ra = nI 44 ∧ isK ((cdT zs fr nn) (ra + 1)) = true ∧ dg (cdT zs fr nn) (ra + 2) rs = true ∧ (nI 0) = nI 1 ∧ ((ra + 1) + 1) = ra + 3 ∧ rq = rq + 1 ∧ qk = upd qk rq (nI (kdOf ((cdT zs fr nn) (ra + 1)))) ∧ qt = upd qt rq (nI (dv (cdT zs fr nn) (ra + 2)))) ∨ ((nI 0) = nI 0 ∧ rq = rq ∧ qk = qk ∧ qt = qt ∧ ((¬ (rq < 4 ∧ (cdT zs fr nn) ra = nI 44) ∧ ((ra + 1) + 1) = ra) ∨ (rq < 4 ∧ (cdT zs fr nn) ra = nI 44 ∧ isK ((cdT zs fr nn) (ra + 1)) = false ∧ ((ra + 1) + 1) = ra + 1) ∨ (rq < 4 ∧ (cdT zs fr nn) ra = nI 44 ∧ isK ((cdT zs fr nn) (ra + 1)) = true ∧ dg (cdT zs fr nn) (ra + 2) rs = false ∧ ((ra + 1) + 1) = ra + 2))) := by
              have e_rs : rs - 1 + 1 = rs := Nat.sub_add_cancel hrs0
              have z : dg (cdT zs fr nn) (ra + 2) rs = false := by rw [← e_rs]; exact q1
              refine Or.inr ⟨rfl, rfl, rfl, rfl, Or.inr (Or.inr ?_)⟩
              have y1 : rq < 4 := by omega
              exact ⟨y1, c_5, (isK_1 c_9 c_15).1, z, rfl⟩
            refine kk_QQ hQQ ?_
            exact W.zret (v := nI 0) (ty := .boolean) hx hb hr (by decide +kernel) (fun t ht hW => ⟨⟨nI 0, (((ra + 1) + 1), rq, qk, qt), rfl, hq, by show va_P D vwCl _ t.heap; rw [ht]; exact hP⟩, hS.F ht⟩) hS.2.2 dX10_readsLamp_88
        · skip
          refine lv_iload_n hx hb dX10_readsLamp_50 rfl (lv_at hl 0 rfl) ?_
          refine lv_bipush (v := nI 102) hx hb dX10_readsLamp_51 (by decide +kernel) ?_
          refine lv_icmp_eq (tgt := 58) hx hb dX10_readsLamp_53 (by decide) (fun c_22 => ?_) (fun c_22 => ?_)
          · skip
            refine lv_aload_n hx hb dX10_readsLamp_58 rfl (lv_at hl 1 rfl) ?_
            refine lv_dup hx hb dX10_readsLamp_59 rfl ?_
            refine va_get (D := D) (ci := 9) (v := .int (nI (ra + 1))) (C := RX10) (T := TX10) (N := 36) hx hb hts hwX10 hown hK hP 0 rfl rfl 10 (by decide) hf_110 (fun _ h9 => h9) rfl dX10_readsLamp_60 ?_
            refine lv_iconst (v := nI 1) hx hb dX10_readsLamp_63 (by decide +kernel) ?_
            refine kk_iadd hx hb dX10_readsLamp_64 ?_
            refine va_put (D := D) (ci := 9) (v := .int (nI ((ra + 1) + 1))) (ty := .int) (C := RX10) (T := TX10) (N := 36) hx hb hts hwX10 tyX10 tyX10_ok nmX10 hown hK hP hD hS 0 rfl rfl 10 (by decide) hf_110 (fun _ h9 => h9) rfl (by decide +kernel) rfl rfl (Nat.le_of_ble_eq_true rfl) dX10_readsLamp_65 (fun H locs hP hD hS => ?_)
            have hP : va_P D vwCl [(m0, .inr (9, [.int i0, .ref a1, .int i2, .ref a3, .int i4, .ref a5, .ref a6, .ref a7, .int i8, .int i9, .int (nI ((ra + 1) + 1)), .int (nI rs), .int (nI rq), .ref a13, .ref a14, .ref a15, .ref a16, .int i17, .ref a18, .ref a19, .ref a20, .ref a21, .ref a22, .ref a23, .ref a24, .ref a25, .int i26, .ref a27, .ref a28, .ref a29, .ref a30, .ref a31, .ref a32, .ref a33, .ref a34, .int i35])), (a15, .inl (cI, 4, .inl qk)), (a16, .inl (cI, 4, .inl qt)), (a33, .inl (cI, 240, .inl zs))] H := hP
            have hD : va_D A [(m0, .inr (9, [.int i0, .ref a1, .int i2, .ref a3, .int i4, .ref a5, .ref a6, .ref a7, .int i8, .int i9, .int (nI ((ra + 1) + 1)), .int (nI rs), .int (nI rq), .ref a13, .ref a14, .ref a15, .ref a16, .int i17, .ref a18, .ref a19, .ref a20, .ref a21, .ref a22, .ref a23, .ref a24, .ref a25, .int i26, .ref a27, .ref a28, .ref a29, .ref a30, .ref a31, .ref a32, .ref a33, .ref a34, .int i35])), (a15, .inl (cI, 4, .inl qk)), (a16, .inl (cI, 4, .inl qt)), (a33, .inl (cI, 240, .inl zs))] := hD
            refine lv_aload_n hx hb dX10_readsLamp_68 rfl (lv_at hl 1 rfl) ?_
            refine lv_iload_n hx hb dX10_readsLamp_69 rfl (lv_at hl 2 rfl) ?_
            refine lv_iload_n hx hb dX10_readsLamp_70 rfl (lv_at hl 3 rfl) ?_
            refine lv_aload_n hx hb dX10_readsLamp_71 rfl (lv_at hl 1 rfl) ?_
            refine va_get (D := D) (ci := 9) (v := .int (nI rs)) (C := RX10) (T := TX10) (N := 36) hx hb hts hwX10 hown hK hP 0 rfl rfl 11 (by decide) hf_117 (fun _ h9 => h9) rfl dX10_readsLamp_72 ?_
            refine lv_iconst (v := nI 1) hx hb dX10_readsLamp_75 (by decide +kernel) ?_
            refine kk_isub hx hb dX10_readsLamp_76 (by omega) ?_
            have o_23 : fr + nn ≤ 240 := by omega
            have o_24 : (rs - 1) ≤ 9 := by omega
            have o_25 : ((ra + 1) + 1) ≤ 400 := by omega
            have hF := va_free (wc := [(m0, .inr (9, [.int i0, .ref a1, .int i2, .ref a3, .int i4, .ref a5, .ref a6, .ref a7, .int i8, .int i9, .int (nI ((ra + 1) + 1)), .int (nI rs), .int (nI rq), .ref a13, .ref a14, .ref a15, .ref a16, .int i17, .ref a18, .ref a19, .ref a20, .ref a21, .ref a22, .ref a23, .ref a24, .ref a25, .int i26, .ref a27, .ref a28, .ref a29, .ref a30, .ref a31, .ref a32, .ref a33, .ref a34, .int i35])), (a33, .inl (cI, 240, .inl zs))]) hD hS hA [0, 3] rfl
            refine va_calli (va_runV (As := [.int (nI fr), .int (nI nn), .int (nI (rs - 1))]) (rest := []) ⟨hx, hb, hml, hown, hts⟩ (c_X10_figure lL D cI cS _ m0 a1 a3 a5 a6 a7 a13 a14 a15 a16 a18 a19 a20 a21 a22 a23 a24 a25 a27 a28 a29 a30 a31 a32 a33 a34 i0 i2 i4 i8 i9 (nI rs) (nI rq) i17 i26 i35 zs fr nn (rs - 1) ((ra + 1) + 1) o_23 o_24 o_25) (cwV 3 hts gX10_readsLamp_X10_figure rfl rfl rfl cd_X10_figure ⟨Nat.le_of_ble_eq_true rfl, Nat.le_of_ble_eq_true rfl⟩) ⟨kB_blind, va_recv hK hP (ci := 9) (q0 := 0) rfl rfl, fun U hU hW => ⟨rfl, by rw [hU], by rw [hU]; exact hP.sub [0, 3] rfl, va_K.moved hW.alike hK, (hD.sub [0, 3] (by decide) rfl).weaken (fun _ _ _ _ => trivial)⟩⟩ rfl rfl hl.1 rfl (lv_room (Nat.le_of_ble_eq_true rfl)) dX10_readsLamp_77 ⟨Nat.le_of_ble_eq_true rfl, Nat.le_of_ble_eq_true rfl⟩) hS (fun q _ h => hF q h) hF (fun r_26 u_26 t H1 locs ht hvm hw_26 hB hz1 hk1 hS => ?_)
            obtain ⟨hP, hD⟩ := kk_join2 (wc := [(m0, .inr (9, [.int i0, .ref a1, .int i2, .ref a3, .int i4, .ref a5, .ref a6, .ref a7, .int i8, .int i9, .int (nI ((ra + 1) + 1)), .int (nI rs), .int (nI rq), .ref a13, .ref a14, .ref a15, .ref a16, .int i17, .ref a18, .ref a19, .ref a20, .ref a21, .ref a22, .ref a23, .ref a24, .ref a25, .int i26, .ref a27, .ref a28, .ref a29, .ref a30, .ref a31, .ref a32, .ref a33, .ref a34, .int i35])), (a33, .inl (cI, 240, .inl zs))]) (w1 := [(m0, .inr (9, [.int i0, .ref a1, .int i2, .ref a3, .int i4, .ref a5, .ref a6, .ref a7, .int i8, .int i9, .int (nI u_26), .int (nI rs), .int (nI rq), .ref a13, .ref a14, .ref a15, .ref a16, .int i17, .ref a18, .ref a19, .ref a20, .ref a21, .ref a22, .ref a23, .ref a24, .ref a25, .int i26, .ref a27, .ref a28, .ref a29, .ref a30, .ref a31, .ref a32, .ref a33, .ref a34, .int i35])), (a33, .inl (cI, 240, .inl zs))]) (ws' := [(m0, .inr (9, [.int i0, .ref a1, .int i2, .ref a3, .int i4, .ref a5, .ref a6, .ref a7, .int i8, .int i9, .int (nI u_26), .int (nI rs), .int (nI rq), .ref a13, .ref a14, .ref a15, .ref a16, .int i17, .ref a18, .ref a19, .ref a20, .ref a21, .ref a22, .ref a23, .ref a24, .ref a25, .int i26, .ref a27, .ref a28, .ref a29, .ref a30, .ref a31, .ref a32, .ref a33, .ref a34, .int i35])), (a15, .inl (cI, 4, .inl qk)), (a16, .inl (cI, 4, .inl qt)), (a33, .inl (cI, 240, .inl zs))]) (wr := [(a15, .inl (cI, 4, .inl qk)), (a16, .inl (cI, 4, .inl qt))]) (H1 := H1) hP hD [0, 3] [1, 2] rfl rfl rfl rfl 4 rfl (by decide) [m0, a15, a16, a33] rfl rfl hk1 (by rw [← ht]; exact hB)
            have hw_26 : (dg (cdT zs fr nn) ((ra + 1) + 1) ((rs - 1) + 1) = true ∧ r_26 = nI (dv (cdT zs fr nn) ((ra + 1) + 1)) ∧ u_26 = ((ra + 1) + 1) + 1) ∨ (dg (cdT zs fr nn) ((ra + 1) + 1) ((rs - 1) + 1) = false ∧ r_26 = (-9) ∧ u_26 = ((ra + 1) + 1)) := hw_26
            clear hF hB hk1 hz1 hvm
            clear ht
            generalize H1 = H at hP hS ⊢
            rcases hw_26 with ⟨q1, q2, q3⟩ | ⟨q1, q2, q3⟩
            · skip
              have q2 := q2.symm
              have q3 := q3.symm
              subst q2 q3
              have qd := (dg_t q1).1
              refine lv_istore (lv' := [(4, .int (nI (dv (cdT zs fr nn) ((ra + 1) + 1)))), (3, .int (cdT zs fr nn (ra + 1))), (0, .ref m0), (1, .int (nI fr)), (2, .int (nI nn))]) hx hb dX10_readsLamp_80 hl (by decide) rfl (fun ls hl => ?_)
              refine lv_iload hx hb dX10_readsLamp_82 (lv_at hl 0 rfl) ?_
              refine kk_if_ge (tgt := 89) hx hb dX10_readsLamp_84 (by decide) (by omega) ?_
              refine lv_aload_n hx hb dX10_readsLamp_89 rfl (lv_at hl 2 rfl) ?_
              refine va_get (D := D) (ci := 9) (v := .ref a15) (C := RX10) (T := TX10) (N := 36) hx hb hts hwX10 hown hK hP 0 rfl rfl 15 (by decide) hf_31 (fun _ h9 => h9) rfl dX10_readsLamp_90 ?_
              refine lv_aload_n hx hb dX10_readsLamp_93 rfl (lv_at hl 2 rfl) ?_
              refine va_get (D := D) (ci := 9) (v := .int (nI rq)) (C := RX10) (T := TX10) (N := 36) hx hb hts hwX10 hown hK hP 0 rfl rfl 12 (by decide) hf_124 (fun _ h9 => h9) rfl dX10_readsLamp_94 ?_
              refine lv_iload_n hx hb dX10_readsLamp_97 rfl (lv_at hl 1 rfl) ?_
              refine lv_bipush (v := nI 108) hx hb dX10_readsLamp_98 (by decide +kernel) ?_
              refine lv_icmp_ne (tgt := 107) hx hb dX10_readsLamp_100 (by decide) (fun c_27 => ?_) (fun c_27 => ?_)
              · skip
                refine lv_iload_n hx hb dX10_readsLamp_107 rfl (lv_at hl 1 rfl) ?_
                refine lv_bipush (v := nI 109) hx hb dX10_readsLamp_108 (by decide +kernel) ?_
                refine lv_icmp_ne (tgt := 117) hx hb dX10_readsLamp_110 (by decide) (fun c_28 => ?_) (fun c_28 => ?_)
                · skip
                  refine lv_iconst (v := nI 2) hx hb dX10_readsLamp_117 (by decide +kernel) ?_
                  refine kk_iast hx hb hK hP hD hS 1 rfl rfl (i := rq) (by omega) (by decide) dX10_readsLamp_118 (fun H locs hP hD hS => ?_)
                  have hP : va_P D vwCl [(m0, .inr (9, [.int i0, .ref a1, .int i2, .ref a3, .int i4, .ref a5, .ref a6, .ref a7, .int i8, .int i9, .int (nI ((ra + 1) + 1 + 1)), .int (nI rs), .int (nI rq), .ref a13, .ref a14, .ref a15, .ref a16, .int i17, .ref a18, .ref a19, .ref a20, .ref a21, .ref a22, .ref a23, .ref a24, .ref a25, .int i26, .ref a27, .ref a28, .ref a29, .ref a30, .ref a31, .ref a32, .ref a33, .ref a34, .int i35])), (a15, .inl (cI, 4, .inl (upd qk rq (nI 2)))), (a16, .inl (cI, 4, .inl qt)), (a33, .inl (cI, 240, .inl zs))] H := hP
                  have hD : va_D A [(m0, .inr (9, [.int i0, .ref a1, .int i2, .ref a3, .int i4, .ref a5, .ref a6, .ref a7, .int i8, .int i9, .int (nI ((ra + 1) + 1 + 1)), .int (nI rs), .int (nI rq), .ref a13, .ref a14, .ref a15, .ref a16, .int i17, .ref a18, .ref a19, .ref a20, .ref a21, .ref a22, .ref a23, .ref a24, .ref a25, .int i26, .ref a27, .ref a28, .ref a29, .ref a30, .ref a31, .ref a32, .ref a33, .ref a34, .int i35])), (a15, .inl (cI, 4, .inl (upd qk rq (nI 2)))), (a16, .inl (cI, 4, .inl qt)), (a33, .inl (cI, 240, .inl zs))] := hD
                  refine lv_aload_n hx hb dX10_readsLamp_119 rfl (lv_at hl 2 rfl) ?_
                  refine va_get (D := D) (ci := 9) (v := .ref a16) (C := RX10) (T := TX10) (N := 36) hx hb hts hwX10 hown hK hP 0 rfl rfl 16 (by decide) hf_34 (fun _ h9 => h9) rfl dX10_readsLamp_120 ?_
                  refine lv_aload_n hx hb dX10_readsLamp_123 rfl (lv_at hl 2 rfl) ?_
                  refine va_get (D := D) (ci := 9) (v := .int (nI rq)) (C := RX10) (T := TX10) (N := 36) hx hb hts hwX10 hown hK hP 0 rfl rfl 12 (by decide) hf_124 (fun _ h9 => h9) rfl dX10_readsLamp_124 ?_
                  refine lv_iload hx hb dX10_readsLamp_127 (lv_at hl 0 rfl) ?_
                  refine kk_iast hx hb hK hP hD hS 2 rfl rfl (i := rq) (by omega) (by decide) dX10_readsLamp_129 (fun H locs hP hD hS => ?_)
                  have hP : va_P D vwCl [(m0, .inr (9, [.int i0, .ref a1, .int i2, .ref a3, .int i4, .ref a5, .ref a6, .ref a7, .int i8, .int i9, .int (nI ((ra + 1) + 1 + 1)), .int (nI rs), .int (nI rq), .ref a13, .ref a14, .ref a15, .ref a16, .int i17, .ref a18, .ref a19, .ref a20, .ref a21, .ref a22, .ref a23, .ref a24, .ref a25, .int i26, .ref a27, .ref a28, .ref a29, .ref a30, .ref a31, .ref a32, .ref a33, .ref a34, .int i35])), (a15, .inl (cI, 4, .inl (upd qk rq (nI 2)))), (a16, .inl (cI, 4, .inl (upd qt rq (nI (dv (cdT zs fr nn) ((ra + 1) + 1)))))), (a33, .inl (cI, 240, .inl zs))] H := hP
                  have hD : va_D A [(m0, .inr (9, [.int i0, .ref a1, .int i2, .ref a3, .int i4, .ref a5, .ref a6, .ref a7, .int i8, .int i9, .int (nI ((ra + 1) + 1 + 1)), .int (nI rs), .int (nI rq), .ref a13, .ref a14, .ref a15, .ref a16, .int i17, .ref a18, .ref a19, .ref a20, .ref a21, .ref a22, .ref a23, .ref a24, .ref a25, .int i26, .ref a27, .ref a28, .ref a29, .ref a30, .ref a31, .ref a32, .ref a33, .ref a34, .int i35])), (a15, .inl (cI, 4, .inl (upd qk rq (nI 2)))), (a16, .inl (cI, 4, .inl (upd qt rq (nI (dv (cdT zs fr nn) ((ra + 1) + 1)))))), (a33, .inl (cI, 240, .inl zs))] := hD
                  refine lv_aload_n hx hb dX10_readsLamp_130 rfl (lv_at hl 2 rfl) ?_
                  refine lv_dup hx hb dX10_readsLamp_131 rfl ?_
                  refine va_get (D := D) (ci := 9) (v := .int (nI rq)) (C := RX10) (T := TX10) (N := 36) hx hb hts hwX10 hown hK hP 0 rfl rfl 12 (by decide) hf_124 (fun _ h9 => h9) rfl dX10_readsLamp_132 ?_
                  refine lv_iconst (v := nI 1) hx hb dX10_readsLamp_135 (by decide +kernel) ?_
                  refine kk_iadd hx hb dX10_readsLamp_136 ?_
                  refine va_put (D := D) (ci := 9) (v := .int (nI (rq + 1))) (ty := .int) (C := RX10) (T := TX10) (N := 36) hx hb hts hwX10 tyX10 tyX10_ok nmX10 hown hK hP hD hS 0 rfl rfl 12 (by decide) hf_124 (fun _ h9 => h9) rfl (by decide +kernel) rfl rfl (Nat.le_of_ble_eq_true rfl) dX10_readsLamp_137 (fun H locs hP hD hS => ?_)
                  have hP : va_P D vwCl [(m0, .inr (9, [.int i0, .ref a1, .int i2, .ref a3, .int i4, .ref a5, .ref a6, .ref a7, .int i8, .int i9, .int (nI ((ra + 1) + 1 + 1)), .int (nI rs), .int (nI (rq + 1)), .ref a13, .ref a14, .ref a15, .ref a16, .int i17, .ref a18, .ref a19, .ref a20, .ref a21, .ref a22, .ref a23, .ref a24, .ref a25, .int i26, .ref a27, .ref a28, .ref a29, .ref a30, .ref a31, .ref a32, .ref a33, .ref a34, .int i35])), (a15, .inl (cI, 4, .inl (upd qk rq (nI 2)))), (a16, .inl (cI, 4, .inl (upd qt rq (nI (dv (cdT zs fr nn) ((ra + 1) + 1)))))), (a33, .inl (cI, 240, .inl zs))] H := hP
                  have hD : va_D A [(m0, .inr (9, [.int i0, .ref a1, .int i2, .ref a3, .int i4, .ref a5, .ref a6, .ref a7, .int i8, .int i9, .int (nI ((ra + 1) + 1 + 1)), .int (nI rs), .int (nI (rq + 1)), .ref a13, .ref a14, .ref a15, .ref a16, .int i17, .ref a18, .ref a19, .ref a20, .ref a21, .ref a22, .ref a23, .ref a24, .ref a25, .int i26, .ref a27, .ref a28, .ref a29, .ref a30, .ref a31, .ref a32, .ref a33, .ref a34, .int i35])), (a15, .inl (cI, 4, .inl (upd qk rq (nI 2)))), (a16, .inl (cI, 4, .inl (upd qt rq (nI (dv (cdT zs fr nn) ((ra + 1) + 1)))))), (a33, .inl (cI, 240, .inl zs))] := hD
                  refine lv_iconst (v := nI 1) hx hb dX10_readsLamp_140 (by decide +kernel) ?_
                  have hq : (rq < 4 ∧ (cdT zs fr nn) ra = nI 44 ∧ isK ((cdT zs fr nn) (ra + 1)) = true ∧ dg (cdT zs fr nn) (ra + 2) rs = true ∧ (nI 1) = nI 1 ∧ ((ra + 1) + 1 + 1) = ra + 3 ∧ (rq + 1) = rq + 1 ∧ (upd qk rq (nI 2)) = upd qk rq (nI (kdOf ((cdT zs fr nn) (ra + 1)))) ∧ (upd qt rq (nI (dv (cdT zs fr nn) ((ra + 1) + 1)))) = upd qt rq (nI (dv (cdT zs fr nn) (ra + 2)))) ∨ ((nI 1) = nI 0 ∧ (rq + 1) = rq ∧ (upd qk rq (nI 2)) = qk ∧ (upd qt rq (nI (dv (cdT zs fr nn) ((ra + 1) + 1)))) = qt ∧ ((¬ (rq < 4 ∧ (cdT zs fr nn) ra = nI 44) ∧ ((ra + 1) + 1 + 1) = ra) ∨ (rq < 4 ∧ (cdT zs fr nn) ra = nI 44 ∧ isK ((cdT zs fr nn) (ra + 1)) = false ∧ ((ra + 1) + 1 + 1) = ra + 1) ∨ (rq < 4 ∧ (cdT zs fr nn) ra = nI 44 ∧ isK ((cdT zs fr nn) (ra + 1)) = true ∧ dg (cdT zs fr nn) (ra + 2) rs = false ∧ ((ra + 1) + 1 + 1) = ra + 2))) := by
                    have e_rs : rs - 1 + 1 = rs := Nat.sub_add_cancel hrs0
                    have z : dg (cdT zs fr nn) (ra + 2) rs = true := by rw [← e_rs]; exact q1
                    have y1 : rq < 4 := by omega
                    refine Or.inl ⟨y1, c_5, (isK_2 c_9 c_15 c_22).1, z, rfl, rfl, rfl, ?_, ?_⟩
                    · rw [(isK_2 c_9 c_15 c_22).2]
                    · rw [show ra + 1 + 1 = ra + 2 from rfl]
                  refine kk_QQ hQQ ?_
                  exact W.zret (v := nI 1) (ty := .boolean) hx hb hr (by decide +kernel) (fun t ht hW => ⟨⟨nI 1, (((ra + 1) + 1 + 1), rq + 1, upd qk rq (nI 2), upd qt rq (nI (dv (cdT zs fr nn) ((ra + 1) + 1)))), rfl, hq, by show va_P D vwCl _ t.heap; rw [ht]; exact hP⟩, hS.F ht⟩) hS.2.2 dX10_readsLamp_141
                · skip
                  exact absurd c_28 c_15
              · skip
                exact absurd c_27 c_9
            · skip
              have q2 := q2.symm
              have q3 := q3.symm
              subst q2 q3
              refine lv_istore (lv' := [(4, .int (-9 : Int32)), (3, .int (cdT zs fr nn (ra + 1))), (0, .ref m0), (1, .int (nI fr)), (2, .int (nI nn))]) hx hb dX10_readsLamp_80 hl (by decide) rfl (fun ls hl => ?_)
              refine lv_iload hx hb dX10_readsLamp_82 (lv_at hl 0 rfl) ?_
              refine lv_if_ge (tgt := 89) hx hb dX10_readsLamp_84 (by decide) (fun h => absurd h (by decide)) (fun h => ?_)
              refine lv_iconst (v := nI 0) hx hb dX10_readsLamp_87 (by decide +kernel) ?_
              have hq : (rq < 4 ∧ (cdT zs fr nn) ra = nI 44 ∧ isK ((cdT zs fr nn) (ra + 1)) = true ∧ dg (cdT zs fr nn) (ra + 2) rs = true ∧ (nI 0) = nI 1 ∧ ((ra + 1) + 1) = ra + 3 ∧ rq = rq + 1 ∧ qk = upd qk rq (nI (kdOf ((cdT zs fr nn) (ra + 1)))) ∧ qt = upd qt rq (nI (dv (cdT zs fr nn) (ra + 2)))) ∨ ((nI 0) = nI 0 ∧ rq = rq ∧ qk = qk ∧ qt = qt ∧ ((¬ (rq < 4 ∧ (cdT zs fr nn) ra = nI 44) ∧ ((ra + 1) + 1) = ra) ∨ (rq < 4 ∧ (cdT zs fr nn) ra = nI 44 ∧ isK ((cdT zs fr nn) (ra + 1)) = false ∧ ((ra + 1) + 1) = ra + 1) ∨ (rq < 4 ∧ (cdT zs fr nn) ra = nI 44 ∧ isK ((cdT zs fr nn) (ra + 1)) = true ∧ dg (cdT zs fr nn) (ra + 2) rs = false ∧ ((ra + 1) + 1) = ra + 2))) := by
                have e_rs : rs - 1 + 1 = rs := Nat.sub_add_cancel hrs0
                have z : dg (cdT zs fr nn) (ra + 2) rs = false := by rw [← e_rs]; exact q1
                refine Or.inr ⟨rfl, rfl, rfl, rfl, Or.inr (Or.inr ?_)⟩
                have y1 : rq < 4 := by omega
                exact ⟨y1, c_5, (isK_2 c_9 c_15 c_22).1, z, rfl⟩
              refine kk_QQ hQQ ?_
              exact W.zret (v := nI 0) (ty := .boolean) hx hb hr (by decide +kernel) (fun t ht hW => ⟨⟨nI 0, (((ra + 1) + 1), rq, qk, qt), rfl, hq, by show va_P D vwCl _ t.heap; rw [ht]; exact hP⟩, hS.F ht⟩) hS.2.2 dX10_readsLamp_88
          · skip
            refine lv_iconst (v := nI 0) hx hb dX10_readsLamp_56 (by decide +kernel) ?_
            have hq : (rq < 4 ∧ (cdT zs fr nn) ra = nI 44 ∧ isK ((cdT zs fr nn) (ra + 1)) = true ∧ dg (cdT zs fr nn) (ra + 2) rs = true ∧ (nI 0) = nI 1 ∧ (ra + 1) = ra + 3 ∧ rq = rq + 1 ∧ qk = upd qk rq (nI (kdOf ((cdT zs fr nn) (ra + 1)))) ∧ qt = upd qt rq (nI (dv (cdT zs fr nn) (ra + 2)))) ∨ ((nI 0) = nI 0 ∧ rq = rq ∧ qk = qk ∧ qt = qt ∧ ((¬ (rq < 4 ∧ (cdT zs fr nn) ra = nI 44) ∧ (ra + 1) = ra) ∨ (rq < 4 ∧ (cdT zs fr nn) ra = nI 44 ∧ isK ((cdT zs fr nn) (ra + 1)) = false ∧ (ra + 1) = ra + 1) ∨ (rq < 4 ∧ (cdT zs fr nn) ra = nI 44 ∧ isK ((cdT zs fr nn) (ra + 1)) = true ∧ dg (cdT zs fr nn) (ra + 2) rs = false ∧ (ra + 1) = ra + 2))) := by exact Or.inr ⟨rfl, rfl, rfl, rfl, Or.inr (Or.inl ⟨by omega, c_5, isK_n c_9 c_15 c_22, rfl⟩)⟩
            refine kk_QQ hQQ ?_
            exact W.zret (v := nI 0) (ty := .boolean) hx hb hr (by decide +kernel) (fun t ht hW => ⟨⟨nI 0, (ra + 1, rq, qk, qt), rfl, hq, by show va_P D vwCl _ t.heap; rw [ht]; exact hP⟩, hS.F ht⟩) hS.2.2 dX10_readsLamp_57
    · skip
      refine lv_iconst (v := nI 0) hx hb dX10_readsLamp_19 (by decide +kernel) ?_
      have hq : (rq < 4 ∧ (cdT zs fr nn) ra = nI 44 ∧ isK ((cdT zs fr nn) (ra + 1)) = true ∧ dg (cdT zs fr nn) (ra + 2) rs = true ∧ (nI 0) = nI 1 ∧ ra = ra + 3 ∧ rq = rq + 1 ∧ qk = upd qk rq (nI (kdOf ((cdT zs fr nn) (ra + 1)))) ∧ qt = upd qt rq (nI (dv (cdT zs fr nn) (ra + 2)))) ∨ ((nI 0) = nI 0 ∧ rq = rq ∧ qk = qk ∧ qt = qt ∧ ((¬ (rq < 4 ∧ (cdT zs fr nn) ra = nI 44) ∧ ra = ra) ∨ (rq < 4 ∧ (cdT zs fr nn) ra = nI 44 ∧ isK ((cdT zs fr nn) (ra + 1)) = false ∧ ra = ra + 1) ∨ (rq < 4 ∧ (cdT zs fr nn) ra = nI 44 ∧ isK ((cdT zs fr nn) (ra + 1)) = true ∧ dg (cdT zs fr nn) (ra + 2) rs = false ∧ ra = ra + 2))) := by exact Or.inr ⟨rfl, rfl, rfl, rfl, Or.inl ⟨fun z => c_5 z.2, rfl⟩⟩
      refine kk_QQ hQQ ?_
      exact W.zret (v := nI 0) (ty := .boolean) hx hb hr (by decide +kernel) (fun t ht hW => ⟨⟨nI 0, (ra, rq, qk, qt), rfl, hq, by show va_P D vwCl _ t.heap; rw [ht]; exact hP⟩, hS.F ht⟩) hS.2.2 dX10_readsLamp_20
