theorem cd_X10_figure : yX10_figure.cls = RX10 ∧ yX10_figure.cls ≠ "java/lang/invoke/MethodHandle" ∧ yX10_figure.cls ≠ "java/lang/invoke/VarHandle" ∧ (parseMethodDescriptor yX10_figure.desc).map (fun d => d.parameters.length) = some 3 := by decide +kernel
abbrev rmX10_readsSpot : Room := { frames := 2, cells := 0, slots := 0, locals := 50 }
set_option maxHeartbeats 4000000 in
set_option maxRecDepth 100000 in
theorem c_X10_readsSpot (lL : Launch) (D : va_G) (cI cS : ClassId) (sz : Nat) (m0 : Nat) (a1 : Nat) (a3 : Nat) (a5 : Nat) (a6 : Nat) (a7 : Nat) (a13 : Nat) (a14 : Nat) (a15 : Nat) (a16 : Nat) (a18 : Nat) (a19 : Nat) (a20 : Nat) (a21 : Nat) (a22 : Nat) (a23 : Nat) (a24 : Nat) (a25 : Nat) (a27 : Nat) (a28 : Nat) (a29 : Nat) (a30 : Nat) (a31 : Nat) (a32 : Nat) (a33 : Nat) (a34 : Nat) (i0 : Int32) (i2 : Int32) (i4 : Int32) (i8 : Int32) (i9 : Int32) (i12 : Int32) (i17 : Int32) (i26 : Int32) (i35 : Int32) (qh : Nat → Int32) (zs : Nat → Int32) (fr : Nat) (nn : Nat) (ra : Nat) (rs : Nat) (hfn : fr + nn ≤ 240) (hrs : rs ≤ 4) (hra9 : ra ≤ 390) : Met lL yX10_readsSpot wsX10_readsSpot rmX10_readsSpot (va_Pc [.ref m0, .int (nI fr), .int (nI nn)] (kB D cI cS [(m0, .inr (9, [.int i0, .ref a1, .int i2, .ref a3, .int i4, .ref a5, .ref a6, .ref a7, .int i8, .int i9, .int (nI ra), .int (nI rs), .int i12, .ref a13, .ref a14, .ref a15, .ref a16, .int i17, .ref a18, .ref a19, .ref a20, .ref a21, .ref a22, .ref a23, .ref a24, .ref a25, .int i26, .ref a27, .ref a28, .ref a29, .ref a30, .ref a31, .ref a32, .ref a33, .ref a34, .int i35])), (a14, .inl (cI, 4, .inl qh)), (a33, .inl (cI, 240, .inl zs))] sz)) (kQi D (fun (r : Int32) (u : Nat × Nat × (Nat → Int32)) => (rs < 4 ∧ (cdT zs fr nn) ra = nI 59 ∧ dg (cdT zs fr nn) (ra + 1) 10 = true ∧ r = nI 1 ∧ u.1 = ra + 2 ∧ u.2.1 = rs + 1 ∧ u.2.2 = upd qh rs (nI (dv (cdT zs fr nn) (ra + 1)))) ∨ (r = nI 0 ∧ u.2.1 = rs ∧ u.2.2 = qh ∧ ((¬ (rs < 4 ∧ (cdT zs fr nn) ra = nI 59) ∧ u.1 = ra) ∨ (rs < 4 ∧ (cdT zs fr nn) ra = nI 59 ∧ dg (cdT zs fr nn) (ra + 1) 10 = false ∧ u.1 = ra + 1)))) (fun u : Nat × Nat × (Nat → Int32) => [(m0, .inr (9, [.int i0, .ref a1, .int i2, .ref a3, .int i4, .ref a5, .ref a6, .ref a7, .int i8, .int i9, .int (nI u.1), .int (nI u.2.1), .int i12, .ref a13, .ref a14, .ref a15, .ref a16, .int i17, .ref a18, .ref a19, .ref a20, .ref a21, .ref a22, .ref a23, .ref a24, .ref a25, .int i26, .ref a27, .ref a28, .ref a29, .ref a30, .ref a31, .ref a32, .ref a33, .ref a34, .int i35])), (a14, .inl (cI, 4, .inl u.2.2)), (a33, .inl (cI, 240, .inl zs))]) (va_A [(m0, .inr (9, [.int i0, .ref a1, .int i2, .ref a3, .int i4, .ref a5, .ref a6, .ref a7, .int i8, .int i9, .int (nI ra), .int (nI rs), .int i12, .ref a13, .ref a14, .ref a15, .ref a16, .int i17, .ref a18, .ref a19, .ref a20, .ref a21, .ref a22, .ref a23, .ref a24, .ref a25, .int i26, .ref a27, .ref a28, .ref a29, .ref a30, .ref a31, .ref a32, .ref a33, .ref a34, .int i35])), (a14, .inl (cI, 4, .inl qh)), (a33, .inl (cI, 240, .inl zs))] sz)) 0 0 (va_A [(m0, .inr (9, [.int i0, .ref a1, .int i2, .ref a3, .int i4, .ref a5, .ref a6, .ref a7, .int i8, .int i9, .int (nI ra), .int (nI rs), .int i12, .ref a13, .ref a14, .ref a15, .ref a16, .int i17, .ref a18, .ref a19, .ref a20, .ref a21, .ref a22, .ref a23, .ref a24, .ref a25, .int i26, .ref a27, .ref a28, .ref a29, .ref a30, .ref a31, .ref a32, .ref a33, .ref a34, .int i35])), (a14, .inl (cI, 4, .inl qh)), (a33, .inl (cI, 240, .inl zs))] sz) := by
  refine Met.ofW (cc := cX10_readsSpot) (maxL := 4) (ret := (some .boolean)) (by decide) rfl ?_
  intro pP eE sS mM args below meth cC s₁ B hml hv
  obtain ⟨rfl, hsz, hP, hK, hD0⟩ := hv
  have hx := B.exec
  have hb := B.bytes
  have hr := B.returns
  have hts := atoms_spec (ws := wsX10_readsSpot) B.pre
  have hown : sS.vm.findClass RX10 = some mM.cls := findClass_of_methodNamed B.named
  have hlocks := B.notSynchronized
  subst hsz
  have hD := hD0.self (sz := sS.heap.size)
  generalize hAe : va_A [(m0, .inr (9, [.int i0, .ref a1, .int i2, .ref a3, .int i4, .ref a5, .ref a6, .ref a7, .int i8, .int i9, .int (nI ra), .int (nI rs), .int i12, .ref a13, .ref a14, .ref a15, .ref a16, .int i17, .ref a18, .ref a19, .ref a20, .ref a21, .ref a22, .ref a23, .ref a24, .ref a25, .int i26, .ref a27, .ref a28, .ref a29, .ref a30, .ref a31, .ref a32, .ref a33, .ref a34, .int i35])), (a14, .inl (cI, 4, .inl qh)), (a33, .inl (cI, 240, .inl zs))] sS.heap.size = A at hD ⊢
  have hA : ∀ q : Nat, sS.heap.size ≤ q → A q := fun q h => by rw [← hAe]; exact Or.inr h
  have hS : va_S A sS.heap sS.heap [] := va_S.rf
  have hP : va_P D vwCl [(m0, .inr (9, [.int i0, .ref a1, .int i2, .ref a3, .int i4, .ref a5, .ref a6, .ref a7, .int i8, .int i9, .int (nI ra), .int (nI rs), .int i12, .ref a13, .ref a14, .ref a15, .ref a16, .int i17, .ref a18, .ref a19, .ref a20, .ref a21, .ref a22, .ref a23, .ref a24, .ref a25, .int i26, .ref a27, .ref a28, .ref a29, .ref a30, .ref a31, .ref a32, .ref a33, .ref a34, .int i35])), (a14, .inl (cI, 4, .inl qh)), (a33, .inl (cI, 240, .inl zs))] sS.heap := hP
  have hD : va_D A [(m0, .inr (9, [.int i0, .ref a1, .int i2, .ref a3, .int i4, .ref a5, .ref a6, .ref a7, .int i8, .int i9, .int (nI ra), .int (nI rs), .int i12, .ref a13, .ref a14, .ref a15, .ref a16, .int i17, .ref a18, .ref a19, .ref a20, .ref a21, .ref a22, .ref a23, .ref a24, .ref a25, .int i26, .ref a27, .ref a28, .ref a29, .ref a30, .ref a31, .ref a32, .ref a33, .ref a34, .int i35])), (a14, .inl (cI, 4, .inl qh)), (a33, .inl (cI, 240, .inl zs))] := hD
  have hf_28 := hts (.fieldLink RX10 28 "OldLampsModel" "readShade" "[I") (List.mem_of_getElem? (i := 3) rfl)
  have hf_110 := hts (.fieldLink RX10 110 "OldLampsModel" "readAt" "I") (List.mem_of_getElem? (i := 2) rfl)
  have hf_117 := hts (.fieldLink RX10 117 "OldLampsModel" "readSpots" "I") (List.mem_of_getElem? (i := 1) rfl)
  have hwX10 : ∀ w ∈ wsX100, w ∈ wsX10_readsSpot := fun _ h => List.mem_cons_of_mem _ (List.mem_append_right _ h)
  have hl := lv_entry ([.ref m0, .int (nI fr), .int (nI nn)]) (n := 4) (Nat.le_of_ble_eq_true rfl)
  rw [lg_entry_eq]
  generalize (lg_sl ([.ref m0, .int (nI fr), .int (nI nn)]) ++ List.replicate (4 - (lg_sl ([.ref m0, .int (nI fr), .int (nI nn)])).length) Slot.unset).toArray = ls at hl ⊢
  have hl : lv_has ls 4 [(0, .ref m0), (1, .int (nI fr)), (2, .int (nI nn))] := hl
  obtain ⟨QQ, hQQ⟩ : ∃ QQ : State → Prop, QQ = MQ below (kQi D (fun (r : Int32) (u : Nat × Nat × (Nat → Int32)) => (rs < 4 ∧ (cdT zs fr nn) ra = nI 59 ∧ dg (cdT zs fr nn) (ra + 1) 10 = true ∧ r = nI 1 ∧ u.1 = ra + 2 ∧ u.2.1 = rs + 1 ∧ u.2.2 = upd qh rs (nI (dv (cdT zs fr nn) (ra + 1)))) ∨ (r = nI 0 ∧ u.2.1 = rs ∧ u.2.2 = qh ∧ ((¬ (rs < 4 ∧ (cdT zs fr nn) ra = nI 59) ∧ u.1 = ra) ∨ (rs < 4 ∧ (cdT zs fr nn) ra = nI 59 ∧ dg (cdT zs fr nn) (ra + 1) 10 = false ∧ u.1 = ra + 1)))) (fun u : Nat × Nat × (Nat → Int32) => [(m0, .inr (9, [.int i0, .ref a1, .int i2, .ref a3, .int i4, .ref a5, .ref a6, .ref a7, .int i8, .int i9, .int (nI u.1), .int (nI u.2.1), .int i12, .ref a13, .ref a14, .ref a15, .ref a16, .int i17, .ref a18, .ref a19, .ref a20, .ref a21, .ref a22, .ref a23, .ref a24, .ref a25, .int i26, .ref a27, .ref a28, .ref a29, .ref a30, .ref a31, .ref a32, .ref a33, .ref a34, .int i35])), (a14, .inl (cI, 4, .inl u.2.2)), (a33, .inl (cI, 240, .inl zs))]) A) ([.ref m0, .int (nI fr), .int (nI nn)]).toArray sS 0 0 A := ⟨_, rfl⟩
  refine kk_QQ hQQ.symm ?_
  refine lv_aload_n hx hb dX10_readsSpot_0 rfl (lv_at hl 0 rfl) ?_
  refine va_get (D := D) (ci := 9) (v := .int (nI rs)) (C := RX10) (T := TX10) (N := 36) hx hb hts hwX10 hown hK hP 0 rfl rfl 11 (by decide) hf_117 (fun _ h9 => h9) rfl dX10_readsSpot_1 ?_
  refine lv_iconst (v := nI 4) hx hb dX10_readsSpot_4 (by decide +kernel) ?_
  refine kk_icmp_eq (tgt := 19) hx hb dX10_readsSpot_5 (by decide) (by omega) (by omega) (fun c_1 => ?_) (fun c_1 => ?_)
  · skip
    refine lv_iconst (v := nI 0) hx hb dX10_readsSpot_19 (by decide +kernel) ?_
    have hq : (rs < 4 ∧ (cdT zs fr nn) ra = nI 59 ∧ dg (cdT zs fr nn) (ra + 1) 10 = true ∧ (nI 0) = nI 1 ∧ ra = ra + 2 ∧ rs = rs + 1 ∧ qh = upd qh rs (nI (dv (cdT zs fr nn) (ra + 1)))) ∨ ((nI 0) = nI 0 ∧ rs = rs ∧ qh = qh ∧ ((¬ (rs < 4 ∧ (cdT zs fr nn) ra = nI 59) ∧ ra = ra) ∨ (rs < 4 ∧ (cdT zs fr nn) ra = nI 59 ∧ dg (cdT zs fr nn) (ra + 1) 10 = false ∧ ra = ra + 1))) := by exact Or.inr ⟨rfl, rfl, rfl, Or.inl ⟨fun z => by omega, rfl⟩⟩
    refine kk_QQ hQQ ?_
    exact W.zret (v := nI 0) (ty := .boolean) hx hb hr (by decide +kernel) (fun t ht hW => ⟨⟨nI 0, (ra, rs, qh), rfl, hq, by show va_P D vwCl _ t.heap; rw [ht]; exact hP⟩, hS.F ht⟩) hS.2.2 dX10_readsSpot_20
  · skip
    refine lv_aload_n hx hb dX10_readsSpot_8 rfl (lv_at hl 0 rfl) ?_
    refine lv_iload_n hx hb dX10_readsSpot_9 rfl (lv_at hl 1 rfl) ?_
    refine lv_iload_n hx hb dX10_readsSpot_10 rfl (lv_at hl 2 rfl) ?_
    have o_2 : fr + nn ≤ 240 := by omega
    have o_3 : ra ≤ 400 := by omega
    refine vp_callSi (W.runV (As := [.int (nI fr), .int (nI nn)]) (rest := []) ⟨hx, hb, hml, hown, hts⟩ (c_X10_codeAt lL D cI cS m0 a1 a3 a5 a6 a7 a13 a14 a15 a16 a18 a19 a20 a21 a22 a23 a24 a25 a27 a28 a29 a30 a31 a32 a33 a34 i0 i2 i4 i8 i9 (nI rs) i12 i17 i26 i35 zs fr nn ra o_2 o_3) (cwV 2 hts gX10_readsSpot_X10_codeAt rfl rfl rfl cd_X10_codeAt ⟨Nat.le_of_ble_eq_true rfl, Nat.le_of_ble_eq_true rfl⟩) ⟨kBp_blind, va_recv hK hP (ci := 9) (q0 := 0) rfl rfl, fun U hU hW => ⟨rfl, by rw [hU]; exact hP.sub [0, 2] rfl, va_K.moved hW.alike hK⟩⟩ rfl rfl hl.1 rfl (lv_room (Nat.le_of_ble_eq_true rfl)) dX10_readsSpot_11 ⟨Nat.le_of_ble_eq_true rfl, Nat.le_of_ble_eq_true rfl⟩) (fun r_4 hw_4 => ?_)
    obtain rfl : r_4 = cdT zs fr nn ra := hw_4
    refine lv_bipush (v := nI 59) hx hb dX10_readsSpot_14 (by decide +kernel) ?_
    refine lv_icmp_eq (tgt := 21) hx hb dX10_readsSpot_16 (by decide) (fun c_5 => ?_) (fun c_5 => ?_)
    · skip
      refine lv_aload_n hx hb dX10_readsSpot_21 rfl (lv_at hl 0 rfl) ?_
      refine lv_dup hx hb dX10_readsSpot_22 rfl ?_
      refine va_get (D := D) (ci := 9) (v := .int (nI ra)) (C := RX10) (T := TX10) (N := 36) hx hb hts hwX10 hown hK hP 0 rfl rfl 10 (by decide) hf_110 (fun _ h9 => h9) rfl dX10_readsSpot_23 ?_
      refine lv_iconst (v := nI 1) hx hb dX10_readsSpot_26 (by decide +kernel) ?_
      refine kk_iadd hx hb dX10_readsSpot_27 ?_
      refine va_put (D := D) (ci := 9) (v := .int (nI (ra + 1))) (ty := .int) (C := RX10) (T := TX10) (N := 36) hx hb hts hwX10 tyX10 tyX10_ok nmX10 hown hK hP hD hS 0 rfl rfl 10 (by decide) hf_110 (fun _ h9 => h9) rfl (by decide +kernel) rfl rfl (Nat.le_of_ble_eq_true rfl) dX10_readsSpot_28 (fun H locs hP hD hS => ?_)
      have hP : va_P D vwCl [(m0, .inr (9, [.int i0, .ref a1, .int i2, .ref a3, .int i4, .ref a5, .ref a6, .ref a7, .int i8, .int i9, .int (nI (ra + 1)), .int (nI rs), .int i12, .ref a13, .ref a14, .ref a15, .ref a16, .int i17, .ref a18, .ref a19, .ref a20, .ref a21, .ref a22, .ref a23, .ref a24, .ref a25, .int i26, .ref a27, .ref a28, .ref a29, .ref a30, .ref a31, .ref a32, .ref a33, .ref a34, .int i35])), (a14, .inl (cI, 4, .inl qh)), (a33, .inl (cI, 240, .inl zs))] H := hP
      have hD : va_D A [(m0, .inr (9, [.int i0, .ref a1, .int i2, .ref a3, .int i4, .ref a5, .ref a6, .ref a7, .int i8, .int i9, .int (nI (ra + 1)), .int (nI rs), .int i12, .ref a13, .ref a14, .ref a15, .ref a16, .int i17, .ref a18, .ref a19, .ref a20, .ref a21, .ref a22, .ref a23, .ref a24, .ref a25, .int i26, .ref a27, .ref a28, .ref a29, .ref a30, .ref a31, .ref a32, .ref a33, .ref a34, .int i35])), (a14, .inl (cI, 4, .inl qh)), (a33, .inl (cI, 240, .inl zs))] := hD
      refine lv_aload_n hx hb dX10_readsSpot_31 rfl (lv_at hl 0 rfl) ?_
      refine lv_iload_n hx hb dX10_readsSpot_32 rfl (lv_at hl 1 rfl) ?_
      refine lv_iload_n hx hb dX10_readsSpot_33 rfl (lv_at hl 2 rfl) ?_
      refine lv_bipush (v := nI 9) hx hb dX10_readsSpot_34 (by decide +kernel) ?_
      have o_6 : fr + nn ≤ 240 := by omega
      have o_7 : 9 ≤ 9 := by omega
      have o_8 : (ra + 1) ≤ 400 := by omega
      have hF := va_free (wc := [(m0, .inr (9, [.int i0, .ref a1, .int i2, .ref a3, .int i4, .ref a5, .ref a6, .ref a7, .int i8, .int i9, .int (nI (ra + 1)), .int (nI rs), .int i12, .ref a13, .ref a14, .ref a15, .ref a16, .int i17, .ref a18, .ref a19, .ref a20, .ref a21, .ref a22, .ref a23, .ref a24, .ref a25, .int i26, .ref a27, .ref a28, .ref a29, .ref a30, .ref a31, .ref a32, .ref a33, .ref a34, .int i35])), (a33, .inl (cI, 240, .inl zs))]) hD hS hA [0, 2] rfl
      refine va_calli (va_runV (As := [.int (nI fr), .int (nI nn), .int (nI 9)]) (rest := []) ⟨hx, hb, hml, hown, hts⟩ (c_X10_figure lL D cI cS _ m0 a1 a3 a5 a6 a7 a13 a14 a15 a16 a18 a19 a20 a21 a22 a23 a24 a25 a27 a28 a29 a30 a31 a32 a33 a34 i0 i2 i4 i8 i9 (nI rs) i12 i17 i26 i35 zs fr nn 9 (ra + 1) o_6 o_7 o_8) (cwV 3 hts gX10_readsSpot_X10_figure rfl rfl rfl cd_X10_figure ⟨Nat.le_of_ble_eq_true rfl, Nat.le_of_ble_eq_true rfl⟩) ⟨kB_blind, va_recv hK hP (ci := 9) (q0 := 0) rfl rfl, fun U hU hW => ⟨rfl, by rw [hU], by rw [hU]; exact hP.sub [0, 2] rfl, va_K.moved hW.alike hK, (hD.sub [0, 2] (by decide) rfl).weaken (fun _ _ _ _ => trivial)⟩⟩ rfl rfl hl.1 rfl (lv_room (Nat.le_of_ble_eq_true rfl)) dX10_readsSpot_36 ⟨Nat.le_of_ble_eq_true rfl, Nat.le_of_ble_eq_true rfl⟩) hS (fun q _ h => hF q h) hF (fun r_9 u_9 t H1 locs ht hvm hw_9 hB hz1 hk1 hS => ?_)
      obtain ⟨hP, hD⟩ := kk_join2 (wc := [(m0, .inr (9, [.int i0, .ref a1, .int i2, .ref a3, .int i4, .ref a5, .ref a6, .ref a7, .int i8, .int i9, .int (nI (ra + 1)), .int (nI rs), .int i12, .ref a13, .ref a14, .ref a15, .ref a16, .int i17, .ref a18, .ref a19, .ref a20, .ref a21, .ref a22, .ref a23, .ref a24, .ref a25, .int i26, .ref a27, .ref a28, .ref a29, .ref a30, .ref a31, .ref a32, .ref a33, .ref a34, .int i35])), (a33, .inl (cI, 240, .inl zs))]) (w1 := [(m0, .inr (9, [.int i0, .ref a1, .int i2, .ref a3, .int i4, .ref a5, .ref a6, .ref a7, .int i8, .int i9, .int (nI u_9), .int (nI rs), .int i12, .ref a13, .ref a14, .ref a15, .ref a16, .int i17, .ref a18, .ref a19, .ref a20, .ref a21, .ref a22, .ref a23, .ref a24, .ref a25, .int i26, .ref a27, .ref a28, .ref a29, .ref a30, .ref a31, .ref a32, .ref a33, .ref a34, .int i35])), (a33, .inl (cI, 240, .inl zs))]) (ws' := [(m0, .inr (9, [.int i0, .ref a1, .int i2, .ref a3, .int i4, .ref a5, .ref a6, .ref a7, .int i8, .int i9, .int (nI u_9), .int (nI rs), .int i12, .ref a13, .ref a14, .ref a15, .ref a16, .int i17, .ref a18, .ref a19, .ref a20, .ref a21, .ref a22, .ref a23, .ref a24, .ref a25, .int i26, .ref a27, .ref a28, .ref a29, .ref a30, .ref a31, .ref a32, .ref a33, .ref a34, .int i35])), (a14, .inl (cI, 4, .inl qh)), (a33, .inl (cI, 240, .inl zs))]) (wr := [(a14, .inl (cI, 4, .inl qh))]) (H1 := H1) hP hD [0, 2] [1] rfl rfl rfl rfl 3 rfl (by decide) [m0, a14, a33] rfl rfl hk1 (by rw [← ht]; exact hB)
      have hw_9 : (dg (cdT zs fr nn) (ra + 1) (9 + 1) = true ∧ r_9 = nI (dv (cdT zs fr nn) (ra + 1)) ∧ u_9 = (ra + 1) + 1) ∨ (dg (cdT zs fr nn) (ra + 1) (9 + 1) = false ∧ r_9 = (-9) ∧ u_9 = (ra + 1)) := hw_9
      clear hF hB hk1 hz1 hvm
      clear ht
      generalize H1 = H at hP hS ⊢
      rcases hw_9 with ⟨q1, q2, q3⟩ | ⟨q1, q2, q3⟩
      · skip
        have q2 := q2.symm
        have q3 := q3.symm
        subst q2 q3
        have qd := (dg_t q1).1
        refine lv_istore_n (lv' := [(3, .int (nI (dv (cdT zs fr nn) (ra + 1)))), (0, .ref m0), (1, .int (nI fr)), (2, .int (nI nn))]) hx hb dX10_readsSpot_39 rfl hl (by decide) rfl (fun ls hl => ?_)
        refine lv_iload_n hx hb dX10_readsSpot_40 rfl (lv_at hl 0 rfl) ?_
        refine kk_if_ge (tgt := 46) hx hb dX10_readsSpot_41 (by decide) (by omega) ?_
        refine lv_aload_n hx hb dX10_readsSpot_46 rfl (lv_at hl 1 rfl) ?_
        refine va_get (D := D) (ci := 9) (v := .ref a14) (C := RX10) (T := TX10) (N := 36) hx hb hts hwX10 hown hK hP 0 rfl rfl 14 (by decide) hf_28 (fun _ h9 => h9) rfl dX10_readsSpot_47 ?_
        refine lv_aload_n hx hb dX10_readsSpot_50 rfl (lv_at hl 1 rfl) ?_
        refine va_get (D := D) (ci := 9) (v := .int (nI rs)) (C := RX10) (T := TX10) (N := 36) hx hb hts hwX10 hown hK hP 0 rfl rfl 11 (by decide) hf_117 (fun _ h9 => h9) rfl dX10_readsSpot_51 ?_
        refine lv_iload_n hx hb dX10_readsSpot_54 rfl (lv_at hl 0 rfl) ?_
        refine kk_iast hx hb hK hP hD hS 1 rfl rfl (i := rs) (by omega) (by decide) dX10_readsSpot_55 (fun H locs hP hD hS => ?_)
        have hP : va_P D vwCl [(m0, .inr (9, [.int i0, .ref a1, .int i2, .ref a3, .int i4, .ref a5, .ref a6, .ref a7, .int i8, .int i9, .int (nI (ra + 1 + 1)), .int (nI rs), .int i12, .ref a13, .ref a14, .ref a15, .ref a16, .int i17, .ref a18, .ref a19, .ref a20, .ref a21, .ref a22, .ref a23, .ref a24, .ref a25, .int i26, .ref a27, .ref a28, .ref a29, .ref a30, .ref a31, .ref a32, .ref a33, .ref a34, .int i35])), (a14, .inl (cI, 4, .inl (upd qh rs (nI (dv (cdT zs fr nn) (ra + 1)))))), (a33, .inl (cI, 240, .inl zs))] H := hP
        have hD : va_D A [(m0, .inr (9, [.int i0, .ref a1, .int i2, .ref a3, .int i4, .ref a5, .ref a6, .ref a7, .int i8, .int i9, .int (nI (ra + 1 + 1)), .int (nI rs), .int i12, .ref a13, .ref a14, .ref a15, .ref a16, .int i17, .ref a18, .ref a19, .ref a20, .ref a21, .ref a22, .ref a23, .ref a24, .ref a25, .int i26, .ref a27, .ref a28, .ref a29, .ref a30, .ref a31, .ref a32, .ref a33, .ref a34, .int i35])), (a14, .inl (cI, 4, .inl (upd qh rs (nI (dv (cdT zs fr nn) (ra + 1)))))), (a33, .inl (cI, 240, .inl zs))] := hD
        refine lv_aload_n hx hb dX10_readsSpot_56 rfl (lv_at hl 1 rfl) ?_
        refine lv_dup hx hb dX10_readsSpot_57 rfl ?_
        refine va_get (D := D) (ci := 9) (v := .int (nI rs)) (C := RX10) (T := TX10) (N := 36) hx hb hts hwX10 hown hK hP 0 rfl rfl 11 (by decide) hf_117 (fun _ h9 => h9) rfl dX10_readsSpot_58 ?_
        refine lv_iconst (v := nI 1) hx hb dX10_readsSpot_61 (by decide +kernel) ?_
        refine kk_iadd hx hb dX10_readsSpot_62 ?_
        refine va_put (D := D) (ci := 9) (v := .int (nI (rs + 1))) (ty := .int) (C := RX10) (T := TX10) (N := 36) hx hb hts hwX10 tyX10 tyX10_ok nmX10 hown hK hP hD hS 0 rfl rfl 11 (by decide) hf_117 (fun _ h9 => h9) rfl (by decide +kernel) rfl rfl (Nat.le_of_ble_eq_true rfl) dX10_readsSpot_63 (fun H locs hP hD hS => ?_)
        have hP : va_P D vwCl [(m0, .inr (9, [.int i0, .ref a1, .int i2, .ref a3, .int i4, .ref a5, .ref a6, .ref a7, .int i8, .int i9, .int (nI (ra + 1 + 1)), .int (nI (rs + 1)), .int i12, .ref a13, .ref a14, .ref a15, .ref a16, .int i17, .ref a18, .ref a19, .ref a20, .ref a21, .ref a22, .ref a23, .ref a24, .ref a25, .int i26, .ref a27, .ref a28, .ref a29, .ref a30, .ref a31, .ref a32, .ref a33, .ref a34, .int i35])), (a14, .inl (cI, 4, .inl (upd qh rs (nI (dv (cdT zs fr nn) (ra + 1)))))), (a33, .inl (cI, 240, .inl zs))] H := hP
        have hD : va_D A [(m0, .inr (9, [.int i0, .ref a1, .int i2, .ref a3, .int i4, .ref a5, .ref a6, .ref a7, .int i8, .int i9, .int (nI (ra + 1 + 1)), .int (nI (rs + 1)), .int i12, .ref a13, .ref a14, .ref a15, .ref a16, .int i17, .ref a18, .ref a19, .ref a20, .ref a21, .ref a22, .ref a23, .ref a24, .ref a25, .int i26, .ref a27, .ref a28, .ref a29, .ref a30, .ref a31, .ref a32, .ref a33, .ref a34, .int i35])), (a14, .inl (cI, 4, .inl (upd qh rs (nI (dv (cdT zs fr nn) (ra + 1)))))), (a33, .inl (cI, 240, .inl zs))] := hD
        refine lv_iconst (v := nI 1) hx hb dX10_readsSpot_66 (by decide +kernel) ?_
        have hq : (rs < 4 ∧ (cdT zs fr nn) ra = nI 59 ∧ dg (cdT zs fr nn) (ra + 1) 10 = true ∧ (nI 1) = nI 1 ∧ (ra + 1 + 1) = ra + 2 ∧ (rs + 1) = rs + 1 ∧ (upd qh rs (nI (dv (cdT zs fr nn) (ra + 1)))) = upd qh rs (nI (dv (cdT zs fr nn) (ra + 1)))) ∨ ((nI 1) = nI 0 ∧ (rs + 1) = rs ∧ (upd qh rs (nI (dv (cdT zs fr nn) (ra + 1)))) = qh ∧ ((¬ (rs < 4 ∧ (cdT zs fr nn) ra = nI 59) ∧ (ra + 1 + 1) = ra) ∨ (rs < 4 ∧ (cdT zs fr nn) ra = nI 59 ∧ dg (cdT zs fr nn) (ra + 1) 10 = false ∧ (ra + 1 + 1) = ra + 1))) := by exact Or.inl ⟨by omega, c_5, q1, rfl, rfl, rfl, rfl⟩
        refine kk_QQ hQQ ?_
        exact W.zret (v := nI 1) (ty := .boolean) hx hb hr (by decide +kernel) (fun t ht hW => ⟨⟨nI 1, ((ra + 1 + 1), rs + 1, upd qh rs (nI (dv (cdT zs fr nn) (ra + 1)))), rfl, hq, by show va_P D vwCl _ t.heap; rw [ht]; exact hP⟩, hS.F ht⟩) hS.2.2 dX10_readsSpot_67
      · skip
        have q2 := q2.symm
        have q3 := q3.symm
        subst q2 q3
        refine lv_istore_n (lv' := [(3, .int (-9 : Int32)), (0, .ref m0), (1, .int (nI fr)), (2, .int (nI nn))]) hx hb dX10_readsSpot_39 rfl hl (by decide) rfl (fun ls hl => ?_)
        refine lv_iload_n hx hb dX10_readsSpot_40 rfl (lv_at hl 0 rfl) ?_
        refine lv_if_ge (tgt := 46) hx hb dX10_readsSpot_41 (by decide) (fun h => absurd h (by decide)) (fun h => ?_)
        refine lv_iconst (v := nI 0) hx hb dX10_readsSpot_44 (by decide +kernel) ?_
        have hq : (rs < 4 ∧ (cdT zs fr nn) ra = nI 59 ∧ dg (cdT zs fr nn) (ra + 1) 10 = true ∧ (nI 0) = nI 1 ∧ (ra + 1) = ra + 2 ∧ rs = rs + 1 ∧ qh = upd qh rs (nI (dv (cdT zs fr nn) (ra + 1)))) ∨ ((nI 0) = nI 0 ∧ rs = rs ∧ qh = qh ∧ ((¬ (rs < 4 ∧ (cdT zs fr nn) ra = nI 59) ∧ (ra + 1) = ra) ∨ (rs < 4 ∧ (cdT zs fr nn) ra = nI 59 ∧ dg (cdT zs fr nn) (ra + 1) 10 = false ∧ (ra + 1) = ra + 1))) := by exact Or.inr ⟨rfl, rfl, rfl, Or.inr ⟨by omega, c_5, q1, rfl⟩⟩
        refine kk_QQ hQQ ?_
        exact W.zret (v := nI 0) (ty := .boolean) hx hb hr (by decide +kernel) (fun t ht hW => ⟨⟨nI 0, ((ra + 1), rs, qh), rfl, hq, by show va_P D vwCl _ t.heap; rw [ht]; exact hP⟩, hS.F ht⟩) hS.2.2 dX10_readsSpot_45
    · skip
      refine lv_iconst (v := nI 0) hx hb dX10_readsSpot_19 (by decide +kernel) ?_
      have hq : (rs < 4 ∧ (cdT zs fr nn) ra = nI 59 ∧ dg (cdT zs fr nn) (ra + 1) 10 = true ∧ (nI 0) = nI 1 ∧ ra = ra + 2 ∧ rs = rs + 1 ∧ qh = upd qh rs (nI (dv (cdT zs fr nn) (ra + 1)))) ∨ ((nI 0) = nI 0 ∧ rs = rs ∧ qh = qh ∧ ((¬ (rs < 4 ∧ (cdT zs fr nn) ra = nI 59) ∧ ra = ra) ∨ (rs < 4 ∧ (cdT zs fr nn) ra = nI 59 ∧ dg (cdT zs fr nn) (ra + 1) 10 = false ∧ ra = ra + 1))) := by exact Or.inr ⟨rfl, rfl, rfl, Or.inl ⟨fun z => c_5 z.2, rfl⟩⟩
      refine kk_QQ hQQ ?_
      exact W.zret (v := nI 0) (ty := .boolean) hx hb hr (by decide +kernel) (fun t ht hW => ⟨⟨nI 0, (ra, rs, qh), rfl, hq, by show va_P D vwCl _ t.heap; rw [ht]; exact hP⟩, hS.F ht⟩) hS.2.2 dX10_readsSpot_20
