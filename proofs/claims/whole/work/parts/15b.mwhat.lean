theorem cd_X10_allLight : yX10_allLight.cls = RX10 ∧ yX10_allLight.cls ≠ "java/lang/invoke/MethodHandle" ∧ yX10_allLight.cls ≠ "java/lang/invoke/VarHandle" ∧ (parseMethodDescriptor yX10_allLight.desc).map (fun d => d.parameters.length) = some 0 := by decide +kernel
theorem cd_X10_areSo : yX10_areSo.cls = RX10 ∧ yX10_areSo.cls ≠ "java/lang/invoke/MethodHandle" ∧ yX10_areSo.cls ≠ "java/lang/invoke/VarHandle" ∧ (parseMethodDescriptor yX10_areSo.desc).map (fun d => d.parameters.length) = some 0 := by decide +kernel
abbrev rmX10_stood : Room := { frames := 4, cells := 0, slots := 0, locals := 97 }
set_option maxHeartbeats 4000000 in
set_option maxRecDepth 100000 in
theorem c_X10_stood (lL : Launch) (D : va_G) (cI cS : ClassId) (sz : Nat) (C : Co) (T : Mv) (E : Mv) (m0 : Nat) (a1 : Nat) (a3 : Nat) (a5 : Nat) (a6 : Nat) (a7 : Nat) (a13 : Nat) (a14 : Nat) (a15 : Nat) (a16 : Nat) (a18 : Nat) (a19 : Nat) (a20 : Nat) (a21 : Nat) (a22 : Nat) (a23 : Nat) (a24 : Nat) (a25 : Nat) (a27 : Nat) (a28 : Nat) (a29 : Nat) (a30 : Nat) (a31 : Nat) (a32 : Nat) (a33 : Nat) (a34 : Nat) (i0 : Int32) (i10 : Int32) (i11 : Int32) (i12 : Int32) (i35 : Int32) (sk : Nat → Int32) (sh : Nat → Int32) (ki : Nat → Int32) (st : Nat → Int32) (cl : Nat → Int32) (mo : Nat → Int32) (mi : Nat → Int32) (mt : Nat → Int32) (fa : Nat → Int32) (gi : Nat → Int32) (ro : Nat → Int32) (ri : Nat → Int32) (rv : Nat → Int32) (x1 : Int32) (hX : okX C T E) (hrC : repC C sk sh ki st cl) (hrT : repM T mo mi mt) (hrE : repM E ro ri rv) : Met lL yX10_stood wsX10_stood rmX10_stood (va_Pc [.ref m0, .int x1] (kB D cI cS [(m0, .inr (9, [.int i0, .ref a1, .int (nI (cSp C)), .ref a3, .int (nI (cLa C)), .ref a5, .ref a6, .ref a7, .int (nI (cAg C)), .int (-9 : Int32), .int i10, .int i11, .int i12, .ref a13, .ref a14, .ref a15, .ref a16, .int (nI (mN T)), .ref a18, .ref a19, .ref a20, .ref a21, .ref a22, .ref a23, .ref a24, .ref a25, .int (nI (mN E)), .ref a27, .ref a28, .ref a29, .ref a30, .ref a31, .ref a32, .ref a33, .ref a34, .int i35])), (a1, .inl (cI, 6, .inl sk)), (a3, .inl (cI, 4, .inl sh)), (a5, .inl (cI, 4, .inl ki)), (a6, .inl (cI, 4, .inl st)), (a7, .inl (cI, 4, .inl cl)), (a18, .inl (cI, 9, .inl mo)), (a19, .inl (cI, 9, .inl mi)), (a20, .inl (cI, 9, .inl mt)), (a21, .inl (cI, 96, .inl fa)), (a22, .inl (cI, 96, .inl gi)), (a27, .inl (cI, 8, .inl ro)), (a28, .inl (cI, 8, .inl ri)), (a29, .inl (cI, 8, .inl rv))] sz)) (kQi D (fun (r : Int32) (u : (Nat → Int32) × (Nat → Int32) × (Nat → Int32)) => r = sp_stood C T E x1 ∧ repC C sk sh ki u.1 cl) (fun u : (Nat → Int32) × (Nat → Int32) × (Nat → Int32) => [(m0, .inr (9, [.int i0, .ref a1, .int (nI (cSp C)), .ref a3, .int (nI (cLa C)), .ref a5, .ref a6, .ref a7, .int (nI (cAg C)), .int (-9 : Int32), .int i10, .int i11, .int i12, .ref a13, .ref a14, .ref a15, .ref a16, .int (nI (mN T)), .ref a18, .ref a19, .ref a20, .ref a21, .ref a22, .ref a23, .ref a24, .ref a25, .int (nI (mN E)), .ref a27, .ref a28, .ref a29, .ref a30, .ref a31, .ref a32, .ref a33, .ref a34, .int i35])), (a1, .inl (cI, 6, .inl sk)), (a3, .inl (cI, 4, .inl sh)), (a5, .inl (cI, 4, .inl ki)), (a6, .inl (cI, 4, .inl u.1)), (a7, .inl (cI, 4, .inl cl)), (a18, .inl (cI, 9, .inl mo)), (a19, .inl (cI, 9, .inl mi)), (a20, .inl (cI, 9, .inl mt)), (a21, .inl (cI, 96, .inl u.2.1)), (a22, .inl (cI, 96, .inl u.2.2)), (a27, .inl (cI, 8, .inl ro)), (a28, .inl (cI, 8, .inl ri)), (a29, .inl (cI, 8, .inl rv))]) (va_A [(m0, .inr (9, [.int i0, .ref a1, .int (nI (cSp C)), .ref a3, .int (nI (cLa C)), .ref a5, .ref a6, .ref a7, .int (nI (cAg C)), .int (-9 : Int32), .int i10, .int i11, .int i12, .ref a13, .ref a14, .ref a15, .ref a16, .int (nI (mN T)), .ref a18, .ref a19, .ref a20, .ref a21, .ref a22, .ref a23, .ref a24, .ref a25, .int (nI (mN E)), .ref a27, .ref a28, .ref a29, .ref a30, .ref a31, .ref a32, .ref a33, .ref a34, .int i35])), (a1, .inl (cI, 6, .inl sk)), (a3, .inl (cI, 4, .inl sh)), (a5, .inl (cI, 4, .inl ki)), (a6, .inl (cI, 4, .inl st)), (a7, .inl (cI, 4, .inl cl)), (a18, .inl (cI, 9, .inl mo)), (a19, .inl (cI, 9, .inl mi)), (a20, .inl (cI, 9, .inl mt)), (a21, .inl (cI, 96, .inl fa)), (a22, .inl (cI, 96, .inl gi)), (a27, .inl (cI, 8, .inl ro)), (a28, .inl (cI, 8, .inl ri)), (a29, .inl (cI, 8, .inl rv))] sz)) 0 0 (va_A [(m0, .inr (9, [.int i0, .ref a1, .int (nI (cSp C)), .ref a3, .int (nI (cLa C)), .ref a5, .ref a6, .ref a7, .int (nI (cAg C)), .int (-9 : Int32), .int i10, .int i11, .int i12, .ref a13, .ref a14, .ref a15, .ref a16, .int (nI (mN T)), .ref a18, .ref a19, .ref a20, .ref a21, .ref a22, .ref a23, .ref a24, .ref a25, .int (nI (mN E)), .ref a27, .ref a28, .ref a29, .ref a30, .ref a31, .ref a32, .ref a33, .ref a34, .int i35])), (a1, .inl (cI, 6, .inl sk)), (a3, .inl (cI, 4, .inl sh)), (a5, .inl (cI, 4, .inl ki)), (a6, .inl (cI, 4, .inl st)), (a7, .inl (cI, 4, .inl cl)), (a18, .inl (cI, 9, .inl mo)), (a19, .inl (cI, 9, .inl mi)), (a20, .inl (cI, 9, .inl mt)), (a21, .inl (cI, 96, .inl fa)), (a22, .inl (cI, 96, .inl gi)), (a27, .inl (cI, 8, .inl ro)), (a28, .inl (cI, 8, .inl ri)), (a29, .inl (cI, 8, .inl rv))] sz) := by
  refine Met.ofW (cc := cX10_stood) (maxL := 5) (ret := (some .int)) (by decide) rfl ?_
  intro pP eE sS mM args below meth cC s₁ B hml hv
  obtain ⟨rfl, hsz, hP, hK, hD0⟩ := hv
  have hx := B.exec
  have hb := B.bytes
  have hr := B.returns
  have hts := atoms_spec (ws := wsX10_stood) B.pre
  have hown : sS.vm.findClass RX10 = some mM.cls := findClass_of_methodNamed B.named
  have hlocks := B.notSynchronized
  subst hsz
  have hD := hD0.self (sz := sS.heap.size)
  generalize hAe : va_A [(m0, .inr (9, [.int i0, .ref a1, .int (nI (cSp C)), .ref a3, .int (nI (cLa C)), .ref a5, .ref a6, .ref a7, .int (nI (cAg C)), .int (-9 : Int32), .int i10, .int i11, .int i12, .ref a13, .ref a14, .ref a15, .ref a16, .int (nI (mN T)), .ref a18, .ref a19, .ref a20, .ref a21, .ref a22, .ref a23, .ref a24, .ref a25, .int (nI (mN E)), .ref a27, .ref a28, .ref a29, .ref a30, .ref a31, .ref a32, .ref a33, .ref a34, .int i35])), (a1, .inl (cI, 6, .inl sk)), (a3, .inl (cI, 4, .inl sh)), (a5, .inl (cI, 4, .inl ki)), (a6, .inl (cI, 4, .inl st)), (a7, .inl (cI, 4, .inl cl)), (a18, .inl (cI, 9, .inl mo)), (a19, .inl (cI, 9, .inl mi)), (a20, .inl (cI, 9, .inl mt)), (a21, .inl (cI, 96, .inl fa)), (a22, .inl (cI, 96, .inl gi)), (a27, .inl (cI, 8, .inl ro)), (a28, .inl (cI, 8, .inl ri)), (a29, .inl (cI, 8, .inl rv))] sS.heap.size = A at hD ⊢
  have hA : ∀ q : Nat, sS.heap.size ≤ q → A q := fun q h => by rw [← hAe]; exact Or.inr h
  have hS : va_S A sS.heap sS.heap [] := va_S.rf
  have hP : va_P D vwCl [(m0, .inr (9, [.int i0, .ref a1, .int (nI (cSp C)), .ref a3, .int (nI (cLa C)), .ref a5, .ref a6, .ref a7, .int (nI (cAg C)), .int (-9 : Int32), .int i10, .int i11, .int i12, .ref a13, .ref a14, .ref a15, .ref a16, .int (nI (mN T)), .ref a18, .ref a19, .ref a20, .ref a21, .ref a22, .ref a23, .ref a24, .ref a25, .int (nI (mN E)), .ref a27, .ref a28, .ref a29, .ref a30, .ref a31, .ref a32, .ref a33, .ref a34, .int i35])), (a1, .inl (cI, 6, .inl sk)), (a3, .inl (cI, 4, .inl sh)), (a5, .inl (cI, 4, .inl ki)), (a6, .inl (cI, 4, .inl st)), (a7, .inl (cI, 4, .inl cl)), (a18, .inl (cI, 9, .inl mo)), (a19, .inl (cI, 9, .inl mi)), (a20, .inl (cI, 9, .inl mt)), (a21, .inl (cI, 96, .inl fa)), (a22, .inl (cI, 96, .inl gi)), (a27, .inl (cI, 8, .inl ro)), (a28, .inl (cI, 8, .inl ri)), (a29, .inl (cI, 8, .inl rv))] sS.heap := hP
  have hD : va_D A [(m0, .inr (9, [.int i0, .ref a1, .int (nI (cSp C)), .ref a3, .int (nI (cLa C)), .ref a5, .ref a6, .ref a7, .int (nI (cAg C)), .int (-9 : Int32), .int i10, .int i11, .int i12, .ref a13, .ref a14, .ref a15, .ref a16, .int (nI (mN T)), .ref a18, .ref a19, .ref a20, .ref a21, .ref a22, .ref a23, .ref a24, .ref a25, .int (nI (mN E)), .ref a27, .ref a28, .ref a29, .ref a30, .ref a31, .ref a32, .ref a33, .ref a34, .int i35])), (a1, .inl (cI, 6, .inl sk)), (a3, .inl (cI, 4, .inl sh)), (a5, .inl (cI, 4, .inl ki)), (a6, .inl (cI, 4, .inl st)), (a7, .inl (cI, 4, .inl cl)), (a18, .inl (cI, 9, .inl mo)), (a19, .inl (cI, 9, .inl mi)), (a20, .inl (cI, 9, .inl mt)), (a21, .inl (cI, 96, .inl fa)), (a22, .inl (cI, 96, .inl gi)), (a27, .inl (cI, 8, .inl ro)), (a28, .inl (cI, 8, .inl ri)), (a29, .inl (cI, 8, .inl rv))] := hD
  have hf_19 := hts (.fieldLink RX10 19 "OldLampsModel" "stoodAt" "[I") (List.mem_of_getElem? (i := 1) rfl)
  have hf_98 := hts (.fieldLink RX10 98 "OldLampsModel" "spots" "I") (List.mem_of_getElem? (i := 2) rfl)
  have hwX10 : ∀ w ∈ wsX100, w ∈ wsX10_stood := fun _ h => List.mem_cons_of_mem _ (List.mem_append_right _ h)
  have hl := lv_entry ([.ref m0, .int x1]) (n := 5) (Nat.le_of_ble_eq_true rfl)
  rw [lg_entry_eq]
  generalize (lg_sl ([.ref m0, .int x1]) ++ List.replicate (5 - (lg_sl ([.ref m0, .int x1])).length) Slot.unset).toArray = ls at hl ⊢
  have hl : lv_has ls 5 [(0, .ref m0), (1, .int x1)] := hl
  obtain ⟨QQ, hQQ⟩ : ∃ QQ : State → Prop, QQ = MQ below (kQi D (fun (r : Int32) (u : (Nat → Int32) × (Nat → Int32) × (Nat → Int32)) => r = sp_stood C T E x1 ∧ repC C sk sh ki u.1 cl) (fun u : (Nat → Int32) × (Nat → Int32) × (Nat → Int32) => [(m0, .inr (9, [.int i0, .ref a1, .int (nI (cSp C)), .ref a3, .int (nI (cLa C)), .ref a5, .ref a6, .ref a7, .int (nI (cAg C)), .int (-9 : Int32), .int i10, .int i11, .int i12, .ref a13, .ref a14, .ref a15, .ref a16, .int (nI (mN T)), .ref a18, .ref a19, .ref a20, .ref a21, .ref a22, .ref a23, .ref a24, .ref a25, .int (nI (mN E)), .ref a27, .ref a28, .ref a29, .ref a30, .ref a31, .ref a32, .ref a33, .ref a34, .int i35])), (a1, .inl (cI, 6, .inl sk)), (a3, .inl (cI, 4, .inl sh)), (a5, .inl (cI, 4, .inl ki)), (a6, .inl (cI, 4, .inl u.1)), (a7, .inl (cI, 4, .inl cl)), (a18, .inl (cI, 9, .inl mo)), (a19, .inl (cI, 9, .inl mi)), (a20, .inl (cI, 9, .inl mt)), (a21, .inl (cI, 96, .inl u.2.1)), (a22, .inl (cI, 96, .inl u.2.2)), (a27, .inl (cI, 8, .inl ro)), (a28, .inl (cI, 8, .inl ri)), (a29, .inl (cI, 8, .inl rv))]) A) ([.ref m0, .int x1]).toArray sS 0 0 A := ⟨_, rfl⟩
  refine kk_QQ hQQ.symm ?_
  obtain ⟨hX1, hX2, hX3, hX4⟩ := okX_le hX
  refine lv_aload_n hx hb dX10_stood_0 rfl (lv_at hl 0 rfl) ?_
  refine lv_iload_n hx hb dX10_stood_1 rfl (lv_at hl 1 rfl) ?_
  have o_1 : (cLa C) ≤ 4 := by omega
  refine vp_callSi (W.runV (As := [.int x1]) (rest := []) ⟨hx, hb, hml, hown, hts⟩ (c_X10_noLamp lL D cI cS m0 a1 a3 a5 a6 a7 a13 a14 a15 a16 a18 a19 a20 a21 a22 a23 a24 a25 a27 a28 a29 a30 a31 a32 a33 a34 i0 (nI (cSp C)) (nI (cAg C)) (-9 : Int32) i10 i11 i12 (nI (mN T)) (nI (mN E)) i35 x1 (cLa C) o_1) (cwV 1 hts gX10_stood_X10_noLamp rfl rfl rfl cd_X10_noLamp ⟨Nat.le_of_ble_eq_true rfl, Nat.le_of_ble_eq_true rfl⟩) ⟨kBp_blind, va_recv hK hP (ci := 9) (q0 := 0) rfl rfl, fun U hU hW => ⟨rfl, by rw [hU]; exact hP.sub [0] rfl, va_K.moved hW.alike hK⟩⟩ rfl rfl hl.1 rfl (lv_room (Nat.le_of_ble_eq_true rfl)) dX10_stood_2 ⟨Nat.le_of_ble_eq_true rfl, Nat.le_of_ble_eq_true rfl⟩) (fun r_2 hw_2 => ?_)
  obtain rfl : r_2 = kb (!inB x1 (cLa C)) := hw_2
  refine kk_ifn_eq (tgt := 10) hx hb dX10_stood_5 (by decide) (fun hb_3 => ?_) (fun hb_3 => ?_)
  · skip
    obtain ⟨x1N, hx1N, rfl⟩ := inB_t hb_3
    have t_x1 := nI_clamp (show x1N < 2 ^ 31 by omega)
    obtain ⟨hC, hM0, hE⟩ := okX_la hX hx1N
    have hM := ok9_of hM0
    have hkd := kdM_of hX hrC
    have hwo := hkd.2
    have hk3 : 9 < cLa C → cKi C 9 = 3 := fun z => absurd hC.2.1 (by omega)
    have hst := hrC.2.2.2.1
    have hrB : repB C sk sh cl := ⟨hrC.1, hrC.2.1, hrC.2.2.2.2⟩
    have hxa := hC.2.1
    have hxs := hC.1
    refine lv_aload_n hx hb dX10_stood_10 rfl (lv_at hl 0 rfl) ?_
    refine va_get (D := D) (ci := 9) (v := .ref a6) (C := RX10) (T := TX10) (N := 36) hx hb hts hwX10 hown hK hP 0 rfl rfl 6 (by decide) hf_19 (fun _ h9 => h9) rfl dX10_stood_11 ?_
    refine lv_iload_n hx hb dX10_stood_14 rfl (lv_at hl 1 rfl) ?_
    refine kk_iald hx hb hK hP 4 rfl rfl (i := x1N) (by omega) (by decide) dX10_stood_15 ?_
    refine kk_top (y := nI (cSt C x1N)) (hrC.2.2.2.1 x1N hx1N) ?_
    refine lv_istore_n (lv' := [(2, .int (nI (cSt C x1N))), (0, .ref m0), (1, .int (nI x1N))]) hx hb dX10_stood_16 rfl hl (by decide) rfl (fun ls hl => ?_)
    refine lv_iconst (v := nI 0) hx hb dX10_stood_17 (by decide +kernel) ?_
    refine lv_istore_n (lv' := [(3, .int (nI 0)), (2, .int (nI (cSt C x1N))), (0, .ref m0), (1, .int (nI x1N))]) hx hb dX10_stood_18 rfl hl (by decide) rfl (fun ls hl => ?_)
    refine lv_iconst (v := nI 0) hx hb dX10_stood_19 (by decide +kernel) ?_
    refine lv_istore (lv' := [(4, .int (nI 0)), (3, .int (nI 0)), (2, .int (nI (cSt C x1N))), (0, .ref m0), (1, .int (nI x1N))]) hx hb dX10_stood_20 hl (by decide) rfl (fun ls hl => ?_)
    have L_22 : ∀ (n_22 : Nat) (v : Nat) (aX : Nat → Int32) (faX : Nat → Int32) (giX : Nat → Int32), (0 ≤ v) → (v ≤ cSp C) → (∀ j, j < cLa C → j ≠ x1N → aX j = nI (cSt C j)) → cSp C + 1 ≤ v + n_22 → ∀ (H : Heap) (locs : List Loc), va_P D vwCl [(m0, .inr (9, [.int i0, .ref a1, .int (nI (cSp C)), .ref a3, .int (nI (cLa C)), .ref a5, .ref a6, .ref a7, .int (nI (cAg C)), .int (-9 : Int32), .int i10, .int i11, .int i12, .ref a13, .ref a14, .ref a15, .ref a16, .int (nI (mN T)), .ref a18, .ref a19, .ref a20, .ref a21, .ref a22, .ref a23, .ref a24, .ref a25, .int (nI (mN E)), .ref a27, .ref a28, .ref a29, .ref a30, .ref a31, .ref a32, .ref a33, .ref a34, .int i35])), (a1, .inl (cI, 6, .inl sk)), (a3, .inl (cI, 4, .inl sh)), (a5, .inl (cI, 4, .inl ki)), (a6, .inl (cI, 4, .inl aX)), (a7, .inl (cI, 4, .inl cl)), (a18, .inl (cI, 9, .inl mo)), (a19, .inl (cI, 9, .inl mi)), (a20, .inl (cI, 9, .inl mt)), (a21, .inl (cI, 96, .inl faX)), (a22, .inl (cI, 96, .inl giX)), (a27, .inl (cI, 8, .inl ro)), (a28, .inl (cI, 8, .inl ri)), (a29, .inl (cI, 8, .inl rv))] H → va_D A [(m0, .inr (9, [.int i0, .ref a1, .int (nI (cSp C)), .ref a3, .int (nI (cLa C)), .ref a5, .ref a6, .ref a7, .int (nI (cAg C)), .int (-9 : Int32), .int i10, .int i11, .int i12, .ref a13, .ref a14, .ref a15, .ref a16, .int (nI (mN T)), .ref a18, .ref a19, .ref a20, .ref a21, .ref a22, .ref a23, .ref a24, .ref a25, .int (nI (mN E)), .ref a27, .ref a28, .ref a29, .ref a30, .ref a31, .ref a32, .ref a33, .ref a34, .int i35])), (a1, .inl (cI, 6, .inl sk)), (a3, .inl (cI, 4, .inl sh)), (a5, .inl (cI, 4, .inl ki)), (a6, .inl (cI, 4, .inl aX)), (a7, .inl (cI, 4, .inl cl)), (a18, .inl (cI, 9, .inl mo)), (a19, .inl (cI, 9, .inl mi)), (a20, .inl (cI, 9, .inl mt)), (a21, .inl (cI, 96, .inl faX)), (a22, .inl (cI, 96, .inl giX)), (a27, .inl (cI, 8, .inl ro)), (a28, .inl (cI, 8, .inl ri)), (a29, .inl (cI, 8, .inl rv))] → va_S A sS.heap H locs → ∀ (ls : Array Slot), lv_has ls 5 [(4, .int (nI v)), (3, .int (bts (fun v => soN (cStd C x1N v) T E (mN E)) 0 (v - 0))), (2, .int (nI (cSt C x1N))), (0, .ref m0), (1, .int (nI x1N))] → W pP lL eE (headSpec wsX10_stood rmX10_stood).room sS mM ([.ref m0, .int (nI x1N)]).toArray below meth cC H locs 0 0 QQ (F0 mM 22 ls []) := by
      intro n_22
      induction n_22 with
      | zero =>
        intro v aX faX giX hv1 hv2 hz hn_22 H locs hP hD hS ls hl
        exact absurd hn_22 (by omega)
      | succ n_22 ih_22 =>
        intro v aX faX giX hv1 hv2 hz hn_22 H locs hP hD hS ls hl
        refine lv_iload hx hb dX10_stood_22 (lv_at hl 0 rfl) ?_
        refine lv_aload_n hx hb dX10_stood_24 rfl (lv_at hl 3 rfl) ?_
        refine va_get (D := D) (ci := 9) (v := .int (nI (cSp C))) (C := RX10) (T := TX10) (N := 36) hx hb hts hwX10 hown hK hP 0 rfl rfl 2 (by decide) hf_98 (fun _ h9 => h9) rfl dX10_stood_25 ?_
        refine kk_icmp_ge (tgt := 63) hx hb dX10_stood_28 (by decide) (by omega) (by omega) (fun c_4 => ?_) (fun c_4 => ?_)
        · skip
          refine lv_aload_n hx hb dX10_stood_63 rfl (lv_at hl 3 rfl) ?_
          refine va_get (D := D) (ci := 9) (v := .ref a6) (C := RX10) (T := TX10) (N := 36) hx hb hts hwX10 hown hK hP 0 rfl rfl 6 (by decide) hf_19 (fun _ h9 => h9) rfl dX10_stood_64 ?_
          refine lv_iload_n hx hb dX10_stood_67 rfl (lv_at hl 4 rfl) ?_
          refine lv_iload_n hx hb dX10_stood_68 rfl (lv_at hl 2 rfl) ?_
          refine kk_iast hx hb hK hP hD hS 4 rfl rfl (i := x1N) (by omega) (by decide) dX10_stood_69 (fun H locs hP hD hS => ?_)
          have hP : va_P D vwCl [(m0, .inr (9, [.int i0, .ref a1, .int (nI (cSp C)), .ref a3, .int (nI (cLa C)), .ref a5, .ref a6, .ref a7, .int (nI (cAg C)), .int (-9 : Int32), .int i10, .int i11, .int i12, .ref a13, .ref a14, .ref a15, .ref a16, .int (nI (mN T)), .ref a18, .ref a19, .ref a20, .ref a21, .ref a22, .ref a23, .ref a24, .ref a25, .int (nI (mN E)), .ref a27, .ref a28, .ref a29, .ref a30, .ref a31, .ref a32, .ref a33, .ref a34, .int i35])), (a1, .inl (cI, 6, .inl sk)), (a3, .inl (cI, 4, .inl sh)), (a5, .inl (cI, 4, .inl ki)), (a6, .inl (cI, 4, .inl (upd aX x1N (nI (cSt C x1N))))), (a7, .inl (cI, 4, .inl cl)), (a18, .inl (cI, 9, .inl mo)), (a19, .inl (cI, 9, .inl mi)), (a20, .inl (cI, 9, .inl mt)), (a21, .inl (cI, 96, .inl faX)), (a22, .inl (cI, 96, .inl giX)), (a27, .inl (cI, 8, .inl ro)), (a28, .inl (cI, 8, .inl ri)), (a29, .inl (cI, 8, .inl rv))] H := hP
          have hD : va_D A [(m0, .inr (9, [.int i0, .ref a1, .int (nI (cSp C)), .ref a3, .int (nI (cLa C)), .ref a5, .ref a6, .ref a7, .int (nI (cAg C)), .int (-9 : Int32), .int i10, .int i11, .int i12, .ref a13, .ref a14, .ref a15, .ref a16, .int (nI (mN T)), .ref a18, .ref a19, .ref a20, .ref a21, .ref a22, .ref a23, .ref a24, .ref a25, .int (nI (mN E)), .ref a27, .ref a28, .ref a29, .ref a30, .ref a31, .ref a32, .ref a33, .ref a34, .int i35])), (a1, .inl (cI, 6, .inl sk)), (a3, .inl (cI, 4, .inl sh)), (a5, .inl (cI, 4, .inl ki)), (a6, .inl (cI, 4, .inl (upd aX x1N (nI (cSt C x1N))))), (a7, .inl (cI, 4, .inl cl)), (a18, .inl (cI, 9, .inl mo)), (a19, .inl (cI, 9, .inl mi)), (a20, .inl (cI, 9, .inl mt)), (a21, .inl (cI, 96, .inl faX)), (a22, .inl (cI, 96, .inl giX)), (a27, .inl (cI, 8, .inl ro)), (a28, .inl (cI, 8, .inl ri)), (a29, .inl (cI, 8, .inl rv))] := hD
          refine lv_iload_n hx hb dX10_stood_70 rfl (lv_at hl 1 rfl) ?_
          have hq : (bts (fun v => soN (cStd C x1N v) T E (mN E)) 0 (v - 0)) = sp_stood C T E (nI x1N) ∧ repC C sk sh ki (upd aX x1N (nI (cSt C x1N))) cl := by
            refine ⟨?_, ⟨hrC.1, hrC.2.1, hrC.2.2.1, fun j h => by
              by_cases e : j = x1N
              · subst e; exact up_at _ _ _
              · rw [up_ne _ _ e]; exact hz j h e, hrC.2.2.2.2⟩⟩
            simp only [sp_stood, hb_3, t_x1, cond_true, cond_false]
            rw [show cSp C = v by omega]; rfl
          refine kk_QQ hQQ ?_
          exact W.iret (v := bts (fun v => soN (cStd C x1N v) T E (mN E)) 0 (v - 0)) hx hb hr (fun t ht hW => ⟨⟨bts (fun v => soN (cStd C x1N v) T E (mN E)) 0 (v - 0), (upd aX x1N (nI (cSt C x1N)), faX, giX), rfl, hq, by show va_P D vwCl _ t.heap; rw [ht]; exact hP⟩, hS.F ht⟩) hS.2.2 dX10_stood_71
        · skip
          refine lv_aload_n hx hb dX10_stood_31 rfl (lv_at hl 3 rfl) ?_
          refine va_get (D := D) (ci := 9) (v := .ref a6) (C := RX10) (T := TX10) (N := 36) hx hb hts hwX10 hown hK hP 0 rfl rfl 6 (by decide) hf_19 (fun _ h9 => h9) rfl dX10_stood_32 ?_
          refine lv_iload_n hx hb dX10_stood_35 rfl (lv_at hl 4 rfl) ?_
          refine lv_iload hx hb dX10_stood_36 (lv_at hl 0 rfl) ?_
          refine kk_iast hx hb hK hP hD hS 4 rfl rfl (i := x1N) (by omega) (by decide) dX10_stood_38 (fun H locs hP hD hS => ?_)
          have hP : va_P D vwCl [(m0, .inr (9, [.int i0, .ref a1, .int (nI (cSp C)), .ref a3, .int (nI (cLa C)), .ref a5, .ref a6, .ref a7, .int (nI (cAg C)), .int (-9 : Int32), .int i10, .int i11, .int i12, .ref a13, .ref a14, .ref a15, .ref a16, .int (nI (mN T)), .ref a18, .ref a19, .ref a20, .ref a21, .ref a22, .ref a23, .ref a24, .ref a25, .int (nI (mN E)), .ref a27, .ref a28, .ref a29, .ref a30, .ref a31, .ref a32, .ref a33, .ref a34, .int i35])), (a1, .inl (cI, 6, .inl sk)), (a3, .inl (cI, 4, .inl sh)), (a5, .inl (cI, 4, .inl ki)), (a6, .inl (cI, 4, .inl (upd aX x1N (nI v)))), (a7, .inl (cI, 4, .inl cl)), (a18, .inl (cI, 9, .inl mo)), (a19, .inl (cI, 9, .inl mi)), (a20, .inl (cI, 9, .inl mt)), (a21, .inl (cI, 96, .inl faX)), (a22, .inl (cI, 96, .inl giX)), (a27, .inl (cI, 8, .inl ro)), (a28, .inl (cI, 8, .inl ri)), (a29, .inl (cI, 8, .inl rv))] H := hP
          have hD : va_D A [(m0, .inr (9, [.int i0, .ref a1, .int (nI (cSp C)), .ref a3, .int (nI (cLa C)), .ref a5, .ref a6, .ref a7, .int (nI (cAg C)), .int (-9 : Int32), .int i10, .int i11, .int i12, .ref a13, .ref a14, .ref a15, .ref a16, .int (nI (mN T)), .ref a18, .ref a19, .ref a20, .ref a21, .ref a22, .ref a23, .ref a24, .ref a25, .int (nI (mN E)), .ref a27, .ref a28, .ref a29, .ref a30, .ref a31, .ref a32, .ref a33, .ref a34, .int i35])), (a1, .inl (cI, 6, .inl sk)), (a3, .inl (cI, 4, .inl sh)), (a5, .inl (cI, 4, .inl ki)), (a6, .inl (cI, 4, .inl (upd aX x1N (nI v)))), (a7, .inl (cI, 4, .inl cl)), (a18, .inl (cI, 9, .inl mo)), (a19, .inl (cI, 9, .inl mi)), (a20, .inl (cI, 9, .inl mt)), (a21, .inl (cI, 96, .inl faX)), (a22, .inl (cI, 96, .inl giX)), (a27, .inl (cI, 8, .inl ro)), (a28, .inl (cI, 8, .inl ri)), (a29, .inl (cI, 8, .inl rv))] := hD
          refine lv_iload_n hx hb dX10_stood_39 rfl (lv_at hl 1 rfl) ?_
          refine lv_aload_n hx hb dX10_stood_40 rfl (lv_at hl 3 rfl) ?_
          -- differs: mo : cLa (cStd C x1N v) / cLa C
          -- differs: mo : cAg (cStd C x1N v) / cAg C
          -- differs: mo : cLa (cStd C x1N v) / cLa C
          -- differs: mo : cAg (cStd C x1N v) / cAg C
          -- differs: mo : cLa (cStd C x1N v) / cLa C
          -- differs: mo : cAg (cStd C x1N v) / cAg C
          have o_5 : okC (cStd C x1N v) := by exact okC_std hC (by omega)
          have o_6 : ok9 (cStd C x1N v) T := by exact hM
          have o_7 : ∀ k, k < cLa (cStd C x1N v) → (upd aX x1N (nI v)) k = nI (cSt (cStd C x1N v) k) := by
            intro j h
            show _ = nI (if j = x1N then v else cSt C j)
            by_cases e : j = x1N
            · subst e; rw [up_at, if_pos rfl]
            · rw [up_ne _ _ e, if_neg e]; exact hz j h e
          have o_8 : repM T mo mi mt := by exact hrT
          have o_9 : kdM (cStd C x1N v) 9 (-9 : Int32) (cKi C) ki := by exact hkd
          have o_10 : repB (cStd C x1N v) sk sh cl := by exact hrB
          have o_11 : okE (cStd C x1N v) E := by exact hE
          have o_12 : repM E ro ri rv := by assumption
          have hF := va_free (wc := [(m0, .inr (9, [.int i0, .ref a1, .int (nI (cSp C)), .ref a3, .int (nI (cLa (cStd C x1N v))), .ref a5, .ref a6, .ref a7, .int (nI (cAg (cStd C x1N v))), .int (-9 : Int32), .int i10, .int i11, .int i12, .ref a13, .ref a14, .ref a15, .ref a16, .int (nI (mN T)), .ref a18, .ref a19, .ref a20, .ref a21, .ref a22, .ref a23, .ref a24, .ref a25, .int (nI (mN E)), .ref a27, .ref a28, .ref a29, .ref a30, .ref a31, .ref a32, .ref a33, .ref a34, .int i35])), (a1, .inl (cI, 6, .inl sk)), (a3, .inl (cI, 4, .inl sh)), (a5, .inl (cI, 4, .inl ki)), (a6, .inl (cI, 4, .inl (upd aX x1N (nI v)))), (a7, .inl (cI, 4, .inl cl)), (a18, .inl (cI, 9, .inl mo)), (a19, .inl (cI, 9, .inl mi)), (a20, .inl (cI, 9, .inl mt)), (a21, .inl (cI, 96, .inl faX)), (a22, .inl (cI, 96, .inl giX)), (a27, .inl (cI, 8, .inl ro)), (a28, .inl (cI, 8, .inl ri)), (a29, .inl (cI, 8, .inl rv))]) hD hS hA [0, 1, 2, 3, 4, 5, 6, 7, 8, 9, 10, 11, 12, 13] rfl
          refine va_calli (va_runV (As := []) (rest := [.int (bts (fun v => soN (cStd C x1N v) T E (mN E)) 0 (v - 0))]) ⟨hx, hb, hml, hown, hts⟩ (c_X10_areSo lL D cI cS _ (cStd C x1N v) T E 9 (cKi C) m0 a1 a3 a5 a6 a7 a13 a14 a15 a16 a18 a19 a20 a21 a22 a23 a24 a25 a27 a28 a29 a30 a31 a32 a33 a34 i0 (nI (cSp C)) (-9 : Int32) i10 i11 i12 i35 sk sh ki (upd aX x1N (nI v)) cl mo mi mt faX giX ro ri rv o_5 o_6 o_7 o_8 o_9 o_10 o_11 o_12) (cwV 0 hts gX10_stood_X10_areSo rfl rfl rfl cd_X10_areSo ⟨Nat.le_of_ble_eq_true rfl, Nat.le_of_ble_eq_true rfl⟩) ⟨kB_blind, va_recv hK hP (ci := 9) (q0 := 0) rfl rfl, fun U hU hW => ⟨rfl, by rw [hU], by rw [hU]; exact hP.sub [0, 1, 2, 3, 4, 5, 6, 7, 8, 9, 10, 11, 12, 13] rfl, va_K.moved hW.alike hK, (hD.sub [0, 1, 2, 3, 4, 5, 6, 7, 8, 9, 10, 11, 12, 13] (by decide) rfl).weaken (fun _ _ _ _ => trivial)⟩⟩ rfl rfl hl.1 rfl (lv_room (Nat.le_of_ble_eq_true rfl)) dX10_stood_41 ⟨Nat.le_of_ble_eq_true rfl, Nat.le_of_ble_eq_true rfl⟩) hS (fun q _ h => hF q h) hF (fun r_13 u_13 t H1 locs ht hvm hw_13 hB hz1 hk1 hS => ?_)
          obtain ⟨fa2_13, gi2_13⟩ := u_13
          obtain ⟨hP, hD⟩ := kk_join2 (wc := [(m0, .inr (9, [.int i0, .ref a1, .int (nI (cSp C)), .ref a3, .int (nI (cLa (cStd C x1N v))), .ref a5, .ref a6, .ref a7, .int (nI (cAg (cStd C x1N v))), .int (-9 : Int32), .int i10, .int i11, .int i12, .ref a13, .ref a14, .ref a15, .ref a16, .int (nI (mN T)), .ref a18, .ref a19, .ref a20, .ref a21, .ref a22, .ref a23, .ref a24, .ref a25, .int (nI (mN E)), .ref a27, .ref a28, .ref a29, .ref a30, .ref a31, .ref a32, .ref a33, .ref a34, .int i35])), (a1, .inl (cI, 6, .inl sk)), (a3, .inl (cI, 4, .inl sh)), (a5, .inl (cI, 4, .inl ki)), (a6, .inl (cI, 4, .inl (upd aX x1N (nI v)))), (a7, .inl (cI, 4, .inl cl)), (a18, .inl (cI, 9, .inl mo)), (a19, .inl (cI, 9, .inl mi)), (a20, .inl (cI, 9, .inl mt)), (a21, .inl (cI, 96, .inl faX)), (a22, .inl (cI, 96, .inl giX)), (a27, .inl (cI, 8, .inl ro)), (a28, .inl (cI, 8, .inl ri)), (a29, .inl (cI, 8, .inl rv))]) (w1 := [(m0, .inr (9, [.int i0, .ref a1, .int (nI (cSp C)), .ref a3, .int (nI (cLa (cStd C x1N v))), .ref a5, .ref a6, .ref a7, .int (nI (cAg (cStd C x1N v))), .int (-9 : Int32), .int i10, .int i11, .int i12, .ref a13, .ref a14, .ref a15, .ref a16, .int (nI (mN T)), .ref a18, .ref a19, .ref a20, .ref a21, .ref a22, .ref a23, .ref a24, .ref a25, .int (nI (mN E)), .ref a27, .ref a28, .ref a29, .ref a30, .ref a31, .ref a32, .ref a33, .ref a34, .int i35])), (a1, .inl (cI, 6, .inl sk)), (a3, .inl (cI, 4, .inl sh)), (a5, .inl (cI, 4, .inl ki)), (a6, .inl (cI, 4, .inl (upd aX x1N (nI v)))), (a7, .inl (cI, 4, .inl cl)), (a18, .inl (cI, 9, .inl mo)), (a19, .inl (cI, 9, .inl mi)), (a20, .inl (cI, 9, .inl mt)), (a21, .inl (cI, 96, .inl fa2_13)), (a22, .inl (cI, 96, .inl gi2_13)), (a27, .inl (cI, 8, .inl ro)), (a28, .inl (cI, 8, .inl ri)), (a29, .inl (cI, 8, .inl rv))]) (ws' := [(m0, .inr (9, [.int i0, .ref a1, .int (nI (cSp C)), .ref a3, .int (nI (cLa C)), .ref a5, .ref a6, .ref a7, .int (nI (cAg C)), .int (-9 : Int32), .int i10, .int i11, .int i12, .ref a13, .ref a14, .ref a15, .ref a16, .int (nI (mN T)), .ref a18, .ref a19, .ref a20, .ref a21, .ref a22, .ref a23, .ref a24, .ref a25, .int (nI (mN E)), .ref a27, .ref a28, .ref a29, .ref a30, .ref a31, .ref a32, .ref a33, .ref a34, .int i35])), (a1, .inl (cI, 6, .inl sk)), (a3, .inl (cI, 4, .inl sh)), (a5, .inl (cI, 4, .inl ki)), (a6, .inl (cI, 4, .inl (upd aX x1N (nI v)))), (a7, .inl (cI, 4, .inl cl)), (a18, .inl (cI, 9, .inl mo)), (a19, .inl (cI, 9, .inl mi)), (a20, .inl (cI, 9, .inl mt)), (a21, .inl (cI, 96, .inl fa2_13)), (a22, .inl (cI, 96, .inl gi2_13)), (a27, .inl (cI, 8, .inl ro)), (a28, .inl (cI, 8, .inl ri)), (a29, .inl (cI, 8, .inl rv))]) (wr := []) (H1 := H1) hP hD [0, 1, 2, 3, 4, 5, 6, 7, 8, 9, 10, 11, 12, 13] [] rfl rfl rfl rfl 14 rfl (by decide) [m0, a1, a3, a5, a6, a7, a18, a19, a20, a21, a22, a27, a28, a29] rfl rfl hk1 (by rw [← ht]; exact hB)
          have hw_13 : r_13 = kb (soN (cStd C x1N v) T E (mN E)) ∧ True := hw_13
          clear hF hB hk1 hz1 hvm
          clear ht
          generalize H1 = H at hP hS ⊢
          obtain ⟨rfl, hw_13⟩ := hw_13
          -- if (soN (cStd C x1N v) T E (mN E))
          refine kk_ifb_eq (tgt := 54) hx hb dX10_stood_44 (by decide) (fun hb_14 => ?_) (fun hb_14 => ?_)
          · skip
            refine lv_iconst (v := nI 0) hx hb dX10_stood_54 (by decide +kernel) ?_
            refine lv_ior hx hb dX10_stood_55 ?_
            refine lv_istore_n (lv' := [(3, .int ((bts (fun v => soN (cStd C x1N v) T E (mN E)) 0 (v - 0)) ||| (nI 0))), (4, .int (nI v)), (2, .int (nI (cSt C x1N))), (0, .ref m0), (1, .int (nI x1N))]) hx hb dX10_stood_56 rfl hl (by decide) rfl (fun ls hl => ?_)
            have e_15 : (bts (fun v => soN (cStd C x1N v) T E (mN E)) 0 (v - 0)) ||| (nI 0) = bts (fun v => soN (cStd C x1N v) T E (mN E)) 0 (v + 1 - 0) := by
              rw [show v + 1 - 0 = (v - 0) + 1 by omega, bts_s, show 0 + (v - 0) = v by omega]
              show _ = _ ||| bit (soN (cStd C x1N v) T E (mN E)) v
              rw [hb_14]; rfl
            rw [e_15] at hl
            refine lv_iinc (v := nI (v + 1)) (lv' := [(4, .int (nI (v + 1))), (3, .int (bts (fun v => soN (cStd C x1N v) T E (mN E)) 0 (v + 1 - 0))), (2, .int (nI (cSt C x1N))), (0, .ref m0), (1, .int (nI x1N))]) hx hb dX10_stood_57 hl (k := 1) rfl (nI_add v 1) (by decide) rfl (fun ls hl => ?_)
            refine lv_goto (tgt := 22) hx hb dX10_stood_60 (by decide) ?_
            have o_16 : 0 ≤ (v + 1) := by omega
            have o_17 : (v + 1) ≤ cSp C := by omega
            have o_18 : ∀ j, j < cLa C → j ≠ x1N → (upd aX x1N (nI v)) j = nI (cSt C j) := by intro j h h2; rw [up_ne _ _ h2]; exact hz j h h2
            have o_19 : cSp C + 1 ≤ (v + 1) + n_22 := by omega
            exact ih_22 (v + 1) (upd aX x1N (nI v)) fa2_13 gi2_13 o_16 o_17 o_18 o_19 _ _ hP hD hS ls (lv_sub hl [0, 1, 2, 3, 4] rfl)
          · skip
            refine lv_iconst (v := nI 1) hx hb dX10_stood_47 (by decide +kernel) ?_
            refine lv_iload hx hb dX10_stood_48 (lv_at hl 0 rfl) ?_
            refine lv_ishl hx hb dX10_stood_50 ?_
            refine lv_goto (tgt := 55) hx hb dX10_stood_51 (by decide) ?_
            refine lv_ior hx hb dX10_stood_55 ?_
            refine lv_istore_n (lv' := [(3, .int ((bts (fun v => soN (cStd C x1N v) T E (mN E)) 0 (v - 0)) ||| ((nI 1) <<< (nI v &&& 31)))), (4, .int (nI v)), (2, .int (nI (cSt C x1N))), (0, .ref m0), (1, .int (nI x1N))]) hx hb dX10_stood_56 rfl hl (by decide) rfl (fun ls hl => ?_)
            have e_20 : (bts (fun v => soN (cStd C x1N v) T E (mN E)) 0 (v - 0)) ||| ((nI 1) <<< (nI v &&& 31)) = bts (fun v => soN (cStd C x1N v) T E (mN E)) 0 (v + 1 - 0) := by
              rw [show v + 1 - 0 = (v - 0) + 1 by omega, bts_s, show 0 + (v - 0) = v by omega]
              show _ = _ ||| bit (soN (cStd C x1N v) T E (mN E)) v
              rw [hb_14]; rfl
            rw [e_20] at hl
            refine lv_iinc (v := nI (v + 1)) (lv' := [(4, .int (nI (v + 1))), (3, .int (bts (fun v => soN (cStd C x1N v) T E (mN E)) 0 (v + 1 - 0))), (2, .int (nI (cSt C x1N))), (0, .ref m0), (1, .int (nI x1N))]) hx hb dX10_stood_57 hl (k := 1) rfl (nI_add v 1) (by decide) rfl (fun ls hl => ?_)
            refine lv_goto (tgt := 22) hx hb dX10_stood_60 (by decide) ?_
            have o_21 : 0 ≤ (v + 1) := by omega
            have o_22 : (v + 1) ≤ cSp C := by omega
            have o_23 : ∀ j, j < cLa C → j ≠ x1N → (upd aX x1N (nI v)) j = nI (cSt C j) := by intro j h h2; rw [up_ne _ _ h2]; exact hz j h h2
            have o_24 : cSp C + 1 ≤ (v + 1) + n_22 := by omega
            exact ih_22 (v + 1) (upd aX x1N (nI v)) fa2_13 gi2_13 o_21 o_22 o_23 o_24 _ _ hP hD hS ls (lv_sub hl [0, 1, 2, 3, 4] rfl)
    have o_25 : 0 ≤ 0 := by omega
    have o_26 : 0 ≤ cSp C := by omega
    have o_27 : ∀ j, j < cLa C → j ≠ x1N → st j = nI (cSt C j) := by intro j h _; exact hrC.2.2.2.1 j h
    have o_28 : cSp C + 1 ≤ 0 + (cSp C + 1) := by omega
    exact L_22 (cSp C + 1) 0 st fa gi o_25 o_26 o_27 o_28 _ _ hP hD hS ls (lv_sub hl [0, 1, 2, 3, 4] rfl)
  · skip
    refine lv_iconst (v := (-1 : Int32)) hx hb dX10_stood_8 (by decide +kernel) ?_
    have hq : (-1 : Int32) = sp_stood C T E x1 ∧ repC C sk sh ki st cl := by refine ⟨by simp only [sp_stood, hb_3, cond_true, cond_false], hrC⟩
    refine kk_QQ hQQ ?_
    exact W.iret (v := (-1 : Int32)) hx hb hr (fun t ht hW => ⟨⟨(-1 : Int32), (st, fa, gi), rfl, hq, by show va_P D vwCl _ t.heap; rw [ht]; exact hP⟩, hS.F ht⟩) hS.2.2 dX10_stood_9

abbrev rmX10_kinds : Room := { frames := 4, cells := 0, slots := 0, locals := 97 }
set_option maxHeartbeats 4000000 in
set_option maxRecDepth 100000 in
theorem c_X10_kinds (lL : Launch) (D : va_G) (cI cS : ClassId) (sz : Nat) (C : Co) (T : Mv) (E : Mv) (m0 : Nat) (a1 : Nat) (a3 : Nat) (a5 : Nat) (a6 : Nat) (a7 : Nat) (a13 : Nat) (a14 : Nat) (a15 : Nat) (a16 : Nat) (a18 : Nat) (a19 : Nat) (a20 : Nat) (a21 : Nat) (a22 : Nat) (a23 : Nat) (a24 : Nat) (a25 : Nat) (a27 : Nat) (a28 : Nat) (a29 : Nat) (a30 : Nat) (a31 : Nat) (a32 : Nat) (a33 : Nat) (a34 : Nat) (i0 : Int32) (i10 : Int32) (i11 : Int32) (i12 : Int32) (i35 : Int32) (sk : Nat → Int32) (sh : Nat → Int32) (ki : Nat → Int32) (st : Nat → Int32) (cl : Nat → Int32) (mo : Nat → Int32) (mi : Nat → Int32) (mt : Nat → Int32) (fa : Nat → Int32) (gi : Nat → Int32) (ro : Nat → Int32) (ri : Nat → Int32) (rv : Nat → Int32) (x1 : Int32) (hX : okX C T E) (hrC : repC C sk sh ki st cl) (hrT : repM T mo mi mt) (hrE : repM E ro ri rv) : Met lL yX10_kinds wsX10_kinds rmX10_kinds (va_Pc [.ref m0, .int x1] (kB D cI cS [(m0, .inr (9, [.int i0, .ref a1, .int (nI (cSp C)), .ref a3, .int (nI (cLa C)), .ref a5, .ref a6, .ref a7, .int (nI (cAg C)), .int (-9 : Int32), .int i10, .int i11, .int i12, .ref a13, .ref a14, .ref a15, .ref a16, .int (nI (mN T)), .ref a18, .ref a19, .ref a20, .ref a21, .ref a22, .ref a23, .ref a24, .ref a25, .int (nI (mN E)), .ref a27, .ref a28, .ref a29, .ref a30, .ref a31, .ref a32, .ref a33, .ref a34, .int i35])), (a1, .inl (cI, 6, .inl sk)), (a3, .inl (cI, 4, .inl sh)), (a5, .inl (cI, 4, .inl ki)), (a6, .inl (cI, 4, .inl st)), (a7, .inl (cI, 4, .inl cl)), (a18, .inl (cI, 9, .inl mo)), (a19, .inl (cI, 9, .inl mi)), (a20, .inl (cI, 9, .inl mt)), (a21, .inl (cI, 96, .inl fa)), (a22, .inl (cI, 96, .inl gi)), (a27, .inl (cI, 8, .inl ro)), (a28, .inl (cI, 8, .inl ri)), (a29, .inl (cI, 8, .inl rv))] sz)) (kQi D (fun (r : Int32) (u : (Nat → Int32) × (Nat → Int32) × (Nat → Int32)) => r = sp_kinds C T E x1 ∧ repC C sk sh u.1 st cl) (fun u : (Nat → Int32) × (Nat → Int32) × (Nat → Int32) => [(m0, .inr (9, [.int i0, .ref a1, .int (nI (cSp C)), .ref a3, .int (nI (cLa C)), .ref a5, .ref a6, .ref a7, .int (nI (cAg C)), .int (-9 : Int32), .int i10, .int i11, .int i12, .ref a13, .ref a14, .ref a15, .ref a16, .int (nI (mN T)), .ref a18, .ref a19, .ref a20, .ref a21, .ref a22, .ref a23, .ref a24, .ref a25, .int (nI (mN E)), .ref a27, .ref a28, .ref a29, .ref a30, .ref a31, .ref a32, .ref a33, .ref a34, .int i35])), (a1, .inl (cI, 6, .inl sk)), (a3, .inl (cI, 4, .inl sh)), (a5, .inl (cI, 4, .inl u.1)), (a6, .inl (cI, 4, .inl st)), (a7, .inl (cI, 4, .inl cl)), (a18, .inl (cI, 9, .inl mo)), (a19, .inl (cI, 9, .inl mi)), (a20, .inl (cI, 9, .inl mt)), (a21, .inl (cI, 96, .inl u.2.1)), (a22, .inl (cI, 96, .inl u.2.2)), (a27, .inl (cI, 8, .inl ro)), (a28, .inl (cI, 8, .inl ri)), (a29, .inl (cI, 8, .inl rv))]) (va_A [(m0, .inr (9, [.int i0, .ref a1, .int (nI (cSp C)), .ref a3, .int (nI (cLa C)), .ref a5, .ref a6, .ref a7, .int (nI (cAg C)), .int (-9 : Int32), .int i10, .int i11, .int i12, .ref a13, .ref a14, .ref a15, .ref a16, .int (nI (mN T)), .ref a18, .ref a19, .ref a20, .ref a21, .ref a22, .ref a23, .ref a24, .ref a25, .int (nI (mN E)), .ref a27, .ref a28, .ref a29, .ref a30, .ref a31, .ref a32, .ref a33, .ref a34, .int i35])), (a1, .inl (cI, 6, .inl sk)), (a3, .inl (cI, 4, .inl sh)), (a5, .inl (cI, 4, .inl ki)), (a6, .inl (cI, 4, .inl st)), (a7, .inl (cI, 4, .inl cl)), (a18, .inl (cI, 9, .inl mo)), (a19, .inl (cI, 9, .inl mi)), (a20, .inl (cI, 9, .inl mt)), (a21, .inl (cI, 96, .inl fa)), (a22, .inl (cI, 96, .inl gi)), (a27, .inl (cI, 8, .inl ro)), (a28, .inl (cI, 8, .inl ri)), (a29, .inl (cI, 8, .inl rv))] sz)) 0 0 (va_A [(m0, .inr (9, [.int i0, .ref a1, .int (nI (cSp C)), .ref a3, .int (nI (cLa C)), .ref a5, .ref a6, .ref a7, .int (nI (cAg C)), .int (-9 : Int32), .int i10, .int i11, .int i12, .ref a13, .ref a14, .ref a15, .ref a16, .int (nI (mN T)), .ref a18, .ref a19, .ref a20, .ref a21, .ref a22, .ref a23, .ref a24, .ref a25, .int (nI (mN E)), .ref a27, .ref a28, .ref a29, .ref a30, .ref a31, .ref a32, .ref a33, .ref a34, .int i35])), (a1, .inl (cI, 6, .inl sk)), (a3, .inl (cI, 4, .inl sh)), (a5, .inl (cI, 4, .inl ki)), (a6, .inl (cI, 4, .inl st)), (a7, .inl (cI, 4, .inl cl)), (a18, .inl (cI, 9, .inl mo)), (a19, .inl (cI, 9, .inl mi)), (a20, .inl (cI, 9, .inl mt)), (a21, .inl (cI, 96, .inl fa)), (a22, .inl (cI, 96, .inl gi)), (a27, .inl (cI, 8, .inl ro)), (a28, .inl (cI, 8, .inl ri)), (a29, .inl (cI, 8, .inl rv))] sz) := by
  refine Met.ofW (cc := cX10_kinds) (maxL := 5) (ret := (some .int)) (by decide) rfl ?_
  intro pP eE sS mM args below meth cC s₁ B hml hv
  obtain ⟨rfl, hsz, hP, hK, hD0⟩ := hv
  have hx := B.exec
  have hb := B.bytes
  have hr := B.returns
  have hts := atoms_spec (ws := wsX10_kinds) B.pre
  have hown : sS.vm.findClass RX10 = some mM.cls := findClass_of_methodNamed B.named
  have hlocks := B.notSynchronized
  subst hsz
  have hD := hD0.self (sz := sS.heap.size)
  generalize hAe : va_A [(m0, .inr (9, [.int i0, .ref a1, .int (nI (cSp C)), .ref a3, .int (nI (cLa C)), .ref a5, .ref a6, .ref a7, .int (nI (cAg C)), .int (-9 : Int32), .int i10, .int i11, .int i12, .ref a13, .ref a14, .ref a15, .ref a16, .int (nI (mN T)), .ref a18, .ref a19, .ref a20, .ref a21, .ref a22, .ref a23, .ref a24, .ref a25, .int (nI (mN E)), .ref a27, .ref a28, .ref a29, .ref a30, .ref a31, .ref a32, .ref a33, .ref a34, .int i35])), (a1, .inl (cI, 6, .inl sk)), (a3, .inl (cI, 4, .inl sh)), (a5, .inl (cI, 4, .inl ki)), (a6, .inl (cI, 4, .inl st)), (a7, .inl (cI, 4, .inl cl)), (a18, .inl (cI, 9, .inl mo)), (a19, .inl (cI, 9, .inl mi)), (a20, .inl (cI, 9, .inl mt)), (a21, .inl (cI, 96, .inl fa)), (a22, .inl (cI, 96, .inl gi)), (a27, .inl (cI, 8, .inl ro)), (a28, .inl (cI, 8, .inl ri)), (a29, .inl (cI, 8, .inl rv))] sS.heap.size = A at hD ⊢
  have hA : ∀ q : Nat, sS.heap.size ≤ q → A q := fun q h => by rw [← hAe]; exact Or.inr h
  have hS : va_S A sS.heap sS.heap [] := va_S.rf
  have hP : va_P D vwCl [(m0, .inr (9, [.int i0, .ref a1, .int (nI (cSp C)), .ref a3, .int (nI (cLa C)), .ref a5, .ref a6, .ref a7, .int (nI (cAg C)), .int (-9 : Int32), .int i10, .int i11, .int i12, .ref a13, .ref a14, .ref a15, .ref a16, .int (nI (mN T)), .ref a18, .ref a19, .ref a20, .ref a21, .ref a22, .ref a23, .ref a24, .ref a25, .int (nI (mN E)), .ref a27, .ref a28, .ref a29, .ref a30, .ref a31, .ref a32, .ref a33, .ref a34, .int i35])), (a1, .inl (cI, 6, .inl sk)), (a3, .inl (cI, 4, .inl sh)), (a5, .inl (cI, 4, .inl ki)), (a6, .inl (cI, 4, .inl st)), (a7, .inl (cI, 4, .inl cl)), (a18, .inl (cI, 9, .inl mo)), (a19, .inl (cI, 9, .inl mi)), (a20, .inl (cI, 9, .inl mt)), (a21, .inl (cI, 96, .inl fa)), (a22, .inl (cI, 96, .inl gi)), (a27, .inl (cI, 8, .inl ro)), (a28, .inl (cI, 8, .inl ri)), (a29, .inl (cI, 8, .inl rv))] sS.heap := hP
  have hD : va_D A [(m0, .inr (9, [.int i0, .ref a1, .int (nI (cSp C)), .ref a3, .int (nI (cLa C)), .ref a5, .ref a6, .ref a7, .int (nI (cAg C)), .int (-9 : Int32), .int i10, .int i11, .int i12, .ref a13, .ref a14, .ref a15, .ref a16, .int (nI (mN T)), .ref a18, .ref a19, .ref a20, .ref a21, .ref a22, .ref a23, .ref a24, .ref a25, .int (nI (mN E)), .ref a27, .ref a28, .ref a29, .ref a30, .ref a31, .ref a32, .ref a33, .ref a34, .int i35])), (a1, .inl (cI, 6, .inl sk)), (a3, .inl (cI, 4, .inl sh)), (a5, .inl (cI, 4, .inl ki)), (a6, .inl (cI, 4, .inl st)), (a7, .inl (cI, 4, .inl cl)), (a18, .inl (cI, 9, .inl mo)), (a19, .inl (cI, 9, .inl mi)), (a20, .inl (cI, 9, .inl mt)), (a21, .inl (cI, 96, .inl fa)), (a22, .inl (cI, 96, .inl gi)), (a27, .inl (cI, 8, .inl ro)), (a28, .inl (cI, 8, .inl ri)), (a29, .inl (cI, 8, .inl rv))] := hD
  have hf_16 := hts (.fieldLink RX10 16 "OldLampsModel" "kindOf" "[I") (List.mem_of_getElem? (i := 1) rfl)
  have hwX10 : ∀ w ∈ wsX100, w ∈ wsX10_kinds := fun _ h => List.mem_cons_of_mem _ (List.mem_append_right _ h)
  have hl := lv_entry ([.ref m0, .int x1]) (n := 5) (Nat.le_of_ble_eq_true rfl)
  rw [lg_entry_eq]
  generalize (lg_sl ([.ref m0, .int x1]) ++ List.replicate (5 - (lg_sl ([.ref m0, .int x1])).length) Slot.unset).toArray = ls at hl ⊢
  have hl : lv_has ls 5 [(0, .ref m0), (1, .int x1)] := hl
  obtain ⟨QQ, hQQ⟩ : ∃ QQ : State → Prop, QQ = MQ below (kQi D (fun (r : Int32) (u : (Nat → Int32) × (Nat → Int32) × (Nat → Int32)) => r = sp_kinds C T E x1 ∧ repC C sk sh u.1 st cl) (fun u : (Nat → Int32) × (Nat → Int32) × (Nat → Int32) => [(m0, .inr (9, [.int i0, .ref a1, .int (nI (cSp C)), .ref a3, .int (nI (cLa C)), .ref a5, .ref a6, .ref a7, .int (nI (cAg C)), .int (-9 : Int32), .int i10, .int i11, .int i12, .ref a13, .ref a14, .ref a15, .ref a16, .int (nI (mN T)), .ref a18, .ref a19, .ref a20, .ref a21, .ref a22, .ref a23, .ref a24, .ref a25, .int (nI (mN E)), .ref a27, .ref a28, .ref a29, .ref a30, .ref a31, .ref a32, .ref a33, .ref a34, .int i35])), (a1, .inl (cI, 6, .inl sk)), (a3, .inl (cI, 4, .inl sh)), (a5, .inl (cI, 4, .inl u.1)), (a6, .inl (cI, 4, .inl st)), (a7, .inl (cI, 4, .inl cl)), (a18, .inl (cI, 9, .inl mo)), (a19, .inl (cI, 9, .inl mi)), (a20, .inl (cI, 9, .inl mt)), (a21, .inl (cI, 96, .inl u.2.1)), (a22, .inl (cI, 96, .inl u.2.2)), (a27, .inl (cI, 8, .inl ro)), (a28, .inl (cI, 8, .inl ri)), (a29, .inl (cI, 8, .inl rv))]) A) ([.ref m0, .int x1]).toArray sS 0 0 A := ⟨_, rfl⟩
  refine kk_QQ hQQ.symm ?_
  obtain ⟨hX1, hX2, hX3, hX4⟩ := okX_le hX
  refine lv_aload_n hx hb dX10_kinds_0 rfl (lv_at hl 0 rfl) ?_
  refine lv_iload_n hx hb dX10_kinds_1 rfl (lv_at hl 1 rfl) ?_
  have o_1 : (cLa C) ≤ 4 := by omega
  refine vp_callSi (W.runV (As := [.int x1]) (rest := []) ⟨hx, hb, hml, hown, hts⟩ (c_X10_noLamp lL D cI cS m0 a1 a3 a5 a6 a7 a13 a14 a15 a16 a18 a19 a20 a21 a22 a23 a24 a25 a27 a28 a29 a30 a31 a32 a33 a34 i0 (nI (cSp C)) (nI (cAg C)) (-9 : Int32) i10 i11 i12 (nI (mN T)) (nI (mN E)) i35 x1 (cLa C) o_1) (cwV 1 hts gX10_kinds_X10_noLamp rfl rfl rfl cd_X10_noLamp ⟨Nat.le_of_ble_eq_true rfl, Nat.le_of_ble_eq_true rfl⟩) ⟨kBp_blind, va_recv hK hP (ci := 9) (q0 := 0) rfl rfl, fun U hU hW => ⟨rfl, by rw [hU]; exact hP.sub [0] rfl, va_K.moved hW.alike hK⟩⟩ rfl rfl hl.1 rfl (lv_room (Nat.le_of_ble_eq_true rfl)) dX10_kinds_2 ⟨Nat.le_of_ble_eq_true rfl, Nat.le_of_ble_eq_true rfl⟩) (fun r_2 hw_2 => ?_)
  obtain rfl : r_2 = kb (!inB x1 (cLa C)) := hw_2
  refine kk_ifn_eq (tgt := 10) hx hb dX10_kinds_5 (by decide) (fun hb_3 => ?_) (fun hb_3 => ?_)
  · skip
    obtain ⟨x1N, hx1N, rfl⟩ := inB_t hb_3
    have t_x1 := nI_clamp (show x1N < 2 ^ 31 by omega)
    obtain ⟨hC, hM0, hE⟩ := okX_la hX hx1N
    have hM := ok9_of hM0
    have hkd := kdM_of hX hrC
    have hwo := hkd.2
    have hk3 : 9 < cLa C → cKi C 9 = 3 := fun z => absurd hC.2.1 (by omega)
    have hst := hrC.2.2.2.1
    have hrB : repB C sk sh cl := ⟨hrC.1, hrC.2.1, hrC.2.2.2.2⟩
    have hxa := hC.2.1
    have hxs := hC.1
    refine lv_aload_n hx hb dX10_kinds_10 rfl (lv_at hl 0 rfl) ?_
    refine va_get (D := D) (ci := 9) (v := .ref a5) (C := RX10) (T := TX10) (N := 36) hx hb hts hwX10 hown hK hP 0 rfl rfl 5 (by decide) hf_16 (fun _ h9 => h9) rfl dX10_kinds_11 ?_
    refine lv_iload_n hx hb dX10_kinds_14 rfl (lv_at hl 1 rfl) ?_
    refine kk_iald hx hb hK hP 3 rfl rfl (i := x1N) (by omega) (by decide) dX10_kinds_15 ?_
    refine kk_top (y := nI (cKi C x1N)) (hrC.2.2.1 x1N hx1N) ?_
    refine lv_istore_n (lv' := [(2, .int (nI (cKi C x1N))), (0, .ref m0), (1, .int (nI x1N))]) hx hb dX10_kinds_16 rfl hl (by decide) rfl (fun ls hl => ?_)
    refine lv_iconst (v := nI 0) hx hb dX10_kinds_17 (by decide +kernel) ?_
    refine lv_istore_n (lv' := [(3, .int (nI 0)), (2, .int (nI (cKi C x1N))), (0, .ref m0), (1, .int (nI x1N))]) hx hb dX10_kinds_18 rfl hl (by decide) rfl (fun ls hl => ?_)
    refine lv_iconst (v := nI 0) hx hb dX10_kinds_19 (by decide +kernel) ?_
    refine lv_istore (lv' := [(4, .int (nI 0)), (3, .int (nI 0)), (2, .int (nI (cKi C x1N))), (0, .ref m0), (1, .int (nI x1N))]) hx hb dX10_kinds_20 hl (by decide) rfl (fun ls hl => ?_)
    have L_22 : ∀ (n_22 : Nat) (v : Nat) (aX : Nat → Int32) (faX : Nat → Int32) (giX : Nat → Int32), (0 ≤ v) → (v ≤ 3) → (∀ j, j < cLa C → j ≠ x1N → aX j = nI (cKi C j)) → 3 + 1 ≤ v + n_22 → ∀ (H : Heap) (locs : List Loc), va_P D vwCl [(m0, .inr (9, [.int i0, .ref a1, .int (nI (cSp C)), .ref a3, .int (nI (cLa C)), .ref a5, .ref a6, .ref a7, .int (nI (cAg C)), .int (-9 : Int32), .int i10, .int i11, .int i12, .ref a13, .ref a14, .ref a15, .ref a16, .int (nI (mN T)), .ref a18, .ref a19, .ref a20, .ref a21, .ref a22, .ref a23, .ref a24, .ref a25, .int (nI (mN E)), .ref a27, .ref a28, .ref a29, .ref a30, .ref a31, .ref a32, .ref a33, .ref a34, .int i35])), (a1, .inl (cI, 6, .inl sk)), (a3, .inl (cI, 4, .inl sh)), (a5, .inl (cI, 4, .inl aX)), (a6, .inl (cI, 4, .inl st)), (a7, .inl (cI, 4, .inl cl)), (a18, .inl (cI, 9, .inl mo)), (a19, .inl (cI, 9, .inl mi)), (a20, .inl (cI, 9, .inl mt)), (a21, .inl (cI, 96, .inl faX)), (a22, .inl (cI, 96, .inl giX)), (a27, .inl (cI, 8, .inl ro)), (a28, .inl (cI, 8, .inl ri)), (a29, .inl (cI, 8, .inl rv))] H → va_D A [(m0, .inr (9, [.int i0, .ref a1, .int (nI (cSp C)), .ref a3, .int (nI (cLa C)), .ref a5, .ref a6, .ref a7, .int (nI (cAg C)), .int (-9 : Int32), .int i10, .int i11, .int i12, .ref a13, .ref a14, .ref a15, .ref a16, .int (nI (mN T)), .ref a18, .ref a19, .ref a20, .ref a21, .ref a22, .ref a23, .ref a24, .ref a25, .int (nI (mN E)), .ref a27, .ref a28, .ref a29, .ref a30, .ref a31, .ref a32, .ref a33, .ref a34, .int i35])), (a1, .inl (cI, 6, .inl sk)), (a3, .inl (cI, 4, .inl sh)), (a5, .inl (cI, 4, .inl aX)), (a6, .inl (cI, 4, .inl st)), (a7, .inl (cI, 4, .inl cl)), (a18, .inl (cI, 9, .inl mo)), (a19, .inl (cI, 9, .inl mi)), (a20, .inl (cI, 9, .inl mt)), (a21, .inl (cI, 96, .inl faX)), (a22, .inl (cI, 96, .inl giX)), (a27, .inl (cI, 8, .inl ro)), (a28, .inl (cI, 8, .inl ri)), (a29, .inl (cI, 8, .inl rv))] → va_S A sS.heap H locs → ∀ (ls : Array Slot), lv_has ls 5 [(4, .int (nI v)), (3, .int (bts (fun v => soN (cKnd C x1N v) T E (mN E)) 0 (v - 0))), (2, .int (nI (cKi C x1N))), (0, .ref m0), (1, .int (nI x1N))] → W pP lL eE (headSpec wsX10_kinds rmX10_kinds).room sS mM ([.ref m0, .int (nI x1N)]).toArray below meth cC H locs 0 0 QQ (F0 mM 22 ls []) := by
      intro n_22
      induction n_22 with
      | zero =>
        intro v aX faX giX hv1 hv2 hz hn_22 H locs hP hD hS ls hl
        exact absurd hn_22 (by omega)
      | succ n_22 ih_22 =>
        intro v aX faX giX hv1 hv2 hz hn_22 H locs hP hD hS ls hl
        refine lv_iload hx hb dX10_kinds_22 (lv_at hl 0 rfl) ?_
        refine lv_iconst (v := nI 3) hx hb dX10_kinds_24 (by decide +kernel) ?_
        refine kk_icmp_ge (tgt := 60) hx hb dX10_kinds_25 (by decide) (by omega) (by omega) (fun c_4 => ?_) (fun c_4 => ?_)
        · skip
          refine lv_aload_n hx hb dX10_kinds_60 rfl (lv_at hl 3 rfl) ?_
          refine va_get (D := D) (ci := 9) (v := .ref a5) (C := RX10) (T := TX10) (N := 36) hx hb hts hwX10 hown hK hP 0 rfl rfl 5 (by decide) hf_16 (fun _ h9 => h9) rfl dX10_kinds_61 ?_
          refine lv_iload_n hx hb dX10_kinds_64 rfl (lv_at hl 4 rfl) ?_
          refine lv_iload_n hx hb dX10_kinds_65 rfl (lv_at hl 2 rfl) ?_
          refine kk_iast hx hb hK hP hD hS 3 rfl rfl (i := x1N) (by omega) (by decide) dX10_kinds_66 (fun H locs hP hD hS => ?_)
          have hP : va_P D vwCl [(m0, .inr (9, [.int i0, .ref a1, .int (nI (cSp C)), .ref a3, .int (nI (cLa C)), .ref a5, .ref a6, .ref a7, .int (nI (cAg C)), .int (-9 : Int32), .int i10, .int i11, .int i12, .ref a13, .ref a14, .ref a15, .ref a16, .int (nI (mN T)), .ref a18, .ref a19, .ref a20, .ref a21, .ref a22, .ref a23, .ref a24, .ref a25, .int (nI (mN E)), .ref a27, .ref a28, .ref a29, .ref a30, .ref a31, .ref a32, .ref a33, .ref a34, .int i35])), (a1, .inl (cI, 6, .inl sk)), (a3, .inl (cI, 4, .inl sh)), (a5, .inl (cI, 4, .inl (upd aX x1N (nI (cKi C x1N))))), (a6, .inl (cI, 4, .inl st)), (a7, .inl (cI, 4, .inl cl)), (a18, .inl (cI, 9, .inl mo)), (a19, .inl (cI, 9, .inl mi)), (a20, .inl (cI, 9, .inl mt)), (a21, .inl (cI, 96, .inl faX)), (a22, .inl (cI, 96, .inl giX)), (a27, .inl (cI, 8, .inl ro)), (a28, .inl (cI, 8, .inl ri)), (a29, .inl (cI, 8, .inl rv))] H := hP
          have hD : va_D A [(m0, .inr (9, [.int i0, .ref a1, .int (nI (cSp C)), .ref a3, .int (nI (cLa C)), .ref a5, .ref a6, .ref a7, .int (nI (cAg C)), .int (-9 : Int32), .int i10, .int i11, .int i12, .ref a13, .ref a14, .ref a15, .ref a16, .int (nI (mN T)), .ref a18, .ref a19, .ref a20, .ref a21, .ref a22, .ref a23, .ref a24, .ref a25, .int (nI (mN E)), .ref a27, .ref a28, .ref a29, .ref a30, .ref a31, .ref a32, .ref a33, .ref a34, .int i35])), (a1, .inl (cI, 6, .inl sk)), (a3, .inl (cI, 4, .inl sh)), (a5, .inl (cI, 4, .inl (upd aX x1N (nI (cKi C x1N))))), (a6, .inl (cI, 4, .inl st)), (a7, .inl (cI, 4, .inl cl)), (a18, .inl (cI, 9, .inl mo)), (a19, .inl (cI, 9, .inl mi)), (a20, .inl (cI, 9, .inl mt)), (a21, .inl (cI, 96, .inl faX)), (a22, .inl (cI, 96, .inl giX)), (a27, .inl (cI, 8, .inl ro)), (a28, .inl (cI, 8, .inl ri)), (a29, .inl (cI, 8, .inl rv))] := hD
          refine lv_iload_n hx hb dX10_kinds_67 rfl (lv_at hl 1 rfl) ?_
          have hq : (bts (fun v => soN (cKnd C x1N v) T E (mN E)) 0 (v - 0)) = sp_kinds C T E (nI x1N) ∧ repC C sk sh (upd aX x1N (nI (cKi C x1N))) st cl := by
            refine ⟨?_, ⟨hrC.1, hrC.2.1, fun j h => by
              by_cases e : j = x1N
              · subst e; exact up_at _ _ _
              · rw [up_ne _ _ e]; exact hz j h e, hrC.2.2.2.1, hrC.2.2.2.2⟩⟩
            simp only [sp_kinds, hb_3, t_x1, cond_true, cond_false]
            rw [show v = 3 by omega]
          refine kk_QQ hQQ ?_
          exact W.iret (v := bts (fun v => soN (cKnd C x1N v) T E (mN E)) 0 (v - 0)) hx hb hr (fun t ht hW => ⟨⟨bts (fun v => soN (cKnd C x1N v) T E (mN E)) 0 (v - 0), (upd aX x1N (nI (cKi C x1N)), faX, giX), rfl, hq, by show va_P D vwCl _ t.heap; rw [ht]; exact hP⟩, hS.F ht⟩) hS.2.2 dX10_kinds_68
        · skip
          refine lv_aload_n hx hb dX10_kinds_28 rfl (lv_at hl 3 rfl) ?_
          refine va_get (D := D) (ci := 9) (v := .ref a5) (C := RX10) (T := TX10) (N := 36) hx hb hts hwX10 hown hK hP 0 rfl rfl 5 (by decide) hf_16 (fun _ h9 => h9) rfl dX10_kinds_29 ?_
          refine lv_iload_n hx hb dX10_kinds_32 rfl (lv_at hl 4 rfl) ?_
          refine lv_iload hx hb dX10_kinds_33 (lv_at hl 0 rfl) ?_
          refine kk_iast hx hb hK hP hD hS 3 rfl rfl (i := x1N) (by omega) (by decide) dX10_kinds_35 (fun H locs hP hD hS => ?_)
          have hP : va_P D vwCl [(m0, .inr (9, [.int i0, .ref a1, .int (nI (cSp C)), .ref a3, .int (nI (cLa C)), .ref a5, .ref a6, .ref a7, .int (nI (cAg C)), .int (-9 : Int32), .int i10, .int i11, .int i12, .ref a13, .ref a14, .ref a15, .ref a16, .int (nI (mN T)), .ref a18, .ref a19, .ref a20, .ref a21, .ref a22, .ref a23, .ref a24, .ref a25, .int (nI (mN E)), .ref a27, .ref a28, .ref a29, .ref a30, .ref a31, .ref a32, .ref a33, .ref a34, .int i35])), (a1, .inl (cI, 6, .inl sk)), (a3, .inl (cI, 4, .inl sh)), (a5, .inl (cI, 4, .inl (upd aX x1N (nI v)))), (a6, .inl (cI, 4, .inl st)), (a7, .inl (cI, 4, .inl cl)), (a18, .inl (cI, 9, .inl mo)), (a19, .inl (cI, 9, .inl mi)), (a20, .inl (cI, 9, .inl mt)), (a21, .inl (cI, 96, .inl faX)), (a22, .inl (cI, 96, .inl giX)), (a27, .inl (cI, 8, .inl ro)), (a28, .inl (cI, 8, .inl ri)), (a29, .inl (cI, 8, .inl rv))] H := hP
          have hD : va_D A [(m0, .inr (9, [.int i0, .ref a1, .int (nI (cSp C)), .ref a3, .int (nI (cLa C)), .ref a5, .ref a6, .ref a7, .int (nI (cAg C)), .int (-9 : Int32), .int i10, .int i11, .int i12, .ref a13, .ref a14, .ref a15, .ref a16, .int (nI (mN T)), .ref a18, .ref a19, .ref a20, .ref a21, .ref a22, .ref a23, .ref a24, .ref a25, .int (nI (mN E)), .ref a27, .ref a28, .ref a29, .ref a30, .ref a31, .ref a32, .ref a33, .ref a34, .int i35])), (a1, .inl (cI, 6, .inl sk)), (a3, .inl (cI, 4, .inl sh)), (a5, .inl (cI, 4, .inl (upd aX x1N (nI v)))), (a6, .inl (cI, 4, .inl st)), (a7, .inl (cI, 4, .inl cl)), (a18, .inl (cI, 9, .inl mo)), (a19, .inl (cI, 9, .inl mi)), (a20, .inl (cI, 9, .inl mt)), (a21, .inl (cI, 96, .inl faX)), (a22, .inl (cI, 96, .inl giX)), (a27, .inl (cI, 8, .inl ro)), (a28, .inl (cI, 8, .inl ri)), (a29, .inl (cI, 8, .inl rv))] := hD
          refine lv_iload_n hx hb dX10_kinds_36 rfl (lv_at hl 1 rfl) ?_
          refine lv_aload_n hx hb dX10_kinds_37 rfl (lv_at hl 3 rfl) ?_
          -- differs: mo : cLa (cKnd C x1N v) / cLa C
          -- differs: mo : cAg (cKnd C x1N v) / cAg C
          -- differs: mo : cLa (cKnd C x1N v) / cLa C
          -- differs: mo : cAg (cKnd C x1N v) / cAg C
          -- differs: mo : cLa (cKnd C x1N v) / cLa C
          -- differs: mo : cAg (cKnd C x1N v) / cAg C
          have o_5 : okC (cKnd C x1N v) := by exact okC_knd hC (by omega)
          have o_6 : ok9 (cKnd C x1N v) T := by exact hM
          have o_7 : ∀ k, k < cLa (cKnd C x1N v) → st k = nI (cSt (cKnd C x1N v) k) := by exact hst
          have o_8 : repM T mo mi mt := by exact hrT
          have o_9 : kdM (cKnd C x1N v) 9 (-9 : Int32) (cKi (cKnd C x1N v)) (upd aX x1N (nI v)) := by exact kdM_knd hkd hC.2.1 (by omega) (up_at _ _ _) (fun j h e => by rw [up_ne _ _ e]; exact hz j h e)
          have o_10 : repB (cKnd C x1N v) sk sh cl := by exact hrB
          have o_11 : okE (cKnd C x1N v) E := by exact hE
          have o_12 : repM E ro ri rv := by assumption
          have hF := va_free (wc := [(m0, .inr (9, [.int i0, .ref a1, .int (nI (cSp C)), .ref a3, .int (nI (cLa (cKnd C x1N v))), .ref a5, .ref a6, .ref a7, .int (nI (cAg (cKnd C x1N v))), .int (-9 : Int32), .int i10, .int i11, .int i12, .ref a13, .ref a14, .ref a15, .ref a16, .int (nI (mN T)), .ref a18, .ref a19, .ref a20, .ref a21, .ref a22, .ref a23, .ref a24, .ref a25, .int (nI (mN E)), .ref a27, .ref a28, .ref a29, .ref a30, .ref a31, .ref a32, .ref a33, .ref a34, .int i35])), (a1, .inl (cI, 6, .inl sk)), (a3, .inl (cI, 4, .inl sh)), (a5, .inl (cI, 4, .inl (upd aX x1N (nI v)))), (a6, .inl (cI, 4, .inl st)), (a7, .inl (cI, 4, .inl cl)), (a18, .inl (cI, 9, .inl mo)), (a19, .inl (cI, 9, .inl mi)), (a20, .inl (cI, 9, .inl mt)), (a21, .inl (cI, 96, .inl faX)), (a22, .inl (cI, 96, .inl giX)), (a27, .inl (cI, 8, .inl ro)), (a28, .inl (cI, 8, .inl ri)), (a29, .inl (cI, 8, .inl rv))]) hD hS hA [0, 1, 2, 3, 4, 5, 6, 7, 8, 9, 10, 11, 12, 13] rfl
          refine va_calli (va_runV (As := []) (rest := [.int (bts (fun v => soN (cKnd C x1N v) T E (mN E)) 0 (v - 0))]) ⟨hx, hb, hml, hown, hts⟩ (c_X10_areSo lL D cI cS _ (cKnd C x1N v) T E 9 (cKi (cKnd C x1N v)) m0 a1 a3 a5 a6 a7 a13 a14 a15 a16 a18 a19 a20 a21 a22 a23 a24 a25 a27 a28 a29 a30 a31 a32 a33 a34 i0 (nI (cSp C)) (-9 : Int32) i10 i11 i12 i35 sk sh (upd aX x1N (nI v)) st cl mo mi mt faX giX ro ri rv o_5 o_6 o_7 o_8 o_9 o_10 o_11 o_12) (cwV 0 hts gX10_kinds_X10_areSo rfl rfl rfl cd_X10_areSo ⟨Nat.le_of_ble_eq_true rfl, Nat.le_of_ble_eq_true rfl⟩) ⟨kB_blind, va_recv hK hP (ci := 9) (q0 := 0) rfl rfl, fun U hU hW => ⟨rfl, by rw [hU], by rw [hU]; exact hP.sub [0, 1, 2, 3, 4, 5, 6, 7, 8, 9, 10, 11, 12, 13] rfl, va_K.moved hW.alike hK, (hD.sub [0, 1, 2, 3, 4, 5, 6, 7, 8, 9, 10, 11, 12, 13] (by decide) rfl).weaken (fun _ _ _ _ => trivial)⟩⟩ rfl rfl hl.1 rfl (lv_room (Nat.le_of_ble_eq_true rfl)) dX10_kinds_38 ⟨Nat.le_of_ble_eq_true rfl, Nat.le_of_ble_eq_true rfl⟩) hS (fun q _ h => hF q h) hF (fun r_13 u_13 t H1 locs ht hvm hw_13 hB hz1 hk1 hS => ?_)
          obtain ⟨fa2_13, gi2_13⟩ := u_13
          obtain ⟨hP, hD⟩ := kk_join2 (wc := [(m0, .inr (9, [.int i0, .ref a1, .int (nI (cSp C)), .ref a3, .int (nI (cLa (cKnd C x1N v))), .ref a5, .ref a6, .ref a7, .int (nI (cAg (cKnd C x1N v))), .int (-9 : Int32), .int i10, .int i11, .int i12, .ref a13, .ref a14, .ref a15, .ref a16, .int (nI (mN T)), .ref a18, .ref a19, .ref a20, .ref a21, .ref a22, .ref a23, .ref a24, .ref a25, .int (nI (mN E)), .ref a27, .ref a28, .ref a29, .ref a30, .ref a31, .ref a32, .ref a33, .ref a34, .int i35])), (a1, .inl (cI, 6, .inl sk)), (a3, .inl (cI, 4, .inl sh)), (a5, .inl (cI, 4, .inl (upd aX x1N (nI v)))), (a6, .inl (cI, 4, .inl st)), (a7, .inl (cI, 4, .inl cl)), (a18, .inl (cI, 9, .inl mo)), (a19, .inl (cI, 9, .inl mi)), (a20, .inl (cI, 9, .inl mt)), (a21, .inl (cI, 96, .inl faX)), (a22, .inl (cI, 96, .inl giX)), (a27, .inl (cI, 8, .inl ro)), (a28, .inl (cI, 8, .inl ri)), (a29, .inl (cI, 8, .inl rv))]) (w1 := [(m0, .inr (9, [.int i0, .ref a1, .int (nI (cSp C)), .ref a3, .int (nI (cLa (cKnd C x1N v))), .ref a5, .ref a6, .ref a7, .int (nI (cAg (cKnd C x1N v))), .int (-9 : Int32), .int i10, .int i11, .int i12, .ref a13, .ref a14, .ref a15, .ref a16, .int (nI (mN T)), .ref a18, .ref a19, .ref a20, .ref a21, .ref a22, .ref a23, .ref a24, .ref a25, .int (nI (mN E)), .ref a27, .ref a28, .ref a29, .ref a30, .ref a31, .ref a32, .ref a33, .ref a34, .int i35])), (a1, .inl (cI, 6, .inl sk)), (a3, .inl (cI, 4, .inl sh)), (a5, .inl (cI, 4, .inl (upd aX x1N (nI v)))), (a6, .inl (cI, 4, .inl st)), (a7, .inl (cI, 4, .inl cl)), (a18, .inl (cI, 9, .inl mo)), (a19, .inl (cI, 9, .inl mi)), (a20, .inl (cI, 9, .inl mt)), (a21, .inl (cI, 96, .inl fa2_13)), (a22, .inl (cI, 96, .inl gi2_13)), (a27, .inl (cI, 8, .inl ro)), (a28, .inl (cI, 8, .inl ri)), (a29, .inl (cI, 8, .inl rv))]) (ws' := [(m0, .inr (9, [.int i0, .ref a1, .int (nI (cSp C)), .ref a3, .int (nI (cLa C)), .ref a5, .ref a6, .ref a7, .int (nI (cAg C)), .int (-9 : Int32), .int i10, .int i11, .int i12, .ref a13, .ref a14, .ref a15, .ref a16, .int (nI (mN T)), .ref a18, .ref a19, .ref a20, .ref a21, .ref a22, .ref a23, .ref a24, .ref a25, .int (nI (mN E)), .ref a27, .ref a28, .ref a29, .ref a30, .ref a31, .ref a32, .ref a33, .ref a34, .int i35])), (a1, .inl (cI, 6, .inl sk)), (a3, .inl (cI, 4, .inl sh)), (a5, .inl (cI, 4, .inl (upd aX x1N (nI v)))), (a6, .inl (cI, 4, .inl st)), (a7, .inl (cI, 4, .inl cl)), (a18, .inl (cI, 9, .inl mo)), (a19, .inl (cI, 9, .inl mi)), (a20, .inl (cI, 9, .inl mt)), (a21, .inl (cI, 96, .inl fa2_13)), (a22, .inl (cI, 96, .inl gi2_13)), (a27, .inl (cI, 8, .inl ro)), (a28, .inl (cI, 8, .inl ri)), (a29, .inl (cI, 8, .inl rv))]) (wr := []) (H1 := H1) hP hD [0, 1, 2, 3, 4, 5, 6, 7, 8, 9, 10, 11, 12, 13] [] rfl rfl rfl rfl 14 rfl (by decide) [m0, a1, a3, a5, a6, a7, a18, a19, a20, a21, a22, a27, a28, a29] rfl rfl hk1 (by rw [← ht]; exact hB)
          have hw_13 : r_13 = kb (soN (cKnd C x1N v) T E (mN E)) ∧ True := hw_13
          clear hF hB hk1 hz1 hvm
          clear ht
          generalize H1 = H at hP hS ⊢
          obtain ⟨rfl, hw_13⟩ := hw_13
          -- if (soN (cKnd C x1N v) T E (mN E))
          refine kk_ifb_eq (tgt := 51) hx hb dX10_kinds_41 (by decide) (fun hb_14 => ?_) (fun hb_14 => ?_)
          · skip
            refine lv_iconst (v := nI 0) hx hb dX10_kinds_51 (by decide +kernel) ?_
            refine lv_ior hx hb dX10_kinds_52 ?_
            refine lv_istore_n (lv' := [(3, .int ((bts (fun v => soN (cKnd C x1N v) T E (mN E)) 0 (v - 0)) ||| (nI 0))), (4, .int (nI v)), (2, .int (nI (cKi C x1N))), (0, .ref m0), (1, .int (nI x1N))]) hx hb dX10_kinds_53 rfl hl (by decide) rfl (fun ls hl => ?_)
            have e_15 : (bts (fun v => soN (cKnd C x1N v) T E (mN E)) 0 (v - 0)) ||| (nI 0) = bts (fun v => soN (cKnd C x1N v) T E (mN E)) 0 (v + 1 - 0) := by
              rw [show v + 1 - 0 = (v - 0) + 1 by omega, bts_s, show 0 + (v - 0) = v by omega]
              show _ = _ ||| bit (soN (cKnd C x1N v) T E (mN E)) v
              rw [hb_14]; rfl
            rw [e_15] at hl
            refine lv_iinc (v := nI (v + 1)) (lv' := [(4, .int (nI (v + 1))), (3, .int (bts (fun v => soN (cKnd C x1N v) T E (mN E)) 0 (v + 1 - 0))), (2, .int (nI (cKi C x1N))), (0, .ref m0), (1, .int (nI x1N))]) hx hb dX10_kinds_54 hl (k := 1) rfl (nI_add v 1) (by decide) rfl (fun ls hl => ?_)
            refine lv_goto (tgt := 22) hx hb dX10_kinds_57 (by decide) ?_
            have o_16 : 0 ≤ (v + 1) := by omega
            have o_17 : (v + 1) ≤ 3 := by omega
            have o_18 : ∀ j, j < cLa C → j ≠ x1N → (upd aX x1N (nI v)) j = nI (cKi C j) := by intro j h h2; rw [up_ne _ _ h2]; exact hz j h h2
            have o_19 : 3 + 1 ≤ (v + 1) + n_22 := by omega
            exact ih_22 (v + 1) (upd aX x1N (nI v)) fa2_13 gi2_13 o_16 o_17 o_18 o_19 _ _ hP hD hS ls (lv_sub hl [0, 1, 2, 3, 4] rfl)
          · skip
            refine lv_iconst (v := nI 1) hx hb dX10_kinds_44 (by decide +kernel) ?_
            refine lv_iload hx hb dX10_kinds_45 (lv_at hl 0 rfl) ?_
            refine lv_ishl hx hb dX10_kinds_47 ?_
            refine lv_goto (tgt := 52) hx hb dX10_kinds_48 (by decide) ?_
            refine lv_ior hx hb dX10_kinds_52 ?_
            refine lv_istore_n (lv' := [(3, .int ((bts (fun v => soN (cKnd C x1N v) T E (mN E)) 0 (v - 0)) ||| ((nI 1) <<< (nI v &&& 31)))), (4, .int (nI v)), (2, .int (nI (cKi C x1N))), (0, .ref m0), (1, .int (nI x1N))]) hx hb dX10_kinds_53 rfl hl (by decide) rfl (fun ls hl => ?_)
            have e_20 : (bts (fun v => soN (cKnd C x1N v) T E (mN E)) 0 (v - 0)) ||| ((nI 1) <<< (nI v &&& 31)) = bts (fun v => soN (cKnd C x1N v) T E (mN E)) 0 (v + 1 - 0) := by
              rw [show v + 1 - 0 = (v - 0) + 1 by omega, bts_s, show 0 + (v - 0) = v by omega]
              show _ = _ ||| bit (soN (cKnd C x1N v) T E (mN E)) v
              rw [hb_14]; rfl
            rw [e_20] at hl
            refine lv_iinc (v := nI (v + 1)) (lv' := [(4, .int (nI (v + 1))), (3, .int (bts (fun v => soN (cKnd C x1N v) T E (mN E)) 0 (v + 1 - 0))), (2, .int (nI (cKi C x1N))), (0, .ref m0), (1, .int (nI x1N))]) hx hb dX10_kinds_54 hl (k := 1) rfl (nI_add v 1) (by decide) rfl (fun ls hl => ?_)
            refine lv_goto (tgt := 22) hx hb dX10_kinds_57 (by decide) ?_
            have o_21 : 0 ≤ (v + 1) := by omega
            have o_22 : (v + 1) ≤ 3 := by omega
            have o_23 : ∀ j, j < cLa C → j ≠ x1N → (upd aX x1N (nI v)) j = nI (cKi C j) := by intro j h h2; rw [up_ne _ _ h2]; exact hz j h h2
            have o_24 : 3 + 1 ≤ (v + 1) + n_22 := by omega
            exact ih_22 (v + 1) (upd aX x1N (nI v)) fa2_13 gi2_13 o_21 o_22 o_23 o_24 _ _ hP hD hS ls (lv_sub hl [0, 1, 2, 3, 4] rfl)
    have o_25 : 0 ≤ 0 := by omega
    have o_26 : 0 ≤ 3 := by omega
    have o_27 : ∀ j, j < cLa C → j ≠ x1N → ki j = nI (cKi C j) := by intro j h _; exact hrC.2.2.1 j h
    have o_28 : 3 + 1 ≤ 0 + (3 + 1) := by omega
    exact L_22 (3 + 1) 0 ki fa gi o_25 o_26 o_27 o_28 _ _ hP hD hS ls (lv_sub hl [0, 1, 2, 3, 4] rfl)
  · skip
    refine lv_iconst (v := (-1 : Int32)) hx hb dX10_kinds_8 (by decide +kernel) ?_
    have hq : (-1 : Int32) = sp_kinds C T E x1 ∧ repC C sk sh ki st cl := by refine ⟨by simp only [sp_kinds, hb_3, cond_true, cond_false], hrC⟩
    refine kk_QQ hQQ ?_
    exact W.iret (v := (-1 : Int32)) hx hb hr (fun t ht hW => ⟨⟨(-1 : Int32), (ki, fa, gi), rfl, hq, by show va_P D vwCl _ t.heap; rw [ht]; exact hP⟩, hS.F ht⟩) hS.2.2 dX10_kinds_9

abbrev rmX10_ages : Room := { frames := 4, cells := 0, slots := 0, locals := 97 }
set_option maxHeartbeats 4000000 in
set_option maxRecDepth 100000 in
theorem c_X10_ages (lL : Launch) (D : va_G) (cI cS : ClassId) (sz : Nat) (C : Co) (T : Mv) (E : Mv) (m0 : Nat) (a1 : Nat) (a3 : Nat) (a5 : Nat) (a6 : Nat) (a7 : Nat) (a13 : Nat) (a14 : Nat) (a15 : Nat) (a16 : Nat) (a18 : Nat) (a19 : Nat) (a20 : Nat) (a21 : Nat) (a22 : Nat) (a23 : Nat) (a24 : Nat) (a25 : Nat) (a27 : Nat) (a28 : Nat) (a29 : Nat) (a30 : Nat) (a31 : Nat) (a32 : Nat) (a33 : Nat) (a34 : Nat) (i0 : Int32) (i10 : Int32) (i11 : Int32) (i12 : Int32) (i35 : Int32) (sk : Nat → Int32) (sh : Nat → Int32) (ki : Nat → Int32) (st : Nat → Int32) (cl : Nat → Int32) (mo : Nat → Int32) (mi : Nat → Int32) (mt : Nat → Int32) (fa : Nat → Int32) (gi : Nat → Int32) (ro : Nat → Int32) (ri : Nat → Int32) (rv : Nat → Int32) (hX : okX C T E) (hrC : repC C sk sh ki st cl) (hrT : repM T mo mi mt) (hrE : repM E ro ri rv) : Met lL yX10_ages wsX10_ages rmX10_ages (va_Pc [.ref m0] (kB D cI cS [(m0, .inr (9, [.int i0, .ref a1, .int (nI (cSp C)), .ref a3, .int (nI (cLa C)), .ref a5, .ref a6, .ref a7, .int (nI (cAg C)), .int (-9 : Int32), .int i10, .int i11, .int i12, .ref a13, .ref a14, .ref a15, .ref a16, .int (nI (mN T)), .ref a18, .ref a19, .ref a20, .ref a21, .ref a22, .ref a23, .ref a24, .ref a25, .int (nI (mN E)), .ref a27, .ref a28, .ref a29, .ref a30, .ref a31, .ref a32, .ref a33, .ref a34, .int i35])), (a1, .inl (cI, 6, .inl sk)), (a3, .inl (cI, 4, .inl sh)), (a5, .inl (cI, 4, .inl ki)), (a6, .inl (cI, 4, .inl st)), (a7, .inl (cI, 4, .inl cl)), (a18, .inl (cI, 9, .inl mo)), (a19, .inl (cI, 9, .inl mi)), (a20, .inl (cI, 9, .inl mt)), (a21, .inl (cI, 96, .inl fa)), (a22, .inl (cI, 96, .inl gi)), (a27, .inl (cI, 8, .inl ro)), (a28, .inl (cI, 8, .inl ri)), (a29, .inl (cI, 8, .inl rv))] sz)) (kQi D (fun (r : Int32) (u : (Nat → Int32) × (Nat → Int32)) => r = sp_ages C T E ∧ repC C sk sh ki st cl) (fun u : (Nat → Int32) × (Nat → Int32) => [(m0, .inr (9, [.int i0, .ref a1, .int (nI (cSp C)), .ref a3, .int (nI (cLa C)), .ref a5, .ref a6, .ref a7, .int (nI (cAg C)), .int (-9 : Int32), .int i10, .int i11, .int i12, .ref a13, .ref a14, .ref a15, .ref a16, .int (nI (mN T)), .ref a18, .ref a19, .ref a20, .ref a21, .ref a22, .ref a23, .ref a24, .ref a25, .int (nI (mN E)), .ref a27, .ref a28, .ref a29, .ref a30, .ref a31, .ref a32, .ref a33, .ref a34, .int i35])), (a1, .inl (cI, 6, .inl sk)), (a3, .inl (cI, 4, .inl sh)), (a5, .inl (cI, 4, .inl ki)), (a6, .inl (cI, 4, .inl st)), (a7, .inl (cI, 4, .inl cl)), (a18, .inl (cI, 9, .inl mo)), (a19, .inl (cI, 9, .inl mi)), (a20, .inl (cI, 9, .inl mt)), (a21, .inl (cI, 96, .inl u.1)), (a22, .inl (cI, 96, .inl u.2)), (a27, .inl (cI, 8, .inl ro)), (a28, .inl (cI, 8, .inl ri)), (a29, .inl (cI, 8, .inl rv))]) (va_A [(m0, .inr (9, [.int i0, .ref a1, .int (nI (cSp C)), .ref a3, .int (nI (cLa C)), .ref a5, .ref a6, .ref a7, .int (nI (cAg C)), .int (-9 : Int32), .int i10, .int i11, .int i12, .ref a13, .ref a14, .ref a15, .ref a16, .int (nI (mN T)), .ref a18, .ref a19, .ref a20, .ref a21, .ref a22, .ref a23, .ref a24, .ref a25, .int (nI (mN E)), .ref a27, .ref a28, .ref a29, .ref a30, .ref a31, .ref a32, .ref a33, .ref a34, .int i35])), (a1, .inl (cI, 6, .inl sk)), (a3, .inl (cI, 4, .inl sh)), (a5, .inl (cI, 4, .inl ki)), (a6, .inl (cI, 4, .inl st)), (a7, .inl (cI, 4, .inl cl)), (a18, .inl (cI, 9, .inl mo)), (a19, .inl (cI, 9, .inl mi)), (a20, .inl (cI, 9, .inl mt)), (a21, .inl (cI, 96, .inl fa)), (a22, .inl (cI, 96, .inl gi)), (a27, .inl (cI, 8, .inl ro)), (a28, .inl (cI, 8, .inl ri)), (a29, .inl (cI, 8, .inl rv))] sz)) 0 0 (va_A [(m0, .inr (9, [.int i0, .ref a1, .int (nI (cSp C)), .ref a3, .int (nI (cLa C)), .ref a5, .ref a6, .ref a7, .int (nI (cAg C)), .int (-9 : Int32), .int i10, .int i11, .int i12, .ref a13, .ref a14, .ref a15, .ref a16, .int (nI (mN T)), .ref a18, .ref a19, .ref a20, .ref a21, .ref a22, .ref a23, .ref a24, .ref a25, .int (nI (mN E)), .ref a27, .ref a28, .ref a29, .ref a30, .ref a31, .ref a32, .ref a33, .ref a34, .int i35])), (a1, .inl (cI, 6, .inl sk)), (a3, .inl (cI, 4, .inl sh)), (a5, .inl (cI, 4, .inl ki)), (a6, .inl (cI, 4, .inl st)), (a7, .inl (cI, 4, .inl cl)), (a18, .inl (cI, 9, .inl mo)), (a19, .inl (cI, 9, .inl mi)), (a20, .inl (cI, 9, .inl mt)), (a21, .inl (cI, 96, .inl fa)), (a22, .inl (cI, 96, .inl gi)), (a27, .inl (cI, 8, .inl ro)), (a28, .inl (cI, 8, .inl ri)), (a29, .inl (cI, 8, .inl rv))] sz) := by
  refine Met.ofW (cc := cX10_ages) (maxL := 4) (ret := (some .int)) (by decide) rfl ?_
  intro pP eE sS mM args below meth cC s₁ B hml hv
  obtain ⟨rfl, hsz, hP, hK, hD0⟩ := hv
  have hx := B.exec
  have hb := B.bytes
  have hr := B.returns
  have hts := atoms_spec (ws := wsX10_ages) B.pre
  have hown : sS.vm.findClass RX10 = some mM.cls := findClass_of_methodNamed B.named
  have hlocks := B.notSynchronized
  subst hsz
  have hD := hD0.self (sz := sS.heap.size)
  generalize hAe : va_A [(m0, .inr (9, [.int i0, .ref a1, .int (nI (cSp C)), .ref a3, .int (nI (cLa C)), .ref a5, .ref a6, .ref a7, .int (nI (cAg C)), .int (-9 : Int32), .int i10, .int i11, .int i12, .ref a13, .ref a14, .ref a15, .ref a16, .int (nI (mN T)), .ref a18, .ref a19, .ref a20, .ref a21, .ref a22, .ref a23, .ref a24, .ref a25, .int (nI (mN E)), .ref a27, .ref a28, .ref a29, .ref a30, .ref a31, .ref a32, .ref a33, .ref a34, .int i35])), (a1, .inl (cI, 6, .inl sk)), (a3, .inl (cI, 4, .inl sh)), (a5, .inl (cI, 4, .inl ki)), (a6, .inl (cI, 4, .inl st)), (a7, .inl (cI, 4, .inl cl)), (a18, .inl (cI, 9, .inl mo)), (a19, .inl (cI, 9, .inl mi)), (a20, .inl (cI, 9, .inl mt)), (a21, .inl (cI, 96, .inl fa)), (a22, .inl (cI, 96, .inl gi)), (a27, .inl (cI, 8, .inl ro)), (a28, .inl (cI, 8, .inl ri)), (a29, .inl (cI, 8, .inl rv))] sS.heap.size = A at hD ⊢
  have hA : ∀ q : Nat, sS.heap.size ≤ q → A q := fun q h => by rw [← hAe]; exact Or.inr h
  have hS : va_S A sS.heap sS.heap [] := va_S.rf
  have hP : va_P D vwCl [(m0, .inr (9, [.int i0, .ref a1, .int (nI (cSp C)), .ref a3, .int (nI (cLa C)), .ref a5, .ref a6, .ref a7, .int (nI (cAg C)), .int (-9 : Int32), .int i10, .int i11, .int i12, .ref a13, .ref a14, .ref a15, .ref a16, .int (nI (mN T)), .ref a18, .ref a19, .ref a20, .ref a21, .ref a22, .ref a23, .ref a24, .ref a25, .int (nI (mN E)), .ref a27, .ref a28, .ref a29, .ref a30, .ref a31, .ref a32, .ref a33, .ref a34, .int i35])), (a1, .inl (cI, 6, .inl sk)), (a3, .inl (cI, 4, .inl sh)), (a5, .inl (cI, 4, .inl ki)), (a6, .inl (cI, 4, .inl st)), (a7, .inl (cI, 4, .inl cl)), (a18, .inl (cI, 9, .inl mo)), (a19, .inl (cI, 9, .inl mi)), (a20, .inl (cI, 9, .inl mt)), (a21, .inl (cI, 96, .inl fa)), (a22, .inl (cI, 96, .inl gi)), (a27, .inl (cI, 8, .inl ro)), (a28, .inl (cI, 8, .inl ri)), (a29, .inl (cI, 8, .inl rv))] sS.heap := hP
  have hD : va_D A [(m0, .inr (9, [.int i0, .ref a1, .int (nI (cSp C)), .ref a3, .int (nI (cLa C)), .ref a5, .ref a6, .ref a7, .int (nI (cAg C)), .int (-9 : Int32), .int i10, .int i11, .int i12, .ref a13, .ref a14, .ref a15, .ref a16, .int (nI (mN T)), .ref a18, .ref a19, .ref a20, .ref a21, .ref a22, .ref a23, .ref a24, .ref a25, .int (nI (mN E)), .ref a27, .ref a28, .ref a29, .ref a30, .ref a31, .ref a32, .ref a33, .ref a34, .int i35])), (a1, .inl (cI, 6, .inl sk)), (a3, .inl (cI, 4, .inl sh)), (a5, .inl (cI, 4, .inl ki)), (a6, .inl (cI, 4, .inl st)), (a7, .inl (cI, 4, .inl cl)), (a18, .inl (cI, 9, .inl mo)), (a19, .inl (cI, 9, .inl mi)), (a20, .inl (cI, 9, .inl mt)), (a21, .inl (cI, 96, .inl fa)), (a22, .inl (cI, 96, .inl gi)), (a27, .inl (cI, 8, .inl ro)), (a28, .inl (cI, 8, .inl ri)), (a29, .inl (cI, 8, .inl rv))] := hD
  have hf_105 := hts (.fieldLink RX10 105 "OldLampsModel" "lamps" "I") (List.mem_of_getElem? (i := 1) rfl)
  have hf_158 := hts (.fieldLink RX10 158 "OldLampsModel" "ageNow" "I") (List.mem_of_getElem? (i := 2) rfl)
  have hwX10 : ∀ w ∈ wsX100, w ∈ wsX10_ages := fun _ h => List.mem_cons_of_mem _ (List.mem_append_right _ h)
  have hl := lv_entry ([.ref m0]) (n := 4) (Nat.le_of_ble_eq_true rfl)
  rw [lg_entry_eq]
  generalize (lg_sl ([.ref m0]) ++ List.replicate (4 - (lg_sl ([.ref m0])).length) Slot.unset).toArray = ls at hl ⊢
  have hl : lv_has ls 4 [(0, .ref m0)] := hl
  obtain ⟨QQ, hQQ⟩ : ∃ QQ : State → Prop, QQ = MQ below (kQi D (fun (r : Int32) (u : (Nat → Int32) × (Nat → Int32)) => r = sp_ages C T E ∧ repC C sk sh ki st cl) (fun u : (Nat → Int32) × (Nat → Int32) => [(m0, .inr (9, [.int i0, .ref a1, .int (nI (cSp C)), .ref a3, .int (nI (cLa C)), .ref a5, .ref a6, .ref a7, .int (nI (cAg C)), .int (-9 : Int32), .int i10, .int i11, .int i12, .ref a13, .ref a14, .ref a15, .ref a16, .int (nI (mN T)), .ref a18, .ref a19, .ref a20, .ref a21, .ref a22, .ref a23, .ref a24, .ref a25, .int (nI (mN E)), .ref a27, .ref a28, .ref a29, .ref a30, .ref a31, .ref a32, .ref a33, .ref a34, .int i35])), (a1, .inl (cI, 6, .inl sk)), (a3, .inl (cI, 4, .inl sh)), (a5, .inl (cI, 4, .inl ki)), (a6, .inl (cI, 4, .inl st)), (a7, .inl (cI, 4, .inl cl)), (a18, .inl (cI, 9, .inl mo)), (a19, .inl (cI, 9, .inl mi)), (a20, .inl (cI, 9, .inl mt)), (a21, .inl (cI, 96, .inl u.1)), (a22, .inl (cI, 96, .inl u.2)), (a27, .inl (cI, 8, .inl ro)), (a28, .inl (cI, 8, .inl ri)), (a29, .inl (cI, 8, .inl rv))]) A) ([.ref m0]).toArray sS 0 0 A := ⟨_, rfl⟩
  refine kk_QQ hQQ.symm ?_
  obtain ⟨hX1, hX2, hX3, hX4⟩ := okX_le hX
  refine lv_aload_n hx hb dX10_ages_0 rfl (lv_at hl 0 rfl) ?_
  refine va_get (D := D) (ci := 9) (v := .int (nI (cLa C))) (C := RX10) (T := TX10) (N := 36) hx hb hts hwX10 hown hK hP 0 rfl rfl 4 (by decide) hf_105 (fun _ h9 => h9) rfl dX10_ages_1 ?_
  refine kk_if_ne (tgt := 10) hx hb dX10_ages_4 (by decide) (by omega) (fun c_1 => ?_) (fun c_1 => ?_)
  · skip
    have hI : isC C = true := decide_eq_true (by omega)
    obtain ⟨hC, hM0, hE⟩ := okX_la hX (show 0 < cLa C by omega)
    have hM := ok9_of hM0
    have hkd := kdM_of hX hrC
    have hwo := hkd.2
    have hk3 : 9 < cLa C → cKi C 9 = 3 := fun z => absurd hC.2.1 (by omega)
    have hst := hrC.2.2.2.1
    have hrB : repB C sk sh cl := ⟨hrC.1, hrC.2.1, hrC.2.2.2.2⟩
    have hxa := hC.2.1
    have hxs := hC.1
    refine lv_aload_n hx hb dX10_ages_10 rfl (lv_at hl 0 rfl) ?_
    refine va_get (D := D) (ci := 9) (v := .int (nI (cAg C))) (C := RX10) (T := TX10) (N := 36) hx hb hts hwX10 hown hK hP 0 rfl rfl 8 (by decide) hf_158 (fun _ h9 => h9) rfl dX10_ages_11 ?_
    refine lv_istore_n (lv' := [(1, .int (nI (cAg C))), (0, .ref m0)]) hx hb dX10_ages_14 rfl hl (by decide) rfl (fun ls hl => ?_)
    refine lv_iconst (v := nI 0) hx hb dX10_ages_15 (by decide +kernel) ?_
    refine lv_istore_n (lv' := [(2, .int (nI 0)), (1, .int (nI (cAg C))), (0, .ref m0)]) hx hb dX10_ages_16 rfl hl (by decide) rfl (fun ls hl => ?_)
    refine lv_iconst (v := nI 1) hx hb dX10_ages_17 (by decide +kernel) ?_
    refine lv_istore_n (lv' := [(3, .int (nI 1)), (2, .int (nI 0)), (1, .int (nI (cAg C))), (0, .ref m0)]) hx hb dX10_ages_18 rfl hl (by decide) rfl (fun ls hl => ?_)
    have L_19 : ∀ (n_19 : Nat) (v : Nat) (aX : Int32) (faX : Nat → Int32) (giX : Nat → Int32), (1 ≤ v) → (v ≤ 13) → 13 + 1 ≤ v + n_19 → ∀ (H : Heap) (locs : List Loc), va_P D vwCl [(m0, .inr (9, [.int i0, .ref a1, .int (nI (cSp C)), .ref a3, .int (nI (cLa C)), .ref a5, .ref a6, .ref a7, .int aX, .int (-9 : Int32), .int i10, .int i11, .int i12, .ref a13, .ref a14, .ref a15, .ref a16, .int (nI (mN T)), .ref a18, .ref a19, .ref a20, .ref a21, .ref a22, .ref a23, .ref a24, .ref a25, .int (nI (mN E)), .ref a27, .ref a28, .ref a29, .ref a30, .ref a31, .ref a32, .ref a33, .ref a34, .int i35])), (a1, .inl (cI, 6, .inl sk)), (a3, .inl (cI, 4, .inl sh)), (a5, .inl (cI, 4, .inl ki)), (a6, .inl (cI, 4, .inl st)), (a7, .inl (cI, 4, .inl cl)), (a18, .inl (cI, 9, .inl mo)), (a19, .inl (cI, 9, .inl mi)), (a20, .inl (cI, 9, .inl mt)), (a21, .inl (cI, 96, .inl faX)), (a22, .inl (cI, 96, .inl giX)), (a27, .inl (cI, 8, .inl ro)), (a28, .inl (cI, 8, .inl ri)), (a29, .inl (cI, 8, .inl rv))] H → va_D A [(m0, .inr (9, [.int i0, .ref a1, .int (nI (cSp C)), .ref a3, .int (nI (cLa C)), .ref a5, .ref a6, .ref a7, .int aX, .int (-9 : Int32), .int i10, .int i11, .int i12, .ref a13, .ref a14, .ref a15, .ref a16, .int (nI (mN T)), .ref a18, .ref a19, .ref a20, .ref a21, .ref a22, .ref a23, .ref a24, .ref a25, .int (nI (mN E)), .ref a27, .ref a28, .ref a29, .ref a30, .ref a31, .ref a32, .ref a33, .ref a34, .int i35])), (a1, .inl (cI, 6, .inl sk)), (a3, .inl (cI, 4, .inl sh)), (a5, .inl (cI, 4, .inl ki)), (a6, .inl (cI, 4, .inl st)), (a7, .inl (cI, 4, .inl cl)), (a18, .inl (cI, 9, .inl mo)), (a19, .inl (cI, 9, .inl mi)), (a20, .inl (cI, 9, .inl mt)), (a21, .inl (cI, 96, .inl faX)), (a22, .inl (cI, 96, .inl giX)), (a27, .inl (cI, 8, .inl ro)), (a28, .inl (cI, 8, .inl ri)), (a29, .inl (cI, 8, .inl rv))] → va_S A sS.heap H locs → ∀ (ls : Array Slot), lv_has ls 4 [(3, .int (nI v)), (2, .int (bts (fun v => soN (cAge C v) T E (mN E)) 1 (v - 1))), (1, .int (nI (cAg C))), (0, .ref m0)] → W pP lL eE (headSpec wsX10_ages rmX10_ages).room sS mM ([.ref m0]).toArray below meth cC H locs 0 0 QQ (F0 mM 19 ls []) := by
      intro n_19
      induction n_19 with
      | zero =>
        intro v aX faX giX hv1 hv2 hn_19 H locs hP hD hS ls hl
        exact absurd hn_19 (by omega)
      | succ n_19 ih_19 =>
        intro v aX faX giX hv1 hv2 hn_19 H locs hP hD hS ls hl
        refine lv_iload_n hx hb dX10_ages_19 rfl (lv_at hl 0 rfl) ?_
        refine lv_bipush (v := nI 13) hx hb dX10_ages_20 (by decide +kernel) ?_
        refine kk_icmp_ge (tgt := 53) hx hb dX10_ages_22 (by decide) (by omega) (by omega) (fun c_2 => ?_) (fun c_2 => ?_)
        · skip
          refine lv_aload_n hx hb dX10_ages_53 rfl (lv_at hl 3 rfl) ?_
          refine lv_iload_n hx hb dX10_ages_54 rfl (lv_at hl 2 rfl) ?_
          refine va_put (D := D) (ci := 9) (v := .int (nI (cAg C))) (ty := .int) (C := RX10) (T := TX10) (N := 36) hx hb hts hwX10 tyX10 tyX10_ok nmX10 hown hK hP hD hS 0 rfl rfl 8 (by decide) hf_158 (fun _ h9 => h9) rfl (by decide +kernel) rfl rfl (Nat.le_of_ble_eq_true rfl) dX10_ages_55 (fun H locs hP hD hS => ?_)
          have hP : va_P D vwCl [(m0, .inr (9, [.int i0, .ref a1, .int (nI (cSp C)), .ref a3, .int (nI (cLa C)), .ref a5, .ref a6, .ref a7, .int (nI (cAg C)), .int (-9 : Int32), .int i10, .int i11, .int i12, .ref a13, .ref a14, .ref a15, .ref a16, .int (nI (mN T)), .ref a18, .ref a19, .ref a20, .ref a21, .ref a22, .ref a23, .ref a24, .ref a25, .int (nI (mN E)), .ref a27, .ref a28, .ref a29, .ref a30, .ref a31, .ref a32, .ref a33, .ref a34, .int i35])), (a1, .inl (cI, 6, .inl sk)), (a3, .inl (cI, 4, .inl sh)), (a5, .inl (cI, 4, .inl ki)), (a6, .inl (cI, 4, .inl st)), (a7, .inl (cI, 4, .inl cl)), (a18, .inl (cI, 9, .inl mo)), (a19, .inl (cI, 9, .inl mi)), (a20, .inl (cI, 9, .inl mt)), (a21, .inl (cI, 96, .inl faX)), (a22, .inl (cI, 96, .inl giX)), (a27, .inl (cI, 8, .inl ro)), (a28, .inl (cI, 8, .inl ri)), (a29, .inl (cI, 8, .inl rv))] H := hP
          have hD : va_D A [(m0, .inr (9, [.int i0, .ref a1, .int (nI (cSp C)), .ref a3, .int (nI (cLa C)), .ref a5, .ref a6, .ref a7, .int (nI (cAg C)), .int (-9 : Int32), .int i10, .int i11, .int i12, .ref a13, .ref a14, .ref a15, .ref a16, .int (nI (mN T)), .ref a18, .ref a19, .ref a20, .ref a21, .ref a22, .ref a23, .ref a24, .ref a25, .int (nI (mN E)), .ref a27, .ref a28, .ref a29, .ref a30, .ref a31, .ref a32, .ref a33, .ref a34, .int i35])), (a1, .inl (cI, 6, .inl sk)), (a3, .inl (cI, 4, .inl sh)), (a5, .inl (cI, 4, .inl ki)), (a6, .inl (cI, 4, .inl st)), (a7, .inl (cI, 4, .inl cl)), (a18, .inl (cI, 9, .inl mo)), (a19, .inl (cI, 9, .inl mi)), (a20, .inl (cI, 9, .inl mt)), (a21, .inl (cI, 96, .inl faX)), (a22, .inl (cI, 96, .inl giX)), (a27, .inl (cI, 8, .inl ro)), (a28, .inl (cI, 8, .inl ri)), (a29, .inl (cI, 8, .inl rv))] := hD
          refine lv_iload_n hx hb dX10_ages_58 rfl (lv_at hl 1 rfl) ?_
          have hq : (bts (fun v => soN (cAge C v) T E (mN E)) 1 (v - 1)) = sp_ages C T E ∧ repC C sk sh ki st cl := by
            refine ⟨?_, hrC⟩
            simp only [sp_ages, hI, cond_true, cond_false]
            rw [show v = 13 by omega]
          refine kk_QQ hQQ ?_
          exact W.iret (v := bts (fun v => soN (cAge C v) T E (mN E)) 1 (v - 1)) hx hb hr (fun t ht hW => ⟨⟨bts (fun v => soN (cAge C v) T E (mN E)) 1 (v - 1), (faX, giX), rfl, hq, by show va_P D vwCl _ t.heap; rw [ht]; exact hP⟩, hS.F ht⟩) hS.2.2 dX10_ages_59
        · skip
          refine lv_aload_n hx hb dX10_ages_25 rfl (lv_at hl 3 rfl) ?_
          refine lv_iload_n hx hb dX10_ages_26 rfl (lv_at hl 0 rfl) ?_
          refine va_put (D := D) (ci := 9) (v := .int (nI v)) (ty := .int) (C := RX10) (T := TX10) (N := 36) hx hb hts hwX10 tyX10 tyX10_ok nmX10 hown hK hP hD hS 0 rfl rfl 8 (by decide) hf_158 (fun _ h9 => h9) rfl (by decide +kernel) rfl rfl (Nat.le_of_ble_eq_true rfl) dX10_ages_27 (fun H locs hP hD hS => ?_)
          have hP : va_P D vwCl [(m0, .inr (9, [.int i0, .ref a1, .int (nI (cSp C)), .ref a3, .int (nI (cLa C)), .ref a5, .ref a6, .ref a7, .int (nI v), .int (-9 : Int32), .int i10, .int i11, .int i12, .ref a13, .ref a14, .ref a15, .ref a16, .int (nI (mN T)), .ref a18, .ref a19, .ref a20, .ref a21, .ref a22, .ref a23, .ref a24, .ref a25, .int (nI (mN E)), .ref a27, .ref a28, .ref a29, .ref a30, .ref a31, .ref a32, .ref a33, .ref a34, .int i35])), (a1, .inl (cI, 6, .inl sk)), (a3, .inl (cI, 4, .inl sh)), (a5, .inl (cI, 4, .inl ki)), (a6, .inl (cI, 4, .inl st)), (a7, .inl (cI, 4, .inl cl)), (a18, .inl (cI, 9, .inl mo)), (a19, .inl (cI, 9, .inl mi)), (a20, .inl (cI, 9, .inl mt)), (a21, .inl (cI, 96, .inl faX)), (a22, .inl (cI, 96, .inl giX)), (a27, .inl (cI, 8, .inl ro)), (a28, .inl (cI, 8, .inl ri)), (a29, .inl (cI, 8, .inl rv))] H := hP
          have hD : va_D A [(m0, .inr (9, [.int i0, .ref a1, .int (nI (cSp C)), .ref a3, .int (nI (cLa C)), .ref a5, .ref a6, .ref a7, .int (nI v), .int (-9 : Int32), .int i10, .int i11, .int i12, .ref a13, .ref a14, .ref a15, .ref a16, .int (nI (mN T)), .ref a18, .ref a19, .ref a20, .ref a21, .ref a22, .ref a23, .ref a24, .ref a25, .int (nI (mN E)), .ref a27, .ref a28, .ref a29, .ref a30, .ref a31, .ref a32, .ref a33, .ref a34, .int i35])), (a1, .inl (cI, 6, .inl sk)), (a3, .inl (cI, 4, .inl sh)), (a5, .inl (cI, 4, .inl ki)), (a6, .inl (cI, 4, .inl st)), (a7, .inl (cI, 4, .inl cl)), (a18, .inl (cI, 9, .inl mo)), (a19, .inl (cI, 9, .inl mi)), (a20, .inl (cI, 9, .inl mt)), (a21, .inl (cI, 96, .inl faX)), (a22, .inl (cI, 96, .inl giX)), (a27, .inl (cI, 8, .inl ro)), (a28, .inl (cI, 8, .inl ri)), (a29, .inl (cI, 8, .inl rv))] := hD
          refine lv_iload_n hx hb dX10_ages_30 rfl (lv_at hl 1 rfl) ?_
          refine lv_aload_n hx hb dX10_ages_31 rfl (lv_at hl 3 rfl) ?_
          -- differs: mo : cLa (cAge C v) / cLa C
          -- differs: mo : cAg (cAge C v) / v
          -- differs: mo : cLa (cAge C v) / cLa C
          -- differs: mo : cAg (cAge C v) / v
          -- differs: mo : cLa (cAge C v) / cLa C
          -- differs: mo : cAg (cAge C v) / v
          have o_3 : okC (cAge C v) := by exact okC_age hC (by omega) (by omega)
          have o_4 : ok9 (cAge C v) T := by exact hM
          have o_5 : ∀ k, k < cLa (cAge C v) → st k = nI (cSt (cAge C v) k) := by exact hst
          have o_6 : repM T mo mi mt := by exact hrT
          have o_7 : kdM (cAge C v) 9 (-9 : Int32) (cKi C) ki := by exact hkd
          have o_8 : repB (cAge C v) sk sh cl := by exact hrB
          have o_9 : okE (cAge C v) E := by exact hE
          have o_10 : repM E ro ri rv := by assumption
          have hF := va_free (wc := [(m0, .inr (9, [.int i0, .ref a1, .int (nI (cSp C)), .ref a3, .int (nI (cLa (cAge C v))), .ref a5, .ref a6, .ref a7, .int (nI (cAg (cAge C v))), .int (-9 : Int32), .int i10, .int i11, .int i12, .ref a13, .ref a14, .ref a15, .ref a16, .int (nI (mN T)), .ref a18, .ref a19, .ref a20, .ref a21, .ref a22, .ref a23, .ref a24, .ref a25, .int (nI (mN E)), .ref a27, .ref a28, .ref a29, .ref a30, .ref a31, .ref a32, .ref a33, .ref a34, .int i35])), (a1, .inl (cI, 6, .inl sk)), (a3, .inl (cI, 4, .inl sh)), (a5, .inl (cI, 4, .inl ki)), (a6, .inl (cI, 4, .inl st)), (a7, .inl (cI, 4, .inl cl)), (a18, .inl (cI, 9, .inl mo)), (a19, .inl (cI, 9, .inl mi)), (a20, .inl (cI, 9, .inl mt)), (a21, .inl (cI, 96, .inl faX)), (a22, .inl (cI, 96, .inl giX)), (a27, .inl (cI, 8, .inl ro)), (a28, .inl (cI, 8, .inl ri)), (a29, .inl (cI, 8, .inl rv))]) hD hS hA [0, 1, 2, 3, 4, 5, 6, 7, 8, 9, 10, 11, 12, 13] rfl
          refine va_calli (va_runV (As := []) (rest := [.int (bts (fun v => soN (cAge C v) T E (mN E)) 1 (v - 1))]) ⟨hx, hb, hml, hown, hts⟩ (c_X10_areSo lL D cI cS _ (cAge C v) T E 9 (cKi C) m0 a1 a3 a5 a6 a7 a13 a14 a15 a16 a18 a19 a20 a21 a22 a23 a24 a25 a27 a28 a29 a30 a31 a32 a33 a34 i0 (nI (cSp C)) (-9 : Int32) i10 i11 i12 i35 sk sh ki st cl mo mi mt faX giX ro ri rv o_3 o_4 o_5 o_6 o_7 o_8 o_9 o_10) (cwV 0 hts gX10_ages_X10_areSo rfl rfl rfl cd_X10_areSo ⟨Nat.le_of_ble_eq_true rfl, Nat.le_of_ble_eq_true rfl⟩) ⟨kB_blind, va_recv hK hP (ci := 9) (q0 := 0) rfl rfl, fun U hU hW => ⟨rfl, by rw [hU], by rw [hU]; exact hP.sub [0, 1, 2, 3, 4, 5, 6, 7, 8, 9, 10, 11, 12, 13] rfl, va_K.moved hW.alike hK, (hD.sub [0, 1, 2, 3, 4, 5, 6, 7, 8, 9, 10, 11, 12, 13] (by decide) rfl).weaken (fun _ _ _ _ => trivial)⟩⟩ rfl rfl hl.1 rfl (lv_room (Nat.le_of_ble_eq_true rfl)) dX10_ages_32 ⟨Nat.le_of_ble_eq_true rfl, Nat.le_of_ble_eq_true rfl⟩) hS (fun q _ h => hF q h) hF (fun r_11 u_11 t H1 locs ht hvm hw_11 hB hz1 hk1 hS => ?_)
          obtain ⟨fa2_11, gi2_11⟩ := u_11
          obtain ⟨hP, hD⟩ := kk_join2 (wc := [(m0, .inr (9, [.int i0, .ref a1, .int (nI (cSp C)), .ref a3, .int (nI (cLa (cAge C v))), .ref a5, .ref a6, .ref a7, .int (nI (cAg (cAge C v))), .int (-9 : Int32), .int i10, .int i11, .int i12, .ref a13, .ref a14, .ref a15, .ref a16, .int (nI (mN T)), .ref a18, .ref a19, .ref a20, .ref a21, .ref a22, .ref a23, .ref a24, .ref a25, .int (nI (mN E)), .ref a27, .ref a28, .ref a29, .ref a30, .ref a31, .ref a32, .ref a33, .ref a34, .int i35])), (a1, .inl (cI, 6, .inl sk)), (a3, .inl (cI, 4, .inl sh)), (a5, .inl (cI, 4, .inl ki)), (a6, .inl (cI, 4, .inl st)), (a7, .inl (cI, 4, .inl cl)), (a18, .inl (cI, 9, .inl mo)), (a19, .inl (cI, 9, .inl mi)), (a20, .inl (cI, 9, .inl mt)), (a21, .inl (cI, 96, .inl faX)), (a22, .inl (cI, 96, .inl giX)), (a27, .inl (cI, 8, .inl ro)), (a28, .inl (cI, 8, .inl ri)), (a29, .inl (cI, 8, .inl rv))]) (w1 := [(m0, .inr (9, [.int i0, .ref a1, .int (nI (cSp C)), .ref a3, .int (nI (cLa (cAge C v))), .ref a5, .ref a6, .ref a7, .int (nI (cAg (cAge C v))), .int (-9 : Int32), .int i10, .int i11, .int i12, .ref a13, .ref a14, .ref a15, .ref a16, .int (nI (mN T)), .ref a18, .ref a19, .ref a20, .ref a21, .ref a22, .ref a23, .ref a24, .ref a25, .int (nI (mN E)), .ref a27, .ref a28, .ref a29, .ref a30, .ref a31, .ref a32, .ref a33, .ref a34, .int i35])), (a1, .inl (cI, 6, .inl sk)), (a3, .inl (cI, 4, .inl sh)), (a5, .inl (cI, 4, .inl ki)), (a6, .inl (cI, 4, .inl st)), (a7, .inl (cI, 4, .inl cl)), (a18, .inl (cI, 9, .inl mo)), (a19, .inl (cI, 9, .inl mi)), (a20, .inl (cI, 9, .inl mt)), (a21, .inl (cI, 96, .inl fa2_11)), (a22, .inl (cI, 96, .inl gi2_11)), (a27, .inl (cI, 8, .inl ro)), (a28, .inl (cI, 8, .inl ri)), (a29, .inl (cI, 8, .inl rv))]) (ws' := [(m0, .inr (9, [.int i0, .ref a1, .int (nI (cSp C)), .ref a3, .int (nI (cLa C)), .ref a5, .ref a6, .ref a7, .int (nI v), .int (-9 : Int32), .int i10, .int i11, .int i12, .ref a13, .ref a14, .ref a15, .ref a16, .int (nI (mN T)), .ref a18, .ref a19, .ref a20, .ref a21, .ref a22, .ref a23, .ref a24, .ref a25, .int (nI (mN E)), .ref a27, .ref a28, .ref a29, .ref a30, .ref a31, .ref a32, .ref a33, .ref a34, .int i35])), (a1, .inl (cI, 6, .inl sk)), (a3, .inl (cI, 4, .inl sh)), (a5, .inl (cI, 4, .inl ki)), (a6, .inl (cI, 4, .inl st)), (a7, .inl (cI, 4, .inl cl)), (a18, .inl (cI, 9, .inl mo)), (a19, .inl (cI, 9, .inl mi)), (a20, .inl (cI, 9, .inl mt)), (a21, .inl (cI, 96, .inl fa2_11)), (a22, .inl (cI, 96, .inl gi2_11)), (a27, .inl (cI, 8, .inl ro)), (a28, .inl (cI, 8, .inl ri)), (a29, .inl (cI, 8, .inl rv))]) (wr := []) (H1 := H1) hP hD [0, 1, 2, 3, 4, 5, 6, 7, 8, 9, 10, 11, 12, 13] [] rfl rfl rfl rfl 14 rfl (by decide) [m0, a1, a3, a5, a6, a7, a18, a19, a20, a21, a22, a27, a28, a29] rfl rfl hk1 (by rw [← ht]; exact hB)
          have hw_11 : r_11 = kb (soN (cAge C v) T E (mN E)) ∧ True := hw_11
          clear hF hB hk1 hz1 hvm
          clear ht
          generalize H1 = H at hP hS ⊢
          obtain ⟨rfl, hw_11⟩ := hw_11
          -- if (soN (cAge C v) T E (mN E))
          refine kk_ifb_eq (tgt := 44) hx hb dX10_ages_35 (by decide) (fun hb_12 => ?_) (fun hb_12 => ?_)
          · skip
            refine lv_iconst (v := nI 0) hx hb dX10_ages_44 (by decide +kernel) ?_
            refine lv_ior hx hb dX10_ages_45 ?_
            refine lv_istore_n (lv' := [(2, .int ((bts (fun v => soN (cAge C v) T E (mN E)) 1 (v - 1)) ||| (nI 0))), (3, .int (nI v)), (1, .int (nI (cAg C))), (0, .ref m0)]) hx hb dX10_ages_46 rfl hl (by decide) rfl (fun ls hl => ?_)
            have e_13 : (bts (fun v => soN (cAge C v) T E (mN E)) 1 (v - 1)) ||| (nI 0) = bts (fun v => soN (cAge C v) T E (mN E)) 1 (v + 1 - 1) := by
              rw [show v + 1 - 1 = (v - 1) + 1 by omega, bts_s, show 1 + (v - 1) = v by omega]
              show _ = _ ||| bit (soN (cAge C v) T E (mN E)) v
              rw [hb_12]; rfl
            rw [e_13] at hl
            refine lv_iinc (v := nI (v + 1)) (lv' := [(3, .int (nI (v + 1))), (2, .int (bts (fun v => soN (cAge C v) T E (mN E)) 1 (v + 1 - 1))), (1, .int (nI (cAg C))), (0, .ref m0)]) hx hb dX10_ages_47 hl (k := 1) rfl (nI_add v 1) (by decide) rfl (fun ls hl => ?_)
            refine lv_goto (tgt := 19) hx hb dX10_ages_50 (by decide) ?_
            have o_14 : 1 ≤ (v + 1) := by omega
            have o_15 : (v + 1) ≤ 13 := by omega
            have o_16 : 13 + 1 ≤ (v + 1) + n_19 := by omega
            exact ih_19 (v + 1) (nI v) fa2_11 gi2_11 o_14 o_15 o_16 _ _ hP hD hS ls (lv_sub hl [0, 1, 2, 3] rfl)
          · skip
            refine lv_iconst (v := nI 1) hx hb dX10_ages_38 (by decide +kernel) ?_
            refine lv_iload_n hx hb dX10_ages_39 rfl (lv_at hl 0 rfl) ?_
            refine lv_ishl hx hb dX10_ages_40 ?_
            refine lv_goto (tgt := 45) hx hb dX10_ages_41 (by decide) ?_
            refine lv_ior hx hb dX10_ages_45 ?_
            refine lv_istore_n (lv' := [(2, .int ((bts (fun v => soN (cAge C v) T E (mN E)) 1 (v - 1)) ||| ((nI 1) <<< (nI v &&& 31)))), (3, .int (nI v)), (1, .int (nI (cAg C))), (0, .ref m0)]) hx hb dX10_ages_46 rfl hl (by decide) rfl (fun ls hl => ?_)
            have e_17 : (bts (fun v => soN (cAge C v) T E (mN E)) 1 (v - 1)) ||| ((nI 1) <<< (nI v &&& 31)) = bts (fun v => soN (cAge C v) T E (mN E)) 1 (v + 1 - 1) := by
              rw [show v + 1 - 1 = (v - 1) + 1 by omega, bts_s, show 1 + (v - 1) = v by omega]
              show _ = _ ||| bit (soN (cAge C v) T E (mN E)) v
              rw [hb_12]; rfl
            rw [e_17] at hl
            refine lv_iinc (v := nI (v + 1)) (lv' := [(3, .int (nI (v + 1))), (2, .int (bts (fun v => soN (cAge C v) T E (mN E)) 1 (v + 1 - 1))), (1, .int (nI (cAg C))), (0, .ref m0)]) hx hb dX10_ages_47 hl (k := 1) rfl (nI_add v 1) (by decide) rfl (fun ls hl => ?_)
            refine lv_goto (tgt := 19) hx hb dX10_ages_50 (by decide) ?_
            have o_18 : 1 ≤ (v + 1) := by omega
            have o_19 : (v + 1) ≤ 13 := by omega
            have o_20 : 13 + 1 ≤ (v + 1) + n_19 := by omega
            exact ih_19 (v + 1) (nI v) fa2_11 gi2_11 o_18 o_19 o_20 _ _ hP hD hS ls (lv_sub hl [0, 1, 2, 3] rfl)
    have o_21 : 1 ≤ 1 := by omega
    have o_22 : 1 ≤ 13 := by omega
    have o_23 : 13 + 1 ≤ 1 + (13 + 1) := by omega
    exact L_19 (13 + 1) 1 (nI (cAg C)) fa gi o_21 o_22 o_23 _ _ hP hD hS ls (lv_sub hl [0, 1, 2, 3] rfl)
  · skip
    have hI : isC C = false := decide_eq_false (by omega)
    refine lv_bipush (v := (-3 : Int32)) hx hb dX10_ages_7 (by decide +kernel) ?_
    have hq : (-3 : Int32) = sp_ages C T E ∧ repC C sk sh ki st cl := by refine ⟨by simp only [sp_ages, hI, cond_true, cond_false], hrC⟩
    refine kk_QQ hQQ ?_
    exact W.iret (v := (-3 : Int32)) hx hb hr (fun t ht hW => ⟨⟨(-3 : Int32), (fa, gi), rfl, hq, by show va_P D vwCl _ t.heap; rw [ht]; exact hP⟩, hS.F ht⟩) hS.2.2 dX10_ages_9

abbrev rmX10_clouds : Room := { frames := 4, cells := 0, slots := 0, locals := 97 }
set_option maxHeartbeats 4000000 in
set_option maxRecDepth 100000 in
theorem c_X10_clouds (lL : Launch) (D : va_G) (cI cS : ClassId) (sz : Nat) (C : Co) (T : Mv) (E : Mv) (m0 : Nat) (a1 : Nat) (a3 : Nat) (a5 : Nat) (a6 : Nat) (a7 : Nat) (a13 : Nat) (a14 : Nat) (a15 : Nat) (a16 : Nat) (a18 : Nat) (a19 : Nat) (a20 : Nat) (a21 : Nat) (a22 : Nat) (a23 : Nat) (a24 : Nat) (a25 : Nat) (a27 : Nat) (a28 : Nat) (a29 : Nat) (a30 : Nat) (a31 : Nat) (a32 : Nat) (a33 : Nat) (a34 : Nat) (i0 : Int32) (i10 : Int32) (i11 : Int32) (i12 : Int32) (i35 : Int32) (sk : Nat → Int32) (sh : Nat → Int32) (ki : Nat → Int32) (st : Nat → Int32) (cl : Nat → Int32) (mo : Nat → Int32) (mi : Nat → Int32) (mt : Nat → Int32) (fa : Nat → Int32) (gi : Nat → Int32) (ro : Nat → Int32) (ri : Nat → Int32) (rv : Nat → Int32) (x1 : Int32) (hX : okX C T E) (hrC : repC C sk sh ki st cl) (hrT : repM T mo mi mt) (hrE : repM E ro ri rv) : Met lL yX10_clouds wsX10_clouds rmX10_clouds (va_Pc [.ref m0, .int x1] (kB D cI cS [(m0, .inr (9, [.int i0, .ref a1, .int (nI (cSp C)), .ref a3, .int (nI (cLa C)), .ref a5, .ref a6, .ref a7, .int (nI (cAg C)), .int (-9 : Int32), .int i10, .int i11, .int i12, .ref a13, .ref a14, .ref a15, .ref a16, .int (nI (mN T)), .ref a18, .ref a19, .ref a20, .ref a21, .ref a22, .ref a23, .ref a24, .ref a25, .int (nI (mN E)), .ref a27, .ref a28, .ref a29, .ref a30, .ref a31, .ref a32, .ref a33, .ref a34, .int i35])), (a1, .inl (cI, 6, .inl sk)), (a3, .inl (cI, 4, .inl sh)), (a5, .inl (cI, 4, .inl ki)), (a6, .inl (cI, 4, .inl st)), (a7, .inl (cI, 4, .inl cl)), (a18, .inl (cI, 9, .inl mo)), (a19, .inl (cI, 9, .inl mi)), (a20, .inl (cI, 9, .inl mt)), (a21, .inl (cI, 96, .inl fa)), (a22, .inl (cI, 96, .inl gi)), (a27, .inl (cI, 8, .inl ro)), (a28, .inl (cI, 8, .inl ri)), (a29, .inl (cI, 8, .inl rv))] sz)) (kQi D (fun (r : Int32) (u : (Nat → Int32) × (Nat → Int32) × (Nat → Int32)) => r = sp_clouds C T E x1 ∧ repC C sk sh ki st u.1) (fun u : (Nat → Int32) × (Nat → Int32) × (Nat → Int32) => [(m0, .inr (9, [.int i0, .ref a1, .int (nI (cSp C)), .ref a3, .int (nI (cLa C)), .ref a5, .ref a6, .ref a7, .int (nI (cAg C)), .int (-9 : Int32), .int i10, .int i11, .int i12, .ref a13, .ref a14, .ref a15, .ref a16, .int (nI (mN T)), .ref a18, .ref a19, .ref a20, .ref a21, .ref a22, .ref a23, .ref a24, .ref a25, .int (nI (mN E)), .ref a27, .ref a28, .ref a29, .ref a30, .ref a31, .ref a32, .ref a33, .ref a34, .int i35])), (a1, .inl (cI, 6, .inl sk)), (a3, .inl (cI, 4, .inl sh)), (a5, .inl (cI, 4, .inl ki)), (a6, .inl (cI, 4, .inl st)), (a7, .inl (cI, 4, .inl u.1)), (a18, .inl (cI, 9, .inl mo)), (a19, .inl (cI, 9, .inl mi)), (a20, .inl (cI, 9, .inl mt)), (a21, .inl (cI, 96, .inl u.2.1)), (a22, .inl (cI, 96, .inl u.2.2)), (a27, .inl (cI, 8, .inl ro)), (a28, .inl (cI, 8, .inl ri)), (a29, .inl (cI, 8, .inl rv))]) (va_A [(m0, .inr (9, [.int i0, .ref a1, .int (nI (cSp C)), .ref a3, .int (nI (cLa C)), .ref a5, .ref a6, .ref a7, .int (nI (cAg C)), .int (-9 : Int32), .int i10, .int i11, .int i12, .ref a13, .ref a14, .ref a15, .ref a16, .int (nI (mN T)), .ref a18, .ref a19, .ref a20, .ref a21, .ref a22, .ref a23, .ref a24, .ref a25, .int (nI (mN E)), .ref a27, .ref a28, .ref a29, .ref a30, .ref a31, .ref a32, .ref a33, .ref a34, .int i35])), (a1, .inl (cI, 6, .inl sk)), (a3, .inl (cI, 4, .inl sh)), (a5, .inl (cI, 4, .inl ki)), (a6, .inl (cI, 4, .inl st)), (a7, .inl (cI, 4, .inl cl)), (a18, .inl (cI, 9, .inl mo)), (a19, .inl (cI, 9, .inl mi)), (a20, .inl (cI, 9, .inl mt)), (a21, .inl (cI, 96, .inl fa)), (a22, .inl (cI, 96, .inl gi)), (a27, .inl (cI, 8, .inl ro)), (a28, .inl (cI, 8, .inl ri)), (a29, .inl (cI, 8, .inl rv))] sz)) 0 0 (va_A [(m0, .inr (9, [.int i0, .ref a1, .int (nI (cSp C)), .ref a3, .int (nI (cLa C)), .ref a5, .ref a6, .ref a7, .int (nI (cAg C)), .int (-9 : Int32), .int i10, .int i11, .int i12, .ref a13, .ref a14, .ref a15, .ref a16, .int (nI (mN T)), .ref a18, .ref a19, .ref a20, .ref a21, .ref a22, .ref a23, .ref a24, .ref a25, .int (nI (mN E)), .ref a27, .ref a28, .ref a29, .ref a30, .ref a31, .ref a32, .ref a33, .ref a34, .int i35])), (a1, .inl (cI, 6, .inl sk)), (a3, .inl (cI, 4, .inl sh)), (a5, .inl (cI, 4, .inl ki)), (a6, .inl (cI, 4, .inl st)), (a7, .inl (cI, 4, .inl cl)), (a18, .inl (cI, 9, .inl mo)), (a19, .inl (cI, 9, .inl mi)), (a20, .inl (cI, 9, .inl mt)), (a21, .inl (cI, 96, .inl fa)), (a22, .inl (cI, 96, .inl gi)), (a27, .inl (cI, 8, .inl ro)), (a28, .inl (cI, 8, .inl ri)), (a29, .inl (cI, 8, .inl rv))] sz) := by
  refine Met.ofW (cc := cX10_clouds) (maxL := 5) (ret := (some .int)) (by decide) rfl ?_
  intro pP eE sS mM args below meth cC s₁ B hml hv
  obtain ⟨rfl, hsz, hP, hK, hD0⟩ := hv
  have hx := B.exec
  have hb := B.bytes
  have hr := B.returns
  have hts := atoms_spec (ws := wsX10_clouds) B.pre
  have hown : sS.vm.findClass RX10 = some mM.cls := findClass_of_methodNamed B.named
  have hlocks := B.notSynchronized
  subst hsz
  have hD := hD0.self (sz := sS.heap.size)
  generalize hAe : va_A [(m0, .inr (9, [.int i0, .ref a1, .int (nI (cSp C)), .ref a3, .int (nI (cLa C)), .ref a5, .ref a6, .ref a7, .int (nI (cAg C)), .int (-9 : Int32), .int i10, .int i11, .int i12, .ref a13, .ref a14, .ref a15, .ref a16, .int (nI (mN T)), .ref a18, .ref a19, .ref a20, .ref a21, .ref a22, .ref a23, .ref a24, .ref a25, .int (nI (mN E)), .ref a27, .ref a28, .ref a29, .ref a30, .ref a31, .ref a32, .ref a33, .ref a34, .int i35])), (a1, .inl (cI, 6, .inl sk)), (a3, .inl (cI, 4, .inl sh)), (a5, .inl (cI, 4, .inl ki)), (a6, .inl (cI, 4, .inl st)), (a7, .inl (cI, 4, .inl cl)), (a18, .inl (cI, 9, .inl mo)), (a19, .inl (cI, 9, .inl mi)), (a20, .inl (cI, 9, .inl mt)), (a21, .inl (cI, 96, .inl fa)), (a22, .inl (cI, 96, .inl gi)), (a27, .inl (cI, 8, .inl ro)), (a28, .inl (cI, 8, .inl ri)), (a29, .inl (cI, 8, .inl rv))] sS.heap.size = A at hD ⊢
  have hA : ∀ q : Nat, sS.heap.size ≤ q → A q := fun q h => by rw [← hAe]; exact Or.inr h
  have hS : va_S A sS.heap sS.heap [] := va_S.rf
  have hP : va_P D vwCl [(m0, .inr (9, [.int i0, .ref a1, .int (nI (cSp C)), .ref a3, .int (nI (cLa C)), .ref a5, .ref a6, .ref a7, .int (nI (cAg C)), .int (-9 : Int32), .int i10, .int i11, .int i12, .ref a13, .ref a14, .ref a15, .ref a16, .int (nI (mN T)), .ref a18, .ref a19, .ref a20, .ref a21, .ref a22, .ref a23, .ref a24, .ref a25, .int (nI (mN E)), .ref a27, .ref a28, .ref a29, .ref a30, .ref a31, .ref a32, .ref a33, .ref a34, .int i35])), (a1, .inl (cI, 6, .inl sk)), (a3, .inl (cI, 4, .inl sh)), (a5, .inl (cI, 4, .inl ki)), (a6, .inl (cI, 4, .inl st)), (a7, .inl (cI, 4, .inl cl)), (a18, .inl (cI, 9, .inl mo)), (a19, .inl (cI, 9, .inl mi)), (a20, .inl (cI, 9, .inl mt)), (a21, .inl (cI, 96, .inl fa)), (a22, .inl (cI, 96, .inl gi)), (a27, .inl (cI, 8, .inl ro)), (a28, .inl (cI, 8, .inl ri)), (a29, .inl (cI, 8, .inl rv))] sS.heap := hP
  have hD : va_D A [(m0, .inr (9, [.int i0, .ref a1, .int (nI (cSp C)), .ref a3, .int (nI (cLa C)), .ref a5, .ref a6, .ref a7, .int (nI (cAg C)), .int (-9 : Int32), .int i10, .int i11, .int i12, .ref a13, .ref a14, .ref a15, .ref a16, .int (nI (mN T)), .ref a18, .ref a19, .ref a20, .ref a21, .ref a22, .ref a23, .ref a24, .ref a25, .int (nI (mN E)), .ref a27, .ref a28, .ref a29, .ref a30, .ref a31, .ref a32, .ref a33, .ref a34, .int i35])), (a1, .inl (cI, 6, .inl sk)), (a3, .inl (cI, 4, .inl sh)), (a5, .inl (cI, 4, .inl ki)), (a6, .inl (cI, 4, .inl st)), (a7, .inl (cI, 4, .inl cl)), (a18, .inl (cI, 9, .inl mo)), (a19, .inl (cI, 9, .inl mi)), (a20, .inl (cI, 9, .inl mt)), (a21, .inl (cI, 96, .inl fa)), (a22, .inl (cI, 96, .inl gi)), (a27, .inl (cI, 8, .inl ro)), (a28, .inl (cI, 8, .inl ri)), (a29, .inl (cI, 8, .inl rv))] := hD
  have hf_22 := hts (.fieldLink RX10 22 "OldLampsModel" "cloudOf" "[I") (List.mem_of_getElem? (i := 3) rfl)
  have hf_105 := hts (.fieldLink RX10 105 "OldLampsModel" "lamps" "I") (List.mem_of_getElem? (i := 2) rfl)
  have hk_175 := hts (.constantLong RX10 175 (3)) (List.mem_of_getElem? (i := 1) rfl)
  have hwX10 : ∀ w ∈ wsX100, w ∈ wsX10_clouds := fun _ h => List.mem_cons_of_mem _ (List.mem_append_right _ h)
  have hl := lv_entry ([.ref m0, .int x1]) (n := 5) (Nat.le_of_ble_eq_true rfl)
  rw [lg_entry_eq]
  generalize (lg_sl ([.ref m0, .int x1]) ++ List.replicate (5 - (lg_sl ([.ref m0, .int x1])).length) Slot.unset).toArray = ls at hl ⊢
  have hl : lv_has ls 5 [(0, .ref m0), (1, .int x1)] := hl
  obtain ⟨QQ, hQQ⟩ : ∃ QQ : State → Prop, QQ = MQ below (kQi D (fun (r : Int32) (u : (Nat → Int32) × (Nat → Int32) × (Nat → Int32)) => r = sp_clouds C T E x1 ∧ repC C sk sh ki st u.1) (fun u : (Nat → Int32) × (Nat → Int32) × (Nat → Int32) => [(m0, .inr (9, [.int i0, .ref a1, .int (nI (cSp C)), .ref a3, .int (nI (cLa C)), .ref a5, .ref a6, .ref a7, .int (nI (cAg C)), .int (-9 : Int32), .int i10, .int i11, .int i12, .ref a13, .ref a14, .ref a15, .ref a16, .int (nI (mN T)), .ref a18, .ref a19, .ref a20, .ref a21, .ref a22, .ref a23, .ref a24, .ref a25, .int (nI (mN E)), .ref a27, .ref a28, .ref a29, .ref a30, .ref a31, .ref a32, .ref a33, .ref a34, .int i35])), (a1, .inl (cI, 6, .inl sk)), (a3, .inl (cI, 4, .inl sh)), (a5, .inl (cI, 4, .inl ki)), (a6, .inl (cI, 4, .inl st)), (a7, .inl (cI, 4, .inl u.1)), (a18, .inl (cI, 9, .inl mo)), (a19, .inl (cI, 9, .inl mi)), (a20, .inl (cI, 9, .inl mt)), (a21, .inl (cI, 96, .inl u.2.1)), (a22, .inl (cI, 96, .inl u.2.2)), (a27, .inl (cI, 8, .inl ro)), (a28, .inl (cI, 8, .inl ri)), (a29, .inl (cI, 8, .inl rv))]) A) ([.ref m0, .int x1]).toArray sS 0 0 A := ⟨_, rfl⟩
  refine kk_QQ hQQ.symm ?_
  obtain ⟨hX1, hX2, hX3, hX4⟩ := okX_le hX
  refine lv_iload_n hx hb dX10_clouds_0 rfl (lv_at hl 1 rfl) ?_
  refine lv_i2l (v := x1.toInt64) hx hb dX10_clouds_1 rfl ?_
  refine lv_lconst (v := lN 0) hx hb dX10_clouds_2 (by decide +kernel) ?_
  refine lv_ldc2 (v := (3 : Int64)) hx hb hown hk_175 dX10_clouds_3 ?_
  refine kk_topl (y := lN 3) (by decide +kernel) ?_
  refine vp_callSi (W.runS (As := [.long x1.toInt64, .long (lN 0), .long (lN 3)]) (rest := []) ⟨hx, hb, hml, hown, hts⟩ (c_X10_in lL D cI cS x1.toInt64 (lN 0) (lN 3)) (va_cwS 3 hts gX10_clouds_X10_in rfl rfl rfl cd_X10_in ⟨Nat.le_of_ble_eq_true rfl, Nat.le_of_ble_eq_true rfl⟩) ⟨kBp_blind, fun U hU hW => ⟨rfl, by rw [hU]; exact hP.sub [] rfl, va_K.moved hW.alike hK⟩⟩ rfl rfl hl.1 rfl (lv_room (Nat.le_of_ble_eq_true rfl)) dX10_clouds_6 ⟨Nat.le_of_ble_eq_true rfl, Nat.le_of_ble_eq_true rfl⟩) (fun r_1 hw_1 => ?_)
  obtain rfl : r_1 = kb (inL x1.toInt64 (lN 0) (lN 3)) := hw_1
  refine kk_top (y := kb (inB x1 4)) (congrArg kb (inL_b x1 (by omega))) ?_
  -- if inB x1 4
  refine kk_ifb_ne (tgt := 15) hx hb dX10_clouds_9 (by decide) (fun hb_2 => ?_) (fun hb_2 => ?_)
  · skip
    obtain ⟨x1N, hx1N, rfl⟩ := inB_t hb_2
    have t_x1 := nI_clamp (show x1N < 2 ^ 31 by omega)
    refine lv_aload_n hx hb dX10_clouds_15 rfl (lv_at hl 0 rfl) ?_
    refine va_get (D := D) (ci := 9) (v := .int (nI (cLa C))) (C := RX10) (T := TX10) (N := 36) hx hb hts hwX10 hown hK hP 0 rfl rfl 4 (by decide) hf_105 (fun _ h9 => h9) rfl dX10_clouds_16 ?_
    refine kk_if_ne (tgt := 25) hx hb dX10_clouds_19 (by decide) (by omega) (fun c_3 => ?_) (fun c_3 => ?_)
    · skip
      have hI : isC C = true := decide_eq_true (by omega)
      obtain ⟨hC, hM0, hE⟩ := okX_la hX (show 0 < cLa C by omega)
      have hM := ok9_of hM0
      have hkd := kdM_of hX hrC
      have hwo := hkd.2
      have hk3 : 9 < cLa C → cKi C 9 = 3 := fun z => absurd hC.2.1 (by omega)
      have hst := hrC.2.2.2.1
      have hrB : repB C sk sh cl := ⟨hrC.1, hrC.2.1, hrC.2.2.2.2⟩
      have hxa := hC.2.1
      have hxs := hC.1
      refine lv_aload_n hx hb dX10_clouds_25 rfl (lv_at hl 0 rfl) ?_
      refine va_get (D := D) (ci := 9) (v := .ref a7) (C := RX10) (T := TX10) (N := 36) hx hb hts hwX10 hown hK hP 0 rfl rfl 7 (by decide) hf_22 (fun _ h9 => h9) rfl dX10_clouds_26 ?_
      refine lv_iload_n hx hb dX10_clouds_29 rfl (lv_at hl 1 rfl) ?_
      refine kk_iald hx hb hK hP 5 rfl rfl (i := x1N) (by omega) (by decide) dX10_clouds_30 ?_
      refine kk_top (y := nI (cCl C x1N)) (hrC.2.2.2.2 x1N hx1N) ?_
      refine lv_istore_n (lv' := [(2, .int (nI (cCl C x1N))), (0, .ref m0), (1, .int (nI x1N))]) hx hb dX10_clouds_31 rfl hl (by decide) rfl (fun ls hl => ?_)
      refine lv_iconst (v := nI 0) hx hb dX10_clouds_32 (by decide +kernel) ?_
      refine lv_istore_n (lv' := [(3, .int (nI 0)), (2, .int (nI (cCl C x1N))), (0, .ref m0), (1, .int (nI x1N))]) hx hb dX10_clouds_33 rfl hl (by decide) rfl (fun ls hl => ?_)
      refine lv_iconst (v := nI 0) hx hb dX10_clouds_34 (by decide +kernel) ?_
      refine lv_istore (lv' := [(4, .int (nI 0)), (3, .int (nI 0)), (2, .int (nI (cCl C x1N))), (0, .ref m0), (1, .int (nI x1N))]) hx hb dX10_clouds_35 hl (by decide) rfl (fun ls hl => ?_)
      have L_37 : ∀ (n_37 : Nat) (v : Nat) (aX : Nat → Int32) (faX : Nat → Int32) (giX : Nat → Int32), (0 ≤ v) → (v ≤ 10) → (∀ j, j < 4 → j ≠ x1N → aX j = nI (cCl C j)) → 10 + 1 ≤ v + n_37 → ∀ (H : Heap) (locs : List Loc), va_P D vwCl [(m0, .inr (9, [.int i0, .ref a1, .int (nI (cSp C)), .ref a3, .int (nI (cLa C)), .ref a5, .ref a6, .ref a7, .int (nI (cAg C)), .int (-9 : Int32), .int i10, .int i11, .int i12, .ref a13, .ref a14, .ref a15, .ref a16, .int (nI (mN T)), .ref a18, .ref a19, .ref a20, .ref a21, .ref a22, .ref a23, .ref a24, .ref a25, .int (nI (mN E)), .ref a27, .ref a28, .ref a29, .ref a30, .ref a31, .ref a32, .ref a33, .ref a34, .int i35])), (a1, .inl (cI, 6, .inl sk)), (a3, .inl (cI, 4, .inl sh)), (a5, .inl (cI, 4, .inl ki)), (a6, .inl (cI, 4, .inl st)), (a7, .inl (cI, 4, .inl aX)), (a18, .inl (cI, 9, .inl mo)), (a19, .inl (cI, 9, .inl mi)), (a20, .inl (cI, 9, .inl mt)), (a21, .inl (cI, 96, .inl faX)), (a22, .inl (cI, 96, .inl giX)), (a27, .inl (cI, 8, .inl ro)), (a28, .inl (cI, 8, .inl ri)), (a29, .inl (cI, 8, .inl rv))] H → va_D A [(m0, .inr (9, [.int i0, .ref a1, .int (nI (cSp C)), .ref a3, .int (nI (cLa C)), .ref a5, .ref a6, .ref a7, .int (nI (cAg C)), .int (-9 : Int32), .int i10, .int i11, .int i12, .ref a13, .ref a14, .ref a15, .ref a16, .int (nI (mN T)), .ref a18, .ref a19, .ref a20, .ref a21, .ref a22, .ref a23, .ref a24, .ref a25, .int (nI (mN E)), .ref a27, .ref a28, .ref a29, .ref a30, .ref a31, .ref a32, .ref a33, .ref a34, .int i35])), (a1, .inl (cI, 6, .inl sk)), (a3, .inl (cI, 4, .inl sh)), (a5, .inl (cI, 4, .inl ki)), (a6, .inl (cI, 4, .inl st)), (a7, .inl (cI, 4, .inl aX)), (a18, .inl (cI, 9, .inl mo)), (a19, .inl (cI, 9, .inl mi)), (a20, .inl (cI, 9, .inl mt)), (a21, .inl (cI, 96, .inl faX)), (a22, .inl (cI, 96, .inl giX)), (a27, .inl (cI, 8, .inl ro)), (a28, .inl (cI, 8, .inl ri)), (a29, .inl (cI, 8, .inl rv))] → va_S A sS.heap H locs → ∀ (ls : Array Slot), lv_has ls 5 [(4, .int (nI v)), (3, .int (bts (fun v => soN (cCld C x1N v) T E (mN E)) 0 (v - 0))), (2, .int (nI (cCl C x1N))), (0, .ref m0), (1, .int (nI x1N))] → W pP lL eE (headSpec wsX10_clouds rmX10_clouds).room sS mM ([.ref m0, .int (nI x1N)]).toArray below meth cC H locs 0 0 QQ (F0 mM 37 ls []) := by
        intro n_37
        induction n_37 with
        | zero =>
          intro v aX faX giX hv1 hv2 hz hn_37 H locs hP hD hS ls hl
          exact absurd hn_37 (by omega)
        | succ n_37 ih_37 =>
          intro v aX faX giX hv1 hv2 hz hn_37 H locs hP hD hS ls hl
          refine lv_iload hx hb dX10_clouds_37 (lv_at hl 0 rfl) ?_
          refine lv_bipush (v := nI 10) hx hb dX10_clouds_39 (by decide +kernel) ?_
          refine kk_icmp_ge (tgt := 76) hx hb dX10_clouds_41 (by decide) (by omega) (by omega) (fun c_4 => ?_) (fun c_4 => ?_)
          · skip
            refine lv_aload_n hx hb dX10_clouds_76 rfl (lv_at hl 3 rfl) ?_
            refine va_get (D := D) (ci := 9) (v := .ref a7) (C := RX10) (T := TX10) (N := 36) hx hb hts hwX10 hown hK hP 0 rfl rfl 7 (by decide) hf_22 (fun _ h9 => h9) rfl dX10_clouds_77 ?_
            refine lv_iload_n hx hb dX10_clouds_80 rfl (lv_at hl 4 rfl) ?_
            refine lv_iload_n hx hb dX10_clouds_81 rfl (lv_at hl 2 rfl) ?_
            refine kk_iast hx hb hK hP hD hS 5 rfl rfl (i := x1N) (by omega) (by decide) dX10_clouds_82 (fun H locs hP hD hS => ?_)
            have hP : va_P D vwCl [(m0, .inr (9, [.int i0, .ref a1, .int (nI (cSp C)), .ref a3, .int (nI (cLa C)), .ref a5, .ref a6, .ref a7, .int (nI (cAg C)), .int (-9 : Int32), .int i10, .int i11, .int i12, .ref a13, .ref a14, .ref a15, .ref a16, .int (nI (mN T)), .ref a18, .ref a19, .ref a20, .ref a21, .ref a22, .ref a23, .ref a24, .ref a25, .int (nI (mN E)), .ref a27, .ref a28, .ref a29, .ref a30, .ref a31, .ref a32, .ref a33, .ref a34, .int i35])), (a1, .inl (cI, 6, .inl sk)), (a3, .inl (cI, 4, .inl sh)), (a5, .inl (cI, 4, .inl ki)), (a6, .inl (cI, 4, .inl st)), (a7, .inl (cI, 4, .inl (upd aX x1N (nI (cCl C x1N))))), (a18, .inl (cI, 9, .inl mo)), (a19, .inl (cI, 9, .inl mi)), (a20, .inl (cI, 9, .inl mt)), (a21, .inl (cI, 96, .inl faX)), (a22, .inl (cI, 96, .inl giX)), (a27, .inl (cI, 8, .inl ro)), (a28, .inl (cI, 8, .inl ri)), (a29, .inl (cI, 8, .inl rv))] H := hP
            have hD : va_D A [(m0, .inr (9, [.int i0, .ref a1, .int (nI (cSp C)), .ref a3, .int (nI (cLa C)), .ref a5, .ref a6, .ref a7, .int (nI (cAg C)), .int (-9 : Int32), .int i10, .int i11, .int i12, .ref a13, .ref a14, .ref a15, .ref a16, .int (nI (mN T)), .ref a18, .ref a19, .ref a20, .ref a21, .ref a22, .ref a23, .ref a24, .ref a25, .int (nI (mN E)), .ref a27, .ref a28, .ref a29, .ref a30, .ref a31, .ref a32, .ref a33, .ref a34, .int i35])), (a1, .inl (cI, 6, .inl sk)), (a3, .inl (cI, 4, .inl sh)), (a5, .inl (cI, 4, .inl ki)), (a6, .inl (cI, 4, .inl st)), (a7, .inl (cI, 4, .inl (upd aX x1N (nI (cCl C x1N))))), (a18, .inl (cI, 9, .inl mo)), (a19, .inl (cI, 9, .inl mi)), (a20, .inl (cI, 9, .inl mt)), (a21, .inl (cI, 96, .inl faX)), (a22, .inl (cI, 96, .inl giX)), (a27, .inl (cI, 8, .inl ro)), (a28, .inl (cI, 8, .inl ri)), (a29, .inl (cI, 8, .inl rv))] := hD
            refine lv_iload_n hx hb dX10_clouds_83 rfl (lv_at hl 1 rfl) ?_
            have hq : (bts (fun v => soN (cCld C x1N v) T E (mN E)) 0 (v - 0)) = sp_clouds C T E (nI x1N) ∧ repC C sk sh ki st (upd aX x1N (nI (cCl C x1N))) := by
              refine ⟨?_, ⟨hrC.1, hrC.2.1, hrC.2.2.1, hrC.2.2.2.1, fun j h => by
                by_cases e : j = x1N
                · subst e; exact up_at _ _ _
                · rw [up_ne _ _ e]; exact hz j h e⟩⟩
              simp only [sp_clouds, hb_2, hI, t_x1, cond_true, cond_false]
              rw [show v = 10 by omega]
            refine kk_QQ hQQ ?_
            exact W.iret (v := bts (fun v => soN (cCld C x1N v) T E (mN E)) 0 (v - 0)) hx hb hr (fun t ht hW => ⟨⟨bts (fun v => soN (cCld C x1N v) T E (mN E)) 0 (v - 0), (upd aX x1N (nI (cCl C x1N)), faX, giX), rfl, hq, by show va_P D vwCl _ t.heap; rw [ht]; exact hP⟩, hS.F ht⟩) hS.2.2 dX10_clouds_84
          · skip
            refine lv_aload_n hx hb dX10_clouds_44 rfl (lv_at hl 3 rfl) ?_
            refine va_get (D := D) (ci := 9) (v := .ref a7) (C := RX10) (T := TX10) (N := 36) hx hb hts hwX10 hown hK hP 0 rfl rfl 7 (by decide) hf_22 (fun _ h9 => h9) rfl dX10_clouds_45 ?_
            refine lv_iload_n hx hb dX10_clouds_48 rfl (lv_at hl 4 rfl) ?_
            refine lv_iload hx hb dX10_clouds_49 (lv_at hl 0 rfl) ?_
            refine kk_iast hx hb hK hP hD hS 5 rfl rfl (i := x1N) (by omega) (by decide) dX10_clouds_51 (fun H locs hP hD hS => ?_)
            have hP : va_P D vwCl [(m0, .inr (9, [.int i0, .ref a1, .int (nI (cSp C)), .ref a3, .int (nI (cLa C)), .ref a5, .ref a6, .ref a7, .int (nI (cAg C)), .int (-9 : Int32), .int i10, .int i11, .int i12, .ref a13, .ref a14, .ref a15, .ref a16, .int (nI (mN T)), .ref a18, .ref a19, .ref a20, .ref a21, .ref a22, .ref a23, .ref a24, .ref a25, .int (nI (mN E)), .ref a27, .ref a28, .ref a29, .ref a30, .ref a31, .ref a32, .ref a33, .ref a34, .int i35])), (a1, .inl (cI, 6, .inl sk)), (a3, .inl (cI, 4, .inl sh)), (a5, .inl (cI, 4, .inl ki)), (a6, .inl (cI, 4, .inl st)), (a7, .inl (cI, 4, .inl (upd aX x1N (nI v)))), (a18, .inl (cI, 9, .inl mo)), (a19, .inl (cI, 9, .inl mi)), (a20, .inl (cI, 9, .inl mt)), (a21, .inl (cI, 96, .inl faX)), (a22, .inl (cI, 96, .inl giX)), (a27, .inl (cI, 8, .inl ro)), (a28, .inl (cI, 8, .inl ri)), (a29, .inl (cI, 8, .inl rv))] H := hP
            have hD : va_D A [(m0, .inr (9, [.int i0, .ref a1, .int (nI (cSp C)), .ref a3, .int (nI (cLa C)), .ref a5, .ref a6, .ref a7, .int (nI (cAg C)), .int (-9 : Int32), .int i10, .int i11, .int i12, .ref a13, .ref a14, .ref a15, .ref a16, .int (nI (mN T)), .ref a18, .ref a19, .ref a20, .ref a21, .ref a22, .ref a23, .ref a24, .ref a25, .int (nI (mN E)), .ref a27, .ref a28, .ref a29, .ref a30, .ref a31, .ref a32, .ref a33, .ref a34, .int i35])), (a1, .inl (cI, 6, .inl sk)), (a3, .inl (cI, 4, .inl sh)), (a5, .inl (cI, 4, .inl ki)), (a6, .inl (cI, 4, .inl st)), (a7, .inl (cI, 4, .inl (upd aX x1N (nI v)))), (a18, .inl (cI, 9, .inl mo)), (a19, .inl (cI, 9, .inl mi)), (a20, .inl (cI, 9, .inl mt)), (a21, .inl (cI, 96, .inl faX)), (a22, .inl (cI, 96, .inl giX)), (a27, .inl (cI, 8, .inl ro)), (a28, .inl (cI, 8, .inl ri)), (a29, .inl (cI, 8, .inl rv))] := hD
            refine lv_iload_n hx hb dX10_clouds_52 rfl (lv_at hl 1 rfl) ?_
            refine lv_aload_n hx hb dX10_clouds_53 rfl (lv_at hl 3 rfl) ?_
            -- differs: mo : cLa (cCld C x1N v) / cLa C
            -- differs: mo : cAg (cCld C x1N v) / cAg C
            -- differs: mo : cLa (cCld C x1N v) / cLa C
            -- differs: mo : cAg (cCld C x1N v) / cAg C
            -- differs: mo : cLa (cCld C x1N v) / cLa C
            -- differs: mo : cAg (cCld C x1N v) / cAg C
            have o_5 : okC (cCld C x1N v) := by exact okC_cld hC (by omega)
            have o_6 : ok9 (cCld C x1N v) T := by exact hM
            have o_7 : ∀ k, k < cLa (cCld C x1N v) → st k = nI (cSt (cCld C x1N v) k) := by exact hst
            have o_8 : repM T mo mi mt := by exact hrT
            have o_9 : kdM (cCld C x1N v) 9 (-9 : Int32) (cKi C) ki := by exact hkd
            have o_10 : repB (cCld C x1N v) sk sh (upd aX x1N (nI v)) := by
              exact ⟨hrC.1, hrC.2.1, fun j h => by
                show _ = nI (if j = x1N then v else cCl C j)
                by_cases e : j = x1N
                · subst e; rw [up_at, if_pos rfl]
                · rw [up_ne _ _ e, if_neg e]; exact hz j h e⟩
            have o_11 : okE (cCld C x1N v) E := by exact hE
            have o_12 : repM E ro ri rv := by assumption
            have hF := va_free (wc := [(m0, .inr (9, [.int i0, .ref a1, .int (nI (cSp C)), .ref a3, .int (nI (cLa (cCld C x1N v))), .ref a5, .ref a6, .ref a7, .int (nI (cAg (cCld C x1N v))), .int (-9 : Int32), .int i10, .int i11, .int i12, .ref a13, .ref a14, .ref a15, .ref a16, .int (nI (mN T)), .ref a18, .ref a19, .ref a20, .ref a21, .ref a22, .ref a23, .ref a24, .ref a25, .int (nI (mN E)), .ref a27, .ref a28, .ref a29, .ref a30, .ref a31, .ref a32, .ref a33, .ref a34, .int i35])), (a1, .inl (cI, 6, .inl sk)), (a3, .inl (cI, 4, .inl sh)), (a5, .inl (cI, 4, .inl ki)), (a6, .inl (cI, 4, .inl st)), (a7, .inl (cI, 4, .inl (upd aX x1N (nI v)))), (a18, .inl (cI, 9, .inl mo)), (a19, .inl (cI, 9, .inl mi)), (a20, .inl (cI, 9, .inl mt)), (a21, .inl (cI, 96, .inl faX)), (a22, .inl (cI, 96, .inl giX)), (a27, .inl (cI, 8, .inl ro)), (a28, .inl (cI, 8, .inl ri)), (a29, .inl (cI, 8, .inl rv))]) hD hS hA [0, 1, 2, 3, 4, 5, 6, 7, 8, 9, 10, 11, 12, 13] rfl
            refine va_calli (va_runV (As := []) (rest := [.int (bts (fun v => soN (cCld C x1N v) T E (mN E)) 0 (v - 0))]) ⟨hx, hb, hml, hown, hts⟩ (c_X10_areSo lL D cI cS _ (cCld C x1N v) T E 9 (cKi C) m0 a1 a3 a5 a6 a7 a13 a14 a15 a16 a18 a19 a20 a21 a22 a23 a24 a25 a27 a28 a29 a30 a31 a32 a33 a34 i0 (nI (cSp C)) (-9 : Int32) i10 i11 i12 i35 sk sh ki st (upd aX x1N (nI v)) mo mi mt faX giX ro ri rv o_5 o_6 o_7 o_8 o_9 o_10 o_11 o_12) (cwV 0 hts gX10_clouds_X10_areSo rfl rfl rfl cd_X10_areSo ⟨Nat.le_of_ble_eq_true rfl, Nat.le_of_ble_eq_true rfl⟩) ⟨kB_blind, va_recv hK hP (ci := 9) (q0 := 0) rfl rfl, fun U hU hW => ⟨rfl, by rw [hU], by rw [hU]; exact hP.sub [0, 1, 2, 3, 4, 5, 6, 7, 8, 9, 10, 11, 12, 13] rfl, va_K.moved hW.alike hK, (hD.sub [0, 1, 2, 3, 4, 5, 6, 7, 8, 9, 10, 11, 12, 13] (by decide) rfl).weaken (fun _ _ _ _ => trivial)⟩⟩ rfl rfl hl.1 rfl (lv_room (Nat.le_of_ble_eq_true rfl)) dX10_clouds_54 ⟨Nat.le_of_ble_eq_true rfl, Nat.le_of_ble_eq_true rfl⟩) hS (fun q _ h => hF q h) hF (fun r_13 u_13 t H1 locs ht hvm hw_13 hB hz1 hk1 hS => ?_)
            obtain ⟨fa2_13, gi2_13⟩ := u_13
            obtain ⟨hP, hD⟩ := kk_join2 (wc := [(m0, .inr (9, [.int i0, .ref a1, .int (nI (cSp C)), .ref a3, .int (nI (cLa (cCld C x1N v))), .ref a5, .ref a6, .ref a7, .int (nI (cAg (cCld C x1N v))), .int (-9 : Int32), .int i10, .int i11, .int i12, .ref a13, .ref a14, .ref a15, .ref a16, .int (nI (mN T)), .ref a18, .ref a19, .ref a20, .ref a21, .ref a22, .ref a23, .ref a24, .ref a25, .int (nI (mN E)), .ref a27, .ref a28, .ref a29, .ref a30, .ref a31, .ref a32, .ref a33, .ref a34, .int i35])), (a1, .inl (cI, 6, .inl sk)), (a3, .inl (cI, 4, .inl sh)), (a5, .inl (cI, 4, .inl ki)), (a6, .inl (cI, 4, .inl st)), (a7, .inl (cI, 4, .inl (upd aX x1N (nI v)))), (a18, .inl (cI, 9, .inl mo)), (a19, .inl (cI, 9, .inl mi)), (a20, .inl (cI, 9, .inl mt)), (a21, .inl (cI, 96, .inl faX)), (a22, .inl (cI, 96, .inl giX)), (a27, .inl (cI, 8, .inl ro)), (a28, .inl (cI, 8, .inl ri)), (a29, .inl (cI, 8, .inl rv))]) (w1 := [(m0, .inr (9, [.int i0, .ref a1, .int (nI (cSp C)), .ref a3, .int (nI (cLa (cCld C x1N v))), .ref a5, .ref a6, .ref a7, .int (nI (cAg (cCld C x1N v))), .int (-9 : Int32), .int i10, .int i11, .int i12, .ref a13, .ref a14, .ref a15, .ref a16, .int (nI (mN T)), .ref a18, .ref a19, .ref a20, .ref a21, .ref a22, .ref a23, .ref a24, .ref a25, .int (nI (mN E)), .ref a27, .ref a28, .ref a29, .ref a30, .ref a31, .ref a32, .ref a33, .ref a34, .int i35])), (a1, .inl (cI, 6, .inl sk)), (a3, .inl (cI, 4, .inl sh)), (a5, .inl (cI, 4, .inl ki)), (a6, .inl (cI, 4, .inl st)), (a7, .inl (cI, 4, .inl (upd aX x1N (nI v)))), (a18, .inl (cI, 9, .inl mo)), (a19, .inl (cI, 9, .inl mi)), (a20, .inl (cI, 9, .inl mt)), (a21, .inl (cI, 96, .inl fa2_13)), (a22, .inl (cI, 96, .inl gi2_13)), (a27, .inl (cI, 8, .inl ro)), (a28, .inl (cI, 8, .inl ri)), (a29, .inl (cI, 8, .inl rv))]) (ws' := [(m0, .inr (9, [.int i0, .ref a1, .int (nI (cSp C)), .ref a3, .int (nI (cLa C)), .ref a5, .ref a6, .ref a7, .int (nI (cAg C)), .int (-9 : Int32), .int i10, .int i11, .int i12, .ref a13, .ref a14, .ref a15, .ref a16, .int (nI (mN T)), .ref a18, .ref a19, .ref a20, .ref a21, .ref a22, .ref a23, .ref a24, .ref a25, .int (nI (mN E)), .ref a27, .ref a28, .ref a29, .ref a30, .ref a31, .ref a32, .ref a33, .ref a34, .int i35])), (a1, .inl (cI, 6, .inl sk)), (a3, .inl (cI, 4, .inl sh)), (a5, .inl (cI, 4, .inl ki)), (a6, .inl (cI, 4, .inl st)), (a7, .inl (cI, 4, .inl (upd aX x1N (nI v)))), (a18, .inl (cI, 9, .inl mo)), (a19, .inl (cI, 9, .inl mi)), (a20, .inl (cI, 9, .inl mt)), (a21, .inl (cI, 96, .inl fa2_13)), (a22, .inl (cI, 96, .inl gi2_13)), (a27, .inl (cI, 8, .inl ro)), (a28, .inl (cI, 8, .inl ri)), (a29, .inl (cI, 8, .inl rv))]) (wr := []) (H1 := H1) hP hD [0, 1, 2, 3, 4, 5, 6, 7, 8, 9, 10, 11, 12, 13] [] rfl rfl rfl rfl 14 rfl (by decide) [m0, a1, a3, a5, a6, a7, a18, a19, a20, a21, a22, a27, a28, a29] rfl rfl hk1 (by rw [← ht]; exact hB)
            have hw_13 : r_13 = kb (soN (cCld C x1N v) T E (mN E)) ∧ True := hw_13
            clear hF hB hk1 hz1 hvm
            clear ht
            generalize H1 = H at hP hS ⊢
            obtain ⟨rfl, hw_13⟩ := hw_13
            -- if (soN (cCld C x1N v) T E (mN E))
            refine kk_ifb_eq (tgt := 67) hx hb dX10_clouds_57 (by decide) (fun hb_14 => ?_) (fun hb_14 => ?_)
            · skip
              refine lv_iconst (v := nI 0) hx hb dX10_clouds_67 (by decide +kernel) ?_
              refine lv_ior hx hb dX10_clouds_68 ?_
              refine lv_istore_n (lv' := [(3, .int ((bts (fun v => soN (cCld C x1N v) T E (mN E)) 0 (v - 0)) ||| (nI 0))), (4, .int (nI v)), (2, .int (nI (cCl C x1N))), (0, .ref m0), (1, .int (nI x1N))]) hx hb dX10_clouds_69 rfl hl (by decide) rfl (fun ls hl => ?_)
              have e_15 : (bts (fun v => soN (cCld C x1N v) T E (mN E)) 0 (v - 0)) ||| (nI 0) = bts (fun v => soN (cCld C x1N v) T E (mN E)) 0 (v + 1 - 0) := by
                rw [show v + 1 - 0 = (v - 0) + 1 by omega, bts_s, show 0 + (v - 0) = v by omega]
                show _ = _ ||| bit (soN (cCld C x1N v) T E (mN E)) v
                rw [hb_14]; rfl
              rw [e_15] at hl
              refine lv_iinc (v := nI (v + 1)) (lv' := [(4, .int (nI (v + 1))), (3, .int (bts (fun v => soN (cCld C x1N v) T E (mN E)) 0 (v + 1 - 0))), (2, .int (nI (cCl C x1N))), (0, .ref m0), (1, .int (nI x1N))]) hx hb dX10_clouds_70 hl (k := 1) rfl (nI_add v 1) (by decide) rfl (fun ls hl => ?_)
              refine lv_goto (tgt := 37) hx hb dX10_clouds_73 (by decide) ?_
              have o_16 : 0 ≤ (v + 1) := by omega
              have o_17 : (v + 1) ≤ 10 := by omega
              have o_18 : ∀ j, j < 4 → j ≠ x1N → (upd aX x1N (nI v)) j = nI (cCl C j) := by intro j h h2; rw [up_ne _ _ h2]; exact hz j h h2
              have o_19 : 10 + 1 ≤ (v + 1) + n_37 := by omega
              exact ih_37 (v + 1) (upd aX x1N (nI v)) fa2_13 gi2_13 o_16 o_17 o_18 o_19 _ _ hP hD hS ls (lv_sub hl [0, 1, 2, 3, 4] rfl)
            · skip
              refine lv_iconst (v := nI 1) hx hb dX10_clouds_60 (by decide +kernel) ?_
              refine lv_iload hx hb dX10_clouds_61 (lv_at hl 0 rfl) ?_
              refine lv_ishl hx hb dX10_clouds_63 ?_
              refine lv_goto (tgt := 68) hx hb dX10_clouds_64 (by decide) ?_
              refine lv_ior hx hb dX10_clouds_68 ?_
              refine lv_istore_n (lv' := [(3, .int ((bts (fun v => soN (cCld C x1N v) T E (mN E)) 0 (v - 0)) ||| ((nI 1) <<< (nI v &&& 31)))), (4, .int (nI v)), (2, .int (nI (cCl C x1N))), (0, .ref m0), (1, .int (nI x1N))]) hx hb dX10_clouds_69 rfl hl (by decide) rfl (fun ls hl => ?_)
              have e_20 : (bts (fun v => soN (cCld C x1N v) T E (mN E)) 0 (v - 0)) ||| ((nI 1) <<< (nI v &&& 31)) = bts (fun v => soN (cCld C x1N v) T E (mN E)) 0 (v + 1 - 0) := by
                rw [show v + 1 - 0 = (v - 0) + 1 by omega, bts_s, show 0 + (v - 0) = v by omega]
                show _ = _ ||| bit (soN (cCld C x1N v) T E (mN E)) v
                rw [hb_14]; rfl
              rw [e_20] at hl
              refine lv_iinc (v := nI (v + 1)) (lv' := [(4, .int (nI (v + 1))), (3, .int (bts (fun v => soN (cCld C x1N v) T E (mN E)) 0 (v + 1 - 0))), (2, .int (nI (cCl C x1N))), (0, .ref m0), (1, .int (nI x1N))]) hx hb dX10_clouds_70 hl (k := 1) rfl (nI_add v 1) (by decide) rfl (fun ls hl => ?_)
              refine lv_goto (tgt := 37) hx hb dX10_clouds_73 (by decide) ?_
              have o_21 : 0 ≤ (v + 1) := by omega
              have o_22 : (v + 1) ≤ 10 := by omega
              have o_23 : ∀ j, j < 4 → j ≠ x1N → (upd aX x1N (nI v)) j = nI (cCl C j) := by intro j h h2; rw [up_ne _ _ h2]; exact hz j h h2
              have o_24 : 10 + 1 ≤ (v + 1) + n_37 := by omega
              exact ih_37 (v + 1) (upd aX x1N (nI v)) fa2_13 gi2_13 o_21 o_22 o_23 o_24 _ _ hP hD hS ls (lv_sub hl [0, 1, 2, 3, 4] rfl)
      have o_25 : 0 ≤ 0 := by omega
      have o_26 : 0 ≤ 10 := by omega
      have o_27 : ∀ j, j < 4 → j ≠ x1N → cl j = nI (cCl C j) := by intro j h _; exact hrC.2.2.2.2 j h
      have o_28 : 10 + 1 ≤ 0 + (10 + 1) := by omega
      exact L_37 (10 + 1) 0 cl fa gi o_25 o_26 o_27 o_28 _ _ hP hD hS ls (lv_sub hl [0, 1, 2, 3, 4] rfl)
    · skip
      have hI : isC C = false := decide_eq_false (by omega)
      refine lv_bipush (v := (-3 : Int32)) hx hb dX10_clouds_22 (by decide +kernel) ?_
      have hq : (-3 : Int32) = sp_clouds C T E (nI x1N) ∧ repC C sk sh ki st cl := by refine ⟨by simp only [sp_clouds, hb_2, hI, t_x1, cond_true, cond_false], hrC⟩
      refine kk_QQ hQQ ?_
      exact W.iret (v := (-3 : Int32)) hx hb hr (fun t ht hW => ⟨⟨(-3 : Int32), (cl, fa, gi), rfl, hq, by show va_P D vwCl _ t.heap; rw [ht]; exact hP⟩, hS.F ht⟩) hS.2.2 dX10_clouds_24
  · skip
    refine lv_bipush (v := (-2 : Int32)) hx hb dX10_clouds_12 (by decide +kernel) ?_
    have hq : (-2 : Int32) = sp_clouds C T E x1 ∧ repC C sk sh ki st cl := by refine ⟨by simp only [sp_clouds, hb_2, cond_true, cond_false], hrC⟩
    refine kk_QQ hQQ ?_
    exact W.iret (v := (-2 : Int32)) hx hb hr (fun t ht hW => ⟨⟨(-2 : Int32), (cl, fa, gi), rfl, hq, by show va_P D vwCl _ t.heap; rw [ht]; exact hP⟩, hS.F ht⟩) hS.2.2 dX10_clouds_14

abbrev rmX10_worth : Room := { frames := 4, cells := 0, slots := 0, locals := 98 }
set_option maxHeartbeats 4000000 in
set_option maxRecDepth 100000 in
theorem c_X10_worth (lL : Launch) (D : va_G) (cI cS : ClassId) (sz : Nat) (C : Co) (T : Mv) (E : Mv) (m0 : Nat) (a1 : Nat) (a3 : Nat) (a5 : Nat) (a6 : Nat) (a7 : Nat) (a13 : Nat) (a14 : Nat) (a15 : Nat) (a16 : Nat) (a18 : Nat) (a19 : Nat) (a20 : Nat) (a21 : Nat) (a22 : Nat) (a23 : Nat) (a24 : Nat) (a25 : Nat) (a27 : Nat) (a28 : Nat) (a29 : Nat) (a30 : Nat) (a31 : Nat) (a32 : Nat) (a33 : Nat) (a34 : Nat) (i0 : Int32) (i10 : Int32) (i11 : Int32) (i12 : Int32) (i35 : Int32) (sk : Nat → Int32) (sh : Nat → Int32) (ki : Nat → Int32) (st : Nat → Int32) (cl : Nat → Int32) (mo : Nat → Int32) (mi : Nat → Int32) (mt : Nat → Int32) (fa : Nat → Int32) (gi : Nat → Int32) (x1 : Int32) (hX : okX C T E) (hrC : repC C sk sh ki st cl) (hrT : repM T mo mi mt) : Met lL yX10_worth wsX10_worth rmX10_worth (va_Pc [.ref m0, .int x1] (kB D cI cS [(m0, .inr (9, [.int i0, .ref a1, .int (nI (cSp C)), .ref a3, .int (nI (cLa C)), .ref a5, .ref a6, .ref a7, .int (nI (cAg C)), .int (-9 : Int32), .int i10, .int i11, .int i12, .ref a13, .ref a14, .ref a15, .ref a16, .int (nI (mN T)), .ref a18, .ref a19, .ref a20, .ref a21, .ref a22, .ref a23, .ref a24, .ref a25, .int (nI (mN E)), .ref a27, .ref a28, .ref a29, .ref a30, .ref a31, .ref a32, .ref a33, .ref a34, .int i35])), (a1, .inl (cI, 6, .inl sk)), (a3, .inl (cI, 4, .inl sh)), (a5, .inl (cI, 4, .inl ki)), (a6, .inl (cI, 4, .inl st)), (a7, .inl (cI, 4, .inl cl)), (a18, .inl (cI, 9, .inl mo)), (a19, .inl (cI, 9, .inl mi)), (a20, .inl (cI, 9, .inl mt)), (a21, .inl (cI, 96, .inl fa)), (a22, .inl (cI, 96, .inl gi))] sz)) (kQi D (fun (r : Int32) (u : (Nat → Int32) × (Nat → Int32)) => r = sp_worth C T x1 ∧ True) (fun u : (Nat → Int32) × (Nat → Int32) => [(m0, .inr (9, [.int i0, .ref a1, .int (nI (cSp C)), .ref a3, .int (nI (cLa C)), .ref a5, .ref a6, .ref a7, .int (nI (cAg C)), .int (-9 : Int32), .int i10, .int i11, .int i12, .ref a13, .ref a14, .ref a15, .ref a16, .int (nI (mN T)), .ref a18, .ref a19, .ref a20, .ref a21, .ref a22, .ref a23, .ref a24, .ref a25, .int (nI (mN E)), .ref a27, .ref a28, .ref a29, .ref a30, .ref a31, .ref a32, .ref a33, .ref a34, .int i35])), (a1, .inl (cI, 6, .inl sk)), (a3, .inl (cI, 4, .inl sh)), (a5, .inl (cI, 4, .inl ki)), (a6, .inl (cI, 4, .inl st)), (a7, .inl (cI, 4, .inl cl)), (a18, .inl (cI, 9, .inl mo)), (a19, .inl (cI, 9, .inl mi)), (a20, .inl (cI, 9, .inl mt)), (a21, .inl (cI, 96, .inl u.1)), (a22, .inl (cI, 96, .inl u.2))]) (va_A [(m0, .inr (9, [.int i0, .ref a1, .int (nI (cSp C)), .ref a3, .int (nI (cLa C)), .ref a5, .ref a6, .ref a7, .int (nI (cAg C)), .int (-9 : Int32), .int i10, .int i11, .int i12, .ref a13, .ref a14, .ref a15, .ref a16, .int (nI (mN T)), .ref a18, .ref a19, .ref a20, .ref a21, .ref a22, .ref a23, .ref a24, .ref a25, .int (nI (mN E)), .ref a27, .ref a28, .ref a29, .ref a30, .ref a31, .ref a32, .ref a33, .ref a34, .int i35])), (a1, .inl (cI, 6, .inl sk)), (a3, .inl (cI, 4, .inl sh)), (a5, .inl (cI, 4, .inl ki)), (a6, .inl (cI, 4, .inl st)), (a7, .inl (cI, 4, .inl cl)), (a18, .inl (cI, 9, .inl mo)), (a19, .inl (cI, 9, .inl mi)), (a20, .inl (cI, 9, .inl mt)), (a21, .inl (cI, 96, .inl fa)), (a22, .inl (cI, 96, .inl gi))] sz)) 0 0 (va_A [(m0, .inr (9, [.int i0, .ref a1, .int (nI (cSp C)), .ref a3, .int (nI (cLa C)), .ref a5, .ref a6, .ref a7, .int (nI (cAg C)), .int (-9 : Int32), .int i10, .int i11, .int i12, .ref a13, .ref a14, .ref a15, .ref a16, .int (nI (mN T)), .ref a18, .ref a19, .ref a20, .ref a21, .ref a22, .ref a23, .ref a24, .ref a25, .int (nI (mN E)), .ref a27, .ref a28, .ref a29, .ref a30, .ref a31, .ref a32, .ref a33, .ref a34, .int i35])), (a1, .inl (cI, 6, .inl sk)), (a3, .inl (cI, 4, .inl sh)), (a5, .inl (cI, 4, .inl ki)), (a6, .inl (cI, 4, .inl st)), (a7, .inl (cI, 4, .inl cl)), (a18, .inl (cI, 9, .inl mo)), (a19, .inl (cI, 9, .inl mi)), (a20, .inl (cI, 9, .inl mt)), (a21, .inl (cI, 96, .inl fa)), (a22, .inl (cI, 96, .inl gi))] sz) := by
  refine Met.ofW (cc := cX10_worth) (maxL := 4) (ret := (some .int)) (by decide) rfl ?_
  intro pP eE sS mM args below meth cC s₁ B hml hv
  obtain ⟨rfl, hsz, hP, hK, hD0⟩ := hv
  have hx := B.exec
  have hb := B.bytes
  have hr := B.returns
  have hts := atoms_spec (ws := wsX10_worth) B.pre
  have hown : sS.vm.findClass RX10 = some mM.cls := findClass_of_methodNamed B.named
  have hlocks := B.notSynchronized
  subst hsz
  have hD := hD0.self (sz := sS.heap.size)
  generalize hAe : va_A [(m0, .inr (9, [.int i0, .ref a1, .int (nI (cSp C)), .ref a3, .int (nI (cLa C)), .ref a5, .ref a6, .ref a7, .int (nI (cAg C)), .int (-9 : Int32), .int i10, .int i11, .int i12, .ref a13, .ref a14, .ref a15, .ref a16, .int (nI (mN T)), .ref a18, .ref a19, .ref a20, .ref a21, .ref a22, .ref a23, .ref a24, .ref a25, .int (nI (mN E)), .ref a27, .ref a28, .ref a29, .ref a30, .ref a31, .ref a32, .ref a33, .ref a34, .int i35])), (a1, .inl (cI, 6, .inl sk)), (a3, .inl (cI, 4, .inl sh)), (a5, .inl (cI, 4, .inl ki)), (a6, .inl (cI, 4, .inl st)), (a7, .inl (cI, 4, .inl cl)), (a18, .inl (cI, 9, .inl mo)), (a19, .inl (cI, 9, .inl mi)), (a20, .inl (cI, 9, .inl mt)), (a21, .inl (cI, 96, .inl fa)), (a22, .inl (cI, 96, .inl gi))] sS.heap.size = A at hD ⊢
  have hA : ∀ q : Nat, sS.heap.size ≤ q → A q := fun q h => by rw [← hAe]; exact Or.inr h
  have hS : va_S A sS.heap sS.heap [] := va_S.rf
  have hP : va_P D vwCl [(m0, .inr (9, [.int i0, .ref a1, .int (nI (cSp C)), .ref a3, .int (nI (cLa C)), .ref a5, .ref a6, .ref a7, .int (nI (cAg C)), .int (-9 : Int32), .int i10, .int i11, .int i12, .ref a13, .ref a14, .ref a15, .ref a16, .int (nI (mN T)), .ref a18, .ref a19, .ref a20, .ref a21, .ref a22, .ref a23, .ref a24, .ref a25, .int (nI (mN E)), .ref a27, .ref a28, .ref a29, .ref a30, .ref a31, .ref a32, .ref a33, .ref a34, .int i35])), (a1, .inl (cI, 6, .inl sk)), (a3, .inl (cI, 4, .inl sh)), (a5, .inl (cI, 4, .inl ki)), (a6, .inl (cI, 4, .inl st)), (a7, .inl (cI, 4, .inl cl)), (a18, .inl (cI, 9, .inl mo)), (a19, .inl (cI, 9, .inl mi)), (a20, .inl (cI, 9, .inl mt)), (a21, .inl (cI, 96, .inl fa)), (a22, .inl (cI, 96, .inl gi))] sS.heap := hP
  have hD : va_D A [(m0, .inr (9, [.int i0, .ref a1, .int (nI (cSp C)), .ref a3, .int (nI (cLa C)), .ref a5, .ref a6, .ref a7, .int (nI (cAg C)), .int (-9 : Int32), .int i10, .int i11, .int i12, .ref a13, .ref a14, .ref a15, .ref a16, .int (nI (mN T)), .ref a18, .ref a19, .ref a20, .ref a21, .ref a22, .ref a23, .ref a24, .ref a25, .int (nI (mN E)), .ref a27, .ref a28, .ref a29, .ref a30, .ref a31, .ref a32, .ref a33, .ref a34, .int i35])), (a1, .inl (cI, 6, .inl sk)), (a3, .inl (cI, 4, .inl sh)), (a5, .inl (cI, 4, .inl ki)), (a6, .inl (cI, 4, .inl st)), (a7, .inl (cI, 4, .inl cl)), (a18, .inl (cI, 9, .inl mo)), (a19, .inl (cI, 9, .inl mi)), (a20, .inl (cI, 9, .inl mt)), (a21, .inl (cI, 96, .inl fa)), (a22, .inl (cI, 96, .inl gi))] := hD
  have hf_85 := hts (.fieldLink RX10 85 "OldLampsModel" "without" "I") (List.mem_of_getElem? (i := 1) rfl)
  have hwX10 : ∀ w ∈ wsX100, w ∈ wsX10_worth := fun _ h => List.mem_cons_of_mem _ (List.mem_append_right _ h)
  have hl := lv_entry ([.ref m0, .int x1]) (n := 4) (Nat.le_of_ble_eq_true rfl)
  rw [lg_entry_eq]
  generalize (lg_sl ([.ref m0, .int x1]) ++ List.replicate (4 - (lg_sl ([.ref m0, .int x1])).length) Slot.unset).toArray = ls at hl ⊢
  have hl : lv_has ls 4 [(0, .ref m0), (1, .int x1)] := hl
  obtain ⟨QQ, hQQ⟩ : ∃ QQ : State → Prop, QQ = MQ below (kQi D (fun (r : Int32) (u : (Nat → Int32) × (Nat → Int32)) => r = sp_worth C T x1 ∧ True) (fun u : (Nat → Int32) × (Nat → Int32) => [(m0, .inr (9, [.int i0, .ref a1, .int (nI (cSp C)), .ref a3, .int (nI (cLa C)), .ref a5, .ref a6, .ref a7, .int (nI (cAg C)), .int (-9 : Int32), .int i10, .int i11, .int i12, .ref a13, .ref a14, .ref a15, .ref a16, .int (nI (mN T)), .ref a18, .ref a19, .ref a20, .ref a21, .ref a22, .ref a23, .ref a24, .ref a25, .int (nI (mN E)), .ref a27, .ref a28, .ref a29, .ref a30, .ref a31, .ref a32, .ref a33, .ref a34, .int i35])), (a1, .inl (cI, 6, .inl sk)), (a3, .inl (cI, 4, .inl sh)), (a5, .inl (cI, 4, .inl ki)), (a6, .inl (cI, 4, .inl st)), (a7, .inl (cI, 4, .inl cl)), (a18, .inl (cI, 9, .inl mo)), (a19, .inl (cI, 9, .inl mi)), (a20, .inl (cI, 9, .inl mt)), (a21, .inl (cI, 96, .inl u.1)), (a22, .inl (cI, 96, .inl u.2))]) A) ([.ref m0, .int x1]).toArray sS 0 0 A := ⟨_, rfl⟩
  refine kk_QQ hQQ.symm ?_
  obtain ⟨hX1, hX2, hX3, hX4⟩ := okX_le hX
  refine lv_aload_n hx hb dX10_worth_0 rfl (lv_at hl 0 rfl) ?_
  refine lv_iload_n hx hb dX10_worth_1 rfl (lv_at hl 1 rfl) ?_
  have o_1 : (cLa C) ≤ 4 := by omega
  refine vp_callSi (W.runV (As := [.int x1]) (rest := []) ⟨hx, hb, hml, hown, hts⟩ (c_X10_noLamp lL D cI cS m0 a1 a3 a5 a6 a7 a13 a14 a15 a16 a18 a19 a20 a21 a22 a23 a24 a25 a27 a28 a29 a30 a31 a32 a33 a34 i0 (nI (cSp C)) (nI (cAg C)) (-9 : Int32) i10 i11 i12 (nI (mN T)) (nI (mN E)) i35 x1 (cLa C) o_1) (cwV 1 hts gX10_worth_X10_noLamp rfl rfl rfl cd_X10_noLamp ⟨Nat.le_of_ble_eq_true rfl, Nat.le_of_ble_eq_true rfl⟩) ⟨kBp_blind, va_recv hK hP (ci := 9) (q0 := 0) rfl rfl, fun U hU hW => ⟨rfl, by rw [hU]; exact hP.sub [0] rfl, va_K.moved hW.alike hK⟩⟩ rfl rfl hl.1 rfl (lv_room (Nat.le_of_ble_eq_true rfl)) dX10_worth_2 ⟨Nat.le_of_ble_eq_true rfl, Nat.le_of_ble_eq_true rfl⟩) (fun r_2 hw_2 => ?_)
  obtain rfl : r_2 = kb (!inB x1 (cLa C)) := hw_2
  refine kk_ifn_eq (tgt := 10) hx hb dX10_worth_5 (by decide) (fun hb_3 => ?_) (fun hb_3 => ?_)
  · skip
    obtain ⟨x1N, hx1N, rfl⟩ := inB_t hb_3
    have t_x1 := nI_clamp (show x1N < 2 ^ 31 by omega)
    obtain ⟨hC, hM0, hE⟩ := okX_la hX hx1N
    have hM := ok9_of hM0
    have hkd := kdM_of hX hrC
    have hwo := hkd.2
    have hk3 : 9 < cLa C → cKi C 9 = 3 := fun z => absurd hC.2.1 (by omega)
    have hst := hrC.2.2.2.1
    have hrB : repB C sk sh cl := ⟨hrC.1, hrC.2.1, hrC.2.2.2.2⟩
    have hxa := hC.2.1
    have hxs := hC.1
    refine lv_aload_n hx hb dX10_worth_10 rfl (lv_at hl 0 rfl) ?_
    have o_4 : okC C := by assumption
    have o_5 : ok9 C T := by assumption
    have o_6 : ∀ k, k < cLa C → st k = nI (cSt C k) := by assumption
    have o_7 : repM T mo mi mt := by assumption
    have o_8 : kdM C 9 (-9 : Int32) (cKi C) ki := by assumption
    have o_9 : repB C sk sh cl := by assumption
    have hF := va_free (wc := [(m0, .inr (9, [.int i0, .ref a1, .int (nI (cSp C)), .ref a3, .int (nI (cLa C)), .ref a5, .ref a6, .ref a7, .int (nI (cAg C)), .int (-9 : Int32), .int i10, .int i11, .int i12, .ref a13, .ref a14, .ref a15, .ref a16, .int (nI (mN T)), .ref a18, .ref a19, .ref a20, .ref a21, .ref a22, .ref a23, .ref a24, .ref a25, .int (nI (mN E)), .ref a27, .ref a28, .ref a29, .ref a30, .ref a31, .ref a32, .ref a33, .ref a34, .int i35])), (a1, .inl (cI, 6, .inl sk)), (a3, .inl (cI, 4, .inl sh)), (a5, .inl (cI, 4, .inl ki)), (a6, .inl (cI, 4, .inl st)), (a7, .inl (cI, 4, .inl cl)), (a18, .inl (cI, 9, .inl mo)), (a19, .inl (cI, 9, .inl mi)), (a20, .inl (cI, 9, .inl mt)), (a21, .inl (cI, 96, .inl fa)), (a22, .inl (cI, 96, .inl gi))]) hD hS hA [0, 1, 2, 3, 4, 5, 6, 7, 8, 9, 10] rfl
    refine va_calli (va_runV (As := []) (rest := []) ⟨hx, hb, hml, hown, hts⟩ (c_X10_allLight lL D cI cS _ C T 9 (cKi C) m0 a1 a3 a5 a6 a7 a13 a14 a15 a16 a18 a19 a20 a21 a22 a23 a24 a25 a27 a28 a29 a30 a31 a32 a33 a34 i0 (-9 : Int32) i10 i11 i12 (nI (mN E)) i35 sk sh ki st cl mo mi mt fa gi o_4 o_5 o_6 o_7 o_8 o_9) (cwV 0 hts gX10_worth_X10_allLight rfl rfl rfl cd_X10_allLight ⟨Nat.le_of_ble_eq_true rfl, Nat.le_of_ble_eq_true rfl⟩) ⟨kB_blind, va_recv hK hP (ci := 9) (q0 := 0) rfl rfl, fun U hU hW => ⟨rfl, by rw [hU], by rw [hU]; exact hP.sub [0, 1, 2, 3, 4, 5, 6, 7, 8, 9, 10] rfl, va_K.moved hW.alike hK, (hD.sub [0, 1, 2, 3, 4, 5, 6, 7, 8, 9, 10] (by decide) rfl).weaken (fun _ _ _ _ => trivial)⟩⟩ rfl rfl hl.1 rfl (lv_room (Nat.le_of_ble_eq_true rfl)) dX10_worth_11 ⟨Nat.le_of_ble_eq_true rfl, Nat.le_of_ble_eq_true rfl⟩) hS (fun q _ h => hF q h) hF (fun r_10 u_10 t H1 locs ht hvm hw_10 hB hz1 hk1 hS => ?_)
    obtain ⟨fa2_10, gi2_10⟩ := u_10
    obtain ⟨hP, hD⟩ := kk_join2 (wc := [(m0, .inr (9, [.int i0, .ref a1, .int (nI (cSp C)), .ref a3, .int (nI (cLa C)), .ref a5, .ref a6, .ref a7, .int (nI (cAg C)), .int (-9 : Int32), .int i10, .int i11, .int i12, .ref a13, .ref a14, .ref a15, .ref a16, .int (nI (mN T)), .ref a18, .ref a19, .ref a20, .ref a21, .ref a22, .ref a23, .ref a24, .ref a25, .int (nI (mN E)), .ref a27, .ref a28, .ref a29, .ref a30, .ref a31, .ref a32, .ref a33, .ref a34, .int i35])), (a1, .inl (cI, 6, .inl sk)), (a3, .inl (cI, 4, .inl sh)), (a5, .inl (cI, 4, .inl ki)), (a6, .inl (cI, 4, .inl st)), (a7, .inl (cI, 4, .inl cl)), (a18, .inl (cI, 9, .inl mo)), (a19, .inl (cI, 9, .inl mi)), (a20, .inl (cI, 9, .inl mt)), (a21, .inl (cI, 96, .inl fa)), (a22, .inl (cI, 96, .inl gi))]) (w1 := [(m0, .inr (9, [.int i0, .ref a1, .int (nI (cSp C)), .ref a3, .int (nI (cLa C)), .ref a5, .ref a6, .ref a7, .int (nI (cAg C)), .int (-9 : Int32), .int i10, .int i11, .int i12, .ref a13, .ref a14, .ref a15, .ref a16, .int (nI (mN T)), .ref a18, .ref a19, .ref a20, .ref a21, .ref a22, .ref a23, .ref a24, .ref a25, .int (nI (mN E)), .ref a27, .ref a28, .ref a29, .ref a30, .ref a31, .ref a32, .ref a33, .ref a34, .int i35])), (a1, .inl (cI, 6, .inl sk)), (a3, .inl (cI, 4, .inl sh)), (a5, .inl (cI, 4, .inl ki)), (a6, .inl (cI, 4, .inl st)), (a7, .inl (cI, 4, .inl cl)), (a18, .inl (cI, 9, .inl mo)), (a19, .inl (cI, 9, .inl mi)), (a20, .inl (cI, 9, .inl mt)), (a21, .inl (cI, 96, .inl fa2_10)), (a22, .inl (cI, 96, .inl gi2_10))]) (ws' := [(m0, .inr (9, [.int i0, .ref a1, .int (nI (cSp C)), .ref a3, .int (nI (cLa C)), .ref a5, .ref a6, .ref a7, .int (nI (cAg C)), .int (-9 : Int32), .int i10, .int i11, .int i12, .ref a13, .ref a14, .ref a15, .ref a16, .int (nI (mN T)), .ref a18, .ref a19, .ref a20, .ref a21, .ref a22, .ref a23, .ref a24, .ref a25, .int (nI (mN E)), .ref a27, .ref a28, .ref a29, .ref a30, .ref a31, .ref a32, .ref a33, .ref a34, .int i35])), (a1, .inl (cI, 6, .inl sk)), (a3, .inl (cI, 4, .inl sh)), (a5, .inl (cI, 4, .inl ki)), (a6, .inl (cI, 4, .inl st)), (a7, .inl (cI, 4, .inl cl)), (a18, .inl (cI, 9, .inl mo)), (a19, .inl (cI, 9, .inl mi)), (a20, .inl (cI, 9, .inl mt)), (a21, .inl (cI, 96, .inl fa2_10)), (a22, .inl (cI, 96, .inl gi2_10))]) (wr := []) (H1 := H1) hP hD [0, 1, 2, 3, 4, 5, 6, 7, 8, 9, 10] [] rfl rfl rfl rfl 11 rfl (by decide) [m0, a1, a3, a5, a6, a7, a18, a19, a20, a21, a22] rfl rfl hk1 (by rw [← ht]; exact hB)
    have hw_10 : r_10 = nI (allL C (plc T (cSt C))) ∧ True := hw_10
    clear hF hB hk1 hz1 hvm
    clear ht
    generalize H1 = H at hP hS ⊢
    obtain ⟨rfl, hw_10⟩ := hw_10
    refine lv_istore_n (lv' := [(2, .int (nI (allL C (plc T (cSt C))))), (0, .ref m0), (1, .int (nI x1N))]) hx hb dX10_worth_14 rfl hl (by decide) rfl (fun ls hl => ?_)
    refine lv_aload_n hx hb dX10_worth_15 rfl (lv_at hl 1 rfl) ?_
    refine lv_iload_n hx hb dX10_worth_16 rfl (lv_at hl 2 rfl) ?_
    refine va_put (D := D) (ci := 9) (v := .int (nI x1N)) (ty := .int) (C := RX10) (T := TX10) (N := 36) hx hb hts hwX10 tyX10 tyX10_ok nmX10 hown hK hP hD hS 0 rfl rfl 9 (by decide) hf_85 (fun _ h9 => h9) rfl (by decide +kernel) rfl rfl (Nat.le_of_ble_eq_true rfl) dX10_worth_17 (fun H locs hP hD hS => ?_)
    have hP : va_P D vwCl [(m0, .inr (9, [.int i0, .ref a1, .int (nI (cSp C)), .ref a3, .int (nI (cLa C)), .ref a5, .ref a6, .ref a7, .int (nI (cAg C)), .int (nI x1N), .int i10, .int i11, .int i12, .ref a13, .ref a14, .ref a15, .ref a16, .int (nI (mN T)), .ref a18, .ref a19, .ref a20, .ref a21, .ref a22, .ref a23, .ref a24, .ref a25, .int (nI (mN E)), .ref a27, .ref a28, .ref a29, .ref a30, .ref a31, .ref a32, .ref a33, .ref a34, .int i35])), (a1, .inl (cI, 6, .inl sk)), (a3, .inl (cI, 4, .inl sh)), (a5, .inl (cI, 4, .inl ki)), (a6, .inl (cI, 4, .inl st)), (a7, .inl (cI, 4, .inl cl)), (a18, .inl (cI, 9, .inl mo)), (a19, .inl (cI, 9, .inl mi)), (a20, .inl (cI, 9, .inl mt)), (a21, .inl (cI, 96, .inl fa2_10)), (a22, .inl (cI, 96, .inl gi2_10))] H := hP
    have hD : va_D A [(m0, .inr (9, [.int i0, .ref a1, .int (nI (cSp C)), .ref a3, .int (nI (cLa C)), .ref a5, .ref a6, .ref a7, .int (nI (cAg C)), .int (nI x1N), .int i10, .int i11, .int i12, .ref a13, .ref a14, .ref a15, .ref a16, .int (nI (mN T)), .ref a18, .ref a19, .ref a20, .ref a21, .ref a22, .ref a23, .ref a24, .ref a25, .int (nI (mN E)), .ref a27, .ref a28, .ref a29, .ref a30, .ref a31, .ref a32, .ref a33, .ref a34, .int i35])), (a1, .inl (cI, 6, .inl sk)), (a3, .inl (cI, 4, .inl sh)), (a5, .inl (cI, 4, .inl ki)), (a6, .inl (cI, 4, .inl st)), (a7, .inl (cI, 4, .inl cl)), (a18, .inl (cI, 9, .inl mo)), (a19, .inl (cI, 9, .inl mi)), (a20, .inl (cI, 9, .inl mt)), (a21, .inl (cI, 96, .inl fa2_10)), (a22, .inl (cI, 96, .inl gi2_10))] := hD
    refine lv_iload_n hx hb dX10_worth_20 rfl (lv_at hl 0 rfl) ?_
    refine lv_aload_n hx hb dX10_worth_21 rfl (lv_at hl 1 rfl) ?_
    -- differs: mo : cSp (cKnd C x1N 3) / cSp C
    -- differs: mo : cLa (cKnd C x1N 3) / cLa C
    -- differs: mo : cAg (cKnd C x1N 3) / cAg C
    -- differs: mo : cSp (cKnd C x1N 3) / cSp C
    -- differs: mo : cLa (cKnd C x1N 3) / cLa C
    -- differs: mo : cAg (cKnd C x1N 3) / cAg C
    -- differs: mo : cSp (cKnd C x1N 3) / cSp C
    -- differs: mo : cLa (cKnd C x1N 3) / cLa C
    -- differs: mo : cAg (cKnd C x1N 3) / cAg C
    have o_11 : okC (cKnd C x1N 3) := by exact okC_knd hC (by omega)
    have o_12 : ok9 (cKnd C x1N 3) T := by exact hM
    have o_13 : ∀ k, k < cLa (cKnd C x1N 3) → st k = nI (cSt (cKnd C x1N 3) k) := by exact hst
    have o_14 : repM T mo mi mt := by exact hrT
    have o_15 : kdM (cKnd C x1N 3) x1N (nI x1N) (cKi C) ki := by exact kdM_wo (by omega) hkd hC.2.1
    have o_16 : repB (cKnd C x1N 3) sk sh cl := by exact hrB
    have hF := va_free (wc := [(m0, .inr (9, [.int i0, .ref a1, .int (nI (cSp (cKnd C x1N 3))), .ref a3, .int (nI (cLa (cKnd C x1N 3))), .ref a5, .ref a6, .ref a7, .int (nI (cAg (cKnd C x1N 3))), .int (nI x1N), .int i10, .int i11, .int i12, .ref a13, .ref a14, .ref a15, .ref a16, .int (nI (mN T)), .ref a18, .ref a19, .ref a20, .ref a21, .ref a22, .ref a23, .ref a24, .ref a25, .int (nI (mN E)), .ref a27, .ref a28, .ref a29, .ref a30, .ref a31, .ref a32, .ref a33, .ref a34, .int i35])), (a1, .inl (cI, 6, .inl sk)), (a3, .inl (cI, 4, .inl sh)), (a5, .inl (cI, 4, .inl ki)), (a6, .inl (cI, 4, .inl st)), (a7, .inl (cI, 4, .inl cl)), (a18, .inl (cI, 9, .inl mo)), (a19, .inl (cI, 9, .inl mi)), (a20, .inl (cI, 9, .inl mt)), (a21, .inl (cI, 96, .inl fa2_10)), (a22, .inl (cI, 96, .inl gi2_10))]) hD hS hA [0, 1, 2, 3, 4, 5, 6, 7, 8, 9, 10] rfl
    refine va_calli (va_runV (As := []) (rest := [.int (nI (allL C (plc T (cSt C))))]) ⟨hx, hb, hml, hown, hts⟩ (c_X10_allLight lL D cI cS _ (cKnd C x1N 3) T x1N (cKi C) m0 a1 a3 a5 a6 a7 a13 a14 a15 a16 a18 a19 a20 a21 a22 a23 a24 a25 a27 a28 a29 a30 a31 a32 a33 a34 i0 (nI x1N) i10 i11 i12 (nI (mN E)) i35 sk sh ki st cl mo mi mt fa2_10 gi2_10 o_11 o_12 o_13 o_14 o_15 o_16) (cwV 0 hts gX10_worth_X10_allLight rfl rfl rfl cd_X10_allLight ⟨Nat.le_of_ble_eq_true rfl, Nat.le_of_ble_eq_true rfl⟩) ⟨kB_blind, va_recv hK hP (ci := 9) (q0 := 0) rfl rfl, fun U hU hW => ⟨rfl, by rw [hU], by rw [hU]; exact hP.sub [0, 1, 2, 3, 4, 5, 6, 7, 8, 9, 10] rfl, va_K.moved hW.alike hK, (hD.sub [0, 1, 2, 3, 4, 5, 6, 7, 8, 9, 10] (by decide) rfl).weaken (fun _ _ _ _ => trivial)⟩⟩ rfl rfl hl.1 rfl (lv_room (Nat.le_of_ble_eq_true rfl)) dX10_worth_22 ⟨Nat.le_of_ble_eq_true rfl, Nat.le_of_ble_eq_true rfl⟩) hS (fun q _ h => hF q h) hF (fun r_17 u_17 t H1 locs ht hvm hw_17 hB hz1 hk1 hS => ?_)
    obtain ⟨fa2_17, gi2_17⟩ := u_17
    obtain ⟨hP, hD⟩ := kk_join2 (wc := [(m0, .inr (9, [.int i0, .ref a1, .int (nI (cSp (cKnd C x1N 3))), .ref a3, .int (nI (cLa (cKnd C x1N 3))), .ref a5, .ref a6, .ref a7, .int (nI (cAg (cKnd C x1N 3))), .int (nI x1N), .int i10, .int i11, .int i12, .ref a13, .ref a14, .ref a15, .ref a16, .int (nI (mN T)), .ref a18, .ref a19, .ref a20, .ref a21, .ref a22, .ref a23, .ref a24, .ref a25, .int (nI (mN E)), .ref a27, .ref a28, .ref a29, .ref a30, .ref a31, .ref a32, .ref a33, .ref a34, .int i35])), (a1, .inl (cI, 6, .inl sk)), (a3, .inl (cI, 4, .inl sh)), (a5, .inl (cI, 4, .inl ki)), (a6, .inl (cI, 4, .inl st)), (a7, .inl (cI, 4, .inl cl)), (a18, .inl (cI, 9, .inl mo)), (a19, .inl (cI, 9, .inl mi)), (a20, .inl (cI, 9, .inl mt)), (a21, .inl (cI, 96, .inl fa2_10)), (a22, .inl (cI, 96, .inl gi2_10))]) (w1 := [(m0, .inr (9, [.int i0, .ref a1, .int (nI (cSp (cKnd C x1N 3))), .ref a3, .int (nI (cLa (cKnd C x1N 3))), .ref a5, .ref a6, .ref a7, .int (nI (cAg (cKnd C x1N 3))), .int (nI x1N), .int i10, .int i11, .int i12, .ref a13, .ref a14, .ref a15, .ref a16, .int (nI (mN T)), .ref a18, .ref a19, .ref a20, .ref a21, .ref a22, .ref a23, .ref a24, .ref a25, .int (nI (mN E)), .ref a27, .ref a28, .ref a29, .ref a30, .ref a31, .ref a32, .ref a33, .ref a34, .int i35])), (a1, .inl (cI, 6, .inl sk)), (a3, .inl (cI, 4, .inl sh)), (a5, .inl (cI, 4, .inl ki)), (a6, .inl (cI, 4, .inl st)), (a7, .inl (cI, 4, .inl cl)), (a18, .inl (cI, 9, .inl mo)), (a19, .inl (cI, 9, .inl mi)), (a20, .inl (cI, 9, .inl mt)), (a21, .inl (cI, 96, .inl fa2_17)), (a22, .inl (cI, 96, .inl gi2_17))]) (ws' := [(m0, .inr (9, [.int i0, .ref a1, .int (nI (cSp C)), .ref a3, .int (nI (cLa C)), .ref a5, .ref a6, .ref a7, .int (nI (cAg C)), .int (nI x1N), .int i10, .int i11, .int i12, .ref a13, .ref a14, .ref a15, .ref a16, .int (nI (mN T)), .ref a18, .ref a19, .ref a20, .ref a21, .ref a22, .ref a23, .ref a24, .ref a25, .int (nI (mN E)), .ref a27, .ref a28, .ref a29, .ref a30, .ref a31, .ref a32, .ref a33, .ref a34, .int i35])), (a1, .inl (cI, 6, .inl sk)), (a3, .inl (cI, 4, .inl sh)), (a5, .inl (cI, 4, .inl ki)), (a6, .inl (cI, 4, .inl st)), (a7, .inl (cI, 4, .inl cl)), (a18, .inl (cI, 9, .inl mo)), (a19, .inl (cI, 9, .inl mi)), (a20, .inl (cI, 9, .inl mt)), (a21, .inl (cI, 96, .inl fa2_17)), (a22, .inl (cI, 96, .inl gi2_17))]) (wr := []) (H1 := H1) hP hD [0, 1, 2, 3, 4, 5, 6, 7, 8, 9, 10] [] rfl rfl rfl rfl 11 rfl (by decide) [m0, a1, a3, a5, a6, a7, a18, a19, a20, a21, a22] rfl rfl hk1 (by rw [← ht]; exact hB)
    have hw_17 : r_17 = nI (allL (cKnd C x1N 3) (plc T (cSt (cKnd C x1N 3)))) ∧ True := hw_17
    clear hF hB hk1 hz1 hvm
    clear ht
    generalize H1 = H at hP hS ⊢
    obtain ⟨rfl, hw_17⟩ := hw_17
    refine lv_isub hx hb dX10_worth_25 ?_
    refine lv_istore_n (lv' := [(3, .int ((nI (allL C (plc T (cSt C)))) - (nI (allL (cKnd C x1N 3) (plc T (cSt (cKnd C x1N 3))))))), (2, .int (nI (allL C (plc T (cSt C))))), (0, .ref m0), (1, .int (nI x1N))]) hx hb dX10_worth_26 rfl hl (by decide) rfl (fun ls hl => ?_)
    refine lv_aload_n hx hb dX10_worth_27 rfl (lv_at hl 2 rfl) ?_
    refine lv_bipush (v := (-9 : Int32)) hx hb dX10_worth_28 (by decide +kernel) ?_
    refine va_put (D := D) (ci := 9) (v := .int (-9 : Int32)) (ty := .int) (C := RX10) (T := TX10) (N := 36) hx hb hts hwX10 tyX10 tyX10_ok nmX10 hown hK hP hD hS 0 rfl rfl 9 (by decide) hf_85 (fun _ h9 => h9) rfl (by decide +kernel) rfl rfl (Nat.le_of_ble_eq_true rfl) dX10_worth_30 (fun H locs hP hD hS => ?_)
    have hP : va_P D vwCl [(m0, .inr (9, [.int i0, .ref a1, .int (nI (cSp C)), .ref a3, .int (nI (cLa C)), .ref a5, .ref a6, .ref a7, .int (nI (cAg C)), .int (-9 : Int32), .int i10, .int i11, .int i12, .ref a13, .ref a14, .ref a15, .ref a16, .int (nI (mN T)), .ref a18, .ref a19, .ref a20, .ref a21, .ref a22, .ref a23, .ref a24, .ref a25, .int (nI (mN E)), .ref a27, .ref a28, .ref a29, .ref a30, .ref a31, .ref a32, .ref a33, .ref a34, .int i35])), (a1, .inl (cI, 6, .inl sk)), (a3, .inl (cI, 4, .inl sh)), (a5, .inl (cI, 4, .inl ki)), (a6, .inl (cI, 4, .inl st)), (a7, .inl (cI, 4, .inl cl)), (a18, .inl (cI, 9, .inl mo)), (a19, .inl (cI, 9, .inl mi)), (a20, .inl (cI, 9, .inl mt)), (a21, .inl (cI, 96, .inl fa2_17)), (a22, .inl (cI, 96, .inl gi2_17))] H := hP
    have hD : va_D A [(m0, .inr (9, [.int i0, .ref a1, .int (nI (cSp C)), .ref a3, .int (nI (cLa C)), .ref a5, .ref a6, .ref a7, .int (nI (cAg C)), .int (-9 : Int32), .int i10, .int i11, .int i12, .ref a13, .ref a14, .ref a15, .ref a16, .int (nI (mN T)), .ref a18, .ref a19, .ref a20, .ref a21, .ref a22, .ref a23, .ref a24, .ref a25, .int (nI (mN E)), .ref a27, .ref a28, .ref a29, .ref a30, .ref a31, .ref a32, .ref a33, .ref a34, .int i35])), (a1, .inl (cI, 6, .inl sk)), (a3, .inl (cI, 4, .inl sh)), (a5, .inl (cI, 4, .inl ki)), (a6, .inl (cI, 4, .inl st)), (a7, .inl (cI, 4, .inl cl)), (a18, .inl (cI, 9, .inl mo)), (a19, .inl (cI, 9, .inl mi)), (a20, .inl (cI, 9, .inl mt)), (a21, .inl (cI, 96, .inl fa2_17)), (a22, .inl (cI, 96, .inl gi2_17))] := hD
    refine lv_iload_n hx hb dX10_worth_33 rfl (lv_at hl 0 rfl) ?_
    have hq : ((nI (allL C (plc T (cSt C)))) - (nI (allL (cKnd C x1N 3) (plc T (cSt (cKnd C x1N 3)))))) = sp_worth C T (nI x1N) ∧ True := by
      refine ⟨?_, trivial⟩
      simp only [sp_worth, hb_3, t_x1, cond_true, cond_false]
      rfl
    refine kk_QQ hQQ ?_
    exact W.iret (v := (nI (allL C (plc T (cSt C)))) - (nI (allL (cKnd C x1N 3) (plc T (cSt (cKnd C x1N 3)))))) hx hb hr (fun t ht hW => ⟨⟨(nI (allL C (plc T (cSt C)))) - (nI (allL (cKnd C x1N 3) (plc T (cSt (cKnd C x1N 3))))), (fa2_17, gi2_17), rfl, hq, by show va_P D vwCl _ t.heap; rw [ht]; exact hP⟩, hS.F ht⟩) hS.2.2 dX10_worth_34
  · skip
    refine lv_iconst (v := (-1 : Int32)) hx hb dX10_worth_8 (by decide +kernel) ?_
    have hq : (-1 : Int32) = sp_worth C T x1 ∧ True := by
      refine ⟨?_, trivial⟩
      simp only [sp_worth, hb_3, cond_true, cond_false]
    refine kk_QQ hQQ ?_
    exact W.iret (v := (-1 : Int32)) hx hb hr (fun t ht hW => ⟨⟨(-1 : Int32), (fa, gi), rfl, hq, by show va_P D vwCl _ t.heap; rw [ht]; exact hP⟩, hS.F ht⟩) hS.2.2 dX10_worth_9
