theorem cd_X10_darkMany : yX10_darkMany.cls = RX10 ∧ yX10_darkMany.cls ≠ "java/lang/invoke/MethodHandle" ∧ yX10_darkMany.cls ≠ "java/lang/invoke/VarHandle" ∧ (parseMethodDescriptor yX10_darkMany.desc).map (fun d => d.parameters.length) = some 2 := by decide +kernel
theorem cd_X10_told : yX10_told.cls ≠ "java/lang/invoke/MethodHandle" ∧ yX10_told.cls ≠ "java/lang/invoke/VarHandle" ∧ (parseMethodDescriptor yX10_told.desc).map (fun d => d.parameters.length) = some 3 := by decide +kernel
theorem cd_X10_toldMove : yX10_toldMove.cls = RX10 ∧ yX10_toldMove.cls ≠ "java/lang/invoke/MethodHandle" ∧ yX10_toldMove.cls ≠ "java/lang/invoke/VarHandle" ∧ (parseMethodDescriptor yX10_toldMove.desc).map (fun d => d.parameters.length) = some 0 := by decide +kernel
abbrev rmX10_set : Room := { frames := 4, cells := 0, slots := 0, locals := 97 }
set_option maxHeartbeats 4000000 in
set_option maxRecDepth 100000 in
theorem c_X10_set (lL : Launch) (D : va_G) (cI cS : ClassId) (sz : Nat) (C : Co) (T : Mv) (E : Mv) (m0 : Nat) (a1 : Nat) (a3 : Nat) (a5 : Nat) (a6 : Nat) (a7 : Nat) (a13 : Nat) (a14 : Nat) (a15 : Nat) (a16 : Nat) (a18 : Nat) (a19 : Nat) (a20 : Nat) (a21 : Nat) (a22 : Nat) (a23 : Nat) (a24 : Nat) (a25 : Nat) (a27 : Nat) (a28 : Nat) (a29 : Nat) (a30 : Nat) (a31 : Nat) (a32 : Nat) (a33 : Nat) (a34 : Nat) (i0 : Int32) (i10 : Int32) (i11 : Int32) (i12 : Int32) (i35 : Int32) (sk : Nat → Int32) (sh : Nat → Int32) (ki : Nat → Int32) (st : Nat → Int32) (cl : Nat → Int32) (mo : Nat → Int32) (mi : Nat → Int32) (mt : Nat → Int32) (fa : Nat → Int32) (gi : Nat → Int32) (x1 : Int32) (x2 : Int32) (x3 : Int32) (hX : okX C T E) (hrC : repC C sk sh ki st cl) (hrT : repM T mo mi mt) : Met lL yX10_set wsX10_set rmX10_set (va_Pc [.ref m0, .int x1, .int x2, .int x3] (kB D cI cS [(m0, .inr (9, [.int i0, .ref a1, .int (nI (cSp C)), .ref a3, .int (nI (cLa C)), .ref a5, .ref a6, .ref a7, .int (nI (cAg C)), .int (-9 : Int32), .int i10, .int i11, .int i12, .ref a13, .ref a14, .ref a15, .ref a16, .int (nI (mN T)), .ref a18, .ref a19, .ref a20, .ref a21, .ref a22, .ref a23, .ref a24, .ref a25, .int (nI (mN E)), .ref a27, .ref a28, .ref a29, .ref a30, .ref a31, .ref a32, .ref a33, .ref a34, .int i35])), (a1, .inl (cI, 6, .inl sk)), (a3, .inl (cI, 4, .inl sh)), (a5, .inl (cI, 4, .inl ki)), (a6, .inl (cI, 4, .inl st)), (a7, .inl (cI, 4, .inl cl)), (a18, .inl (cI, 9, .inl mo)), (a19, .inl (cI, 9, .inl mi)), (a20, .inl (cI, 9, .inl mt)), (a21, .inl (cI, 96, .inl fa)), (a22, .inl (cI, 96, .inl gi))] sz)) (kQi D (fun (r : Int32) (u : (Nat → Int32) × (Nat → Int32) × (Nat → Int32) × (Nat → Int32) × (Nat → Int32)) => r = sp_set C T x1 x2 x3 ∧ repM T u.1 u.2.1 u.2.2.1) (fun u : (Nat → Int32) × (Nat → Int32) × (Nat → Int32) × (Nat → Int32) × (Nat → Int32) => [(m0, .inr (9, [.int i0, .ref a1, .int (nI (cSp C)), .ref a3, .int (nI (cLa C)), .ref a5, .ref a6, .ref a7, .int (nI (cAg C)), .int (-9 : Int32), .int i10, .int i11, .int i12, .ref a13, .ref a14, .ref a15, .ref a16, .int (nI (mN T)), .ref a18, .ref a19, .ref a20, .ref a21, .ref a22, .ref a23, .ref a24, .ref a25, .int (nI (mN E)), .ref a27, .ref a28, .ref a29, .ref a30, .ref a31, .ref a32, .ref a33, .ref a34, .int i35])), (a1, .inl (cI, 6, .inl sk)), (a3, .inl (cI, 4, .inl sh)), (a5, .inl (cI, 4, .inl ki)), (a6, .inl (cI, 4, .inl st)), (a7, .inl (cI, 4, .inl cl)), (a18, .inl (cI, 9, .inl u.1)), (a19, .inl (cI, 9, .inl u.2.1)), (a20, .inl (cI, 9, .inl u.2.2.1)), (a21, .inl (cI, 96, .inl u.2.2.2.1)), (a22, .inl (cI, 96, .inl u.2.2.2.2))]) (va_A [(m0, .inr (9, [.int i0, .ref a1, .int (nI (cSp C)), .ref a3, .int (nI (cLa C)), .ref a5, .ref a6, .ref a7, .int (nI (cAg C)), .int (-9 : Int32), .int i10, .int i11, .int i12, .ref a13, .ref a14, .ref a15, .ref a16, .int (nI (mN T)), .ref a18, .ref a19, .ref a20, .ref a21, .ref a22, .ref a23, .ref a24, .ref a25, .int (nI (mN E)), .ref a27, .ref a28, .ref a29, .ref a30, .ref a31, .ref a32, .ref a33, .ref a34, .int i35])), (a1, .inl (cI, 6, .inl sk)), (a3, .inl (cI, 4, .inl sh)), (a5, .inl (cI, 4, .inl ki)), (a6, .inl (cI, 4, .inl st)), (a7, .inl (cI, 4, .inl cl)), (a18, .inl (cI, 9, .inl mo)), (a19, .inl (cI, 9, .inl mi)), (a20, .inl (cI, 9, .inl mt)), (a21, .inl (cI, 96, .inl fa)), (a22, .inl (cI, 96, .inl gi))] sz)) 0 0 (va_A [(m0, .inr (9, [.int i0, .ref a1, .int (nI (cSp C)), .ref a3, .int (nI (cLa C)), .ref a5, .ref a6, .ref a7, .int (nI (cAg C)), .int (-9 : Int32), .int i10, .int i11, .int i12, .ref a13, .ref a14, .ref a15, .ref a16, .int (nI (mN T)), .ref a18, .ref a19, .ref a20, .ref a21, .ref a22, .ref a23, .ref a24, .ref a25, .int (nI (mN E)), .ref a27, .ref a28, .ref a29, .ref a30, .ref a31, .ref a32, .ref a33, .ref a34, .int i35])), (a1, .inl (cI, 6, .inl sk)), (a3, .inl (cI, 4, .inl sh)), (a5, .inl (cI, 4, .inl ki)), (a6, .inl (cI, 4, .inl st)), (a7, .inl (cI, 4, .inl cl)), (a18, .inl (cI, 9, .inl mo)), (a19, .inl (cI, 9, .inl mi)), (a20, .inl (cI, 9, .inl mt)), (a21, .inl (cI, 96, .inl fa)), (a22, .inl (cI, 96, .inl gi))] sz) := by
  refine Met.ofW (cc := cX10_set) (maxL := 8) (ret := (some .int)) (by decide) rfl ?_
  intro pP eE sS mM args below meth cC s₁ B hml hv
  obtain ⟨rfl, hsz, hP, hK, hD0⟩ := hv
  have hx := B.exec
  have hb := B.bytes
  have hr := B.returns
  have hts := atoms_spec (ws := wsX10_set) B.pre
  have hown : sS.vm.findClass RX10 = some mM.cls := findClass_of_methodNamed B.named
  have hlocks := B.notSynchronized
  subst hsz
  have hD := hD0.self (sz := sS.heap.size)
  generalize hAe : va_A [(m0, .inr (9, [.int i0, .ref a1, .int (nI (cSp C)), .ref a3, .int (nI (cLa C)), .ref a5, .ref a6, .ref a7, .int (nI (cAg C)), .int (-9 : Int32), .int i10, .int i11, .int i12, .ref a13, .ref a14, .ref a15, .ref a16, .int (nI (mN T)), .ref a18, .ref a19, .ref a20, .ref a21, .ref a22, .ref a23, .ref a24, .ref a25, .int (nI (mN E)), .ref a27, .ref a28, .ref a29, .ref a30, .ref a31, .ref a32, .ref a33, .ref a34, .int i35])), (a1, .inl (cI, 6, .inl sk)), (a3, .inl (cI, 4, .inl sh)), (a5, .inl (cI, 4, .inl ki)), (a6, .inl (cI, 4, .inl st)), (a7, .inl (cI, 4, .inl cl)), (a18, .inl (cI, 9, .inl mo)), (a19, .inl (cI, 9, .inl mi)), (a20, .inl (cI, 9, .inl mt)), (a21, .inl (cI, 96, .inl fa)), (a22, .inl (cI, 96, .inl gi))] sS.heap.size = A at hD ⊢
  have hA : ∀ q : Nat, sS.heap.size ≤ q → A q := fun q h => by rw [← hAe]; exact Or.inr h
  have hS : va_S A sS.heap sS.heap [] := va_S.rf
  have hP : va_P D vwCl [(m0, .inr (9, [.int i0, .ref a1, .int (nI (cSp C)), .ref a3, .int (nI (cLa C)), .ref a5, .ref a6, .ref a7, .int (nI (cAg C)), .int (-9 : Int32), .int i10, .int i11, .int i12, .ref a13, .ref a14, .ref a15, .ref a16, .int (nI (mN T)), .ref a18, .ref a19, .ref a20, .ref a21, .ref a22, .ref a23, .ref a24, .ref a25, .int (nI (mN E)), .ref a27, .ref a28, .ref a29, .ref a30, .ref a31, .ref a32, .ref a33, .ref a34, .int i35])), (a1, .inl (cI, 6, .inl sk)), (a3, .inl (cI, 4, .inl sh)), (a5, .inl (cI, 4, .inl ki)), (a6, .inl (cI, 4, .inl st)), (a7, .inl (cI, 4, .inl cl)), (a18, .inl (cI, 9, .inl mo)), (a19, .inl (cI, 9, .inl mi)), (a20, .inl (cI, 9, .inl mt)), (a21, .inl (cI, 96, .inl fa)), (a22, .inl (cI, 96, .inl gi))] sS.heap := hP
  have hD : va_D A [(m0, .inr (9, [.int i0, .ref a1, .int (nI (cSp C)), .ref a3, .int (nI (cLa C)), .ref a5, .ref a6, .ref a7, .int (nI (cAg C)), .int (-9 : Int32), .int i10, .int i11, .int i12, .ref a13, .ref a14, .ref a15, .ref a16, .int (nI (mN T)), .ref a18, .ref a19, .ref a20, .ref a21, .ref a22, .ref a23, .ref a24, .ref a25, .int (nI (mN E)), .ref a27, .ref a28, .ref a29, .ref a30, .ref a31, .ref a32, .ref a33, .ref a34, .int i35])), (a1, .inl (cI, 6, .inl sk)), (a3, .inl (cI, 4, .inl sh)), (a5, .inl (cI, 4, .inl ki)), (a6, .inl (cI, 4, .inl st)), (a7, .inl (cI, 4, .inl cl)), (a18, .inl (cI, 9, .inl mo)), (a19, .inl (cI, 9, .inl mi)), (a20, .inl (cI, 9, .inl mt)), (a21, .inl (cI, 96, .inl fa)), (a22, .inl (cI, 96, .inl gi))] := hD
  have hf_98 := hts (.fieldLink RX10 98 "OldLampsModel" "spots" "I") (List.mem_of_getElem? (i := 3) rfl)
  have hf_105 := hts (.fieldLink RX10 105 "OldLampsModel" "lamps" "I") (List.mem_of_getElem? (i := 2) rfl)
  have hf_161 := hts (.fieldLink RX10 161 "OldLampsModel" "movesNow" "I") (List.mem_of_getElem? (i := 1) rfl)
  have hwX10 : ∀ w ∈ wsX100, w ∈ wsX10_set := fun _ h => List.mem_cons_of_mem _ (List.mem_append_right _ h)
  have hl := lv_entry ([.ref m0, .int x1, .int x2, .int x3]) (n := 8) (Nat.le_of_ble_eq_true rfl)
  rw [lg_entry_eq]
  generalize (lg_sl ([.ref m0, .int x1, .int x2, .int x3]) ++ List.replicate (8 - (lg_sl ([.ref m0, .int x1, .int x2, .int x3])).length) Slot.unset).toArray = ls at hl ⊢
  have hl : lv_has ls 8 [(0, .ref m0), (1, .int x1), (2, .int x2), (3, .int x3)] := hl
  obtain ⟨QQ, hQQ⟩ : ∃ QQ : State → Prop, QQ = MQ below (kQi D (fun (r : Int32) (u : (Nat → Int32) × (Nat → Int32) × (Nat → Int32) × (Nat → Int32) × (Nat → Int32)) => r = sp_set C T x1 x2 x3 ∧ repM T u.1 u.2.1 u.2.2.1) (fun u : (Nat → Int32) × (Nat → Int32) × (Nat → Int32) × (Nat → Int32) × (Nat → Int32) => [(m0, .inr (9, [.int i0, .ref a1, .int (nI (cSp C)), .ref a3, .int (nI (cLa C)), .ref a5, .ref a6, .ref a7, .int (nI (cAg C)), .int (-9 : Int32), .int i10, .int i11, .int i12, .ref a13, .ref a14, .ref a15, .ref a16, .int (nI (mN T)), .ref a18, .ref a19, .ref a20, .ref a21, .ref a22, .ref a23, .ref a24, .ref a25, .int (nI (mN E)), .ref a27, .ref a28, .ref a29, .ref a30, .ref a31, .ref a32, .ref a33, .ref a34, .int i35])), (a1, .inl (cI, 6, .inl sk)), (a3, .inl (cI, 4, .inl sh)), (a5, .inl (cI, 4, .inl ki)), (a6, .inl (cI, 4, .inl st)), (a7, .inl (cI, 4, .inl cl)), (a18, .inl (cI, 9, .inl u.1)), (a19, .inl (cI, 9, .inl u.2.1)), (a20, .inl (cI, 9, .inl u.2.2.1)), (a21, .inl (cI, 96, .inl u.2.2.2.1)), (a22, .inl (cI, 96, .inl u.2.2.2.2))]) A) ([.ref m0, .int x1, .int x2, .int x3]).toArray sS 0 0 A := ⟨_, rfl⟩
  refine kk_QQ hQQ.symm ?_
  obtain ⟨hX1, hX2, hX3, hX4⟩ := okX_le hX
  refine lv_aload_n hx hb dX10_set_0 rfl (lv_at hl 0 rfl) ?_
  refine lv_iload_n hx hb dX10_set_1 rfl (lv_at hl 1 rfl) ?_
  have o_1 : (cSp C) ≤ 4 := by omega
  refine vp_callSi (W.runV (As := [.int x1]) (rest := []) ⟨hx, hb, hml, hown, hts⟩ (c_X10_noSpot lL D cI cS m0 a1 a3 a5 a6 a7 a13 a14 a15 a16 a18 a19 a20 a21 a22 a23 a24 a25 a27 a28 a29 a30 a31 a32 a33 a34 i0 (nI (cLa C)) (nI (cAg C)) (-9 : Int32) i10 i11 i12 (nI (mN T)) (nI (mN E)) i35 x1 (cSp C) o_1) (cwV 1 hts gX10_set_X10_noSpot rfl rfl rfl cd_X10_noSpot ⟨Nat.le_of_ble_eq_true rfl, Nat.le_of_ble_eq_true rfl⟩) ⟨kBp_blind, va_recv hK hP (ci := 9) (q0 := 0) rfl rfl, fun U hU hW => ⟨rfl, by rw [hU]; exact hP.sub [0] rfl, va_K.moved hW.alike hK⟩⟩ rfl rfl hl.1 rfl (lv_room (Nat.le_of_ble_eq_true rfl)) dX10_set_2 ⟨Nat.le_of_ble_eq_true rfl, Nat.le_of_ble_eq_true rfl⟩) (fun r_2 hw_2 => ?_)
  obtain rfl : r_2 = kb (!inB x1 (cSp C)) := hw_2
  refine kk_ifn_eq (tgt := 10) hx hb dX10_set_5 (by decide) (fun hb_3 => ?_) (fun hb_3 => ?_)
  · skip
    obtain ⟨x1N, hx1N, rfl⟩ := inB_t hb_3
    have t_x1 := nI_clamp (show x1N < 2 ^ 31 by omega)
    obtain ⟨hC, hM0, hE⟩ := okX_sp hX hx1N
    have hM := ok9_of hM0
    have hkd := kdM_of hX hrC
    have hwo := hkd.2
    have hk3 : 9 < cLa C → cKi C 9 = 3 := fun z => absurd hC.2.1 (by omega)
    have hst := hrC.2.2.2.1
    have hrB : repB C sk sh cl := ⟨hrC.1, hrC.2.1, hrC.2.2.2.2⟩
    have hxa := hC.2.1
    have hxs := hC.1
    refine lv_iload_n hx hb dX10_set_10 rfl (lv_at hl 2 rfl) ?_
    refine vp_callSi (W.runS (As := [.int x2]) (rest := []) ⟨hx, hb, hml, hown, hts⟩ (c_X10_isWatch lL D cI cS x2) (va_cwS 1 hts gX10_set_X10_isWatch rfl rfl rfl cd_X10_isWatch ⟨Nat.le_of_ble_eq_true rfl, Nat.le_of_ble_eq_true rfl⟩) ⟨kBp_blind, fun U hU hW => ⟨rfl, by rw [hU]; exact hP.sub [] rfl, va_K.moved hW.alike hK⟩⟩ rfl rfl hl.1 rfl (lv_room (Nat.le_of_ble_eq_true rfl)) dX10_set_11 ⟨Nat.le_of_ble_eq_true rfl, Nat.le_of_ble_eq_true rfl⟩) (fun r_4 hw_4 => ?_)
    obtain rfl : r_4 = kb (inB x2 24) := hw_4
    -- if (inB x2 24)
    refine kk_ifb_eq (tgt := 27) hx hb dX10_set_14 (by decide) (fun hb_5 => ?_) (fun hb_5 => ?_)
    · skip
      refine lv_bipush (v := (-2 : Int32)) hx hb dX10_set_27 (by decide +kernel) ?_
      have hq : (-2 : Int32) = sp_set C T (nI x1N) x2 x3 ∧ repM T mo mi mt := by refine ⟨by simp only [sp_set, hb_3, hb_5, t_x1, cond_true, cond_false], hrT⟩
      refine kk_QQ hQQ ?_
      exact W.iret (v := (-2 : Int32)) hx hb hr (fun t ht hW => ⟨⟨(-2 : Int32), (mo, mi, mt, fa, gi), rfl, hq, by show va_P D vwCl _ t.heap; rw [ht]; exact hP⟩, hS.F ht⟩) hS.2.2 dX10_set_29
    · skip
      obtain ⟨x2N, hx2N, rfl⟩ := inB_t hb_5
      have t_x2 := nI_clamp (show x2N < 2 ^ 31 by omega)
      refine lv_iload_n hx hb dX10_set_17 rfl (lv_at hl 3 rfl) ?_
      refine lv_i2l (v := x3.toInt64) hx hb dX10_set_18 rfl ?_
      refine lv_lconst (v := lN 0) hx hb dX10_set_19 (by decide +kernel) ?_
      refine lv_lconst (v := lN 1) hx hb dX10_set_20 (by decide +kernel) ?_
      refine vp_callSi (W.runS (As := [.long x3.toInt64, .long (lN 0), .long (lN 1)]) (rest := []) ⟨hx, hb, hml, hown, hts⟩ (c_X10_in lL D cI cS x3.toInt64 (lN 0) (lN 1)) (va_cwS 3 hts gX10_set_X10_in rfl rfl rfl cd_X10_in ⟨Nat.le_of_ble_eq_true rfl, Nat.le_of_ble_eq_true rfl⟩) ⟨kBp_blind, fun U hU hW => ⟨rfl, by rw [hU]; exact hP.sub [] rfl, va_K.moved hW.alike hK⟩⟩ rfl rfl hl.1 rfl (lv_room (Nat.le_of_ble_eq_true rfl)) dX10_set_21 ⟨Nat.le_of_ble_eq_true rfl, Nat.le_of_ble_eq_true rfl⟩) (fun r_6 hw_6 => ?_)
      obtain rfl : r_6 = kb (inL x3.toInt64 (lN 0) (lN 1)) := hw_6
      refine kk_top (y := kb (wB x3 0 1)) (congrArg kb (inL_w x3 (by omega) (by omega))) ?_
      -- if wB x3 0 1
      refine kk_ifb_ne (tgt := 30) hx hb dX10_set_24 (by decide) (fun hb_7 => ?_) (fun hb_7 => ?_)
      · skip
        obtain ⟨x3N, hx3L, hx3N, rfl⟩ := wB_t hb_7
        have t_x3 := nI_clamp (show x3N < 2 ^ 31 by omega)
        refine lv_aload_n hx hb dX10_set_30 rfl (lv_at hl 0 rfl) ?_
        refine lv_iload_n hx hb dX10_set_31 rfl (lv_at hl 1 rfl) ?_
        refine lv_iload_n hx hb dX10_set_32 rfl (lv_at hl 2 rfl) ?_
        have o_8 : okC C := by assumption
        have o_9 : ok9 C T := by assumption
        have o_10 : ∀ k, k < cLa C → st k = nI (cSt C k) := by assumption
        have o_11 : repM T mo mi mt := by assumption
        have o_12 : kdM C 9 (-9 : Int32) (cKi C) ki := by assumption
        have o_13 : repB C sk sh cl := by assumption
        have o_14 : x1N < cSp C := by omega
        have o_15 : x2N < 24 := by omega
        have hF := va_free (wc := [(m0, .inr (9, [.int i0, .ref a1, .int (nI (cSp C)), .ref a3, .int (nI (cLa C)), .ref a5, .ref a6, .ref a7, .int (nI (cAg C)), .int (-9 : Int32), .int i10, .int i11, .int i12, .ref a13, .ref a14, .ref a15, .ref a16, .int (nI (mN T)), .ref a18, .ref a19, .ref a20, .ref a21, .ref a22, .ref a23, .ref a24, .ref a25, .int (nI (mN E)), .ref a27, .ref a28, .ref a29, .ref a30, .ref a31, .ref a32, .ref a33, .ref a34, .int i35])), (a1, .inl (cI, 6, .inl sk)), (a3, .inl (cI, 4, .inl sh)), (a5, .inl (cI, 4, .inl ki)), (a6, .inl (cI, 4, .inl st)), (a7, .inl (cI, 4, .inl cl)), (a18, .inl (cI, 9, .inl mo)), (a19, .inl (cI, 9, .inl mi)), (a20, .inl (cI, 9, .inl mt)), (a21, .inl (cI, 96, .inl fa)), (a22, .inl (cI, 96, .inl gi))]) hD hS hA [0, 1, 2, 3, 4, 5, 6, 7, 8, 9, 10] rfl
        refine va_calli (va_runV (As := [.int (nI x1N), .int (nI x2N)]) (rest := []) ⟨hx, hb, hml, hown, hts⟩ (c_X10_lightBy lL D cI cS _ C T 9 (cKi C) m0 a1 a3 a5 a6 a7 a13 a14 a15 a16 a18 a19 a20 a21 a22 a23 a24 a25 a27 a28 a29 a30 a31 a32 a33 a34 i0 (nI (cSp C)) (-9 : Int32) i10 i11 i12 (nI (mN E)) i35 sk sh ki st cl mo mi mt fa gi x1N x2N o_8 o_9 o_10 o_11 o_12 o_13 o_14 o_15) (cwV 2 hts gX10_set_X10_lightBy rfl rfl rfl cd_X10_lightBy ⟨Nat.le_of_ble_eq_true rfl, Nat.le_of_ble_eq_true rfl⟩) ⟨kB_blind, va_recv hK hP (ci := 9) (q0 := 0) rfl rfl, fun U hU hW => ⟨rfl, by rw [hU], by rw [hU]; exact hP.sub [0, 1, 2, 3, 4, 5, 6, 7, 8, 9, 10] rfl, va_K.moved hW.alike hK, (hD.sub [0, 1, 2, 3, 4, 5, 6, 7, 8, 9, 10] (by decide) rfl).weaken (fun _ _ _ _ => trivial)⟩⟩ rfl rfl hl.1 rfl (lv_room (Nat.le_of_ble_eq_true rfl)) dX10_set_33 ⟨Nat.le_of_ble_eq_true rfl, Nat.le_of_ble_eq_true rfl⟩) hS (fun q _ h => hF q h) hF (fun r_16 u_16 t H1 locs ht hvm hw_16 hB hz1 hk1 hS => ?_)
        obtain ⟨fa2_16, gi2_16⟩ := u_16
        obtain ⟨hP, hD⟩ := kk_join2 (wc := [(m0, .inr (9, [.int i0, .ref a1, .int (nI (cSp C)), .ref a3, .int (nI (cLa C)), .ref a5, .ref a6, .ref a7, .int (nI (cAg C)), .int (-9 : Int32), .int i10, .int i11, .int i12, .ref a13, .ref a14, .ref a15, .ref a16, .int (nI (mN T)), .ref a18, .ref a19, .ref a20, .ref a21, .ref a22, .ref a23, .ref a24, .ref a25, .int (nI (mN E)), .ref a27, .ref a28, .ref a29, .ref a30, .ref a31, .ref a32, .ref a33, .ref a34, .int i35])), (a1, .inl (cI, 6, .inl sk)), (a3, .inl (cI, 4, .inl sh)), (a5, .inl (cI, 4, .inl ki)), (a6, .inl (cI, 4, .inl st)), (a7, .inl (cI, 4, .inl cl)), (a18, .inl (cI, 9, .inl mo)), (a19, .inl (cI, 9, .inl mi)), (a20, .inl (cI, 9, .inl mt)), (a21, .inl (cI, 96, .inl fa)), (a22, .inl (cI, 96, .inl gi))]) (w1 := [(m0, .inr (9, [.int i0, .ref a1, .int (nI (cSp C)), .ref a3, .int (nI (cLa C)), .ref a5, .ref a6, .ref a7, .int (nI (cAg C)), .int (-9 : Int32), .int i10, .int i11, .int i12, .ref a13, .ref a14, .ref a15, .ref a16, .int (nI (mN T)), .ref a18, .ref a19, .ref a20, .ref a21, .ref a22, .ref a23, .ref a24, .ref a25, .int (nI (mN E)), .ref a27, .ref a28, .ref a29, .ref a30, .ref a31, .ref a32, .ref a33, .ref a34, .int i35])), (a1, .inl (cI, 6, .inl sk)), (a3, .inl (cI, 4, .inl sh)), (a5, .inl (cI, 4, .inl ki)), (a6, .inl (cI, 4, .inl st)), (a7, .inl (cI, 4, .inl cl)), (a18, .inl (cI, 9, .inl mo)), (a19, .inl (cI, 9, .inl mi)), (a20, .inl (cI, 9, .inl mt)), (a21, .inl (cI, 96, .inl fa2_16)), (a22, .inl (cI, 96, .inl gi2_16))]) (ws' := [(m0, .inr (9, [.int i0, .ref a1, .int (nI (cSp C)), .ref a3, .int (nI (cLa C)), .ref a5, .ref a6, .ref a7, .int (nI (cAg C)), .int (-9 : Int32), .int i10, .int i11, .int i12, .ref a13, .ref a14, .ref a15, .ref a16, .int (nI (mN T)), .ref a18, .ref a19, .ref a20, .ref a21, .ref a22, .ref a23, .ref a24, .ref a25, .int (nI (mN E)), .ref a27, .ref a28, .ref a29, .ref a30, .ref a31, .ref a32, .ref a33, .ref a34, .int i35])), (a1, .inl (cI, 6, .inl sk)), (a3, .inl (cI, 4, .inl sh)), (a5, .inl (cI, 4, .inl ki)), (a6, .inl (cI, 4, .inl st)), (a7, .inl (cI, 4, .inl cl)), (a18, .inl (cI, 9, .inl mo)), (a19, .inl (cI, 9, .inl mi)), (a20, .inl (cI, 9, .inl mt)), (a21, .inl (cI, 96, .inl fa2_16)), (a22, .inl (cI, 96, .inl gi2_16))]) (wr := []) (H1 := H1) hP hD [0, 1, 2, 3, 4, 5, 6, 7, 8, 9, 10] [] rfl rfl rfl rfl 11 rfl (by decide) [m0, a1, a3, a5, a6, a7, a18, a19, a20, a21, a22] rfl rfl hk1 (by rw [← ht]; exact hB)
        have hw_16 : r_16 = nI (Li C (plc T (cSt C)) x1N x2N) ∧ True := hw_16
        clear hF hB hk1 hz1 hvm
        clear ht
        generalize H1 = H at hP hS ⊢
        obtain ⟨rfl, hw_16⟩ := hw_16
        refine lv_istore (lv' := [(4, .int (nI (Li C (plc T (cSt C)) x1N x2N))), (0, .ref m0), (1, .int (nI x1N)), (2, .int (nI x2N)), (3, .int (nI x3N))]) hx hb dX10_set_36 hl (by decide) rfl (fun ls hl => ?_)
        have e_17 : nI (Li C (plc T (cSt C)) x1N x2N) = iI (bL C T x1N x2N 0).2 := by
          exact (iI_n _).symm
        rw [e_17] at hl
        refine lv_bipush (v := (-9 : Int32)) hx hb dX10_set_38 (by decide +kernel) ?_
        refine lv_istore (lv' := [(5, .int (-9 : Int32)), (4, .int (iI (bL C T x1N x2N 0).2)), (0, .ref m0), (1, .int (nI x1N)), (2, .int (nI x2N)), (3, .int (nI x3N))]) hx hb dX10_set_40 hl (by decide) rfl (fun ls hl => ?_)
        refine lv_aload_n hx hb dX10_set_42 rfl (lv_at hl 2 rfl) ?_
        refine lv_dup hx hb dX10_set_43 rfl ?_
        refine va_get (D := D) (ci := 9) (v := .int (nI (mN T))) (C := RX10) (T := TX10) (N := 36) hx hb hts hwX10 hown hK hP 0 rfl rfl 17 (by decide) hf_161 (fun _ h9 => h9) rfl dX10_set_44 ?_
        refine lv_iconst (v := nI 1) hx hb dX10_set_47 (by decide +kernel) ?_
        refine kk_iadd hx hb dX10_set_48 ?_
        refine va_put (D := D) (ci := 9) (v := .int (nI ((mN T) + 1))) (ty := .int) (C := RX10) (T := TX10) (N := 36) hx hb hts hwX10 tyX10 tyX10_ok nmX10 hown hK hP hD hS 0 rfl rfl 17 (by decide) hf_161 (fun _ h9 => h9) rfl (by decide +kernel) rfl rfl (Nat.le_of_ble_eq_true rfl) dX10_set_49 (fun H locs hP hD hS => ?_)
        have hP : va_P D vwCl [(m0, .inr (9, [.int i0, .ref a1, .int (nI (cSp C)), .ref a3, .int (nI (cLa C)), .ref a5, .ref a6, .ref a7, .int (nI (cAg C)), .int (-9 : Int32), .int i10, .int i11, .int i12, .ref a13, .ref a14, .ref a15, .ref a16, .int (nI ((mN T) + 1)), .ref a18, .ref a19, .ref a20, .ref a21, .ref a22, .ref a23, .ref a24, .ref a25, .int (nI (mN E)), .ref a27, .ref a28, .ref a29, .ref a30, .ref a31, .ref a32, .ref a33, .ref a34, .int i35])), (a1, .inl (cI, 6, .inl sk)), (a3, .inl (cI, 4, .inl sh)), (a5, .inl (cI, 4, .inl ki)), (a6, .inl (cI, 4, .inl st)), (a7, .inl (cI, 4, .inl cl)), (a18, .inl (cI, 9, .inl mo)), (a19, .inl (cI, 9, .inl mi)), (a20, .inl (cI, 9, .inl mt)), (a21, .inl (cI, 96, .inl fa2_16)), (a22, .inl (cI, 96, .inl gi2_16))] H := hP
        have hD : va_D A [(m0, .inr (9, [.int i0, .ref a1, .int (nI (cSp C)), .ref a3, .int (nI (cLa C)), .ref a5, .ref a6, .ref a7, .int (nI (cAg C)), .int (-9 : Int32), .int i10, .int i11, .int i12, .ref a13, .ref a14, .ref a15, .ref a16, .int (nI ((mN T) + 1)), .ref a18, .ref a19, .ref a20, .ref a21, .ref a22, .ref a23, .ref a24, .ref a25, .int (nI (mN E)), .ref a27, .ref a28, .ref a29, .ref a30, .ref a31, .ref a32, .ref a33, .ref a34, .int i35])), (a1, .inl (cI, 6, .inl sk)), (a3, .inl (cI, 4, .inl sh)), (a5, .inl (cI, 4, .inl ki)), (a6, .inl (cI, 4, .inl st)), (a7, .inl (cI, 4, .inl cl)), (a18, .inl (cI, 9, .inl mo)), (a19, .inl (cI, 9, .inl mi)), (a20, .inl (cI, 9, .inl mt)), (a21, .inl (cI, 96, .inl fa2_16)), (a22, .inl (cI, 96, .inl gi2_16))] := hD
        refine lv_iconst (v := nI 0) hx hb dX10_set_52 (by decide +kernel) ?_
        refine lv_istore (lv' := [(6, .int (nI 0)), (5, .int (-9 : Int32)), (4, .int (iI (bL C T x1N x2N 0).2)), (0, .ref m0), (1, .int (nI x1N)), (2, .int (nI x2N)), (3, .int (nI x3N))]) hx hb dX10_set_53 hl (by decide) rfl (fun ls hl => ?_)
        have L_55 : ∀ (n_55 : Nat) (x : Nat) (moX : Nat → Int32) (miX : Nat → Int32) (mtX : Nat → Int32) (faX : Nat → Int32) (giX : Nat → Int32), (x ≤ cLa C * 24 * cSp C) → (repM T moX miX mtX) → cLa C * 24 * cSp C + 1 ≤ x + n_55 → ∀ (H : Heap) (locs : List Loc), va_P D vwCl [(m0, .inr (9, [.int i0, .ref a1, .int (nI (cSp C)), .ref a3, .int (nI (cLa C)), .ref a5, .ref a6, .ref a7, .int (nI (cAg C)), .int (-9 : Int32), .int i10, .int i11, .int i12, .ref a13, .ref a14, .ref a15, .ref a16, .int (nI ((mN T) + 1)), .ref a18, .ref a19, .ref a20, .ref a21, .ref a22, .ref a23, .ref a24, .ref a25, .int (nI (mN E)), .ref a27, .ref a28, .ref a29, .ref a30, .ref a31, .ref a32, .ref a33, .ref a34, .int i35])), (a1, .inl (cI, 6, .inl sk)), (a3, .inl (cI, 4, .inl sh)), (a5, .inl (cI, 4, .inl ki)), (a6, .inl (cI, 4, .inl st)), (a7, .inl (cI, 4, .inl cl)), (a18, .inl (cI, 9, .inl moX)), (a19, .inl (cI, 9, .inl miX)), (a20, .inl (cI, 9, .inl mtX)), (a21, .inl (cI, 96, .inl faX)), (a22, .inl (cI, 96, .inl giX))] H → va_D A [(m0, .inr (9, [.int i0, .ref a1, .int (nI (cSp C)), .ref a3, .int (nI (cLa C)), .ref a5, .ref a6, .ref a7, .int (nI (cAg C)), .int (-9 : Int32), .int i10, .int i11, .int i12, .ref a13, .ref a14, .ref a15, .ref a16, .int (nI ((mN T) + 1)), .ref a18, .ref a19, .ref a20, .ref a21, .ref a22, .ref a23, .ref a24, .ref a25, .int (nI (mN E)), .ref a27, .ref a28, .ref a29, .ref a30, .ref a31, .ref a32, .ref a33, .ref a34, .int i35])), (a1, .inl (cI, 6, .inl sk)), (a3, .inl (cI, 4, .inl sh)), (a5, .inl (cI, 4, .inl ki)), (a6, .inl (cI, 4, .inl st)), (a7, .inl (cI, 4, .inl cl)), (a18, .inl (cI, 9, .inl moX)), (a19, .inl (cI, 9, .inl miX)), (a20, .inl (cI, 9, .inl mtX)), (a21, .inl (cI, 96, .inl faX)), (a22, .inl (cI, 96, .inl giX))] → va_S A sS.heap H locs → ∀ (ls : Array Slot), lv_has ls 8 [(6, .int (nI x)), (5, .int ((bL C T x1N x2N x).1)), (4, .int (iI (bL C T x1N x2N x).2)), (0, .ref m0), (1, .int (nI x1N)), (2, .int (nI x2N)), (3, .int (nI x3N))] → W pP lL eE (headSpec wsX10_set rmX10_set).room sS mM ([.ref m0, .int (nI x1N), .int (nI x2N), .int (nI x3N)]).toArray below meth cC H locs 0 0 QQ (F0 mM 55 ls []) := by
          intro n_55
          induction n_55 with
          | zero =>
            intro x moX miX mtX faX giX hx9 hrX hn_55 H locs hP hD hS ls hl
            exact absurd hn_55 (by omega)
          | succ n_55 ih_55 =>
            intro x moX miX mtX faX giX hx9 hrX hn_55 H locs hP hD hS ls hl
            have hpr := aM_le hxa hxs
            have hbd := bL_bd hC T  x1N x2N x
            refine lv_iload hx hb dX10_set_55 (lv_at hl 0 rfl) ?_
            refine lv_aload_n hx hb dX10_set_57 rfl (lv_at hl 3 rfl) ?_
            refine va_get (D := D) (ci := 9) (v := .int (nI (cLa C))) (C := RX10) (T := TX10) (N := 36) hx hb hts hwX10 hown hK hP 0 rfl rfl 4 (by decide) hf_105 (fun _ h9 => h9) rfl dX10_set_58 ?_
            refine lv_bipush (v := nI 24) hx hb dX10_set_61 (by decide +kernel) ?_
            refine kk_imul hx hb dX10_set_63 ?_
            refine lv_aload_n hx hb dX10_set_64 rfl (lv_at hl 3 rfl) ?_
            refine va_get (D := D) (ci := 9) (v := .int (nI (cSp C))) (C := RX10) (T := TX10) (N := 36) hx hb hts hwX10 hown hK hP 0 rfl rfl 2 (by decide) hf_98 (fun _ h9 => h9) rfl dX10_set_65 ?_
            refine kk_imul hx hb dX10_set_68 ?_
            refine kk_icmp_ge (tgt := 157) hx hb dX10_set_69 (by decide) (by omega) (by omega) (fun c_18 => ?_) (fun c_18 => ?_)
            · skip
              refine lv_aload_n hx hb dX10_set_157 rfl (lv_at hl 3 rfl) ?_
              refine lv_dup hx hb dX10_set_158 rfl ?_
              refine va_get (D := D) (ci := 9) (v := .int (nI ((mN T) + 1))) (C := RX10) (T := TX10) (N := 36) hx hb hts hwX10 hown hK hP 0 rfl rfl 17 (by decide) hf_161 (fun _ h9 => h9) rfl dX10_set_159 ?_
              refine lv_iconst (v := nI 1) hx hb dX10_set_162 (by decide +kernel) ?_
              refine kk_isub hx hb dX10_set_163 (by omega) ?_
              refine va_put (D := D) (ci := 9) (v := .int (nI (((mN T) + 1) - 1))) (ty := .int) (C := RX10) (T := TX10) (N := 36) hx hb hts hwX10 tyX10 tyX10_ok nmX10 hown hK hP hD hS 0 rfl rfl 17 (by decide) hf_161 (fun _ h9 => h9) rfl (by decide +kernel) rfl rfl (Nat.le_of_ble_eq_true rfl) dX10_set_164 (fun H locs hP hD hS => ?_)
              have hP : va_P D vwCl [(m0, .inr (9, [.int i0, .ref a1, .int (nI (cSp C)), .ref a3, .int (nI (cLa C)), .ref a5, .ref a6, .ref a7, .int (nI (cAg C)), .int (-9 : Int32), .int i10, .int i11, .int i12, .ref a13, .ref a14, .ref a15, .ref a16, .int (nI (((mN T) + 1) - 1)), .ref a18, .ref a19, .ref a20, .ref a21, .ref a22, .ref a23, .ref a24, .ref a25, .int (nI (mN E)), .ref a27, .ref a28, .ref a29, .ref a30, .ref a31, .ref a32, .ref a33, .ref a34, .int i35])), (a1, .inl (cI, 6, .inl sk)), (a3, .inl (cI, 4, .inl sh)), (a5, .inl (cI, 4, .inl ki)), (a6, .inl (cI, 4, .inl st)), (a7, .inl (cI, 4, .inl cl)), (a18, .inl (cI, 9, .inl moX)), (a19, .inl (cI, 9, .inl miX)), (a20, .inl (cI, 9, .inl mtX)), (a21, .inl (cI, 96, .inl faX)), (a22, .inl (cI, 96, .inl giX))] H := hP
              have hD : va_D A [(m0, .inr (9, [.int i0, .ref a1, .int (nI (cSp C)), .ref a3, .int (nI (cLa C)), .ref a5, .ref a6, .ref a7, .int (nI (cAg C)), .int (-9 : Int32), .int i10, .int i11, .int i12, .ref a13, .ref a14, .ref a15, .ref a16, .int (nI (((mN T) + 1) - 1)), .ref a18, .ref a19, .ref a20, .ref a21, .ref a22, .ref a23, .ref a24, .ref a25, .int (nI (mN E)), .ref a27, .ref a28, .ref a29, .ref a30, .ref a31, .ref a32, .ref a33, .ref a34, .int i35])), (a1, .inl (cI, 6, .inl sk)), (a3, .inl (cI, 4, .inl sh)), (a5, .inl (cI, 4, .inl ki)), (a6, .inl (cI, 4, .inl st)), (a7, .inl (cI, 4, .inl cl)), (a18, .inl (cI, 9, .inl moX)), (a19, .inl (cI, 9, .inl miX)), (a20, .inl (cI, 9, .inl mtX)), (a21, .inl (cI, 96, .inl faX)), (a22, .inl (cI, 96, .inl giX))] := hD
              refine lv_iload_n hx hb dX10_set_167 rfl (lv_at hl 6 rfl) ?_
              refine kk_if_ne (tgt := 176) hx hb dX10_set_168 (by decide) (by omega) (fun c_19 => ?_) (fun c_19 => ?_)
              · skip
                refine lv_iload hx hb dX10_set_176 (lv_at hl 2 rfl) ?_
                have hq : (iI (bL C T x1N x2N x).2) = sp_set C T (nI x1N) (nI x2N) (nI x3N) ∧ repM T moX miX mtX := by
                  refine ⟨?_, hrX⟩
                  simp only [sp_set, hb_3, hb_5, hb_7, t_x1, t_x2, t_x3, cond_true, cond_false]
                  rw [if_neg (show ¬ x3N = 0 by omega), show aM C = x by show cLa C * 24 * cSp C = x; omega]
                refine kk_QQ hQQ ?_
                exact W.iret (v := iI (bL C T x1N x2N x).2) hx hb hr (fun t ht hW => ⟨⟨iI (bL C T x1N x2N x).2, (moX, miX, mtX, faX, giX), rfl, hq, by show va_P D vwCl _ t.heap; rw [ht]; exact hP⟩, hS.F ht⟩) hS.2.2 dX10_set_178
              · skip
                refine lv_iload hx hb dX10_set_171 (lv_at hl 1 rfl) ?_
                refine lv_goto (tgt := 178) hx hb dX10_set_173 (by decide) ?_
                have hq : ((bL C T x1N x2N x).1) = sp_set C T (nI x1N) (nI x2N) (nI x3N) ∧ repM T moX miX mtX := by
                  refine ⟨?_, hrX⟩
                  simp only [sp_set, hb_3, hb_5, hb_7, t_x1, t_x2, t_x3, cond_true, cond_false]
                  rw [if_pos (show x3N = 0 by omega), show aM C = x by show cLa C * 24 * cSp C = x; omega]
                refine kk_QQ hQQ ?_
                exact W.iret (v := (bL C T x1N x2N x).1) hx hb hr (fun t ht hW => ⟨⟨(bL C T x1N x2N x).1, (moX, miX, mtX, faX, giX), rfl, hq, by show va_P D vwCl _ t.heap; rw [ht]; exact hP⟩, hS.F ht⟩) hS.2.2 dX10_set_178
            · skip
              obtain ⟨q1, q2, q3⟩ := aM_at (Nat.lt_of_not_le c_18)
              refine lv_aload_n hx hb dX10_set_72 rfl (lv_at hl 3 rfl) ?_
              refine lv_aload_n hx hb dX10_set_73 rfl (lv_at hl 3 rfl) ?_
              refine va_get (D := D) (ci := 9) (v := .int (nI ((mN T) + 1))) (C := RX10) (T := TX10) (N := 36) hx hb hts hwX10 hown hK hP 0 rfl rfl 17 (by decide) hf_161 (fun _ h9 => h9) rfl dX10_set_74 ?_
              refine lv_iconst (v := nI 1) hx hb dX10_set_77 (by decide +kernel) ?_
              refine kk_isub hx hb dX10_set_78 (by omega) ?_
              refine lv_iload hx hb dX10_set_79 (lv_at hl 0 rfl) ?_
              refine lv_aload_n hx hb dX10_set_81 rfl (lv_at hl 3 rfl) ?_
              refine va_get (D := D) (ci := 9) (v := .int (nI (cSp C))) (C := RX10) (T := TX10) (N := 36) hx hb hts hwX10 hown hK hP 0 rfl rfl 2 (by decide) hf_98 (fun _ h9 => h9) rfl dX10_set_82 ?_
              refine kk_idiv hx hb dX10_set_85 (by omega) (by omega) (by omega) ?_
              refine lv_bipush (v := nI 24) hx hb dX10_set_86 (by decide +kernel) ?_
              refine kk_idiv hx hb dX10_set_88 (by omega) (by omega) (by omega) ?_
              refine lv_iload hx hb dX10_set_89 (lv_at hl 0 rfl) ?_
              refine lv_aload_n hx hb dX10_set_91 rfl (lv_at hl 3 rfl) ?_
              refine va_get (D := D) (ci := 9) (v := .int (nI (cSp C))) (C := RX10) (T := TX10) (N := 36) hx hb hts hwX10 hown hK hP 0 rfl rfl 2 (by decide) hf_98 (fun _ h9 => h9) rfl dX10_set_92 ?_
              refine kk_idiv hx hb dX10_set_95 (by omega) (by omega) (by omega) ?_
              refine lv_bipush (v := nI 24) hx hb dX10_set_96 (by decide +kernel) ?_
              refine kk_irem hx hb dX10_set_98 (by omega) (by omega) (by omega) ?_
              refine lv_iload hx hb dX10_set_99 (lv_at hl 0 rfl) ?_
              refine lv_aload_n hx hb dX10_set_101 rfl (lv_at hl 3 rfl) ?_
              refine va_get (D := D) (ci := 9) (v := .int (nI (cSp C))) (C := RX10) (T := TX10) (N := 36) hx hb hts hwX10 hown hK hP 0 rfl rfl 2 (by decide) hf_98 (fun _ h9 => h9) rfl dX10_set_102 ?_
              refine kk_irem hx hb dX10_set_105 (by omega) (by omega) (by omega) ?_
              have o_20 : (((mN T) + 1) - 1) < 9 := by omega
              have hF := va_free (wc := [(m0, .inr (9, [.int i0, .ref a1, .int (nI (cSp C)), .ref a3, .int (nI (cLa C)), .ref a5, .ref a6, .ref a7, .int (nI (cAg C)), .int (-9 : Int32), .int i10, .int i11, .int i12, .ref a13, .ref a14, .ref a15, .ref a16, .int (nI ((mN T) + 1)), .ref a18, .ref a19, .ref a20, .ref a21, .ref a22, .ref a23, .ref a24, .ref a25, .int (nI (mN E)), .ref a27, .ref a28, .ref a29, .ref a30, .ref a31, .ref a32, .ref a33, .ref a34, .int i35])), (a18, .inl (cI, 9, .inl moX)), (a19, .inl (cI, 9, .inl miX)), (a20, .inl (cI, 9, .inl mtX))]) hD hS hA [0, 6, 7, 8] rfl
              refine va_callv (va_runV (As := [.int (nI (((mN T) + 1) - 1)), .int (nI ((x / (cSp C)) / 24)), .int (nI ((x / (cSp C)) % 24)), .int (nI (x % (cSp C)))]) (rest := []) ⟨hx, hb, hml, hown, hts⟩ (c_X10_layMove lL D cI cS _ m0 a1 a3 a5 a6 a7 a13 a14 a15 a16 a18 a19 a20 a21 a22 a23 a24 a25 a27 a28 a29 a30 a31 a32 a33 a34 i0 (nI (cSp C)) (nI (cLa C)) (nI (cAg C)) (-9 : Int32) i10 i11 i12 (nI ((mN T) + 1)) (nI (mN E)) i35 moX miX mtX (((mN T) + 1) - 1) (nI ((x / (cSp C)) / 24)) (nI ((x / (cSp C)) % 24)) (nI (x % (cSp C))) o_20) (cwV 4 hts gX10_set_X10_layMove rfl rfl rfl cd_X10_layMove ⟨Nat.le_of_ble_eq_true rfl, Nat.le_of_ble_eq_true rfl⟩) ⟨kB_blind, va_recv hK hP (ci := 9) (q0 := 0) rfl rfl, fun U hU hW => ⟨rfl, by rw [hU], by rw [hU]; exact hP.sub [0, 6, 7, 8] rfl, va_K.moved hW.alike hK, (hD.sub [0, 6, 7, 8] (by decide) rfl).weaken (fun _ _ _ _ => trivial)⟩⟩ rfl rfl hl.1 rfl (lv_room (Nat.le_of_ble_eq_true rfl)) dX10_set_106 ⟨Nat.le_of_ble_eq_true rfl, Nat.le_of_ble_eq_true rfl⟩) hS (fun q _ h => hF q h) hF (fun u_21 t H1 locs ht hvm hw_21 hB hz1 hk1 hS => ?_)
              obtain ⟨hP, hD⟩ := kk_join2 (wc := [(m0, .inr (9, [.int i0, .ref a1, .int (nI (cSp C)), .ref a3, .int (nI (cLa C)), .ref a5, .ref a6, .ref a7, .int (nI (cAg C)), .int (-9 : Int32), .int i10, .int i11, .int i12, .ref a13, .ref a14, .ref a15, .ref a16, .int (nI ((mN T) + 1)), .ref a18, .ref a19, .ref a20, .ref a21, .ref a22, .ref a23, .ref a24, .ref a25, .int (nI (mN E)), .ref a27, .ref a28, .ref a29, .ref a30, .ref a31, .ref a32, .ref a33, .ref a34, .int i35])), (a18, .inl (cI, 9, .inl moX)), (a19, .inl (cI, 9, .inl miX)), (a20, .inl (cI, 9, .inl mtX))]) (w1 := [(m0, .inr (9, [.int i0, .ref a1, .int (nI (cSp C)), .ref a3, .int (nI (cLa C)), .ref a5, .ref a6, .ref a7, .int (nI (cAg C)), .int (-9 : Int32), .int i10, .int i11, .int i12, .ref a13, .ref a14, .ref a15, .ref a16, .int (nI ((mN T) + 1)), .ref a18, .ref a19, .ref a20, .ref a21, .ref a22, .ref a23, .ref a24, .ref a25, .int (nI (mN E)), .ref a27, .ref a28, .ref a29, .ref a30, .ref a31, .ref a32, .ref a33, .ref a34, .int i35])), (a18, .inl (cI, 9, .inl (upd moX (((mN T) + 1) - 1) (nI ((x / (cSp C)) / 24))))), (a19, .inl (cI, 9, .inl (upd miX (((mN T) + 1) - 1) (nI ((x / (cSp C)) % 24))))), (a20, .inl (cI, 9, .inl (upd mtX (((mN T) + 1) - 1) (nI (x % (cSp C))))))]) (ws' := [(m0, .inr (9, [.int i0, .ref a1, .int (nI (cSp C)), .ref a3, .int (nI (cLa C)), .ref a5, .ref a6, .ref a7, .int (nI (cAg C)), .int (-9 : Int32), .int i10, .int i11, .int i12, .ref a13, .ref a14, .ref a15, .ref a16, .int (nI ((mN T) + 1)), .ref a18, .ref a19, .ref a20, .ref a21, .ref a22, .ref a23, .ref a24, .ref a25, .int (nI (mN E)), .ref a27, .ref a28, .ref a29, .ref a30, .ref a31, .ref a32, .ref a33, .ref a34, .int i35])), (a1, .inl (cI, 6, .inl sk)), (a3, .inl (cI, 4, .inl sh)), (a5, .inl (cI, 4, .inl ki)), (a6, .inl (cI, 4, .inl st)), (a7, .inl (cI, 4, .inl cl)), (a18, .inl (cI, 9, .inl (upd moX (((mN T) + 1) - 1) (nI ((x / (cSp C)) / 24))))), (a19, .inl (cI, 9, .inl (upd miX (((mN T) + 1) - 1) (nI ((x / (cSp C)) % 24))))), (a20, .inl (cI, 9, .inl (upd mtX (((mN T) + 1) - 1) (nI (x % (cSp C)))))), (a21, .inl (cI, 96, .inl faX)), (a22, .inl (cI, 96, .inl giX))]) (wr := [(a1, .inl (cI, 6, .inl sk)), (a3, .inl (cI, 4, .inl sh)), (a5, .inl (cI, 4, .inl ki)), (a6, .inl (cI, 4, .inl st)), (a7, .inl (cI, 4, .inl cl)), (a21, .inl (cI, 96, .inl faX)), (a22, .inl (cI, 96, .inl giX))]) (H1 := H1) hP hD [0, 6, 7, 8] [1, 2, 3, 4, 5, 9, 10] rfl rfl rfl rfl 11 rfl (by decide) [m0, a1, a3, a5, a6, a7, a18, a19, a20, a21, a22] rfl rfl hk1 (by rw [← ht]; exact hB)
              have hw_21 : True := hw_21
              clear hF hB hk1 hz1 hvm
              clear ht
              generalize H1 = H at hP hS ⊢
              refine lv_aload_n hx hb dX10_set_109 rfl (lv_at hl 3 rfl) ?_
              refine lv_iload_n hx hb dX10_set_110 rfl (lv_at hl 4 rfl) ?_
              refine lv_iload_n hx hb dX10_set_111 rfl (lv_at hl 5 rfl) ?_
              -- differs: mo : mN (mApp T (x / cSp C / 24) (x / cSp C % 24) (x % cSp C)) / (mN T) + 1
              -- differs: mo : mN (mApp T (x / cSp C / 24) (x / cSp C % 24) (x % cSp C)) / (mN T) + 1
              -- differs: mo : mN (mApp T (x / cSp C / 24) (x / cSp C % 24) (x % cSp C)) / (mN T) + 1
              have o_22 : okC C := by exact hC
              have o_23 : ok9 C (mApp T (x / cSp C / 24) (x / cSp C % 24) (x % cSp C)) := by exact ok9_app hM0 q1 q2 q3
              have o_24 : ∀ k, k < cLa C → st k = nI (cSt C k) := by exact hst
              have o_25 : repM (mApp T (x / cSp C / 24) (x / cSp C % 24) (x % cSp C)) (upd moX (((mN T) + 1) - 1) (nI ((x / (cSp C)) / 24))) (upd miX (((mN T) + 1) - 1) (nI ((x / (cSp C)) % 24))) (upd mtX (((mN T) + 1) - 1) (nI (x % (cSp C)))) := by exact repM_app hrX
              have o_26 : kdM C 9 (-9 : Int32) (cKi C) ki := by exact hkd
              have o_27 : repB C sk sh cl := by exact hrB
              have o_28 : x1N < cSp C := by omega
              have o_29 : x2N < 24 := by omega
              have hF := va_free (wc := [(m0, .inr (9, [.int i0, .ref a1, .int (nI (cSp C)), .ref a3, .int (nI (cLa C)), .ref a5, .ref a6, .ref a7, .int (nI (cAg C)), .int (-9 : Int32), .int i10, .int i11, .int i12, .ref a13, .ref a14, .ref a15, .ref a16, .int (nI (mN (mApp T (x / cSp C / 24) (x / cSp C % 24) (x % cSp C)))), .ref a18, .ref a19, .ref a20, .ref a21, .ref a22, .ref a23, .ref a24, .ref a25, .int (nI (mN E)), .ref a27, .ref a28, .ref a29, .ref a30, .ref a31, .ref a32, .ref a33, .ref a34, .int i35])), (a1, .inl (cI, 6, .inl sk)), (a3, .inl (cI, 4, .inl sh)), (a5, .inl (cI, 4, .inl ki)), (a6, .inl (cI, 4, .inl st)), (a7, .inl (cI, 4, .inl cl)), (a18, .inl (cI, 9, .inl (upd moX (((mN T) + 1) - 1) (nI ((x / (cSp C)) / 24))))), (a19, .inl (cI, 9, .inl (upd miX (((mN T) + 1) - 1) (nI ((x / (cSp C)) % 24))))), (a20, .inl (cI, 9, .inl (upd mtX (((mN T) + 1) - 1) (nI (x % (cSp C)))))), (a21, .inl (cI, 96, .inl faX)), (a22, .inl (cI, 96, .inl giX))]) hD hS hA [0, 1, 2, 3, 4, 5, 6, 7, 8, 9, 10] rfl
              refine va_calli (va_runV (As := [.int (nI x1N), .int (nI x2N)]) (rest := []) ⟨hx, hb, hml, hown, hts⟩ (c_X10_lightBy lL D cI cS _ C (mApp T (x / cSp C / 24) (x / cSp C % 24) (x % cSp C)) 9 (cKi C) m0 a1 a3 a5 a6 a7 a13 a14 a15 a16 a18 a19 a20 a21 a22 a23 a24 a25 a27 a28 a29 a30 a31 a32 a33 a34 i0 (nI (cSp C)) (-9 : Int32) i10 i11 i12 (nI (mN E)) i35 sk sh ki st cl (upd moX (((mN T) + 1) - 1) (nI ((x / (cSp C)) / 24))) (upd miX (((mN T) + 1) - 1) (nI ((x / (cSp C)) % 24))) (upd mtX (((mN T) + 1) - 1) (nI (x % (cSp C)))) faX giX x1N x2N o_22 o_23 o_24 o_25 o_26 o_27 o_28 o_29) (cwV 2 hts gX10_set_X10_lightBy rfl rfl rfl cd_X10_lightBy ⟨Nat.le_of_ble_eq_true rfl, Nat.le_of_ble_eq_true rfl⟩) ⟨kB_blind, va_recv hK hP (ci := 9) (q0 := 0) rfl rfl, fun U hU hW => ⟨rfl, by rw [hU], by rw [hU]; exact hP.sub [0, 1, 2, 3, 4, 5, 6, 7, 8, 9, 10] rfl, va_K.moved hW.alike hK, (hD.sub [0, 1, 2, 3, 4, 5, 6, 7, 8, 9, 10] (by decide) rfl).weaken (fun _ _ _ _ => trivial)⟩⟩ rfl rfl hl.1 rfl (lv_room (Nat.le_of_ble_eq_true rfl)) dX10_set_112 ⟨Nat.le_of_ble_eq_true rfl, Nat.le_of_ble_eq_true rfl⟩) hS (fun q _ h => hF q h) hF (fun r_30 u_30 t H1 locs ht hvm hw_30 hB hz1 hk1 hS => ?_)
              obtain ⟨fa2_30, gi2_30⟩ := u_30
              obtain ⟨hP, hD⟩ := kk_join2 (wc := [(m0, .inr (9, [.int i0, .ref a1, .int (nI (cSp C)), .ref a3, .int (nI (cLa C)), .ref a5, .ref a6, .ref a7, .int (nI (cAg C)), .int (-9 : Int32), .int i10, .int i11, .int i12, .ref a13, .ref a14, .ref a15, .ref a16, .int (nI (mN (mApp T (x / cSp C / 24) (x / cSp C % 24) (x % cSp C)))), .ref a18, .ref a19, .ref a20, .ref a21, .ref a22, .ref a23, .ref a24, .ref a25, .int (nI (mN E)), .ref a27, .ref a28, .ref a29, .ref a30, .ref a31, .ref a32, .ref a33, .ref a34, .int i35])), (a1, .inl (cI, 6, .inl sk)), (a3, .inl (cI, 4, .inl sh)), (a5, .inl (cI, 4, .inl ki)), (a6, .inl (cI, 4, .inl st)), (a7, .inl (cI, 4, .inl cl)), (a18, .inl (cI, 9, .inl (upd moX (((mN T) + 1) - 1) (nI ((x / (cSp C)) / 24))))), (a19, .inl (cI, 9, .inl (upd miX (((mN T) + 1) - 1) (nI ((x / (cSp C)) % 24))))), (a20, .inl (cI, 9, .inl (upd mtX (((mN T) + 1) - 1) (nI (x % (cSp C)))))), (a21, .inl (cI, 96, .inl faX)), (a22, .inl (cI, 96, .inl giX))]) (w1 := [(m0, .inr (9, [.int i0, .ref a1, .int (nI (cSp C)), .ref a3, .int (nI (cLa C)), .ref a5, .ref a6, .ref a7, .int (nI (cAg C)), .int (-9 : Int32), .int i10, .int i11, .int i12, .ref a13, .ref a14, .ref a15, .ref a16, .int (nI (mN (mApp T (x / cSp C / 24) (x / cSp C % 24) (x % cSp C)))), .ref a18, .ref a19, .ref a20, .ref a21, .ref a22, .ref a23, .ref a24, .ref a25, .int (nI (mN E)), .ref a27, .ref a28, .ref a29, .ref a30, .ref a31, .ref a32, .ref a33, .ref a34, .int i35])), (a1, .inl (cI, 6, .inl sk)), (a3, .inl (cI, 4, .inl sh)), (a5, .inl (cI, 4, .inl ki)), (a6, .inl (cI, 4, .inl st)), (a7, .inl (cI, 4, .inl cl)), (a18, .inl (cI, 9, .inl (upd moX (((mN T) + 1) - 1) (nI ((x / (cSp C)) / 24))))), (a19, .inl (cI, 9, .inl (upd miX (((mN T) + 1) - 1) (nI ((x / (cSp C)) % 24))))), (a20, .inl (cI, 9, .inl (upd mtX (((mN T) + 1) - 1) (nI (x % (cSp C)))))), (a21, .inl (cI, 96, .inl fa2_30)), (a22, .inl (cI, 96, .inl gi2_30))]) (ws' := [(m0, .inr (9, [.int i0, .ref a1, .int (nI (cSp C)), .ref a3, .int (nI (cLa C)), .ref a5, .ref a6, .ref a7, .int (nI (cAg C)), .int (-9 : Int32), .int i10, .int i11, .int i12, .ref a13, .ref a14, .ref a15, .ref a16, .int (nI ((mN T) + 1)), .ref a18, .ref a19, .ref a20, .ref a21, .ref a22, .ref a23, .ref a24, .ref a25, .int (nI (mN E)), .ref a27, .ref a28, .ref a29, .ref a30, .ref a31, .ref a32, .ref a33, .ref a34, .int i35])), (a1, .inl (cI, 6, .inl sk)), (a3, .inl (cI, 4, .inl sh)), (a5, .inl (cI, 4, .inl ki)), (a6, .inl (cI, 4, .inl st)), (a7, .inl (cI, 4, .inl cl)), (a18, .inl (cI, 9, .inl (upd moX (((mN T) + 1) - 1) (nI ((x / (cSp C)) / 24))))), (a19, .inl (cI, 9, .inl (upd miX (((mN T) + 1) - 1) (nI ((x / (cSp C)) % 24))))), (a20, .inl (cI, 9, .inl (upd mtX (((mN T) + 1) - 1) (nI (x % (cSp C)))))), (a21, .inl (cI, 96, .inl fa2_30)), (a22, .inl (cI, 96, .inl gi2_30))]) (wr := []) (H1 := H1) hP hD [0, 1, 2, 3, 4, 5, 6, 7, 8, 9, 10] [] rfl rfl rfl rfl 11 rfl (by decide) [m0, a1, a3, a5, a6, a7, a18, a19, a20, a21, a22] rfl rfl hk1 (by rw [← ht]; exact hB)
              have hw_30 : r_30 = nI (Li C (plc (mApp T (x / cSp C / 24) (x / cSp C % 24) (x % cSp C)) (cSt C)) x1N x2N) ∧ True := hw_30
              clear hF hB hk1 hz1 hvm
              clear ht
              generalize H1 = H at hP hS ⊢
              obtain ⟨rfl, hw_30⟩ := hw_30
              have hll := Li_le hC (plc (mApp T (x / cSp C / 24) (x / cSp C % 24) (x % cSp C)) (cSt C)) x1N x2N
              refine lv_istore (lv' := [(7, .int (nI (Li C (plc (mApp T (x / cSp C / 24) (x / cSp C % 24) (x % cSp C)) (cSt C)) x1N x2N))), (6, .int (nI x)), (5, .int ((bL C T x1N x2N x).1)), (4, .int (iI (bL C T x1N x2N x).2)), (0, .ref m0), (1, .int (nI x1N)), (2, .int (nI x2N)), (3, .int (nI x3N))]) hx hb dX10_set_115 hl (by decide) rfl (fun ls hl => ?_)
              refine lv_iload hx hb dX10_set_117 (lv_at hl 0 rfl) ?_
              refine lv_iload hx hb dX10_set_119 (lv_at hl 3 rfl) ?_
              refine lv_icmp_le (tgt := 131) hx hb dX10_set_121 (by decide) (fun c_31 => ?_) (fun c_31 => ?_)
              · skip
                have hc_31 := (iI_nle (a := Li C (plc (mApp T (x / cSp C / 24) (x / cSp C % 24) (x % cSp C)) (cSt C)) x1N x2N) (b := (bL C T x1N x2N x).2) (by omega) (by omega) (by omega)).mp c_31
                refine lv_iload hx hb dX10_set_131 (lv_at hl 2 rfl) ?_
                refine lv_istore (lv' := [(5, .int ((bL C T x1N x2N x).1)), (7, .int (nI (Li C (plc (mApp T (x / cSp C / 24) (x / cSp C % 24) (x % cSp C)) (cSt C)) x1N x2N))), (6, .int (nI x)), (4, .int (iI (bL C T x1N x2N x).2)), (0, .ref m0), (1, .int (nI x1N)), (2, .int (nI x2N)), (3, .int (nI x3N))]) hx hb dX10_set_133 hl (by decide) rfl (fun ls hl => ?_)
                refine lv_iload hx hb dX10_set_135 (lv_at hl 1 rfl) ?_
                refine lv_iload hx hb dX10_set_137 (lv_at hl 3 rfl) ?_
                refine lv_icmp_le (tgt := 147) hx hb dX10_set_139 (by decide) (fun c_32 => ?_) (fun c_32 => ?_)
                · skip
                  refine lv_iload hx hb dX10_set_147 (lv_at hl 3 rfl) ?_
                  refine lv_istore (lv' := [(4, .int (iI (bL C T x1N x2N x).2)), (5, .int ((bL C T x1N x2N x).1)), (7, .int (nI (Li C (plc (mApp T (x / cSp C / 24) (x / cSp C % 24) (x % cSp C)) (cSt C)) x1N x2N))), (6, .int (nI x)), (0, .ref m0), (1, .int (nI x1N)), (2, .int (nI x2N)), (3, .int (nI x3N))]) hx hb dX10_set_149 hl (by decide) rfl (fun ls hl => ?_)
                  have hlt : ¬ (bL C T x1N x2N x).2 < ((Li C (plc (mApp T (x / cSp C / 24) (x / cSp C % 24) (x % cSp C)) (cSt C)) x1N x2N : Nat) : Int) := by omega
                  have e_33 : (bL C T x1N x2N x).1 = (bL C T x1N x2N (x + 1)).1 := by
                    rw [bL_s, if_neg hlt]
                  rw [e_33] at hl
                  have e_34 : iI (bL C T x1N x2N x).2 = iI (bL C T x1N x2N (x + 1)).2 := by
                    rw [bL_s, if_neg hlt]
                  rw [e_34] at hl
                  refine lv_iinc (v := nI (x + 1)) (lv' := [(6, .int (nI (x + 1))), (4, .int (iI (bL C T x1N x2N (x + 1)).2)), (5, .int ((bL C T x1N x2N (x + 1)).1)), (7, .int (nI (Li C (plc (mApp T (x / cSp C / 24) (x / cSp C % 24) (x % cSp C)) (cSt C)) x1N x2N))), (0, .ref m0), (1, .int (nI x1N)), (2, .int (nI x2N)), (3, .int (nI x3N))]) hx hb dX10_set_151 hl (k := 3) rfl (nI_add x 1) (by decide) rfl (fun ls hl => ?_)
                  refine lv_goto (tgt := 55) hx hb dX10_set_154 (by decide) ?_
                  have o_35 : (x + 1) ≤ cLa C * 24 * cSp C := by omega
                  have o_36 : repM T (upd moX (((mN T) + 1) - 1) (nI ((x / (cSp C)) / 24))) (upd miX (((mN T) + 1) - 1) (nI ((x / (cSp C)) % 24))) (upd mtX (((mN T) + 1) - 1) (nI (x % (cSp C)))) := by exact fun i hi => by rw [up_ne _ _ (show i ≠ mN T + 1 - 1 by omega), up_ne _ _ (show i ≠ mN T + 1 - 1 by omega), up_ne _ _ (show i ≠ mN T + 1 - 1 by omega)]; exact hrX i hi
                  have o_37 : cLa C * 24 * cSp C + 1 ≤ (x + 1) + n_55 := by omega
                  exact ih_55 (x + 1) (upd moX (((mN T) + 1) - 1) (nI ((x / (cSp C)) / 24))) (upd miX (((mN T) + 1) - 1) (nI ((x / (cSp C)) % 24))) (upd mtX (((mN T) + 1) - 1) (nI (x % (cSp C)))) fa2_30 gi2_30 o_35 o_36 o_37 _ _ hP hD hS ls (lv_sub hl [0, 2, 1, 4, 5, 6, 7] rfl)
                · skip
                  exact absurd c_31 c_32
              · skip
                have hc_31 := (not_congr (iI_nle (a := Li C (plc (mApp T (x / cSp C / 24) (x / cSp C % 24) (x % cSp C)) (cSt C)) x1N x2N) (b := (bL C T x1N x2N x).2) (by omega) (by omega) (by omega))).mp c_31
                refine lv_aload_n hx hb dX10_set_124 rfl (lv_at hl 4 rfl) ?_
                have o_38 : (mN T) < 9 := by omega
                have o_39 : (upd moX (((mN T) + 1) - 1) (nI ((x / (cSp C)) / 24))) (mN T) = nI (x / cSp C / 24) := by exact up_at _ _ _
                have o_40 : (upd miX (((mN T) + 1) - 1) (nI ((x / (cSp C)) % 24))) (mN T) = nI (x / cSp C % 24) := by exact up_at _ _ _
                have o_41 : (upd mtX (((mN T) + 1) - 1) (nI (x % (cSp C)))) (mN T) = nI (x % cSp C) := by exact up_at _ _ _
                refine vp_callSi (W.runV (As := []) (rest := []) ⟨hx, hb, hml, hown, hts⟩ (c_X10_toldMove lL D cI cS (mN T) (x / cSp C / 24) (x / cSp C % 24) (x % cSp C) m0 a1 a3 a5 a6 a7 a13 a14 a15 a16 a18 a19 a20 a21 a22 a23 a24 a25 a27 a28 a29 a30 a31 a32 a33 a34 i0 (nI (cSp C)) (nI (cLa C)) (nI (cAg C)) (-9 : Int32) i10 i11 i12 (nI (mN E)) i35 (upd moX (((mN T) + 1) - 1) (nI ((x / (cSp C)) / 24))) (upd miX (((mN T) + 1) - 1) (nI ((x / (cSp C)) % 24))) (upd mtX (((mN T) + 1) - 1) (nI (x % (cSp C)))) o_38 o_39 o_40 o_41) (cwV 0 hts gX10_set_X10_toldMove rfl rfl rfl cd_X10_toldMove ⟨Nat.le_of_ble_eq_true rfl, Nat.le_of_ble_eq_true rfl⟩) ⟨kBp_blind, va_recv hK hP (ci := 9) (q0 := 0) rfl rfl, fun U hU hW => ⟨rfl, by rw [hU]; exact hP.sub [0, 6, 7, 8] rfl, va_K.moved hW.alike hK⟩⟩ rfl rfl hl.1 rfl (lv_room (Nat.le_of_ble_eq_true rfl)) dX10_set_125 ⟨Nat.le_of_ble_eq_true rfl, Nat.le_of_ble_eq_true rfl⟩) (fun r_42 hw_42 => ?_)
                obtain rfl : r_42 = nI (1000 * (x / cSp C / 24) + 10 * (x / cSp C % 24) + (x % cSp C)) := hw_42
                refine lv_goto (tgt := 133) hx hb dX10_set_128 (by decide) ?_
                refine lv_istore (lv' := [(5, .int (nI (1000 * (x / cSp C / 24) + 10 * (x / cSp C % 24) + (x % cSp C)))), (7, .int (nI (Li C (plc (mApp T (x / cSp C / 24) (x / cSp C % 24) (x % cSp C)) (cSt C)) x1N x2N))), (6, .int (nI x)), (4, .int (iI (bL C T x1N x2N x).2)), (0, .ref m0), (1, .int (nI x1N)), (2, .int (nI x2N)), (3, .int (nI x3N))]) hx hb dX10_set_133 hl (by decide) rfl (fun ls hl => ?_)
                refine lv_iload hx hb dX10_set_135 (lv_at hl 1 rfl) ?_
                refine lv_iload hx hb dX10_set_137 (lv_at hl 3 rfl) ?_
                refine lv_icmp_le (tgt := 147) hx hb dX10_set_139 (by decide) (fun c_43 => ?_) (fun c_43 => ?_)
                · skip
                  exact absurd c_43 c_31
                · skip
                  refine lv_iload hx hb dX10_set_142 (lv_at hl 1 rfl) ?_
                  refine lv_goto (tgt := 149) hx hb dX10_set_144 (by decide) ?_
                  refine lv_istore (lv' := [(4, .int (nI (Li C (plc (mApp T (x / cSp C / 24) (x / cSp C % 24) (x % cSp C)) (cSt C)) x1N x2N))), (5, .int (nI (1000 * (x / cSp C / 24) + 10 * (x / cSp C % 24) + (x % cSp C)))), (7, .int (nI (Li C (plc (mApp T (x / cSp C / 24) (x / cSp C % 24) (x % cSp C)) (cSt C)) x1N x2N))), (6, .int (nI x)), (0, .ref m0), (1, .int (nI x1N)), (2, .int (nI x2N)), (3, .int (nI x3N))]) hx hb dX10_set_149 hl (by decide) rfl (fun ls hl => ?_)
                  have hlt : (bL C T x1N x2N x).2 < ((Li C (plc (mApp T (x / cSp C / 24) (x / cSp C % 24) (x % cSp C)) (cSt C)) x1N x2N : Nat) : Int) := by omega
                  have e_44 : nI (1000 * (x / cSp C / 24) + 10 * (x / cSp C % 24) + (x % cSp C)) = (bL C T x1N x2N (x + 1)).1 := by
                    rw [bL_s, if_pos hlt]
                  rw [e_44] at hl
                  have e_45 : nI (Li C (plc (mApp T (x / cSp C / 24) (x / cSp C % 24) (x % cSp C)) (cSt C)) x1N x2N) = iI (bL C T x1N x2N (x + 1)).2 := by
                    rw [bL_s, if_pos hlt]; exact (iI_n _).symm
                  rw [e_45] at hl
                  refine lv_iinc (v := nI (x + 1)) (lv' := [(6, .int (nI (x + 1))), (4, .int (iI (bL C T x1N x2N (x + 1)).2)), (5, .int ((bL C T x1N x2N (x + 1)).1)), (7, .int (iI (bL C T x1N x2N (x + 1)).2)), (0, .ref m0), (1, .int (nI x1N)), (2, .int (nI x2N)), (3, .int (nI x3N))]) hx hb dX10_set_151 hl (k := 3) rfl (nI_add x 1) (by decide) rfl (fun ls hl => ?_)
                  refine lv_goto (tgt := 55) hx hb dX10_set_154 (by decide) ?_
                  have o_46 : (x + 1) ≤ cLa C * 24 * cSp C := by omega
                  have o_47 : repM T (upd moX (((mN T) + 1) - 1) (nI ((x / (cSp C)) / 24))) (upd miX (((mN T) + 1) - 1) (nI ((x / (cSp C)) % 24))) (upd mtX (((mN T) + 1) - 1) (nI (x % (cSp C)))) := by exact fun i hi => by rw [up_ne _ _ (show i ≠ mN T + 1 - 1 by omega), up_ne _ _ (show i ≠ mN T + 1 - 1 by omega), up_ne _ _ (show i ≠ mN T + 1 - 1 by omega)]; exact hrX i hi
                  have o_48 : cLa C * 24 * cSp C + 1 ≤ (x + 1) + n_55 := by omega
                  exact ih_55 (x + 1) (upd moX (((mN T) + 1) - 1) (nI ((x / (cSp C)) / 24))) (upd miX (((mN T) + 1) - 1) (nI ((x / (cSp C)) % 24))) (upd mtX (((mN T) + 1) - 1) (nI (x % (cSp C)))) fa2_30 gi2_30 o_46 o_47 o_48 _ _ hP hD hS ls (lv_sub hl [0, 2, 1, 4, 5, 6, 7] rfl)
        have o_49 : 0 ≤ cLa C * 24 * cSp C := by exact Nat.zero_le _
        have o_50 : repM T mo mi mt := by exact hrT
        have o_51 : cLa C * 24 * cSp C + 1 ≤ 0 + (cLa C * 24 * cSp C + 1) := by omega
        exact L_55 (cLa C * 24 * cSp C + 1) 0 mo mi mt fa2_16 gi2_16 o_49 o_50 o_51 _ _ hP hD hS ls (lv_sub hl [0, 1, 2, 3, 4, 5, 6] rfl)
      · skip
        refine lv_bipush (v := (-2 : Int32)) hx hb dX10_set_27 (by decide +kernel) ?_
        have hq : (-2 : Int32) = sp_set C T (nI x1N) (nI x2N) x3 ∧ repM T mo mi mt := by refine ⟨by simp only [sp_set, hb_3, hb_5, hb_7, t_x1, t_x2, cond_true, cond_false], hrT⟩
        refine kk_QQ hQQ ?_
        exact W.iret (v := (-2 : Int32)) hx hb hr (fun t ht hW => ⟨⟨(-2 : Int32), (mo, mi, mt, fa, gi), rfl, hq, by show va_P D vwCl _ t.heap; rw [ht]; exact hP⟩, hS.F ht⟩) hS.2.2 dX10_set_29
  · skip
    refine lv_iconst (v := (-1 : Int32)) hx hb dX10_set_8 (by decide +kernel) ?_
    have hq : (-1 : Int32) = sp_set C T x1 x2 x3 ∧ repM T mo mi mt := by refine ⟨by simp only [sp_set, hb_3, cond_true, cond_false], hrT⟩
    refine kk_QQ hQQ ?_
    exact W.iret (v := (-1 : Int32)) hx hb hr (fun t ht hW => ⟨⟨(-1 : Int32), (mo, mi, mt, fa, gi), rfl, hq, by show va_P D vwCl _ t.heap; rw [ht]; exact hP⟩, hS.F ht⟩) hS.2.2 dX10_set_9

abbrev rmX10_show : Room := { frames := 4, cells := 0, slots := 0, locals := 99 }
set_option maxHeartbeats 4000000 in
set_option maxRecDepth 100000 in
theorem c_X10_show (lL : Launch) (D : va_G) (cI cS : ClassId) (sz : Nat) (C : Co) (T : Mv) (E : Mv) (m0 : Nat) (a1 : Nat) (a3 : Nat) (a5 : Nat) (a6 : Nat) (a7 : Nat) (a13 : Nat) (a14 : Nat) (a15 : Nat) (a16 : Nat) (a18 : Nat) (a19 : Nat) (a20 : Nat) (a21 : Nat) (a22 : Nat) (a23 : Nat) (a24 : Nat) (a25 : Nat) (a27 : Nat) (a28 : Nat) (a29 : Nat) (a30 : Nat) (a31 : Nat) (a32 : Nat) (a33 : Nat) (a34 : Nat) (i0 : Int32) (i10 : Int32) (i11 : Int32) (i12 : Int32) (i35 : Int32) (sk : Nat → Int32) (sh : Nat → Int32) (ki : Nat → Int32) (st : Nat → Int32) (cl : Nat → Int32) (mo : Nat → Int32) (mi : Nat → Int32) (mt : Nat → Int32) (fa : Nat → Int32) (gi : Nat → Int32) (x1 : Int32) (x2 : Int32) (x3 : Int32) (hX : okX C T E) (hrC : repC C sk sh ki st cl) (hrT : repM T mo mi mt) : Met lL yX10_show wsX10_show rmX10_show (va_Pc [.ref m0, .int x1, .int x2, .int x3] (kB D cI cS [(m0, .inr (9, [.int i0, .ref a1, .int (nI (cSp C)), .ref a3, .int (nI (cLa C)), .ref a5, .ref a6, .ref a7, .int (nI (cAg C)), .int (-9 : Int32), .int i10, .int i11, .int i12, .ref a13, .ref a14, .ref a15, .ref a16, .int (nI (mN T)), .ref a18, .ref a19, .ref a20, .ref a21, .ref a22, .ref a23, .ref a24, .ref a25, .int (nI (mN E)), .ref a27, .ref a28, .ref a29, .ref a30, .ref a31, .ref a32, .ref a33, .ref a34, .int i35])), (a1, .inl (cI, 6, .inl sk)), (a3, .inl (cI, 4, .inl sh)), (a5, .inl (cI, 4, .inl ki)), (a6, .inl (cI, 4, .inl st)), (a7, .inl (cI, 4, .inl cl)), (a18, .inl (cI, 9, .inl mo)), (a19, .inl (cI, 9, .inl mi)), (a20, .inl (cI, 9, .inl mt)), (a21, .inl (cI, 96, .inl fa)), (a22, .inl (cI, 96, .inl gi))] sz)) (kQi D (fun (r : Int32) (u : (Nat → Int32) × (Nat → Int32) × (Nat → Int32) × (Nat → Int32) × (Nat → Int32)) => r = sp_show C T x1 x2 x3 ∧ repM T u.1 u.2.1 u.2.2.1) (fun u : (Nat → Int32) × (Nat → Int32) × (Nat → Int32) × (Nat → Int32) × (Nat → Int32) => [(m0, .inr (9, [.int i0, .ref a1, .int (nI (cSp C)), .ref a3, .int (nI (cLa C)), .ref a5, .ref a6, .ref a7, .int (nI (cAg C)), .int (-9 : Int32), .int i10, .int i11, .int i12, .ref a13, .ref a14, .ref a15, .ref a16, .int (nI (mN T)), .ref a18, .ref a19, .ref a20, .ref a21, .ref a22, .ref a23, .ref a24, .ref a25, .int (nI (mN E)), .ref a27, .ref a28, .ref a29, .ref a30, .ref a31, .ref a32, .ref a33, .ref a34, .int i35])), (a1, .inl (cI, 6, .inl sk)), (a3, .inl (cI, 4, .inl sh)), (a5, .inl (cI, 4, .inl ki)), (a6, .inl (cI, 4, .inl st)), (a7, .inl (cI, 4, .inl cl)), (a18, .inl (cI, 9, .inl u.1)), (a19, .inl (cI, 9, .inl u.2.1)), (a20, .inl (cI, 9, .inl u.2.2.1)), (a21, .inl (cI, 96, .inl u.2.2.2.1)), (a22, .inl (cI, 96, .inl u.2.2.2.2))]) (va_A [(m0, .inr (9, [.int i0, .ref a1, .int (nI (cSp C)), .ref a3, .int (nI (cLa C)), .ref a5, .ref a6, .ref a7, .int (nI (cAg C)), .int (-9 : Int32), .int i10, .int i11, .int i12, .ref a13, .ref a14, .ref a15, .ref a16, .int (nI (mN T)), .ref a18, .ref a19, .ref a20, .ref a21, .ref a22, .ref a23, .ref a24, .ref a25, .int (nI (mN E)), .ref a27, .ref a28, .ref a29, .ref a30, .ref a31, .ref a32, .ref a33, .ref a34, .int i35])), (a1, .inl (cI, 6, .inl sk)), (a3, .inl (cI, 4, .inl sh)), (a5, .inl (cI, 4, .inl ki)), (a6, .inl (cI, 4, .inl st)), (a7, .inl (cI, 4, .inl cl)), (a18, .inl (cI, 9, .inl mo)), (a19, .inl (cI, 9, .inl mi)), (a20, .inl (cI, 9, .inl mt)), (a21, .inl (cI, 96, .inl fa)), (a22, .inl (cI, 96, .inl gi))] sz)) 0 0 (va_A [(m0, .inr (9, [.int i0, .ref a1, .int (nI (cSp C)), .ref a3, .int (nI (cLa C)), .ref a5, .ref a6, .ref a7, .int (nI (cAg C)), .int (-9 : Int32), .int i10, .int i11, .int i12, .ref a13, .ref a14, .ref a15, .ref a16, .int (nI (mN T)), .ref a18, .ref a19, .ref a20, .ref a21, .ref a22, .ref a23, .ref a24, .ref a25, .int (nI (mN E)), .ref a27, .ref a28, .ref a29, .ref a30, .ref a31, .ref a32, .ref a33, .ref a34, .int i35])), (a1, .inl (cI, 6, .inl sk)), (a3, .inl (cI, 4, .inl sh)), (a5, .inl (cI, 4, .inl ki)), (a6, .inl (cI, 4, .inl st)), (a7, .inl (cI, 4, .inl cl)), (a18, .inl (cI, 9, .inl mo)), (a19, .inl (cI, 9, .inl mi)), (a20, .inl (cI, 9, .inl mt)), (a21, .inl (cI, 96, .inl fa)), (a22, .inl (cI, 96, .inl gi))] sz) := by
  refine Met.ofW (cc := cX10_show) (maxL := 8) (ret := (some .int)) (by decide) rfl ?_
  intro pP eE sS mM args below meth cC s₁ B hml hv
  obtain ⟨rfl, hsz, hP, hK, hD0⟩ := hv
  have hx := B.exec
  have hb := B.bytes
  have hr := B.returns
  have hts := atoms_spec (ws := wsX10_show) B.pre
  have hown : sS.vm.findClass RX10 = some mM.cls := findClass_of_methodNamed B.named
  have hlocks := B.notSynchronized
  subst hsz
  have hD := hD0.self (sz := sS.heap.size)
  generalize hAe : va_A [(m0, .inr (9, [.int i0, .ref a1, .int (nI (cSp C)), .ref a3, .int (nI (cLa C)), .ref a5, .ref a6, .ref a7, .int (nI (cAg C)), .int (-9 : Int32), .int i10, .int i11, .int i12, .ref a13, .ref a14, .ref a15, .ref a16, .int (nI (mN T)), .ref a18, .ref a19, .ref a20, .ref a21, .ref a22, .ref a23, .ref a24, .ref a25, .int (nI (mN E)), .ref a27, .ref a28, .ref a29, .ref a30, .ref a31, .ref a32, .ref a33, .ref a34, .int i35])), (a1, .inl (cI, 6, .inl sk)), (a3, .inl (cI, 4, .inl sh)), (a5, .inl (cI, 4, .inl ki)), (a6, .inl (cI, 4, .inl st)), (a7, .inl (cI, 4, .inl cl)), (a18, .inl (cI, 9, .inl mo)), (a19, .inl (cI, 9, .inl mi)), (a20, .inl (cI, 9, .inl mt)), (a21, .inl (cI, 96, .inl fa)), (a22, .inl (cI, 96, .inl gi))] sS.heap.size = A at hD ⊢
  have hA : ∀ q : Nat, sS.heap.size ≤ q → A q := fun q h => by rw [← hAe]; exact Or.inr h
  have hS : va_S A sS.heap sS.heap [] := va_S.rf
  have hP : va_P D vwCl [(m0, .inr (9, [.int i0, .ref a1, .int (nI (cSp C)), .ref a3, .int (nI (cLa C)), .ref a5, .ref a6, .ref a7, .int (nI (cAg C)), .int (-9 : Int32), .int i10, .int i11, .int i12, .ref a13, .ref a14, .ref a15, .ref a16, .int (nI (mN T)), .ref a18, .ref a19, .ref a20, .ref a21, .ref a22, .ref a23, .ref a24, .ref a25, .int (nI (mN E)), .ref a27, .ref a28, .ref a29, .ref a30, .ref a31, .ref a32, .ref a33, .ref a34, .int i35])), (a1, .inl (cI, 6, .inl sk)), (a3, .inl (cI, 4, .inl sh)), (a5, .inl (cI, 4, .inl ki)), (a6, .inl (cI, 4, .inl st)), (a7, .inl (cI, 4, .inl cl)), (a18, .inl (cI, 9, .inl mo)), (a19, .inl (cI, 9, .inl mi)), (a20, .inl (cI, 9, .inl mt)), (a21, .inl (cI, 96, .inl fa)), (a22, .inl (cI, 96, .inl gi))] sS.heap := hP
  have hD : va_D A [(m0, .inr (9, [.int i0, .ref a1, .int (nI (cSp C)), .ref a3, .int (nI (cLa C)), .ref a5, .ref a6, .ref a7, .int (nI (cAg C)), .int (-9 : Int32), .int i10, .int i11, .int i12, .ref a13, .ref a14, .ref a15, .ref a16, .int (nI (mN T)), .ref a18, .ref a19, .ref a20, .ref a21, .ref a22, .ref a23, .ref a24, .ref a25, .int (nI (mN E)), .ref a27, .ref a28, .ref a29, .ref a30, .ref a31, .ref a32, .ref a33, .ref a34, .int i35])), (a1, .inl (cI, 6, .inl sk)), (a3, .inl (cI, 4, .inl sh)), (a5, .inl (cI, 4, .inl ki)), (a6, .inl (cI, 4, .inl st)), (a7, .inl (cI, 4, .inl cl)), (a18, .inl (cI, 9, .inl mo)), (a19, .inl (cI, 9, .inl mi)), (a20, .inl (cI, 9, .inl mt)), (a21, .inl (cI, 96, .inl fa)), (a22, .inl (cI, 96, .inl gi))] := hD
  have hf_98 := hts (.fieldLink RX10 98 "OldLampsModel" "spots" "I") (List.mem_of_getElem? (i := 4) rfl)
  have hf_105 := hts (.fieldLink RX10 105 "OldLampsModel" "lamps" "I") (List.mem_of_getElem? (i := 3) rfl)
  have hf_161 := hts (.fieldLink RX10 161 "OldLampsModel" "movesNow" "I") (List.mem_of_getElem? (i := 2) rfl)
  have hk_210 := hts (.constantLong RX10 210 (999)) (List.mem_of_getElem? (i := 1) rfl)
  have hwX10 : ∀ w ∈ wsX100, w ∈ wsX10_show := fun _ h => List.mem_cons_of_mem _ (List.mem_append_right _ h)
  have hl := lv_entry ([.ref m0, .int x1, .int x2, .int x3]) (n := 8) (Nat.le_of_ble_eq_true rfl)
  rw [lg_entry_eq]
  generalize (lg_sl ([.ref m0, .int x1, .int x2, .int x3]) ++ List.replicate (8 - (lg_sl ([.ref m0, .int x1, .int x2, .int x3])).length) Slot.unset).toArray = ls at hl ⊢
  have hl : lv_has ls 8 [(0, .ref m0), (1, .int x1), (2, .int x2), (3, .int x3)] := hl
  obtain ⟨QQ, hQQ⟩ : ∃ QQ : State → Prop, QQ = MQ below (kQi D (fun (r : Int32) (u : (Nat → Int32) × (Nat → Int32) × (Nat → Int32) × (Nat → Int32) × (Nat → Int32)) => r = sp_show C T x1 x2 x3 ∧ repM T u.1 u.2.1 u.2.2.1) (fun u : (Nat → Int32) × (Nat → Int32) × (Nat → Int32) × (Nat → Int32) × (Nat → Int32) => [(m0, .inr (9, [.int i0, .ref a1, .int (nI (cSp C)), .ref a3, .int (nI (cLa C)), .ref a5, .ref a6, .ref a7, .int (nI (cAg C)), .int (-9 : Int32), .int i10, .int i11, .int i12, .ref a13, .ref a14, .ref a15, .ref a16, .int (nI (mN T)), .ref a18, .ref a19, .ref a20, .ref a21, .ref a22, .ref a23, .ref a24, .ref a25, .int (nI (mN E)), .ref a27, .ref a28, .ref a29, .ref a30, .ref a31, .ref a32, .ref a33, .ref a34, .int i35])), (a1, .inl (cI, 6, .inl sk)), (a3, .inl (cI, 4, .inl sh)), (a5, .inl (cI, 4, .inl ki)), (a6, .inl (cI, 4, .inl st)), (a7, .inl (cI, 4, .inl cl)), (a18, .inl (cI, 9, .inl u.1)), (a19, .inl (cI, 9, .inl u.2.1)), (a20, .inl (cI, 9, .inl u.2.2.1)), (a21, .inl (cI, 96, .inl u.2.2.2.1)), (a22, .inl (cI, 96, .inl u.2.2.2.2))]) A) ([.ref m0, .int x1, .int x2, .int x3]).toArray sS 0 0 A := ⟨_, rfl⟩
  refine kk_QQ hQQ.symm ?_
  obtain ⟨hX1, hX2, hX3, hX4⟩ := okX_le hX
  refine lv_aload_n hx hb dX10_show_0 rfl (lv_at hl 0 rfl) ?_
  refine lv_iload_n hx hb dX10_show_1 rfl (lv_at hl 1 rfl) ?_
  have o_1 : (cSp C) ≤ 4 := by omega
  refine vp_callSi (W.runV (As := [.int x1]) (rest := []) ⟨hx, hb, hml, hown, hts⟩ (c_X10_noSpot lL D cI cS m0 a1 a3 a5 a6 a7 a13 a14 a15 a16 a18 a19 a20 a21 a22 a23 a24 a25 a27 a28 a29 a30 a31 a32 a33 a34 i0 (nI (cLa C)) (nI (cAg C)) (-9 : Int32) i10 i11 i12 (nI (mN T)) (nI (mN E)) i35 x1 (cSp C) o_1) (cwV 1 hts gX10_show_X10_noSpot rfl rfl rfl cd_X10_noSpot ⟨Nat.le_of_ble_eq_true rfl, Nat.le_of_ble_eq_true rfl⟩) ⟨kBp_blind, va_recv hK hP (ci := 9) (q0 := 0) rfl rfl, fun U hU hW => ⟨rfl, by rw [hU]; exact hP.sub [0] rfl, va_K.moved hW.alike hK⟩⟩ rfl rfl hl.1 rfl (lv_room (Nat.le_of_ble_eq_true rfl)) dX10_show_2 ⟨Nat.le_of_ble_eq_true rfl, Nat.le_of_ble_eq_true rfl⟩) (fun r_2 hw_2 => ?_)
  obtain rfl : r_2 = kb (!inB x1 (cSp C)) := hw_2
  refine kk_ifn_eq (tgt := 10) hx hb dX10_show_5 (by decide) (fun hb_3 => ?_) (fun hb_3 => ?_)
  · skip
    obtain ⟨x1N, hx1N, rfl⟩ := inB_t hb_3
    have t_x1 := nI_clamp (show x1N < 2 ^ 31 by omega)
    obtain ⟨hC, hM0, hE⟩ := okX_sp hX hx1N
    have hM := ok9_of hM0
    have hkd := kdM_of hX hrC
    have hwo := hkd.2
    have hk3 : 9 < cLa C → cKi C 9 = 3 := fun z => absurd hC.2.1 (by omega)
    have hst := hrC.2.2.2.1
    have hrB : repB C sk sh cl := ⟨hrC.1, hrC.2.1, hrC.2.2.2.2⟩
    have hxa := hC.2.1
    have hxs := hC.1
    refine lv_iload_n hx hb dX10_show_10 rfl (lv_at hl 2 rfl) ?_
    refine lv_i2l (v := x2.toInt64) hx hb dX10_show_11 rfl ?_
    refine lv_lconst (v := lN 0) hx hb dX10_show_12 (by decide +kernel) ?_
    refine lv_ldc2 (v := (999 : Int64)) hx hb hown hk_210 dX10_show_13 ?_
    refine kk_topl (y := lN 999) (by decide +kernel) ?_
    refine vp_callSi (W.runS (As := [.long x2.toInt64, .long (lN 0), .long (lN 999)]) (rest := []) ⟨hx, hb, hml, hown, hts⟩ (c_X10_in lL D cI cS x2.toInt64 (lN 0) (lN 999)) (va_cwS 3 hts gX10_show_X10_in rfl rfl rfl cd_X10_in ⟨Nat.le_of_ble_eq_true rfl, Nat.le_of_ble_eq_true rfl⟩) ⟨kBp_blind, fun U hU hW => ⟨rfl, by rw [hU]; exact hP.sub [] rfl, va_K.moved hW.alike hK⟩⟩ rfl rfl hl.1 rfl (lv_room (Nat.le_of_ble_eq_true rfl)) dX10_show_16 ⟨Nat.le_of_ble_eq_true rfl, Nat.le_of_ble_eq_true rfl⟩) (fun r_4 hw_4 => ?_)
    obtain rfl : r_4 = kb (inL x2.toInt64 (lN 0) (lN 999)) := hw_4
    refine kk_top (y := kb (wB x2 0 999)) (congrArg kb (inL_w x2 (by omega) (by omega))) ?_
    -- if wB x2 0 999
    refine kk_ifb_eq (tgt := 32) hx hb dX10_show_19 (by decide) (fun hb_5 => ?_) (fun hb_5 => ?_)
    · skip
      refine lv_bipush (v := (-2 : Int32)) hx hb dX10_show_32 (by decide +kernel) ?_
      have hq : (-2 : Int32) = sp_show C T (nI x1N) x2 x3 ∧ repM T mo mi mt := by refine ⟨by simp only [sp_show, hb_3, hb_5, t_x1, cond_true, cond_false], hrT⟩
      refine kk_QQ hQQ ?_
      exact W.iret (v := (-2 : Int32)) hx hb hr (fun t ht hW => ⟨⟨(-2 : Int32), (mo, mi, mt, fa, gi), rfl, hq, by show va_P D vwCl _ t.heap; rw [ht]; exact hP⟩, hS.F ht⟩) hS.2.2 dX10_show_34
    · skip
      obtain ⟨x2N, hx2L, hx2N, rfl⟩ := wB_t hb_5
      have t_x2 := nI_clamp (show x2N < 2 ^ 31 by omega)
      refine lv_iload_n hx hb dX10_show_22 rfl (lv_at hl 3 rfl) ?_
      refine lv_i2l (v := x3.toInt64) hx hb dX10_show_23 rfl ?_
      refine lv_lconst (v := lN 0) hx hb dX10_show_24 (by decide +kernel) ?_
      refine lv_lconst (v := lN 1) hx hb dX10_show_25 (by decide +kernel) ?_
      refine vp_callSi (W.runS (As := [.long x3.toInt64, .long (lN 0), .long (lN 1)]) (rest := []) ⟨hx, hb, hml, hown, hts⟩ (c_X10_in lL D cI cS x3.toInt64 (lN 0) (lN 1)) (va_cwS 3 hts gX10_show_X10_in rfl rfl rfl cd_X10_in ⟨Nat.le_of_ble_eq_true rfl, Nat.le_of_ble_eq_true rfl⟩) ⟨kBp_blind, fun U hU hW => ⟨rfl, by rw [hU]; exact hP.sub [] rfl, va_K.moved hW.alike hK⟩⟩ rfl rfl hl.1 rfl (lv_room (Nat.le_of_ble_eq_true rfl)) dX10_show_26 ⟨Nat.le_of_ble_eq_true rfl, Nat.le_of_ble_eq_true rfl⟩) (fun r_6 hw_6 => ?_)
      obtain rfl : r_6 = kb (inL x3.toInt64 (lN 0) (lN 1)) := hw_6
      refine kk_top (y := kb (wB x3 0 1)) (congrArg kb (inL_w x3 (by omega) (by omega))) ?_
      -- if wB x3 0 1
      refine kk_ifb_ne (tgt := 35) hx hb dX10_show_29 (by decide) (fun hb_7 => ?_) (fun hb_7 => ?_)
      · skip
        obtain ⟨x3N, hx3L, hx3N, rfl⟩ := wB_t hb_7
        have t_x3 := nI_clamp (show x3N < 2 ^ 31 by omega)
        refine lv_aload_n hx hb dX10_show_35 rfl (lv_at hl 0 rfl) ?_
        refine lv_iload_n hx hb dX10_show_36 rfl (lv_at hl 1 rfl) ?_
        refine lv_iload_n hx hb dX10_show_37 rfl (lv_at hl 2 rfl) ?_
        have o_8 : okC C := by assumption
        have o_9 : ok9 C T := by assumption
        have o_10 : ∀ k, k < cLa C → st k = nI (cSt C k) := by assumption
        have o_11 : repM T mo mi mt := by assumption
        have o_12 : kdM C 9 (-9 : Int32) (cKi C) ki := by assumption
        have o_13 : repB C sk sh cl := by assumption
        have o_14 : x1N < cSp C := by omega
        have o_15 : x2N < 1000 := by omega
        have hF := va_free (wc := [(m0, .inr (9, [.int i0, .ref a1, .int (nI (cSp C)), .ref a3, .int (nI (cLa C)), .ref a5, .ref a6, .ref a7, .int (nI (cAg C)), .int (-9 : Int32), .int i10, .int i11, .int i12, .ref a13, .ref a14, .ref a15, .ref a16, .int (nI (mN T)), .ref a18, .ref a19, .ref a20, .ref a21, .ref a22, .ref a23, .ref a24, .ref a25, .int (nI (mN E)), .ref a27, .ref a28, .ref a29, .ref a30, .ref a31, .ref a32, .ref a33, .ref a34, .int i35])), (a1, .inl (cI, 6, .inl sk)), (a3, .inl (cI, 4, .inl sh)), (a5, .inl (cI, 4, .inl ki)), (a6, .inl (cI, 4, .inl st)), (a7, .inl (cI, 4, .inl cl)), (a18, .inl (cI, 9, .inl mo)), (a19, .inl (cI, 9, .inl mi)), (a20, .inl (cI, 9, .inl mt)), (a21, .inl (cI, 96, .inl fa)), (a22, .inl (cI, 96, .inl gi))]) hD hS hA [0, 1, 2, 3, 4, 5, 6, 7, 8, 9, 10] rfl
        refine va_calli (va_runV (As := [.int (nI x1N), .int (nI x2N)]) (rest := []) ⟨hx, hb, hml, hown, hts⟩ (c_X10_darkMany lL D cI cS _ C T 9 (cKi C) m0 a1 a3 a5 a6 a7 a13 a14 a15 a16 a18 a19 a20 a21 a22 a23 a24 a25 a27 a28 a29 a30 a31 a32 a33 a34 i0 (nI (cSp C)) (-9 : Int32) i10 i11 i12 (nI (mN E)) i35 sk sh ki st cl mo mi mt fa gi x1N x2N o_8 o_9 o_10 o_11 o_12 o_13 o_14 o_15) (cwV 2 hts gX10_show_X10_darkMany rfl rfl rfl cd_X10_darkMany ⟨Nat.le_of_ble_eq_true rfl, Nat.le_of_ble_eq_true rfl⟩) ⟨kB_blind, va_recv hK hP (ci := 9) (q0 := 0) rfl rfl, fun U hU hW => ⟨rfl, by rw [hU], by rw [hU]; exact hP.sub [0, 1, 2, 3, 4, 5, 6, 7, 8, 9, 10] rfl, va_K.moved hW.alike hK, (hD.sub [0, 1, 2, 3, 4, 5, 6, 7, 8, 9, 10] (by decide) rfl).weaken (fun _ _ _ _ => trivial)⟩⟩ rfl rfl hl.1 rfl (lv_room (Nat.le_of_ble_eq_true rfl)) dX10_show_38 ⟨Nat.le_of_ble_eq_true rfl, Nat.le_of_ble_eq_true rfl⟩) hS (fun q _ h => hF q h) hF (fun r_16 u_16 t H1 locs ht hvm hw_16 hB hz1 hk1 hS => ?_)
        obtain ⟨fa2_16, gi2_16⟩ := u_16
        obtain ⟨hP, hD⟩ := kk_join2 (wc := [(m0, .inr (9, [.int i0, .ref a1, .int (nI (cSp C)), .ref a3, .int (nI (cLa C)), .ref a5, .ref a6, .ref a7, .int (nI (cAg C)), .int (-9 : Int32), .int i10, .int i11, .int i12, .ref a13, .ref a14, .ref a15, .ref a16, .int (nI (mN T)), .ref a18, .ref a19, .ref a20, .ref a21, .ref a22, .ref a23, .ref a24, .ref a25, .int (nI (mN E)), .ref a27, .ref a28, .ref a29, .ref a30, .ref a31, .ref a32, .ref a33, .ref a34, .int i35])), (a1, .inl (cI, 6, .inl sk)), (a3, .inl (cI, 4, .inl sh)), (a5, .inl (cI, 4, .inl ki)), (a6, .inl (cI, 4, .inl st)), (a7, .inl (cI, 4, .inl cl)), (a18, .inl (cI, 9, .inl mo)), (a19, .inl (cI, 9, .inl mi)), (a20, .inl (cI, 9, .inl mt)), (a21, .inl (cI, 96, .inl fa)), (a22, .inl (cI, 96, .inl gi))]) (w1 := [(m0, .inr (9, [.int i0, .ref a1, .int (nI (cSp C)), .ref a3, .int (nI (cLa C)), .ref a5, .ref a6, .ref a7, .int (nI (cAg C)), .int (-9 : Int32), .int i10, .int i11, .int i12, .ref a13, .ref a14, .ref a15, .ref a16, .int (nI (mN T)), .ref a18, .ref a19, .ref a20, .ref a21, .ref a22, .ref a23, .ref a24, .ref a25, .int (nI (mN E)), .ref a27, .ref a28, .ref a29, .ref a30, .ref a31, .ref a32, .ref a33, .ref a34, .int i35])), (a1, .inl (cI, 6, .inl sk)), (a3, .inl (cI, 4, .inl sh)), (a5, .inl (cI, 4, .inl ki)), (a6, .inl (cI, 4, .inl st)), (a7, .inl (cI, 4, .inl cl)), (a18, .inl (cI, 9, .inl mo)), (a19, .inl (cI, 9, .inl mi)), (a20, .inl (cI, 9, .inl mt)), (a21, .inl (cI, 96, .inl fa2_16)), (a22, .inl (cI, 96, .inl gi2_16))]) (ws' := [(m0, .inr (9, [.int i0, .ref a1, .int (nI (cSp C)), .ref a3, .int (nI (cLa C)), .ref a5, .ref a6, .ref a7, .int (nI (cAg C)), .int (-9 : Int32), .int i10, .int i11, .int i12, .ref a13, .ref a14, .ref a15, .ref a16, .int (nI (mN T)), .ref a18, .ref a19, .ref a20, .ref a21, .ref a22, .ref a23, .ref a24, .ref a25, .int (nI (mN E)), .ref a27, .ref a28, .ref a29, .ref a30, .ref a31, .ref a32, .ref a33, .ref a34, .int i35])), (a1, .inl (cI, 6, .inl sk)), (a3, .inl (cI, 4, .inl sh)), (a5, .inl (cI, 4, .inl ki)), (a6, .inl (cI, 4, .inl st)), (a7, .inl (cI, 4, .inl cl)), (a18, .inl (cI, 9, .inl mo)), (a19, .inl (cI, 9, .inl mi)), (a20, .inl (cI, 9, .inl mt)), (a21, .inl (cI, 96, .inl fa2_16)), (a22, .inl (cI, 96, .inl gi2_16))]) (wr := []) (H1 := H1) hP hD [0, 1, 2, 3, 4, 5, 6, 7, 8, 9, 10] [] rfl rfl rfl rfl 11 rfl (by decide) [m0, a1, a3, a5, a6, a7, a18, a19, a20, a21, a22] rfl rfl hk1 (by rw [← ht]; exact hB)
        have hw_16 : r_16 = nI (cntB C (plc T (cSt C)) x1N x2N) ∧ True := hw_16
        clear hF hB hk1 hz1 hvm
        clear ht
        generalize H1 = H at hP hS ⊢
        obtain ⟨rfl, hw_16⟩ := hw_16
        refine lv_istore (lv' := [(4, .int (nI (cntB C (plc T (cSt C)) x1N x2N))), (0, .ref m0), (1, .int (nI x1N)), (2, .int (nI x2N)), (3, .int (nI x3N))]) hx hb dX10_show_41 hl (by decide) rfl (fun ls hl => ?_)
        have e_17 : nI (cntB C (plc T (cSt C)) x1N x2N) = iI (-(bD C T x1N x2N 0).2) := by
          show _ = iI (- -((_ : Nat) : Int)); rw [Int.neg_neg]; exact (iI_n _).symm
        rw [e_17] at hl
        refine lv_bipush (v := (-9 : Int32)) hx hb dX10_show_43 (by decide +kernel) ?_
        refine lv_istore (lv' := [(5, .int (-9 : Int32)), (4, .int (iI (-(bD C T x1N x2N 0).2))), (0, .ref m0), (1, .int (nI x1N)), (2, .int (nI x2N)), (3, .int (nI x3N))]) hx hb dX10_show_45 hl (by decide) rfl (fun ls hl => ?_)
        refine lv_aload_n hx hb dX10_show_47 rfl (lv_at hl 2 rfl) ?_
        refine lv_dup hx hb dX10_show_48 rfl ?_
        refine va_get (D := D) (ci := 9) (v := .int (nI (mN T))) (C := RX10) (T := TX10) (N := 36) hx hb hts hwX10 hown hK hP 0 rfl rfl 17 (by decide) hf_161 (fun _ h9 => h9) rfl dX10_show_49 ?_
        refine lv_iconst (v := nI 1) hx hb dX10_show_52 (by decide +kernel) ?_
        refine kk_iadd hx hb dX10_show_53 ?_
        refine va_put (D := D) (ci := 9) (v := .int (nI ((mN T) + 1))) (ty := .int) (C := RX10) (T := TX10) (N := 36) hx hb hts hwX10 tyX10 tyX10_ok nmX10 hown hK hP hD hS 0 rfl rfl 17 (by decide) hf_161 (fun _ h9 => h9) rfl (by decide +kernel) rfl rfl (Nat.le_of_ble_eq_true rfl) dX10_show_54 (fun H locs hP hD hS => ?_)
        have hP : va_P D vwCl [(m0, .inr (9, [.int i0, .ref a1, .int (nI (cSp C)), .ref a3, .int (nI (cLa C)), .ref a5, .ref a6, .ref a7, .int (nI (cAg C)), .int (-9 : Int32), .int i10, .int i11, .int i12, .ref a13, .ref a14, .ref a15, .ref a16, .int (nI ((mN T) + 1)), .ref a18, .ref a19, .ref a20, .ref a21, .ref a22, .ref a23, .ref a24, .ref a25, .int (nI (mN E)), .ref a27, .ref a28, .ref a29, .ref a30, .ref a31, .ref a32, .ref a33, .ref a34, .int i35])), (a1, .inl (cI, 6, .inl sk)), (a3, .inl (cI, 4, .inl sh)), (a5, .inl (cI, 4, .inl ki)), (a6, .inl (cI, 4, .inl st)), (a7, .inl (cI, 4, .inl cl)), (a18, .inl (cI, 9, .inl mo)), (a19, .inl (cI, 9, .inl mi)), (a20, .inl (cI, 9, .inl mt)), (a21, .inl (cI, 96, .inl fa2_16)), (a22, .inl (cI, 96, .inl gi2_16))] H := hP
        have hD : va_D A [(m0, .inr (9, [.int i0, .ref a1, .int (nI (cSp C)), .ref a3, .int (nI (cLa C)), .ref a5, .ref a6, .ref a7, .int (nI (cAg C)), .int (-9 : Int32), .int i10, .int i11, .int i12, .ref a13, .ref a14, .ref a15, .ref a16, .int (nI ((mN T) + 1)), .ref a18, .ref a19, .ref a20, .ref a21, .ref a22, .ref a23, .ref a24, .ref a25, .int (nI (mN E)), .ref a27, .ref a28, .ref a29, .ref a30, .ref a31, .ref a32, .ref a33, .ref a34, .int i35])), (a1, .inl (cI, 6, .inl sk)), (a3, .inl (cI, 4, .inl sh)), (a5, .inl (cI, 4, .inl ki)), (a6, .inl (cI, 4, .inl st)), (a7, .inl (cI, 4, .inl cl)), (a18, .inl (cI, 9, .inl mo)), (a19, .inl (cI, 9, .inl mi)), (a20, .inl (cI, 9, .inl mt)), (a21, .inl (cI, 96, .inl fa2_16)), (a22, .inl (cI, 96, .inl gi2_16))] := hD
        refine lv_iconst (v := nI 0) hx hb dX10_show_57 (by decide +kernel) ?_
        refine lv_istore (lv' := [(6, .int (nI 0)), (5, .int (-9 : Int32)), (4, .int (iI (-(bD C T x1N x2N 0).2))), (0, .ref m0), (1, .int (nI x1N)), (2, .int (nI x2N)), (3, .int (nI x3N))]) hx hb dX10_show_58 hl (by decide) rfl (fun ls hl => ?_)
        have L_60 : ∀ (n_60 : Nat) (x : Nat) (moX : Nat → Int32) (miX : Nat → Int32) (mtX : Nat → Int32) (faX : Nat → Int32) (giX : Nat → Int32), (x ≤ cLa C * 24 * cSp C) → (repM T moX miX mtX) → cLa C * 24 * cSp C + 1 ≤ x + n_60 → ∀ (H : Heap) (locs : List Loc), va_P D vwCl [(m0, .inr (9, [.int i0, .ref a1, .int (nI (cSp C)), .ref a3, .int (nI (cLa C)), .ref a5, .ref a6, .ref a7, .int (nI (cAg C)), .int (-9 : Int32), .int i10, .int i11, .int i12, .ref a13, .ref a14, .ref a15, .ref a16, .int (nI ((mN T) + 1)), .ref a18, .ref a19, .ref a20, .ref a21, .ref a22, .ref a23, .ref a24, .ref a25, .int (nI (mN E)), .ref a27, .ref a28, .ref a29, .ref a30, .ref a31, .ref a32, .ref a33, .ref a34, .int i35])), (a1, .inl (cI, 6, .inl sk)), (a3, .inl (cI, 4, .inl sh)), (a5, .inl (cI, 4, .inl ki)), (a6, .inl (cI, 4, .inl st)), (a7, .inl (cI, 4, .inl cl)), (a18, .inl (cI, 9, .inl moX)), (a19, .inl (cI, 9, .inl miX)), (a20, .inl (cI, 9, .inl mtX)), (a21, .inl (cI, 96, .inl faX)), (a22, .inl (cI, 96, .inl giX))] H → va_D A [(m0, .inr (9, [.int i0, .ref a1, .int (nI (cSp C)), .ref a3, .int (nI (cLa C)), .ref a5, .ref a6, .ref a7, .int (nI (cAg C)), .int (-9 : Int32), .int i10, .int i11, .int i12, .ref a13, .ref a14, .ref a15, .ref a16, .int (nI ((mN T) + 1)), .ref a18, .ref a19, .ref a20, .ref a21, .ref a22, .ref a23, .ref a24, .ref a25, .int (nI (mN E)), .ref a27, .ref a28, .ref a29, .ref a30, .ref a31, .ref a32, .ref a33, .ref a34, .int i35])), (a1, .inl (cI, 6, .inl sk)), (a3, .inl (cI, 4, .inl sh)), (a5, .inl (cI, 4, .inl ki)), (a6, .inl (cI, 4, .inl st)), (a7, .inl (cI, 4, .inl cl)), (a18, .inl (cI, 9, .inl moX)), (a19, .inl (cI, 9, .inl miX)), (a20, .inl (cI, 9, .inl mtX)), (a21, .inl (cI, 96, .inl faX)), (a22, .inl (cI, 96, .inl giX))] → va_S A sS.heap H locs → ∀ (ls : Array Slot), lv_has ls 8 [(6, .int (nI x)), (5, .int ((bD C T x1N x2N x).1)), (4, .int (iI (-(bD C T x1N x2N x).2))), (0, .ref m0), (1, .int (nI x1N)), (2, .int (nI x2N)), (3, .int (nI x3N))] → W pP lL eE (headSpec wsX10_show rmX10_show).room sS mM ([.ref m0, .int (nI x1N), .int (nI x2N), .int (nI x3N)]).toArray below meth cC H locs 0 0 QQ (F0 mM 60 ls []) := by
          intro n_60
          induction n_60 with
          | zero =>
            intro x moX miX mtX faX giX hx9 hrX hn_60 H locs hP hD hS ls hl
            exact absurd hn_60 (by omega)
          | succ n_60 ih_60 =>
            intro x moX miX mtX faX giX hx9 hrX hn_60 H locs hP hD hS ls hl
            have hpr := aM_le hxa hxs
            have hbd := bD_bd C T  x1N x2N x
            refine lv_iload hx hb dX10_show_60 (lv_at hl 0 rfl) ?_
            refine lv_aload_n hx hb dX10_show_62 rfl (lv_at hl 3 rfl) ?_
            refine va_get (D := D) (ci := 9) (v := .int (nI (cLa C))) (C := RX10) (T := TX10) (N := 36) hx hb hts hwX10 hown hK hP 0 rfl rfl 4 (by decide) hf_105 (fun _ h9 => h9) rfl dX10_show_63 ?_
            refine lv_bipush (v := nI 24) hx hb dX10_show_66 (by decide +kernel) ?_
            refine kk_imul hx hb dX10_show_68 ?_
            refine lv_aload_n hx hb dX10_show_69 rfl (lv_at hl 3 rfl) ?_
            refine va_get (D := D) (ci := 9) (v := .int (nI (cSp C))) (C := RX10) (T := TX10) (N := 36) hx hb hts hwX10 hown hK hP 0 rfl rfl 2 (by decide) hf_98 (fun _ h9 => h9) rfl dX10_show_70 ?_
            refine kk_imul hx hb dX10_show_73 ?_
            refine kk_icmp_ge (tgt := 162) hx hb dX10_show_74 (by decide) (by omega) (by omega) (fun c_18 => ?_) (fun c_18 => ?_)
            · skip
              refine lv_aload_n hx hb dX10_show_162 rfl (lv_at hl 3 rfl) ?_
              refine lv_dup hx hb dX10_show_163 rfl ?_
              refine va_get (D := D) (ci := 9) (v := .int (nI ((mN T) + 1))) (C := RX10) (T := TX10) (N := 36) hx hb hts hwX10 hown hK hP 0 rfl rfl 17 (by decide) hf_161 (fun _ h9 => h9) rfl dX10_show_164 ?_
              refine lv_iconst (v := nI 1) hx hb dX10_show_167 (by decide +kernel) ?_
              refine kk_isub hx hb dX10_show_168 (by omega) ?_
              refine va_put (D := D) (ci := 9) (v := .int (nI (((mN T) + 1) - 1))) (ty := .int) (C := RX10) (T := TX10) (N := 36) hx hb hts hwX10 tyX10 tyX10_ok nmX10 hown hK hP hD hS 0 rfl rfl 17 (by decide) hf_161 (fun _ h9 => h9) rfl (by decide +kernel) rfl rfl (Nat.le_of_ble_eq_true rfl) dX10_show_169 (fun H locs hP hD hS => ?_)
              have hP : va_P D vwCl [(m0, .inr (9, [.int i0, .ref a1, .int (nI (cSp C)), .ref a3, .int (nI (cLa C)), .ref a5, .ref a6, .ref a7, .int (nI (cAg C)), .int (-9 : Int32), .int i10, .int i11, .int i12, .ref a13, .ref a14, .ref a15, .ref a16, .int (nI (((mN T) + 1) - 1)), .ref a18, .ref a19, .ref a20, .ref a21, .ref a22, .ref a23, .ref a24, .ref a25, .int (nI (mN E)), .ref a27, .ref a28, .ref a29, .ref a30, .ref a31, .ref a32, .ref a33, .ref a34, .int i35])), (a1, .inl (cI, 6, .inl sk)), (a3, .inl (cI, 4, .inl sh)), (a5, .inl (cI, 4, .inl ki)), (a6, .inl (cI, 4, .inl st)), (a7, .inl (cI, 4, .inl cl)), (a18, .inl (cI, 9, .inl moX)), (a19, .inl (cI, 9, .inl miX)), (a20, .inl (cI, 9, .inl mtX)), (a21, .inl (cI, 96, .inl faX)), (a22, .inl (cI, 96, .inl giX))] H := hP
              have hD : va_D A [(m0, .inr (9, [.int i0, .ref a1, .int (nI (cSp C)), .ref a3, .int (nI (cLa C)), .ref a5, .ref a6, .ref a7, .int (nI (cAg C)), .int (-9 : Int32), .int i10, .int i11, .int i12, .ref a13, .ref a14, .ref a15, .ref a16, .int (nI (((mN T) + 1) - 1)), .ref a18, .ref a19, .ref a20, .ref a21, .ref a22, .ref a23, .ref a24, .ref a25, .int (nI (mN E)), .ref a27, .ref a28, .ref a29, .ref a30, .ref a31, .ref a32, .ref a33, .ref a34, .int i35])), (a1, .inl (cI, 6, .inl sk)), (a3, .inl (cI, 4, .inl sh)), (a5, .inl (cI, 4, .inl ki)), (a6, .inl (cI, 4, .inl st)), (a7, .inl (cI, 4, .inl cl)), (a18, .inl (cI, 9, .inl moX)), (a19, .inl (cI, 9, .inl miX)), (a20, .inl (cI, 9, .inl mtX)), (a21, .inl (cI, 96, .inl faX)), (a22, .inl (cI, 96, .inl giX))] := hD
              refine lv_iload_n hx hb dX10_show_172 rfl (lv_at hl 6 rfl) ?_
              refine kk_if_ne (tgt := 181) hx hb dX10_show_173 (by decide) (by omega) (fun c_19 => ?_) (fun c_19 => ?_)
              · skip
                refine lv_iload hx hb dX10_show_181 (lv_at hl 2 rfl) ?_
                have hq : (iI (-(bD C T x1N x2N x).2)) = sp_show C T (nI x1N) (nI x2N) (nI x3N) ∧ repM T moX miX mtX := by
                  refine ⟨?_, hrX⟩
                  simp only [sp_show, hb_3, hb_5, hb_7, t_x1, t_x2, t_x3, cond_true, cond_false]
                  rw [if_neg (show ¬ x3N = 0 by omega), show aM C = x by show cLa C * 24 * cSp C = x; omega]; rw [iI_neg]
                refine kk_QQ hQQ ?_
                exact W.iret (v := iI (-(bD C T x1N x2N x).2)) hx hb hr (fun t ht hW => ⟨⟨iI (-(bD C T x1N x2N x).2), (moX, miX, mtX, faX, giX), rfl, hq, by show va_P D vwCl _ t.heap; rw [ht]; exact hP⟩, hS.F ht⟩) hS.2.2 dX10_show_183
              · skip
                refine lv_iload hx hb dX10_show_176 (lv_at hl 1 rfl) ?_
                refine lv_goto (tgt := 183) hx hb dX10_show_178 (by decide) ?_
                have hq : ((bD C T x1N x2N x).1) = sp_show C T (nI x1N) (nI x2N) (nI x3N) ∧ repM T moX miX mtX := by
                  refine ⟨?_, hrX⟩
                  simp only [sp_show, hb_3, hb_5, hb_7, t_x1, t_x2, t_x3, cond_true, cond_false]
                  rw [if_pos (show x3N = 0 by omega), show aM C = x by show cLa C * 24 * cSp C = x; omega]
                refine kk_QQ hQQ ?_
                exact W.iret (v := (bD C T x1N x2N x).1) hx hb hr (fun t ht hW => ⟨⟨(bD C T x1N x2N x).1, (moX, miX, mtX, faX, giX), rfl, hq, by show va_P D vwCl _ t.heap; rw [ht]; exact hP⟩, hS.F ht⟩) hS.2.2 dX10_show_183
            · skip
              obtain ⟨q1, q2, q3⟩ := aM_at (Nat.lt_of_not_le c_18)
              refine lv_aload_n hx hb dX10_show_77 rfl (lv_at hl 3 rfl) ?_
              refine lv_aload_n hx hb dX10_show_78 rfl (lv_at hl 3 rfl) ?_
              refine va_get (D := D) (ci := 9) (v := .int (nI ((mN T) + 1))) (C := RX10) (T := TX10) (N := 36) hx hb hts hwX10 hown hK hP 0 rfl rfl 17 (by decide) hf_161 (fun _ h9 => h9) rfl dX10_show_79 ?_
              refine lv_iconst (v := nI 1) hx hb dX10_show_82 (by decide +kernel) ?_
              refine kk_isub hx hb dX10_show_83 (by omega) ?_
              refine lv_iload hx hb dX10_show_84 (lv_at hl 0 rfl) ?_
              refine lv_aload_n hx hb dX10_show_86 rfl (lv_at hl 3 rfl) ?_
              refine va_get (D := D) (ci := 9) (v := .int (nI (cSp C))) (C := RX10) (T := TX10) (N := 36) hx hb hts hwX10 hown hK hP 0 rfl rfl 2 (by decide) hf_98 (fun _ h9 => h9) rfl dX10_show_87 ?_
              refine kk_idiv hx hb dX10_show_90 (by omega) (by omega) (by omega) ?_
              refine lv_bipush (v := nI 24) hx hb dX10_show_91 (by decide +kernel) ?_
              refine kk_idiv hx hb dX10_show_93 (by omega) (by omega) (by omega) ?_
              refine lv_iload hx hb dX10_show_94 (lv_at hl 0 rfl) ?_
              refine lv_aload_n hx hb dX10_show_96 rfl (lv_at hl 3 rfl) ?_
              refine va_get (D := D) (ci := 9) (v := .int (nI (cSp C))) (C := RX10) (T := TX10) (N := 36) hx hb hts hwX10 hown hK hP 0 rfl rfl 2 (by decide) hf_98 (fun _ h9 => h9) rfl dX10_show_97 ?_
              refine kk_idiv hx hb dX10_show_100 (by omega) (by omega) (by omega) ?_
              refine lv_bipush (v := nI 24) hx hb dX10_show_101 (by decide +kernel) ?_
              refine kk_irem hx hb dX10_show_103 (by omega) (by omega) (by omega) ?_
              refine lv_iload hx hb dX10_show_104 (lv_at hl 0 rfl) ?_
              refine lv_aload_n hx hb dX10_show_106 rfl (lv_at hl 3 rfl) ?_
              refine va_get (D := D) (ci := 9) (v := .int (nI (cSp C))) (C := RX10) (T := TX10) (N := 36) hx hb hts hwX10 hown hK hP 0 rfl rfl 2 (by decide) hf_98 (fun _ h9 => h9) rfl dX10_show_107 ?_
              refine kk_irem hx hb dX10_show_110 (by omega) (by omega) (by omega) ?_
              have o_20 : (((mN T) + 1) - 1) < 9 := by omega
              have hF := va_free (wc := [(m0, .inr (9, [.int i0, .ref a1, .int (nI (cSp C)), .ref a3, .int (nI (cLa C)), .ref a5, .ref a6, .ref a7, .int (nI (cAg C)), .int (-9 : Int32), .int i10, .int i11, .int i12, .ref a13, .ref a14, .ref a15, .ref a16, .int (nI ((mN T) + 1)), .ref a18, .ref a19, .ref a20, .ref a21, .ref a22, .ref a23, .ref a24, .ref a25, .int (nI (mN E)), .ref a27, .ref a28, .ref a29, .ref a30, .ref a31, .ref a32, .ref a33, .ref a34, .int i35])), (a18, .inl (cI, 9, .inl moX)), (a19, .inl (cI, 9, .inl miX)), (a20, .inl (cI, 9, .inl mtX))]) hD hS hA [0, 6, 7, 8] rfl
              refine va_callv (va_runV (As := [.int (nI (((mN T) + 1) - 1)), .int (nI ((x / (cSp C)) / 24)), .int (nI ((x / (cSp C)) % 24)), .int (nI (x % (cSp C)))]) (rest := []) ⟨hx, hb, hml, hown, hts⟩ (c_X10_layMove lL D cI cS _ m0 a1 a3 a5 a6 a7 a13 a14 a15 a16 a18 a19 a20 a21 a22 a23 a24 a25 a27 a28 a29 a30 a31 a32 a33 a34 i0 (nI (cSp C)) (nI (cLa C)) (nI (cAg C)) (-9 : Int32) i10 i11 i12 (nI ((mN T) + 1)) (nI (mN E)) i35 moX miX mtX (((mN T) + 1) - 1) (nI ((x / (cSp C)) / 24)) (nI ((x / (cSp C)) % 24)) (nI (x % (cSp C))) o_20) (cwV 4 hts gX10_show_X10_layMove rfl rfl rfl cd_X10_layMove ⟨Nat.le_of_ble_eq_true rfl, Nat.le_of_ble_eq_true rfl⟩) ⟨kB_blind, va_recv hK hP (ci := 9) (q0 := 0) rfl rfl, fun U hU hW => ⟨rfl, by rw [hU], by rw [hU]; exact hP.sub [0, 6, 7, 8] rfl, va_K.moved hW.alike hK, (hD.sub [0, 6, 7, 8] (by decide) rfl).weaken (fun _ _ _ _ => trivial)⟩⟩ rfl rfl hl.1 rfl (lv_room (Nat.le_of_ble_eq_true rfl)) dX10_show_111 ⟨Nat.le_of_ble_eq_true rfl, Nat.le_of_ble_eq_true rfl⟩) hS (fun q _ h => hF q h) hF (fun u_21 t H1 locs ht hvm hw_21 hB hz1 hk1 hS => ?_)
              obtain ⟨hP, hD⟩ := kk_join2 (wc := [(m0, .inr (9, [.int i0, .ref a1, .int (nI (cSp C)), .ref a3, .int (nI (cLa C)), .ref a5, .ref a6, .ref a7, .int (nI (cAg C)), .int (-9 : Int32), .int i10, .int i11, .int i12, .ref a13, .ref a14, .ref a15, .ref a16, .int (nI ((mN T) + 1)), .ref a18, .ref a19, .ref a20, .ref a21, .ref a22, .ref a23, .ref a24, .ref a25, .int (nI (mN E)), .ref a27, .ref a28, .ref a29, .ref a30, .ref a31, .ref a32, .ref a33, .ref a34, .int i35])), (a18, .inl (cI, 9, .inl moX)), (a19, .inl (cI, 9, .inl miX)), (a20, .inl (cI, 9, .inl mtX))]) (w1 := [(m0, .inr (9, [.int i0, .ref a1, .int (nI (cSp C)), .ref a3, .int (nI (cLa C)), .ref a5, .ref a6, .ref a7, .int (nI (cAg C)), .int (-9 : Int32), .int i10, .int i11, .int i12, .ref a13, .ref a14, .ref a15, .ref a16, .int (nI ((mN T) + 1)), .ref a18, .ref a19, .ref a20, .ref a21, .ref a22, .ref a23, .ref a24, .ref a25, .int (nI (mN E)), .ref a27, .ref a28, .ref a29, .ref a30, .ref a31, .ref a32, .ref a33, .ref a34, .int i35])), (a18, .inl (cI, 9, .inl (upd moX (((mN T) + 1) - 1) (nI ((x / (cSp C)) / 24))))), (a19, .inl (cI, 9, .inl (upd miX (((mN T) + 1) - 1) (nI ((x / (cSp C)) % 24))))), (a20, .inl (cI, 9, .inl (upd mtX (((mN T) + 1) - 1) (nI (x % (cSp C))))))]) (ws' := [(m0, .inr (9, [.int i0, .ref a1, .int (nI (cSp C)), .ref a3, .int (nI (cLa C)), .ref a5, .ref a6, .ref a7, .int (nI (cAg C)), .int (-9 : Int32), .int i10, .int i11, .int i12, .ref a13, .ref a14, .ref a15, .ref a16, .int (nI ((mN T) + 1)), .ref a18, .ref a19, .ref a20, .ref a21, .ref a22, .ref a23, .ref a24, .ref a25, .int (nI (mN E)), .ref a27, .ref a28, .ref a29, .ref a30, .ref a31, .ref a32, .ref a33, .ref a34, .int i35])), (a1, .inl (cI, 6, .inl sk)), (a3, .inl (cI, 4, .inl sh)), (a5, .inl (cI, 4, .inl ki)), (a6, .inl (cI, 4, .inl st)), (a7, .inl (cI, 4, .inl cl)), (a18, .inl (cI, 9, .inl (upd moX (((mN T) + 1) - 1) (nI ((x / (cSp C)) / 24))))), (a19, .inl (cI, 9, .inl (upd miX (((mN T) + 1) - 1) (nI ((x / (cSp C)) % 24))))), (a20, .inl (cI, 9, .inl (upd mtX (((mN T) + 1) - 1) (nI (x % (cSp C)))))), (a21, .inl (cI, 96, .inl faX)), (a22, .inl (cI, 96, .inl giX))]) (wr := [(a1, .inl (cI, 6, .inl sk)), (a3, .inl (cI, 4, .inl sh)), (a5, .inl (cI, 4, .inl ki)), (a6, .inl (cI, 4, .inl st)), (a7, .inl (cI, 4, .inl cl)), (a21, .inl (cI, 96, .inl faX)), (a22, .inl (cI, 96, .inl giX))]) (H1 := H1) hP hD [0, 6, 7, 8] [1, 2, 3, 4, 5, 9, 10] rfl rfl rfl rfl 11 rfl (by decide) [m0, a1, a3, a5, a6, a7, a18, a19, a20, a21, a22] rfl rfl hk1 (by rw [← ht]; exact hB)
              have hw_21 : True := hw_21
              clear hF hB hk1 hz1 hvm
              clear ht
              generalize H1 = H at hP hS ⊢
              refine lv_aload_n hx hb dX10_show_114 rfl (lv_at hl 3 rfl) ?_
              refine lv_iload_n hx hb dX10_show_115 rfl (lv_at hl 4 rfl) ?_
              refine lv_iload_n hx hb dX10_show_116 rfl (lv_at hl 5 rfl) ?_
              -- differs: mo : mN (mApp T (x / cSp C / 24) (x / cSp C % 24) (x % cSp C)) / (mN T) + 1
              -- differs: mo : mN (mApp T (x / cSp C / 24) (x / cSp C % 24) (x % cSp C)) / (mN T) + 1
              -- differs: mo : mN (mApp T (x / cSp C / 24) (x / cSp C % 24) (x % cSp C)) / (mN T) + 1
              have o_22 : okC C := by exact hC
              have o_23 : ok9 C (mApp T (x / cSp C / 24) (x / cSp C % 24) (x % cSp C)) := by exact ok9_app hM0 q1 q2 q3
              have o_24 : ∀ k, k < cLa C → st k = nI (cSt C k) := by exact hst
              have o_25 : repM (mApp T (x / cSp C / 24) (x / cSp C % 24) (x % cSp C)) (upd moX (((mN T) + 1) - 1) (nI ((x / (cSp C)) / 24))) (upd miX (((mN T) + 1) - 1) (nI ((x / (cSp C)) % 24))) (upd mtX (((mN T) + 1) - 1) (nI (x % (cSp C)))) := by exact repM_app hrX
              have o_26 : kdM C 9 (-9 : Int32) (cKi C) ki := by exact hkd
              have o_27 : repB C sk sh cl := by exact hrB
              have o_28 : x1N < cSp C := by omega
              have o_29 : x2N < 1000 := by omega
              have hF := va_free (wc := [(m0, .inr (9, [.int i0, .ref a1, .int (nI (cSp C)), .ref a3, .int (nI (cLa C)), .ref a5, .ref a6, .ref a7, .int (nI (cAg C)), .int (-9 : Int32), .int i10, .int i11, .int i12, .ref a13, .ref a14, .ref a15, .ref a16, .int (nI (mN (mApp T (x / cSp C / 24) (x / cSp C % 24) (x % cSp C)))), .ref a18, .ref a19, .ref a20, .ref a21, .ref a22, .ref a23, .ref a24, .ref a25, .int (nI (mN E)), .ref a27, .ref a28, .ref a29, .ref a30, .ref a31, .ref a32, .ref a33, .ref a34, .int i35])), (a1, .inl (cI, 6, .inl sk)), (a3, .inl (cI, 4, .inl sh)), (a5, .inl (cI, 4, .inl ki)), (a6, .inl (cI, 4, .inl st)), (a7, .inl (cI, 4, .inl cl)), (a18, .inl (cI, 9, .inl (upd moX (((mN T) + 1) - 1) (nI ((x / (cSp C)) / 24))))), (a19, .inl (cI, 9, .inl (upd miX (((mN T) + 1) - 1) (nI ((x / (cSp C)) % 24))))), (a20, .inl (cI, 9, .inl (upd mtX (((mN T) + 1) - 1) (nI (x % (cSp C)))))), (a21, .inl (cI, 96, .inl faX)), (a22, .inl (cI, 96, .inl giX))]) hD hS hA [0, 1, 2, 3, 4, 5, 6, 7, 8, 9, 10] rfl
              refine va_calli (va_runV (As := [.int (nI x1N), .int (nI x2N)]) (rest := []) ⟨hx, hb, hml, hown, hts⟩ (c_X10_darkMany lL D cI cS _ C (mApp T (x / cSp C / 24) (x / cSp C % 24) (x % cSp C)) 9 (cKi C) m0 a1 a3 a5 a6 a7 a13 a14 a15 a16 a18 a19 a20 a21 a22 a23 a24 a25 a27 a28 a29 a30 a31 a32 a33 a34 i0 (nI (cSp C)) (-9 : Int32) i10 i11 i12 (nI (mN E)) i35 sk sh ki st cl (upd moX (((mN T) + 1) - 1) (nI ((x / (cSp C)) / 24))) (upd miX (((mN T) + 1) - 1) (nI ((x / (cSp C)) % 24))) (upd mtX (((mN T) + 1) - 1) (nI (x % (cSp C)))) faX giX x1N x2N o_22 o_23 o_24 o_25 o_26 o_27 o_28 o_29) (cwV 2 hts gX10_show_X10_darkMany rfl rfl rfl cd_X10_darkMany ⟨Nat.le_of_ble_eq_true rfl, Nat.le_of_ble_eq_true rfl⟩) ⟨kB_blind, va_recv hK hP (ci := 9) (q0 := 0) rfl rfl, fun U hU hW => ⟨rfl, by rw [hU], by rw [hU]; exact hP.sub [0, 1, 2, 3, 4, 5, 6, 7, 8, 9, 10] rfl, va_K.moved hW.alike hK, (hD.sub [0, 1, 2, 3, 4, 5, 6, 7, 8, 9, 10] (by decide) rfl).weaken (fun _ _ _ _ => trivial)⟩⟩ rfl rfl hl.1 rfl (lv_room (Nat.le_of_ble_eq_true rfl)) dX10_show_117 ⟨Nat.le_of_ble_eq_true rfl, Nat.le_of_ble_eq_true rfl⟩) hS (fun q _ h => hF q h) hF (fun r_30 u_30 t H1 locs ht hvm hw_30 hB hz1 hk1 hS => ?_)
              obtain ⟨fa2_30, gi2_30⟩ := u_30
              obtain ⟨hP, hD⟩ := kk_join2 (wc := [(m0, .inr (9, [.int i0, .ref a1, .int (nI (cSp C)), .ref a3, .int (nI (cLa C)), .ref a5, .ref a6, .ref a7, .int (nI (cAg C)), .int (-9 : Int32), .int i10, .int i11, .int i12, .ref a13, .ref a14, .ref a15, .ref a16, .int (nI (mN (mApp T (x / cSp C / 24) (x / cSp C % 24) (x % cSp C)))), .ref a18, .ref a19, .ref a20, .ref a21, .ref a22, .ref a23, .ref a24, .ref a25, .int (nI (mN E)), .ref a27, .ref a28, .ref a29, .ref a30, .ref a31, .ref a32, .ref a33, .ref a34, .int i35])), (a1, .inl (cI, 6, .inl sk)), (a3, .inl (cI, 4, .inl sh)), (a5, .inl (cI, 4, .inl ki)), (a6, .inl (cI, 4, .inl st)), (a7, .inl (cI, 4, .inl cl)), (a18, .inl (cI, 9, .inl (upd moX (((mN T) + 1) - 1) (nI ((x / (cSp C)) / 24))))), (a19, .inl (cI, 9, .inl (upd miX (((mN T) + 1) - 1) (nI ((x / (cSp C)) % 24))))), (a20, .inl (cI, 9, .inl (upd mtX (((mN T) + 1) - 1) (nI (x % (cSp C)))))), (a21, .inl (cI, 96, .inl faX)), (a22, .inl (cI, 96, .inl giX))]) (w1 := [(m0, .inr (9, [.int i0, .ref a1, .int (nI (cSp C)), .ref a3, .int (nI (cLa C)), .ref a5, .ref a6, .ref a7, .int (nI (cAg C)), .int (-9 : Int32), .int i10, .int i11, .int i12, .ref a13, .ref a14, .ref a15, .ref a16, .int (nI (mN (mApp T (x / cSp C / 24) (x / cSp C % 24) (x % cSp C)))), .ref a18, .ref a19, .ref a20, .ref a21, .ref a22, .ref a23, .ref a24, .ref a25, .int (nI (mN E)), .ref a27, .ref a28, .ref a29, .ref a30, .ref a31, .ref a32, .ref a33, .ref a34, .int i35])), (a1, .inl (cI, 6, .inl sk)), (a3, .inl (cI, 4, .inl sh)), (a5, .inl (cI, 4, .inl ki)), (a6, .inl (cI, 4, .inl st)), (a7, .inl (cI, 4, .inl cl)), (a18, .inl (cI, 9, .inl (upd moX (((mN T) + 1) - 1) (nI ((x / (cSp C)) / 24))))), (a19, .inl (cI, 9, .inl (upd miX (((mN T) + 1) - 1) (nI ((x / (cSp C)) % 24))))), (a20, .inl (cI, 9, .inl (upd mtX (((mN T) + 1) - 1) (nI (x % (cSp C)))))), (a21, .inl (cI, 96, .inl fa2_30)), (a22, .inl (cI, 96, .inl gi2_30))]) (ws' := [(m0, .inr (9, [.int i0, .ref a1, .int (nI (cSp C)), .ref a3, .int (nI (cLa C)), .ref a5, .ref a6, .ref a7, .int (nI (cAg C)), .int (-9 : Int32), .int i10, .int i11, .int i12, .ref a13, .ref a14, .ref a15, .ref a16, .int (nI ((mN T) + 1)), .ref a18, .ref a19, .ref a20, .ref a21, .ref a22, .ref a23, .ref a24, .ref a25, .int (nI (mN E)), .ref a27, .ref a28, .ref a29, .ref a30, .ref a31, .ref a32, .ref a33, .ref a34, .int i35])), (a1, .inl (cI, 6, .inl sk)), (a3, .inl (cI, 4, .inl sh)), (a5, .inl (cI, 4, .inl ki)), (a6, .inl (cI, 4, .inl st)), (a7, .inl (cI, 4, .inl cl)), (a18, .inl (cI, 9, .inl (upd moX (((mN T) + 1) - 1) (nI ((x / (cSp C)) / 24))))), (a19, .inl (cI, 9, .inl (upd miX (((mN T) + 1) - 1) (nI ((x / (cSp C)) % 24))))), (a20, .inl (cI, 9, .inl (upd mtX (((mN T) + 1) - 1) (nI (x % (cSp C)))))), (a21, .inl (cI, 96, .inl fa2_30)), (a22, .inl (cI, 96, .inl gi2_30))]) (wr := []) (H1 := H1) hP hD [0, 1, 2, 3, 4, 5, 6, 7, 8, 9, 10] [] rfl rfl rfl rfl 11 rfl (by decide) [m0, a1, a3, a5, a6, a7, a18, a19, a20, a21, a22] rfl rfl hk1 (by rw [← ht]; exact hB)
              have hw_30 : r_30 = nI (cntB C (plc (mApp T (x / cSp C / 24) (x / cSp C % 24) (x % cSp C)) (cSt C)) x1N x2N) ∧ True := hw_30
              clear hF hB hk1 hz1 hvm
              clear ht
              generalize H1 = H at hP hS ⊢
              obtain ⟨rfl, hw_30⟩ := hw_30
              have hll := cntB_le C (plc (mApp T (x / cSp C / 24) (x / cSp C % 24) (x % cSp C)) (cSt C)) x1N x2N
              refine lv_istore (lv' := [(7, .int (nI (cntB C (plc (mApp T (x / cSp C / 24) (x / cSp C % 24) (x % cSp C)) (cSt C)) x1N x2N))), (6, .int (nI x)), (5, .int ((bD C T x1N x2N x).1)), (4, .int (iI (-(bD C T x1N x2N x).2))), (0, .ref m0), (1, .int (nI x1N)), (2, .int (nI x2N)), (3, .int (nI x3N))]) hx hb dX10_show_120 hl (by decide) rfl (fun ls hl => ?_)
              refine lv_iload hx hb dX10_show_122 (lv_at hl 0 rfl) ?_
              refine lv_iload hx hb dX10_show_124 (lv_at hl 3 rfl) ?_
              refine lv_icmp_ge (tgt := 136) hx hb dX10_show_126 (by decide) (fun c_31 => ?_) (fun c_31 => ?_)
              · skip
                have hc_31 := (iI_len (a := cntB C (plc (mApp T (x / cSp C / 24) (x / cSp C % 24) (x % cSp C)) (cSt C)) x1N x2N) (b := -(bD C T x1N x2N x).2) (by omega) (by omega) (by omega)).mp c_31
                refine lv_iload hx hb dX10_show_136 (lv_at hl 2 rfl) ?_
                refine lv_istore (lv' := [(5, .int ((bD C T x1N x2N x).1)), (7, .int (nI (cntB C (plc (mApp T (x / cSp C / 24) (x / cSp C % 24) (x % cSp C)) (cSt C)) x1N x2N))), (6, .int (nI x)), (4, .int (iI (-(bD C T x1N x2N x).2))), (0, .ref m0), (1, .int (nI x1N)), (2, .int (nI x2N)), (3, .int (nI x3N))]) hx hb dX10_show_138 hl (by decide) rfl (fun ls hl => ?_)
                refine lv_iload hx hb dX10_show_140 (lv_at hl 1 rfl) ?_
                refine lv_iload hx hb dX10_show_142 (lv_at hl 3 rfl) ?_
                refine lv_icmp_ge (tgt := 152) hx hb dX10_show_144 (by decide) (fun c_32 => ?_) (fun c_32 => ?_)
                · skip
                  refine lv_iload hx hb dX10_show_152 (lv_at hl 3 rfl) ?_
                  refine lv_istore (lv' := [(4, .int (iI (-(bD C T x1N x2N x).2))), (5, .int ((bD C T x1N x2N x).1)), (7, .int (nI (cntB C (plc (mApp T (x / cSp C / 24) (x / cSp C % 24) (x % cSp C)) (cSt C)) x1N x2N))), (6, .int (nI x)), (0, .ref m0), (1, .int (nI x1N)), (2, .int (nI x2N)), (3, .int (nI x3N))]) hx hb dX10_show_154 hl (by decide) rfl (fun ls hl => ?_)
                  have hlt : ¬ (bD C T x1N x2N x).2 < -((cntB C (plc (mApp T (x / cSp C / 24) (x / cSp C % 24) (x % cSp C)) (cSt C)) x1N x2N : Nat) : Int) := by omega
                  have e_33 : (bD C T x1N x2N x).1 = (bD C T x1N x2N (x + 1)).1 := by
                    rw [bD_s, if_neg hlt]
                  rw [e_33] at hl
                  have e_34 : iI (-(bD C T x1N x2N x).2) = iI (-(bD C T x1N x2N (x + 1)).2) := by
                    rw [bD_s, if_neg hlt]
                  rw [e_34] at hl
                  refine lv_iinc (v := nI (x + 1)) (lv' := [(6, .int (nI (x + 1))), (4, .int (iI (-(bD C T x1N x2N (x + 1)).2))), (5, .int ((bD C T x1N x2N (x + 1)).1)), (7, .int (nI (cntB C (plc (mApp T (x / cSp C / 24) (x / cSp C % 24) (x % cSp C)) (cSt C)) x1N x2N))), (0, .ref m0), (1, .int (nI x1N)), (2, .int (nI x2N)), (3, .int (nI x3N))]) hx hb dX10_show_156 hl (k := 3) rfl (nI_add x 1) (by decide) rfl (fun ls hl => ?_)
                  refine lv_goto (tgt := 60) hx hb dX10_show_159 (by decide) ?_
                  have o_35 : (x + 1) ≤ cLa C * 24 * cSp C := by omega
                  have o_36 : repM T (upd moX (((mN T) + 1) - 1) (nI ((x / (cSp C)) / 24))) (upd miX (((mN T) + 1) - 1) (nI ((x / (cSp C)) % 24))) (upd mtX (((mN T) + 1) - 1) (nI (x % (cSp C)))) := by exact fun i hi => by rw [up_ne _ _ (show i ≠ mN T + 1 - 1 by omega), up_ne _ _ (show i ≠ mN T + 1 - 1 by omega), up_ne _ _ (show i ≠ mN T + 1 - 1 by omega)]; exact hrX i hi
                  have o_37 : cLa C * 24 * cSp C + 1 ≤ (x + 1) + n_60 := by omega
                  exact ih_60 (x + 1) (upd moX (((mN T) + 1) - 1) (nI ((x / (cSp C)) / 24))) (upd miX (((mN T) + 1) - 1) (nI ((x / (cSp C)) % 24))) (upd mtX (((mN T) + 1) - 1) (nI (x % (cSp C)))) fa2_30 gi2_30 o_35 o_36 o_37 _ _ hP hD hS ls (lv_sub hl [0, 2, 1, 4, 5, 6, 7] rfl)
                · skip
                  exact absurd c_31 c_32
              · skip
                have hc_31 := (not_congr (iI_len (a := cntB C (plc (mApp T (x / cSp C / 24) (x / cSp C % 24) (x % cSp C)) (cSt C)) x1N x2N) (b := -(bD C T x1N x2N x).2) (by omega) (by omega) (by omega))).mp c_31
                refine lv_aload_n hx hb dX10_show_129 rfl (lv_at hl 4 rfl) ?_
                have o_38 : (mN T) < 9 := by omega
                have o_39 : (upd moX (((mN T) + 1) - 1) (nI ((x / (cSp C)) / 24))) (mN T) = nI (x / cSp C / 24) := by exact up_at _ _ _
                have o_40 : (upd miX (((mN T) + 1) - 1) (nI ((x / (cSp C)) % 24))) (mN T) = nI (x / cSp C % 24) := by exact up_at _ _ _
                have o_41 : (upd mtX (((mN T) + 1) - 1) (nI (x % (cSp C)))) (mN T) = nI (x % cSp C) := by exact up_at _ _ _
                refine vp_callSi (W.runV (As := []) (rest := []) ⟨hx, hb, hml, hown, hts⟩ (c_X10_toldMove lL D cI cS (mN T) (x / cSp C / 24) (x / cSp C % 24) (x % cSp C) m0 a1 a3 a5 a6 a7 a13 a14 a15 a16 a18 a19 a20 a21 a22 a23 a24 a25 a27 a28 a29 a30 a31 a32 a33 a34 i0 (nI (cSp C)) (nI (cLa C)) (nI (cAg C)) (-9 : Int32) i10 i11 i12 (nI (mN E)) i35 (upd moX (((mN T) + 1) - 1) (nI ((x / (cSp C)) / 24))) (upd miX (((mN T) + 1) - 1) (nI ((x / (cSp C)) % 24))) (upd mtX (((mN T) + 1) - 1) (nI (x % (cSp C)))) o_38 o_39 o_40 o_41) (cwV 0 hts gX10_show_X10_toldMove rfl rfl rfl cd_X10_toldMove ⟨Nat.le_of_ble_eq_true rfl, Nat.le_of_ble_eq_true rfl⟩) ⟨kBp_blind, va_recv hK hP (ci := 9) (q0 := 0) rfl rfl, fun U hU hW => ⟨rfl, by rw [hU]; exact hP.sub [0, 6, 7, 8] rfl, va_K.moved hW.alike hK⟩⟩ rfl rfl hl.1 rfl (lv_room (Nat.le_of_ble_eq_true rfl)) dX10_show_130 ⟨Nat.le_of_ble_eq_true rfl, Nat.le_of_ble_eq_true rfl⟩) (fun r_42 hw_42 => ?_)
                obtain rfl : r_42 = nI (1000 * (x / cSp C / 24) + 10 * (x / cSp C % 24) + (x % cSp C)) := hw_42
                refine lv_goto (tgt := 138) hx hb dX10_show_133 (by decide) ?_
                refine lv_istore (lv' := [(5, .int (nI (1000 * (x / cSp C / 24) + 10 * (x / cSp C % 24) + (x % cSp C)))), (7, .int (nI (cntB C (plc (mApp T (x / cSp C / 24) (x / cSp C % 24) (x % cSp C)) (cSt C)) x1N x2N))), (6, .int (nI x)), (4, .int (iI (-(bD C T x1N x2N x).2))), (0, .ref m0), (1, .int (nI x1N)), (2, .int (nI x2N)), (3, .int (nI x3N))]) hx hb dX10_show_138 hl (by decide) rfl (fun ls hl => ?_)
                refine lv_iload hx hb dX10_show_140 (lv_at hl 1 rfl) ?_
                refine lv_iload hx hb dX10_show_142 (lv_at hl 3 rfl) ?_
                refine lv_icmp_ge (tgt := 152) hx hb dX10_show_144 (by decide) (fun c_43 => ?_) (fun c_43 => ?_)
                · skip
                  exact absurd c_43 c_31
                · skip
                  refine lv_iload hx hb dX10_show_147 (lv_at hl 1 rfl) ?_
                  refine lv_goto (tgt := 154) hx hb dX10_show_149 (by decide) ?_
                  refine lv_istore (lv' := [(4, .int (nI (cntB C (plc (mApp T (x / cSp C / 24) (x / cSp C % 24) (x % cSp C)) (cSt C)) x1N x2N))), (5, .int (nI (1000 * (x / cSp C / 24) + 10 * (x / cSp C % 24) + (x % cSp C)))), (7, .int (nI (cntB C (plc (mApp T (x / cSp C / 24) (x / cSp C % 24) (x % cSp C)) (cSt C)) x1N x2N))), (6, .int (nI x)), (0, .ref m0), (1, .int (nI x1N)), (2, .int (nI x2N)), (3, .int (nI x3N))]) hx hb dX10_show_154 hl (by decide) rfl (fun ls hl => ?_)
                  have hlt : (bD C T x1N x2N x).2 < -((cntB C (plc (mApp T (x / cSp C / 24) (x / cSp C % 24) (x % cSp C)) (cSt C)) x1N x2N : Nat) : Int) := by omega
                  have e_44 : nI (1000 * (x / cSp C / 24) + 10 * (x / cSp C % 24) + (x % cSp C)) = (bD C T x1N x2N (x + 1)).1 := by
                    rw [bD_s, if_pos hlt]
                  rw [e_44] at hl
                  have e_45 : nI (cntB C (plc (mApp T (x / cSp C / 24) (x / cSp C % 24) (x % cSp C)) (cSt C)) x1N x2N) = iI (-(bD C T x1N x2N (x + 1)).2) := by
                    rw [bD_s, if_pos hlt]; show _ = iI (- -((_ : Nat) : Int)); rw [Int.neg_neg]; exact (iI_n _).symm
                  rw [e_45] at hl
                  refine lv_iinc (v := nI (x + 1)) (lv' := [(6, .int (nI (x + 1))), (4, .int (iI (-(bD C T x1N x2N (x + 1)).2))), (5, .int ((bD C T x1N x2N (x + 1)).1)), (7, .int (iI (-(bD C T x1N x2N (x + 1)).2))), (0, .ref m0), (1, .int (nI x1N)), (2, .int (nI x2N)), (3, .int (nI x3N))]) hx hb dX10_show_156 hl (k := 3) rfl (nI_add x 1) (by decide) rfl (fun ls hl => ?_)
                  refine lv_goto (tgt := 60) hx hb dX10_show_159 (by decide) ?_
                  have o_46 : (x + 1) ≤ cLa C * 24 * cSp C := by omega
                  have o_47 : repM T (upd moX (((mN T) + 1) - 1) (nI ((x / (cSp C)) / 24))) (upd miX (((mN T) + 1) - 1) (nI ((x / (cSp C)) % 24))) (upd mtX (((mN T) + 1) - 1) (nI (x % (cSp C)))) := by exact fun i hi => by rw [up_ne _ _ (show i ≠ mN T + 1 - 1 by omega), up_ne _ _ (show i ≠ mN T + 1 - 1 by omega), up_ne _ _ (show i ≠ mN T + 1 - 1 by omega)]; exact hrX i hi
                  have o_48 : cLa C * 24 * cSp C + 1 ≤ (x + 1) + n_60 := by omega
                  exact ih_60 (x + 1) (upd moX (((mN T) + 1) - 1) (nI ((x / (cSp C)) / 24))) (upd miX (((mN T) + 1) - 1) (nI ((x / (cSp C)) % 24))) (upd mtX (((mN T) + 1) - 1) (nI (x % (cSp C)))) fa2_30 gi2_30 o_46 o_47 o_48 _ _ hP hD hS ls (lv_sub hl [0, 2, 1, 4, 5, 6, 7] rfl)
        have o_49 : 0 ≤ cLa C * 24 * cSp C := by exact Nat.zero_le _
        have o_50 : repM T mo mi mt := by exact hrT
        have o_51 : cLa C * 24 * cSp C + 1 ≤ 0 + (cLa C * 24 * cSp C + 1) := by omega
        exact L_60 (cLa C * 24 * cSp C + 1) 0 mo mi mt fa2_16 gi2_16 o_49 o_50 o_51 _ _ hP hD hS ls (lv_sub hl [0, 1, 2, 3, 4, 5, 6] rfl)
      · skip
        refine lv_bipush (v := (-2 : Int32)) hx hb dX10_show_32 (by decide +kernel) ?_
        have hq : (-2 : Int32) = sp_show C T (nI x1N) (nI x2N) x3 ∧ repM T mo mi mt := by refine ⟨by simp only [sp_show, hb_3, hb_5, hb_7, t_x1, t_x2, cond_true, cond_false], hrT⟩
        refine kk_QQ hQQ ?_
        exact W.iret (v := (-2 : Int32)) hx hb hr (fun t ht hW => ⟨⟨(-2 : Int32), (mo, mi, mt, fa, gi), rfl, hq, by show va_P D vwCl _ t.heap; rw [ht]; exact hP⟩, hS.F ht⟩) hS.2.2 dX10_show_34
  · skip
    refine lv_iconst (v := (-1 : Int32)) hx hb dX10_show_8 (by decide +kernel) ?_
    have hq : (-1 : Int32) = sp_show C T x1 x2 x3 ∧ repM T mo mi mt := by refine ⟨by simp only [sp_show, hb_3, cond_true, cond_false], hrT⟩
    refine kk_QQ hQQ ?_
    exact W.iret (v := (-1 : Int32)) hx hb hr (fun t ht hW => ⟨⟨(-1 : Int32), (mo, mi, mt, fa, gi), rfl, hq, by show va_P D vwCl _ t.heap; rw [ht]; exact hP⟩, hS.F ht⟩) hS.2.2 dX10_show_9

abbrev rmX10_odds : Room := { frames := 4, cells := 0, slots := 0, locals := 97 }
set_option maxHeartbeats 4000000 in
set_option maxRecDepth 100000 in
theorem c_X10_odds (lL : Launch) (D : va_G) (cI cS : ClassId) (sz : Nat) (C : Co) (T : Mv) (E : Mv) (m0 : Nat) (a1 : Nat) (a3 : Nat) (a5 : Nat) (a6 : Nat) (a7 : Nat) (a13 : Nat) (a14 : Nat) (a15 : Nat) (a16 : Nat) (a18 : Nat) (a19 : Nat) (a20 : Nat) (a21 : Nat) (a22 : Nat) (a23 : Nat) (a24 : Nat) (a25 : Nat) (a27 : Nat) (a28 : Nat) (a29 : Nat) (a30 : Nat) (a31 : Nat) (a32 : Nat) (a33 : Nat) (a34 : Nat) (i0 : Int32) (i10 : Int32) (i11 : Int32) (i12 : Int32) (i35 : Int32) (sk : Nat → Int32) (sh : Nat → Int32) (ki : Nat → Int32) (st : Nat → Int32) (cl : Nat → Int32) (mo : Nat → Int32) (mi : Nat → Int32) (mt : Nat → Int32) (fa : Nat → Int32) (gi : Nat → Int32) (kc : Nat → Int32) (x1 : Int32) (x2 : Int32) (x3 : Int32) (x4 : Int32) (hX : okX C T E) (hrC : repC C sk sh ki st cl) (hrT : repM T mo mi mt) : Met lL yX10_odds wsX10_odds rmX10_odds (va_Pc [.ref m0, .int x1, .int x2, .int x3, .int x4] (kB D cI cS [(m0, .inr (9, [.int i0, .ref a1, .int (nI (cSp C)), .ref a3, .int (nI (cLa C)), .ref a5, .ref a6, .ref a7, .int (nI (cAg C)), .int (-9 : Int32), .int i10, .int i11, .int i12, .ref a13, .ref a14, .ref a15, .ref a16, .int (nI (mN T)), .ref a18, .ref a19, .ref a20, .ref a21, .ref a22, .ref a23, .ref a24, .ref a25, .int (nI (mN E)), .ref a27, .ref a28, .ref a29, .ref a30, .ref a31, .ref a32, .ref a33, .ref a34, .int i35])), (a1, .inl (cI, 6, .inl sk)), (a3, .inl (cI, 4, .inl sh)), (a5, .inl (cI, 4, .inl ki)), (a6, .inl (cI, 4, .inl st)), (a7, .inl (cI, 4, .inl cl)), (a18, .inl (cI, 9, .inl mo)), (a19, .inl (cI, 9, .inl mi)), (a20, .inl (cI, 9, .inl mt)), (a21, .inl (cI, 96, .inl fa)), (a22, .inl (cI, 96, .inl gi)), (a30, .inl (cI, 4, .inl kc))] sz)) (kQl D (fun (r : Int64) (u : (Nat → Int32) × (Nat → Int32) × (Nat → Int32) × (Nat → Int32)) => r = sp_odds C T x1 x2 x3 x4 ∧ repC C sk sh ki st u.1) (fun u : (Nat → Int32) × (Nat → Int32) × (Nat → Int32) × (Nat → Int32) => [(m0, .inr (9, [.int i0, .ref a1, .int (nI (cSp C)), .ref a3, .int (nI (cLa C)), .ref a5, .ref a6, .ref a7, .int (nI (cAg C)), .int (-9 : Int32), .int i10, .int i11, .int i12, .ref a13, .ref a14, .ref a15, .ref a16, .int (nI (mN T)), .ref a18, .ref a19, .ref a20, .ref a21, .ref a22, .ref a23, .ref a24, .ref a25, .int (nI (mN E)), .ref a27, .ref a28, .ref a29, .ref a30, .ref a31, .ref a32, .ref a33, .ref a34, .int i35])), (a1, .inl (cI, 6, .inl sk)), (a3, .inl (cI, 4, .inl sh)), (a5, .inl (cI, 4, .inl ki)), (a6, .inl (cI, 4, .inl st)), (a7, .inl (cI, 4, .inl u.1)), (a18, .inl (cI, 9, .inl mo)), (a19, .inl (cI, 9, .inl mi)), (a20, .inl (cI, 9, .inl mt)), (a21, .inl (cI, 96, .inl u.2.2.1)), (a22, .inl (cI, 96, .inl u.2.2.2)), (a30, .inl (cI, 4, .inl u.2.1))]) (va_A [(m0, .inr (9, [.int i0, .ref a1, .int (nI (cSp C)), .ref a3, .int (nI (cLa C)), .ref a5, .ref a6, .ref a7, .int (nI (cAg C)), .int (-9 : Int32), .int i10, .int i11, .int i12, .ref a13, .ref a14, .ref a15, .ref a16, .int (nI (mN T)), .ref a18, .ref a19, .ref a20, .ref a21, .ref a22, .ref a23, .ref a24, .ref a25, .int (nI (mN E)), .ref a27, .ref a28, .ref a29, .ref a30, .ref a31, .ref a32, .ref a33, .ref a34, .int i35])), (a1, .inl (cI, 6, .inl sk)), (a3, .inl (cI, 4, .inl sh)), (a5, .inl (cI, 4, .inl ki)), (a6, .inl (cI, 4, .inl st)), (a7, .inl (cI, 4, .inl cl)), (a18, .inl (cI, 9, .inl mo)), (a19, .inl (cI, 9, .inl mi)), (a20, .inl (cI, 9, .inl mt)), (a21, .inl (cI, 96, .inl fa)), (a22, .inl (cI, 96, .inl gi)), (a30, .inl (cI, 4, .inl kc))] sz)) 0 0 (va_A [(m0, .inr (9, [.int i0, .ref a1, .int (nI (cSp C)), .ref a3, .int (nI (cLa C)), .ref a5, .ref a6, .ref a7, .int (nI (cAg C)), .int (-9 : Int32), .int i10, .int i11, .int i12, .ref a13, .ref a14, .ref a15, .ref a16, .int (nI (mN T)), .ref a18, .ref a19, .ref a20, .ref a21, .ref a22, .ref a23, .ref a24, .ref a25, .int (nI (mN E)), .ref a27, .ref a28, .ref a29, .ref a30, .ref a31, .ref a32, .ref a33, .ref a34, .int i35])), (a1, .inl (cI, 6, .inl sk)), (a3, .inl (cI, 4, .inl sh)), (a5, .inl (cI, 4, .inl ki)), (a6, .inl (cI, 4, .inl st)), (a7, .inl (cI, 4, .inl cl)), (a18, .inl (cI, 9, .inl mo)), (a19, .inl (cI, 9, .inl mi)), (a20, .inl (cI, 9, .inl mt)), (a21, .inl (cI, 96, .inl fa)), (a22, .inl (cI, 96, .inl gi)), (a30, .inl (cI, 4, .inl kc))] sz) := by
  refine Met.ofW (cc := cX10_odds) (maxL := 9) (ret := (some .long)) (by decide) rfl ?_
  intro pP eE sS mM args below meth cC s₁ B hml hv
  obtain ⟨rfl, hsz, hP, hK, hD0⟩ := hv
  have hx := B.exec
  have hb := B.bytes
  have hr := B.returns
  have hts := atoms_spec (ws := wsX10_odds) B.pre
  have hown : sS.vm.findClass RX10 = some mM.cls := findClass_of_methodNamed B.named
  have hlocks := B.notSynchronized
  subst hsz
  have hD := hD0.self (sz := sS.heap.size)
  generalize hAe : va_A [(m0, .inr (9, [.int i0, .ref a1, .int (nI (cSp C)), .ref a3, .int (nI (cLa C)), .ref a5, .ref a6, .ref a7, .int (nI (cAg C)), .int (-9 : Int32), .int i10, .int i11, .int i12, .ref a13, .ref a14, .ref a15, .ref a16, .int (nI (mN T)), .ref a18, .ref a19, .ref a20, .ref a21, .ref a22, .ref a23, .ref a24, .ref a25, .int (nI (mN E)), .ref a27, .ref a28, .ref a29, .ref a30, .ref a31, .ref a32, .ref a33, .ref a34, .int i35])), (a1, .inl (cI, 6, .inl sk)), (a3, .inl (cI, 4, .inl sh)), (a5, .inl (cI, 4, .inl ki)), (a6, .inl (cI, 4, .inl st)), (a7, .inl (cI, 4, .inl cl)), (a18, .inl (cI, 9, .inl mo)), (a19, .inl (cI, 9, .inl mi)), (a20, .inl (cI, 9, .inl mt)), (a21, .inl (cI, 96, .inl fa)), (a22, .inl (cI, 96, .inl gi)), (a30, .inl (cI, 4, .inl kc))] sS.heap.size = A at hD ⊢
  have hA : ∀ q : Nat, sS.heap.size ≤ q → A q := fun q h => by rw [← hAe]; exact Or.inr h
  have hS : va_S A sS.heap sS.heap [] := va_S.rf
  have hP : va_P D vwCl [(m0, .inr (9, [.int i0, .ref a1, .int (nI (cSp C)), .ref a3, .int (nI (cLa C)), .ref a5, .ref a6, .ref a7, .int (nI (cAg C)), .int (-9 : Int32), .int i10, .int i11, .int i12, .ref a13, .ref a14, .ref a15, .ref a16, .int (nI (mN T)), .ref a18, .ref a19, .ref a20, .ref a21, .ref a22, .ref a23, .ref a24, .ref a25, .int (nI (mN E)), .ref a27, .ref a28, .ref a29, .ref a30, .ref a31, .ref a32, .ref a33, .ref a34, .int i35])), (a1, .inl (cI, 6, .inl sk)), (a3, .inl (cI, 4, .inl sh)), (a5, .inl (cI, 4, .inl ki)), (a6, .inl (cI, 4, .inl st)), (a7, .inl (cI, 4, .inl cl)), (a18, .inl (cI, 9, .inl mo)), (a19, .inl (cI, 9, .inl mi)), (a20, .inl (cI, 9, .inl mt)), (a21, .inl (cI, 96, .inl fa)), (a22, .inl (cI, 96, .inl gi)), (a30, .inl (cI, 4, .inl kc))] sS.heap := hP
  have hD : va_D A [(m0, .inr (9, [.int i0, .ref a1, .int (nI (cSp C)), .ref a3, .int (nI (cLa C)), .ref a5, .ref a6, .ref a7, .int (nI (cAg C)), .int (-9 : Int32), .int i10, .int i11, .int i12, .ref a13, .ref a14, .ref a15, .ref a16, .int (nI (mN T)), .ref a18, .ref a19, .ref a20, .ref a21, .ref a22, .ref a23, .ref a24, .ref a25, .int (nI (mN E)), .ref a27, .ref a28, .ref a29, .ref a30, .ref a31, .ref a32, .ref a33, .ref a34, .int i35])), (a1, .inl (cI, 6, .inl sk)), (a3, .inl (cI, 4, .inl sh)), (a5, .inl (cI, 4, .inl ki)), (a6, .inl (cI, 4, .inl st)), (a7, .inl (cI, 4, .inl cl)), (a18, .inl (cI, 9, .inl mo)), (a19, .inl (cI, 9, .inl mi)), (a20, .inl (cI, 9, .inl mt)), (a21, .inl (cI, 96, .inl fa)), (a22, .inl (cI, 96, .inl gi)), (a30, .inl (cI, 4, .inl kc))] := hD
  have hf_22 := hts (.fieldLink RX10 22 "OldLampsModel" "cloudOf" "[I") (List.mem_of_getElem? (i := 3) rfl)
  have hf_70 := hts (.fieldLink RX10 70 "OldLampsModel" "keptCloud" "[I") (List.mem_of_getElem? (i := 2) rfl)
  have hk_210 := hts (.constantLong RX10 210 (999)) (List.mem_of_getElem? (i := 1) rfl)
  have hk_232 := hts (.constantLong RX10 232 (16)) (List.mem_of_getElem? (i := 4) rfl)
  have hwX10 : ∀ w ∈ wsX100, w ∈ wsX10_odds := fun _ h => List.mem_cons_of_mem _ (List.mem_append_right _ h)
  have hl := lv_entry ([.ref m0, .int x1, .int x2, .int x3, .int x4]) (n := 9) (Nat.le_of_ble_eq_true rfl)
  rw [lg_entry_eq]
  generalize (lg_sl ([.ref m0, .int x1, .int x2, .int x3, .int x4]) ++ List.replicate (9 - (lg_sl ([.ref m0, .int x1, .int x2, .int x3, .int x4])).length) Slot.unset).toArray = ls at hl ⊢
  have hl : lv_has ls 9 [(0, .ref m0), (1, .int x1), (2, .int x2), (3, .int x3), (4, .int x4)] := hl
  obtain ⟨QQ, hQQ⟩ : ∃ QQ : State → Prop, QQ = MQ below (kQl D (fun (r : Int64) (u : (Nat → Int32) × (Nat → Int32) × (Nat → Int32) × (Nat → Int32)) => r = sp_odds C T x1 x2 x3 x4 ∧ repC C sk sh ki st u.1) (fun u : (Nat → Int32) × (Nat → Int32) × (Nat → Int32) × (Nat → Int32) => [(m0, .inr (9, [.int i0, .ref a1, .int (nI (cSp C)), .ref a3, .int (nI (cLa C)), .ref a5, .ref a6, .ref a7, .int (nI (cAg C)), .int (-9 : Int32), .int i10, .int i11, .int i12, .ref a13, .ref a14, .ref a15, .ref a16, .int (nI (mN T)), .ref a18, .ref a19, .ref a20, .ref a21, .ref a22, .ref a23, .ref a24, .ref a25, .int (nI (mN E)), .ref a27, .ref a28, .ref a29, .ref a30, .ref a31, .ref a32, .ref a33, .ref a34, .int i35])), (a1, .inl (cI, 6, .inl sk)), (a3, .inl (cI, 4, .inl sh)), (a5, .inl (cI, 4, .inl ki)), (a6, .inl (cI, 4, .inl st)), (a7, .inl (cI, 4, .inl u.1)), (a18, .inl (cI, 9, .inl mo)), (a19, .inl (cI, 9, .inl mi)), (a20, .inl (cI, 9, .inl mt)), (a21, .inl (cI, 96, .inl u.2.2.1)), (a22, .inl (cI, 96, .inl u.2.2.2)), (a30, .inl (cI, 4, .inl u.2.1))]) A) ([.ref m0, .int x1, .int x2, .int x3, .int x4]).toArray sS 0 0 A := ⟨_, rfl⟩
  refine kk_QQ hQQ.symm ?_
  obtain ⟨hX1, hX2, hX3, hX4⟩ := okX_le hX
  refine lv_aload_n hx hb dX10_odds_0 rfl (lv_at hl 0 rfl) ?_
  refine lv_iload_n hx hb dX10_odds_1 rfl (lv_at hl 1 rfl) ?_
  have o_1 : (cSp C) ≤ 4 := by omega
  refine vp_callSi (W.runV (As := [.int x1]) (rest := []) ⟨hx, hb, hml, hown, hts⟩ (c_X10_noSpot lL D cI cS m0 a1 a3 a5 a6 a7 a13 a14 a15 a16 a18 a19 a20 a21 a22 a23 a24 a25 a27 a28 a29 a30 a31 a32 a33 a34 i0 (nI (cLa C)) (nI (cAg C)) (-9 : Int32) i10 i11 i12 (nI (mN T)) (nI (mN E)) i35 x1 (cSp C) o_1) (cwV 1 hts gX10_odds_X10_noSpot rfl rfl rfl cd_X10_noSpot ⟨Nat.le_of_ble_eq_true rfl, Nat.le_of_ble_eq_true rfl⟩) ⟨kBp_blind, va_recv hK hP (ci := 9) (q0 := 0) rfl rfl, fun U hU hW => ⟨rfl, by rw [hU]; exact hP.sub [0] rfl, va_K.moved hW.alike hK⟩⟩ rfl rfl hl.1 rfl (lv_room (Nat.le_of_ble_eq_true rfl)) dX10_odds_2 ⟨Nat.le_of_ble_eq_true rfl, Nat.le_of_ble_eq_true rfl⟩) (fun r_2 hw_2 => ?_)
  obtain rfl : r_2 = kb (!inB x1 (cSp C)) := hw_2
  refine kk_ifn_ne (tgt := 38) hx hb dX10_odds_5 (by decide) (fun hb_3 => ?_) (fun hb_3 => ?_)
  · skip
    refine vp_callSl (W.runS (As := []) (rest := []) ⟨hx, hb, hml, hown, hts⟩ (c_X10_lost lL D cI cS ) (va_cwS 0 hts gX10_odds_X10_lost rfl rfl rfl cd_X10_lost ⟨Nat.le_of_ble_eq_true rfl, Nat.le_of_ble_eq_true rfl⟩) ⟨kBp_blind, fun U hU hW => ⟨rfl, by rw [hU]; exact hP.sub [] rfl, va_K.moved hW.alike hK⟩⟩ rfl rfl hl.1 rfl (lv_room (Nat.le_of_ble_eq_true rfl)) dX10_odds_38 ⟨Nat.le_of_ble_eq_true rfl, Nat.le_of_ble_eq_true rfl⟩) (fun r_4 hw_4 => ?_)
    obtain rfl : r_4 = lostC := hw_4
    have hq : lostC = sp_odds C T x1 x2 x3 x4 ∧ repC C sk sh ki st cl := by refine ⟨by simp only [sp_odds, hb_3, cond_true, cond_false], hrC⟩
    refine kk_QQ hQQ ?_
    exact W.lret (v := lostC) hx hb hr (fun t ht hW => ⟨⟨lostC, (cl, kc, fa, gi), rfl, hq, by show va_P D vwCl _ t.heap; rw [ht]; exact hP⟩, hS.F ht⟩) hS.2.2 dX10_odds_41
  · skip
    obtain ⟨x1N, hx1N, rfl⟩ := inB_t hb_3
    have t_x1 := nI_clamp (show x1N < 2 ^ 31 by omega)
    obtain ⟨hC, hM0, hE⟩ := okX_sp hX hx1N
    have hM := ok9_of hM0
    have hkd := kdM_of hX hrC
    have hwo := hkd.2
    have hk3 : 9 < cLa C → cKi C 9 = 3 := fun z => absurd hC.2.1 (by omega)
    have hst := hrC.2.2.2.1
    have hrB : repB C sk sh cl := ⟨hrC.1, hrC.2.1, hrC.2.2.2.2⟩
    have hxa := hC.2.1
    have hxs := hC.1
    refine lv_iload_n hx hb dX10_odds_8 rfl (lv_at hl 2 rfl) ?_
    refine vp_callSi (W.runS (As := [.int x2]) (rest := []) ⟨hx, hb, hml, hown, hts⟩ (c_X10_isWatch lL D cI cS x2) (va_cwS 1 hts gX10_odds_X10_isWatch rfl rfl rfl cd_X10_isWatch ⟨Nat.le_of_ble_eq_true rfl, Nat.le_of_ble_eq_true rfl⟩) ⟨kBp_blind, fun U hU hW => ⟨rfl, by rw [hU]; exact hP.sub [] rfl, va_K.moved hW.alike hK⟩⟩ rfl rfl hl.1 rfl (lv_room (Nat.le_of_ble_eq_true rfl)) dX10_odds_9 ⟨Nat.le_of_ble_eq_true rfl, Nat.le_of_ble_eq_true rfl⟩) (fun r_5 hw_5 => ?_)
    obtain rfl : r_5 = kb (inB x2 24) := hw_5
    -- if (inB x2 24)
    refine kk_ifb_eq (tgt := 38) hx hb dX10_odds_12 (by decide) (fun hb_6 => ?_) (fun hb_6 => ?_)
    · skip
      refine vp_callSl (W.runS (As := []) (rest := []) ⟨hx, hb, hml, hown, hts⟩ (c_X10_lost lL D cI cS ) (va_cwS 0 hts gX10_odds_X10_lost rfl rfl rfl cd_X10_lost ⟨Nat.le_of_ble_eq_true rfl, Nat.le_of_ble_eq_true rfl⟩) ⟨kBp_blind, fun U hU hW => ⟨rfl, by rw [hU]; exact hP.sub [] rfl, va_K.moved hW.alike hK⟩⟩ rfl rfl hl.1 rfl (lv_room (Nat.le_of_ble_eq_true rfl)) dX10_odds_38 ⟨Nat.le_of_ble_eq_true rfl, Nat.le_of_ble_eq_true rfl⟩) (fun r_7 hw_7 => ?_)
      obtain rfl : r_7 = lostC := hw_7
      have hq : lostC = sp_odds C T (nI x1N) x2 x3 x4 ∧ repC C sk sh ki st cl := by refine ⟨by simp only [sp_odds, hb_3, hb_6, t_x1, cond_true, cond_false], hrC⟩
      refine kk_QQ hQQ ?_
      exact W.lret (v := lostC) hx hb hr (fun t ht hW => ⟨⟨lostC, (cl, kc, fa, gi), rfl, hq, by show va_P D vwCl _ t.heap; rw [ht]; exact hP⟩, hS.F ht⟩) hS.2.2 dX10_odds_41
    · skip
      obtain ⟨x2N, hx2N, rfl⟩ := inB_t hb_6
      have t_x2 := nI_clamp (show x2N < 2 ^ 31 by omega)
      refine lv_iload_n hx hb dX10_odds_15 rfl (lv_at hl 3 rfl) ?_
      refine lv_i2l (v := x3.toInt64) hx hb dX10_odds_16 rfl ?_
      refine lv_lconst (v := lN 0) hx hb dX10_odds_17 (by decide +kernel) ?_
      refine lv_ldc2 (v := (999 : Int64)) hx hb hown hk_210 dX10_odds_18 ?_
      refine kk_topl (y := lN 999) (by decide +kernel) ?_
      refine vp_callSi (W.runS (As := [.long x3.toInt64, .long (lN 0), .long (lN 999)]) (rest := []) ⟨hx, hb, hml, hown, hts⟩ (c_X10_in lL D cI cS x3.toInt64 (lN 0) (lN 999)) (va_cwS 3 hts gX10_odds_X10_in rfl rfl rfl cd_X10_in ⟨Nat.le_of_ble_eq_true rfl, Nat.le_of_ble_eq_true rfl⟩) ⟨kBp_blind, fun U hU hW => ⟨rfl, by rw [hU]; exact hP.sub [] rfl, va_K.moved hW.alike hK⟩⟩ rfl rfl hl.1 rfl (lv_room (Nat.le_of_ble_eq_true rfl)) dX10_odds_21 ⟨Nat.le_of_ble_eq_true rfl, Nat.le_of_ble_eq_true rfl⟩) (fun r_8 hw_8 => ?_)
      obtain rfl : r_8 = kb (inL x3.toInt64 (lN 0) (lN 999)) := hw_8
      refine kk_top (y := kb (wB x3 0 999)) (congrArg kb (inL_w x3 (by omega) (by omega))) ?_
      -- if wB x3 0 999
      refine kk_ifb_eq (tgt := 38) hx hb dX10_odds_24 (by decide) (fun hb_9 => ?_) (fun hb_9 => ?_)
      · skip
        refine vp_callSl (W.runS (As := []) (rest := []) ⟨hx, hb, hml, hown, hts⟩ (c_X10_lost lL D cI cS ) (va_cwS 0 hts gX10_odds_X10_lost rfl rfl rfl cd_X10_lost ⟨Nat.le_of_ble_eq_true rfl, Nat.le_of_ble_eq_true rfl⟩) ⟨kBp_blind, fun U hU hW => ⟨rfl, by rw [hU]; exact hP.sub [] rfl, va_K.moved hW.alike hK⟩⟩ rfl rfl hl.1 rfl (lv_room (Nat.le_of_ble_eq_true rfl)) dX10_odds_38 ⟨Nat.le_of_ble_eq_true rfl, Nat.le_of_ble_eq_true rfl⟩) (fun r_10 hw_10 => ?_)
        obtain rfl : r_10 = lostC := hw_10
        have hq : lostC = sp_odds C T (nI x1N) (nI x2N) x3 x4 ∧ repC C sk sh ki st cl := by refine ⟨by simp only [sp_odds, hb_3, hb_6, hb_9, t_x1, t_x2, cond_true, cond_false], hrC⟩
        refine kk_QQ hQQ ?_
        exact W.lret (v := lostC) hx hb hr (fun t ht hW => ⟨⟨lostC, (cl, kc, fa, gi), rfl, hq, by show va_P D vwCl _ t.heap; rw [ht]; exact hP⟩, hS.F ht⟩) hS.2.2 dX10_odds_41
      · skip
        obtain ⟨x3N, hx3L, hx3N, rfl⟩ := wB_t hb_9
        have t_x3 := nI_clamp (show x3N < 2 ^ 31 by omega)
        refine lv_iload hx hb dX10_odds_27 (lv_at hl 4 rfl) ?_
        refine lv_i2l (v := x4.toInt64) hx hb dX10_odds_29 rfl ?_
        refine lv_lconst (v := lN 0) hx hb dX10_odds_30 (by decide +kernel) ?_
        refine lv_lconst (v := lN 1) hx hb dX10_odds_31 (by decide +kernel) ?_
        refine vp_callSi (W.runS (As := [.long x4.toInt64, .long (lN 0), .long (lN 1)]) (rest := []) ⟨hx, hb, hml, hown, hts⟩ (c_X10_in lL D cI cS x4.toInt64 (lN 0) (lN 1)) (va_cwS 3 hts gX10_odds_X10_in rfl rfl rfl cd_X10_in ⟨Nat.le_of_ble_eq_true rfl, Nat.le_of_ble_eq_true rfl⟩) ⟨kBp_blind, fun U hU hW => ⟨rfl, by rw [hU]; exact hP.sub [] rfl, va_K.moved hW.alike hK⟩⟩ rfl rfl hl.1 rfl (lv_room (Nat.le_of_ble_eq_true rfl)) dX10_odds_32 ⟨Nat.le_of_ble_eq_true rfl, Nat.le_of_ble_eq_true rfl⟩) (fun r_11 hw_11 => ?_)
        obtain rfl : r_11 = kb (inL x4.toInt64 (lN 0) (lN 1)) := hw_11
        refine kk_top (y := kb (wB x4 0 1)) (congrArg kb (inL_w x4 (by omega) (by omega))) ?_
        -- if wB x4 0 1
        refine kk_ifb_ne (tgt := 42) hx hb dX10_odds_35 (by decide) (fun hb_12 => ?_) (fun hb_12 => ?_)
        · skip
          obtain ⟨x4N, hx4L, hx4N, rfl⟩ := wB_t hb_12
          have t_x4 := nI_clamp (show x4N < 2 ^ 31 by omega)
          refine lv_iconst (v := nI 0) hx hb dX10_odds_42 (by decide +kernel) ?_
          refine lv_istore (lv' := [(5, .int (nI 0)), (0, .ref m0), (1, .int (nI x1N)), (2, .int (nI x2N)), (3, .int (nI x3N)), (4, .int (nI x4N))]) hx hb dX10_odds_43 hl (by decide) rfl (fun ls hl => ?_)
          have L_45 : ∀ (n_45 : Nat) (d : Nat) (kX : Nat → Int32), (d ≤ 4) → (∀ j, j < d → kX j = nI (cCl C j)) → 5 ≤ d + n_45 → ∀ (H : Heap) (locs : List Loc), va_P D vwCl [(m0, .inr (9, [.int i0, .ref a1, .int (nI (cSp C)), .ref a3, .int (nI (cLa C)), .ref a5, .ref a6, .ref a7, .int (nI (cAg C)), .int (-9 : Int32), .int i10, .int i11, .int i12, .ref a13, .ref a14, .ref a15, .ref a16, .int (nI (mN T)), .ref a18, .ref a19, .ref a20, .ref a21, .ref a22, .ref a23, .ref a24, .ref a25, .int (nI (mN E)), .ref a27, .ref a28, .ref a29, .ref a30, .ref a31, .ref a32, .ref a33, .ref a34, .int i35])), (a1, .inl (cI, 6, .inl sk)), (a3, .inl (cI, 4, .inl sh)), (a5, .inl (cI, 4, .inl ki)), (a6, .inl (cI, 4, .inl st)), (a7, .inl (cI, 4, .inl cl)), (a18, .inl (cI, 9, .inl mo)), (a19, .inl (cI, 9, .inl mi)), (a20, .inl (cI, 9, .inl mt)), (a21, .inl (cI, 96, .inl fa)), (a22, .inl (cI, 96, .inl gi)), (a30, .inl (cI, 4, .inl kX))] H → va_D A [(m0, .inr (9, [.int i0, .ref a1, .int (nI (cSp C)), .ref a3, .int (nI (cLa C)), .ref a5, .ref a6, .ref a7, .int (nI (cAg C)), .int (-9 : Int32), .int i10, .int i11, .int i12, .ref a13, .ref a14, .ref a15, .ref a16, .int (nI (mN T)), .ref a18, .ref a19, .ref a20, .ref a21, .ref a22, .ref a23, .ref a24, .ref a25, .int (nI (mN E)), .ref a27, .ref a28, .ref a29, .ref a30, .ref a31, .ref a32, .ref a33, .ref a34, .int i35])), (a1, .inl (cI, 6, .inl sk)), (a3, .inl (cI, 4, .inl sh)), (a5, .inl (cI, 4, .inl ki)), (a6, .inl (cI, 4, .inl st)), (a7, .inl (cI, 4, .inl cl)), (a18, .inl (cI, 9, .inl mo)), (a19, .inl (cI, 9, .inl mi)), (a20, .inl (cI, 9, .inl mt)), (a21, .inl (cI, 96, .inl fa)), (a22, .inl (cI, 96, .inl gi)), (a30, .inl (cI, 4, .inl kX))] → va_S A sS.heap H locs → ∀ (ls : Array Slot), lv_has ls 9 [(5, .int (nI d)), (0, .ref m0), (1, .int (nI x1N)), (2, .int (nI x2N)), (3, .int (nI x3N)), (4, .int (nI x4N))] → W pP lL eE (headSpec wsX10_odds rmX10_odds).room sS mM ([.ref m0, .int (nI x1N), .int (nI x2N), .int (nI x3N), .int (nI x4N)]).toArray below meth cC H locs 0 0 QQ (F0 mM 45 ls []) := by
            intro n_45
            induction n_45 with
            | zero =>
              intro d kX hd z0 hn_45 H locs hP hD hS ls hl
              exact absurd hn_45 (by omega)
            | succ n_45 ih_45 =>
              intro d kX hd z0 hn_45 H locs hP hD hS ls hl
              refine lv_iload hx hb dX10_odds_45 (lv_at hl 0 rfl) ?_
              refine lv_iconst (v := nI 4) hx hb dX10_odds_47 (by decide +kernel) ?_
              refine kk_icmp_ge (tgt := 71) hx hb dX10_odds_48 (by decide) (by omega) (by omega) (fun c_13 => ?_) (fun c_13 => ?_)
              · skip
                refine lv_lconst (v := lN 0) hx hb dX10_odds_71 (by decide +kernel) ?_
                refine lv_lstore (lv' := [(5, .long (lN 0)), (0, .ref m0), (1, .int (nI x1N)), (2, .int (nI x2N)), (3, .int (nI x3N)), (4, .int (nI x4N))]) hx hb dX10_odds_72 hl (by decide) rfl (fun ls hl => ?_)
                refine lv_iconst (v := nI 0) hx hb dX10_odds_74 (by decide +kernel) ?_
                refine lv_istore (lv' := [(7, .int (nI 0)), (5, .long (lN 0)), (0, .ref m0), (1, .int (nI x1N)), (2, .int (nI x2N)), (3, .int (nI x3N)), (4, .int (nI x4N))]) hx hb dX10_odds_75 hl (by decide) rfl (fun ls hl => ?_)
                have L_77 : ∀ (n_77 : Nat) (a : Nat) (aX : Nat → Int32) (faX : Nat → Int32) (giX : Nat → Int32), (a ≤ 16) → 17 ≤ a + n_77 → ∀ (H : Heap) (locs : List Loc), va_P D vwCl [(m0, .inr (9, [.int i0, .ref a1, .int (nI (cSp C)), .ref a3, .int (nI (cLa C)), .ref a5, .ref a6, .ref a7, .int (nI (cAg C)), .int (-9 : Int32), .int i10, .int i11, .int i12, .ref a13, .ref a14, .ref a15, .ref a16, .int (nI (mN T)), .ref a18, .ref a19, .ref a20, .ref a21, .ref a22, .ref a23, .ref a24, .ref a25, .int (nI (mN E)), .ref a27, .ref a28, .ref a29, .ref a30, .ref a31, .ref a32, .ref a33, .ref a34, .int i35])), (a1, .inl (cI, 6, .inl sk)), (a3, .inl (cI, 4, .inl sh)), (a5, .inl (cI, 4, .inl ki)), (a6, .inl (cI, 4, .inl st)), (a7, .inl (cI, 4, .inl aX)), (a18, .inl (cI, 9, .inl mo)), (a19, .inl (cI, 9, .inl mi)), (a20, .inl (cI, 9, .inl mt)), (a21, .inl (cI, 96, .inl faX)), (a22, .inl (cI, 96, .inl giX)), (a30, .inl (cI, 4, .inl kX))] H → va_D A [(m0, .inr (9, [.int i0, .ref a1, .int (nI (cSp C)), .ref a3, .int (nI (cLa C)), .ref a5, .ref a6, .ref a7, .int (nI (cAg C)), .int (-9 : Int32), .int i10, .int i11, .int i12, .ref a13, .ref a14, .ref a15, .ref a16, .int (nI (mN T)), .ref a18, .ref a19, .ref a20, .ref a21, .ref a22, .ref a23, .ref a24, .ref a25, .int (nI (mN E)), .ref a27, .ref a28, .ref a29, .ref a30, .ref a31, .ref a32, .ref a33, .ref a34, .int i35])), (a1, .inl (cI, 6, .inl sk)), (a3, .inl (cI, 4, .inl sh)), (a5, .inl (cI, 4, .inl ki)), (a6, .inl (cI, 4, .inl st)), (a7, .inl (cI, 4, .inl aX)), (a18, .inl (cI, 9, .inl mo)), (a19, .inl (cI, 9, .inl mi)), (a20, .inl (cI, 9, .inl mt)), (a21, .inl (cI, 96, .inl faX)), (a22, .inl (cI, 96, .inl giX)), (a30, .inl (cI, 4, .inl kX))] → va_S A sS.heap H locs → ∀ (ls : Array Slot), lv_has ls 9 [(7, .int (nI a)), (5, .long (lN (cnt C T x1N x2N x3N a))), (0, .ref m0), (1, .int (nI x1N)), (2, .int (nI x2N)), (3, .int (nI x3N)), (4, .int (nI x4N))] → W pP lL eE (headSpec wsX10_odds rmX10_odds).room sS mM ([.ref m0, .int (nI x1N), .int (nI x2N), .int (nI x3N), .int (nI x4N)]).toArray below meth cC H locs 0 0 QQ (F0 mM 77 ls []) := by
                  intro n_77
                  induction n_77 with
                  | zero =>
                    intro a aX faX giX ha hn_77 H locs hP hD hS ls hl
                    exact absurd hn_77 (by omega)
                  | succ n_77 ih_77 =>
                    intro a aX faX giX ha hn_77 H locs hP hD hS ls hl
                    refine lv_iload hx hb dX10_odds_77 (lv_at hl 0 rfl) ?_
                    refine lv_bipush (v := nI 16) hx hb dX10_odds_79 (by decide +kernel) ?_
                    refine kk_icmp_ge (tgt := 149) hx hb dX10_odds_81 (by decide) (by omega) (by omega) (fun c_14 => ?_) (fun c_14 => ?_)
                    · skip
                      have hcl := cnt_le C T x1N x2N x3N 16
                      have e_a : a = 16 := by omega
                      subst e_a
                      refine lv_iconst (v := nI 0) hx hb dX10_odds_149 (by decide +kernel) ?_
                      refine lv_istore (lv' := [(7, .int (nI 0)), (5, .long (lN (cnt C T x1N x2N x3N 16))), (0, .ref m0), (1, .int (nI x1N)), (2, .int (nI x2N)), (3, .int (nI x3N)), (4, .int (nI x4N))]) hx hb dX10_odds_150 hl (by decide) rfl (fun ls hl => ?_)
                      have L_152 : ∀ (n_152 : Nat) (d : Nat) (aZ : Nat → Int32), (d ≤ 4) → (∀ j, j < d → aZ j = nI (cCl C j)) → 5 ≤ d + n_152 → ∀ (H : Heap) (locs : List Loc), va_P D vwCl [(m0, .inr (9, [.int i0, .ref a1, .int (nI (cSp C)), .ref a3, .int (nI (cLa C)), .ref a5, .ref a6, .ref a7, .int (nI (cAg C)), .int (-9 : Int32), .int i10, .int i11, .int i12, .ref a13, .ref a14, .ref a15, .ref a16, .int (nI (mN T)), .ref a18, .ref a19, .ref a20, .ref a21, .ref a22, .ref a23, .ref a24, .ref a25, .int (nI (mN E)), .ref a27, .ref a28, .ref a29, .ref a30, .ref a31, .ref a32, .ref a33, .ref a34, .int i35])), (a1, .inl (cI, 6, .inl sk)), (a3, .inl (cI, 4, .inl sh)), (a5, .inl (cI, 4, .inl ki)), (a6, .inl (cI, 4, .inl st)), (a7, .inl (cI, 4, .inl aZ)), (a18, .inl (cI, 9, .inl mo)), (a19, .inl (cI, 9, .inl mi)), (a20, .inl (cI, 9, .inl mt)), (a21, .inl (cI, 96, .inl faX)), (a22, .inl (cI, 96, .inl giX)), (a30, .inl (cI, 4, .inl kX))] H → va_D A [(m0, .inr (9, [.int i0, .ref a1, .int (nI (cSp C)), .ref a3, .int (nI (cLa C)), .ref a5, .ref a6, .ref a7, .int (nI (cAg C)), .int (-9 : Int32), .int i10, .int i11, .int i12, .ref a13, .ref a14, .ref a15, .ref a16, .int (nI (mN T)), .ref a18, .ref a19, .ref a20, .ref a21, .ref a22, .ref a23, .ref a24, .ref a25, .int (nI (mN E)), .ref a27, .ref a28, .ref a29, .ref a30, .ref a31, .ref a32, .ref a33, .ref a34, .int i35])), (a1, .inl (cI, 6, .inl sk)), (a3, .inl (cI, 4, .inl sh)), (a5, .inl (cI, 4, .inl ki)), (a6, .inl (cI, 4, .inl st)), (a7, .inl (cI, 4, .inl aZ)), (a18, .inl (cI, 9, .inl mo)), (a19, .inl (cI, 9, .inl mi)), (a20, .inl (cI, 9, .inl mt)), (a21, .inl (cI, 96, .inl faX)), (a22, .inl (cI, 96, .inl giX)), (a30, .inl (cI, 4, .inl kX))] → va_S A sS.heap H locs → ∀ (ls : Array Slot), lv_has ls 9 [(7, .int (nI d)), (5, .long (lN (cnt C T x1N x2N x3N 16))), (0, .ref m0), (1, .int (nI x1N)), (2, .int (nI x2N)), (3, .int (nI x3N)), (4, .int (nI x4N))] → W pP lL eE (headSpec wsX10_odds rmX10_odds).room sS mM ([.ref m0, .int (nI x1N), .int (nI x2N), .int (nI x3N), .int (nI x4N)]).toArray below meth cC H locs 0 0 QQ (F0 mM 152 ls []) := by
                        intro n_152
                        induction n_152 with
                        | zero =>
                          intro d aZ hd3 z3 hn_152 H locs hP hD hS ls hl
                          exact absurd hn_152 (by omega)
                        | succ n_152 ih_152 =>
                          intro d aZ hd3 z3 hn_152 H locs hP hD hS ls hl
                          refine lv_iload hx hb dX10_odds_152 (lv_at hl 0 rfl) ?_
                          refine lv_iconst (v := nI 4) hx hb dX10_odds_154 (by decide +kernel) ?_
                          refine kk_icmp_ge (tgt := 178) hx hb dX10_odds_155 (by decide) (by omega) (by omega) (fun c_15 => ?_) (fun c_15 => ?_)
                          · skip
                            refine lv_lload hx hb dX10_odds_178 (lv_at hl 1 rfl) ?_
                            refine lv_ldc2 (v := (16 : Int64)) hx hb hown hk_232 dX10_odds_180 ?_
                            refine kk_topl (y := lN 16) (by decide +kernel) ?_
                            refine lv_iload hx hb dX10_odds_183 (lv_at hl 6 rfl) ?_
                            have o_16 : (cnt C T x1N x2N x3N 16) ≤ 16 := by omega
                            have o_17 : x4N ≤ 1 := by omega
                            refine vp_callSl (W.runS (As := [.long (lN (cnt C T x1N x2N x3N 16)), .long (lN 16), .int (nI x4N)]) (rest := []) ⟨hx, hb, hml, hown, hts⟩ (c_X10_told lL D cI cS (cnt C T x1N x2N x3N 16) x4N o_16 o_17) (va_cwS 3 hts gX10_odds_X10_told rfl rfl rfl cd_X10_told ⟨Nat.le_of_ble_eq_true rfl, Nat.le_of_ble_eq_true rfl⟩) ⟨kBp_blind, fun U hU hW => ⟨rfl, by rw [hU]; exact hP.sub [] rfl, va_K.moved hW.alike hK⟩⟩ rfl rfl hl.1 rfl (lv_room (Nat.le_of_ble_eq_true rfl)) dX10_odds_185 ⟨Nat.le_of_ble_eq_true rfl, Nat.le_of_ble_eq_true rfl⟩) (fun r_18 hw_18 => ?_)
                            obtain rfl : r_18 = lN ((if x4N = 0 then (cnt C T x1N x2N x3N 16) else 16) / Nat.gcd (cnt C T x1N x2N x3N 16) 16) := hw_18
                            have hq : (lN ((if x4N = 0 then (cnt C T x1N x2N x3N 16) else 16) / Nat.gcd (cnt C T x1N x2N x3N 16) 16)) = sp_odds C T (nI x1N) (nI x2N) (nI x3N) (nI x4N) ∧ repC C sk sh ki st aZ := by
                              refine ⟨?_, hrC.1, hrC.2.1, hrC.2.2.1, hrC.2.2.2.1, fun j h => z3 j (by omega)⟩
                              simp only [sp_odds, hb_3, hb_6, hb_9, hb_12, t_x1, t_x2, t_x3, t_x4, cond_true, cond_false]
                            refine kk_QQ hQQ ?_
                            exact W.lret (v := lN ((if x4N = 0 then (cnt C T x1N x2N x3N 16) else 16) / Nat.gcd (cnt C T x1N x2N x3N 16) 16)) hx hb hr (fun t ht hW => ⟨⟨lN ((if x4N = 0 then (cnt C T x1N x2N x3N 16) else 16) / Nat.gcd (cnt C T x1N x2N x3N 16) 16), (aZ, kX, faX, giX), rfl, hq, by show va_P D vwCl _ t.heap; rw [ht]; exact hP⟩, hS.F ht⟩) hS.2.2 dX10_odds_188
                          · skip
                            refine lv_aload_n hx hb dX10_odds_158 rfl (lv_at hl 2 rfl) ?_
                            refine va_get (D := D) (ci := 9) (v := .ref a7) (C := RX10) (T := TX10) (N := 36) hx hb hts hwX10 hown hK hP 0 rfl rfl 7 (by decide) hf_22 (fun _ h9 => h9) rfl dX10_odds_159 ?_
                            refine lv_iload hx hb dX10_odds_162 (lv_at hl 0 rfl) ?_
                            refine lv_aload_n hx hb dX10_odds_164 rfl (lv_at hl 2 rfl) ?_
                            refine va_get (D := D) (ci := 9) (v := .ref a30) (C := RX10) (T := TX10) (N := 36) hx hb hts hwX10 hown hK hP 0 rfl rfl 30 (by decide) hf_70 (fun _ h9 => h9) rfl dX10_odds_165 ?_
                            refine lv_iload hx hb dX10_odds_168 (lv_at hl 0 rfl) ?_
                            refine kk_iald hx hb hK hP 11 rfl rfl (i := d) (by omega) (by decide) dX10_odds_170 ?_
                            refine kk_iast hx hb hK hP hD hS 5 rfl rfl (i := d) (by omega) (by decide) dX10_odds_171 (fun H locs hP hD hS => ?_)
                            have hP : va_P D vwCl [(m0, .inr (9, [.int i0, .ref a1, .int (nI (cSp C)), .ref a3, .int (nI (cLa C)), .ref a5, .ref a6, .ref a7, .int (nI (cAg C)), .int (-9 : Int32), .int i10, .int i11, .int i12, .ref a13, .ref a14, .ref a15, .ref a16, .int (nI (mN T)), .ref a18, .ref a19, .ref a20, .ref a21, .ref a22, .ref a23, .ref a24, .ref a25, .int (nI (mN E)), .ref a27, .ref a28, .ref a29, .ref a30, .ref a31, .ref a32, .ref a33, .ref a34, .int i35])), (a1, .inl (cI, 6, .inl sk)), (a3, .inl (cI, 4, .inl sh)), (a5, .inl (cI, 4, .inl ki)), (a6, .inl (cI, 4, .inl st)), (a7, .inl (cI, 4, .inl (upd aZ d (kX d)))), (a18, .inl (cI, 9, .inl mo)), (a19, .inl (cI, 9, .inl mi)), (a20, .inl (cI, 9, .inl mt)), (a21, .inl (cI, 96, .inl faX)), (a22, .inl (cI, 96, .inl giX)), (a30, .inl (cI, 4, .inl kX))] H := hP
                            have hD : va_D A [(m0, .inr (9, [.int i0, .ref a1, .int (nI (cSp C)), .ref a3, .int (nI (cLa C)), .ref a5, .ref a6, .ref a7, .int (nI (cAg C)), .int (-9 : Int32), .int i10, .int i11, .int i12, .ref a13, .ref a14, .ref a15, .ref a16, .int (nI (mN T)), .ref a18, .ref a19, .ref a20, .ref a21, .ref a22, .ref a23, .ref a24, .ref a25, .int (nI (mN E)), .ref a27, .ref a28, .ref a29, .ref a30, .ref a31, .ref a32, .ref a33, .ref a34, .int i35])), (a1, .inl (cI, 6, .inl sk)), (a3, .inl (cI, 4, .inl sh)), (a5, .inl (cI, 4, .inl ki)), (a6, .inl (cI, 4, .inl st)), (a7, .inl (cI, 4, .inl (upd aZ d (kX d)))), (a18, .inl (cI, 9, .inl mo)), (a19, .inl (cI, 9, .inl mi)), (a20, .inl (cI, 9, .inl mt)), (a21, .inl (cI, 96, .inl faX)), (a22, .inl (cI, 96, .inl giX)), (a30, .inl (cI, 4, .inl kX))] := hD
                            refine lv_iinc (v := nI (d + 1)) (lv' := [(7, .int (nI (d + 1))), (5, .long (lN (cnt C T x1N x2N x3N 16))), (0, .ref m0), (1, .int (nI x1N)), (2, .int (nI x2N)), (3, .int (nI x3N)), (4, .int (nI x4N))]) hx hb dX10_odds_172 hl (k := 0) rfl (nI_add d 1) (by decide) rfl (fun ls hl => ?_)
                            refine lv_goto (tgt := 152) hx hb dX10_odds_175 (by decide) ?_
                            have o_19 : (d + 1) ≤ 4 := by omega
                            have o_20 : ∀ j, j < (d + 1) → (upd aZ d (kX d)) j = nI (cCl C j) := by
                              intro j h
                              by_cases e : j = d
                              · subst e; rw [up_at]; exact z0 j (by omega)
                              · rw [up_ne _ _ e]; exact z3 j (by omega)
                            have o_21 : 5 ≤ (d + 1) + n_152 := by omega
                            exact ih_152 (d + 1) (upd aZ d (kX d)) o_19 o_20 o_21 _ _ hP hD hS ls (lv_sub hl [0, 1, 2, 3, 4, 5, 6] rfl)
                      have o_22 : 0 ≤ 4 := by omega
                      have o_23 : ∀ j, j < 0 → aX j = nI (cCl C j) := by intro j h; omega
                      have o_24 : 5 ≤ 0 + 5 := by omega
                      exact L_152 5 0 aX o_22 o_23 o_24 _ _ hP hD hS ls (lv_sub hl [0, 1, 2, 3, 4, 5, 6] rfl)
                    · skip
                      refine lv_iconst (v := nI 0) hx hb dX10_odds_84 (by decide +kernel) ?_
                      refine lv_istore (lv' := [(8, .int (nI 0)), (7, .int (nI a)), (5, .long (lN (cnt C T x1N x2N x3N a))), (0, .ref m0), (1, .int (nI x1N)), (2, .int (nI x2N)), (3, .int (nI x3N)), (4, .int (nI x4N))]) hx hb dX10_odds_85 hl (by decide) rfl (fun ls hl => ?_)
                      have L_87 : ∀ (n_87 : Nat) (d : Nat) (aY : Nat → Int32), (d ≤ 4) → (∀ j, j < d → aY j = nI (cas a j)) → 5 ≤ d + n_87 → ∀ (H : Heap) (locs : List Loc), va_P D vwCl [(m0, .inr (9, [.int i0, .ref a1, .int (nI (cSp C)), .ref a3, .int (nI (cLa C)), .ref a5, .ref a6, .ref a7, .int (nI (cAg C)), .int (-9 : Int32), .int i10, .int i11, .int i12, .ref a13, .ref a14, .ref a15, .ref a16, .int (nI (mN T)), .ref a18, .ref a19, .ref a20, .ref a21, .ref a22, .ref a23, .ref a24, .ref a25, .int (nI (mN E)), .ref a27, .ref a28, .ref a29, .ref a30, .ref a31, .ref a32, .ref a33, .ref a34, .int i35])), (a1, .inl (cI, 6, .inl sk)), (a3, .inl (cI, 4, .inl sh)), (a5, .inl (cI, 4, .inl ki)), (a6, .inl (cI, 4, .inl st)), (a7, .inl (cI, 4, .inl aY)), (a18, .inl (cI, 9, .inl mo)), (a19, .inl (cI, 9, .inl mi)), (a20, .inl (cI, 9, .inl mt)), (a21, .inl (cI, 96, .inl faX)), (a22, .inl (cI, 96, .inl giX)), (a30, .inl (cI, 4, .inl kX))] H → va_D A [(m0, .inr (9, [.int i0, .ref a1, .int (nI (cSp C)), .ref a3, .int (nI (cLa C)), .ref a5, .ref a6, .ref a7, .int (nI (cAg C)), .int (-9 : Int32), .int i10, .int i11, .int i12, .ref a13, .ref a14, .ref a15, .ref a16, .int (nI (mN T)), .ref a18, .ref a19, .ref a20, .ref a21, .ref a22, .ref a23, .ref a24, .ref a25, .int (nI (mN E)), .ref a27, .ref a28, .ref a29, .ref a30, .ref a31, .ref a32, .ref a33, .ref a34, .int i35])), (a1, .inl (cI, 6, .inl sk)), (a3, .inl (cI, 4, .inl sh)), (a5, .inl (cI, 4, .inl ki)), (a6, .inl (cI, 4, .inl st)), (a7, .inl (cI, 4, .inl aY)), (a18, .inl (cI, 9, .inl mo)), (a19, .inl (cI, 9, .inl mi)), (a20, .inl (cI, 9, .inl mt)), (a21, .inl (cI, 96, .inl faX)), (a22, .inl (cI, 96, .inl giX)), (a30, .inl (cI, 4, .inl kX))] → va_S A sS.heap H locs → ∀ (ls : Array Slot), lv_has ls 9 [(8, .int (nI d)), (7, .int (nI a)), (5, .long (lN (cnt C T x1N x2N x3N a))), (0, .ref m0), (1, .int (nI x1N)), (2, .int (nI x2N)), (3, .int (nI x3N)), (4, .int (nI x4N))] → W pP lL eE (headSpec wsX10_odds rmX10_odds).room sS mM ([.ref m0, .int (nI x1N), .int (nI x2N), .int (nI x3N), .int (nI x4N)]).toArray below meth cC H locs 0 0 QQ (F0 mM 87 ls []) := by
                        intro n_87
                        induction n_87 with
                        | zero =>
                          intro d aY hd2 z1 hn_87 H locs hP hD hS ls hl
                          exact absurd hn_87 (by omega)
                        | succ n_87 ih_87 =>
                          intro d aY hd2 z1 hn_87 H locs hP hD hS ls hl
                          refine lv_iload hx hb dX10_odds_87 (lv_at hl 0 rfl) ?_
                          refine lv_iconst (v := nI 4) hx hb dX10_odds_89 (by decide +kernel) ?_
                          refine kk_icmp_ge (tgt := 123) hx hb dX10_odds_90 (by decide) (by omega) (by omega) (fun c_25 => ?_) (fun c_25 => ?_)
                          · skip
                            refine lv_lload hx hb dX10_odds_123 (lv_at hl 2 rfl) ?_
                            refine lv_aload_n hx hb dX10_odds_125 rfl (lv_at hl 3 rfl) ?_
                            refine lv_iload_n hx hb dX10_odds_126 rfl (lv_at hl 4 rfl) ?_
                            refine lv_iload_n hx hb dX10_odds_127 rfl (lv_at hl 5 rfl) ?_
                            -- differs: mo : cLa (cAll C (cas a)) / cLa C
                            -- differs: mo : cAg (cAll C (cas a)) / cAg C
                            -- differs: mo : cLa (cAll C (cas a)) / cLa C
                            -- differs: mo : cAg (cAll C (cas a)) / cAg C
                            -- differs: mo : cLa (cAll C (cas a)) / cLa C
                            -- differs: mo : cAg (cAll C (cas a)) / cAg C
                            have o_26 : okC (cAll C (cas a)) := by exact okC_all hC (fun j _ => cas_le a j)
                            have o_27 : ok9 (cAll C (cas a)) T := by exact hM
                            have o_28 : ∀ k, k < cLa (cAll C (cas a)) → st k = nI (cSt (cAll C (cas a)) k) := by exact hst
                            have o_29 : repM T mo mi mt := by exact hrT
                            have o_30 : kdM (cAll C (cas a)) 9 (-9 : Int32) (cKi C) ki := by exact hkd
                            have o_31 : repB (cAll C (cas a)) sk sh aY := by exact ⟨hrC.1, hrC.2.1, fun j h => z1 j (by omega)⟩
                            have o_32 : x1N < cSp (cAll C (cas a)) := by exact hx1N
                            have o_33 : x2N < 24 := by omega
                            have hF := va_free (wc := [(m0, .inr (9, [.int i0, .ref a1, .int (nI (cSp C)), .ref a3, .int (nI (cLa (cAll C (cas a)))), .ref a5, .ref a6, .ref a7, .int (nI (cAg (cAll C (cas a)))), .int (-9 : Int32), .int i10, .int i11, .int i12, .ref a13, .ref a14, .ref a15, .ref a16, .int (nI (mN T)), .ref a18, .ref a19, .ref a20, .ref a21, .ref a22, .ref a23, .ref a24, .ref a25, .int (nI (mN E)), .ref a27, .ref a28, .ref a29, .ref a30, .ref a31, .ref a32, .ref a33, .ref a34, .int i35])), (a1, .inl (cI, 6, .inl sk)), (a3, .inl (cI, 4, .inl sh)), (a5, .inl (cI, 4, .inl ki)), (a6, .inl (cI, 4, .inl st)), (a7, .inl (cI, 4, .inl aY)), (a18, .inl (cI, 9, .inl mo)), (a19, .inl (cI, 9, .inl mi)), (a20, .inl (cI, 9, .inl mt)), (a21, .inl (cI, 96, .inl faX)), (a22, .inl (cI, 96, .inl giX))]) hD hS hA [0, 1, 2, 3, 4, 5, 6, 7, 8, 9, 10] rfl
                            refine va_calli (va_runV (As := [.int (nI x1N), .int (nI x2N)]) (rest := [.long (lN (cnt C T x1N x2N x3N a))]) ⟨hx, hb, hml, hown, hts⟩ (c_X10_lightBy lL D cI cS _ (cAll C (cas a)) T 9 (cKi C) m0 a1 a3 a5 a6 a7 a13 a14 a15 a16 a18 a19 a20 a21 a22 a23 a24 a25 a27 a28 a29 a30 a31 a32 a33 a34 i0 (nI (cSp C)) (-9 : Int32) i10 i11 i12 (nI (mN E)) i35 sk sh ki st aY mo mi mt faX giX x1N x2N o_26 o_27 o_28 o_29 o_30 o_31 o_32 o_33) (cwV 2 hts gX10_odds_X10_lightBy rfl rfl rfl cd_X10_lightBy ⟨Nat.le_of_ble_eq_true rfl, Nat.le_of_ble_eq_true rfl⟩) ⟨kB_blind, va_recv hK hP (ci := 9) (q0 := 0) rfl rfl, fun U hU hW => ⟨rfl, by rw [hU], by rw [hU]; exact hP.sub [0, 1, 2, 3, 4, 5, 6, 7, 8, 9, 10] rfl, va_K.moved hW.alike hK, (hD.sub [0, 1, 2, 3, 4, 5, 6, 7, 8, 9, 10] (by decide) rfl).weaken (fun _ _ _ _ => trivial)⟩⟩ rfl rfl hl.1 rfl (lv_room (Nat.le_of_ble_eq_true rfl)) dX10_odds_128 ⟨Nat.le_of_ble_eq_true rfl, Nat.le_of_ble_eq_true rfl⟩) hS (fun q _ h => hF q h) hF (fun r_34 u_34 t H1 locs ht hvm hw_34 hB hz1 hk1 hS => ?_)
                            obtain ⟨fa2_34, gi2_34⟩ := u_34
                            obtain ⟨hP, hD⟩ := kk_join2 (wc := [(m0, .inr (9, [.int i0, .ref a1, .int (nI (cSp C)), .ref a3, .int (nI (cLa (cAll C (cas a)))), .ref a5, .ref a6, .ref a7, .int (nI (cAg (cAll C (cas a)))), .int (-9 : Int32), .int i10, .int i11, .int i12, .ref a13, .ref a14, .ref a15, .ref a16, .int (nI (mN T)), .ref a18, .ref a19, .ref a20, .ref a21, .ref a22, .ref a23, .ref a24, .ref a25, .int (nI (mN E)), .ref a27, .ref a28, .ref a29, .ref a30, .ref a31, .ref a32, .ref a33, .ref a34, .int i35])), (a1, .inl (cI, 6, .inl sk)), (a3, .inl (cI, 4, .inl sh)), (a5, .inl (cI, 4, .inl ki)), (a6, .inl (cI, 4, .inl st)), (a7, .inl (cI, 4, .inl aY)), (a18, .inl (cI, 9, .inl mo)), (a19, .inl (cI, 9, .inl mi)), (a20, .inl (cI, 9, .inl mt)), (a21, .inl (cI, 96, .inl faX)), (a22, .inl (cI, 96, .inl giX))]) (w1 := [(m0, .inr (9, [.int i0, .ref a1, .int (nI (cSp C)), .ref a3, .int (nI (cLa (cAll C (cas a)))), .ref a5, .ref a6, .ref a7, .int (nI (cAg (cAll C (cas a)))), .int (-9 : Int32), .int i10, .int i11, .int i12, .ref a13, .ref a14, .ref a15, .ref a16, .int (nI (mN T)), .ref a18, .ref a19, .ref a20, .ref a21, .ref a22, .ref a23, .ref a24, .ref a25, .int (nI (mN E)), .ref a27, .ref a28, .ref a29, .ref a30, .ref a31, .ref a32, .ref a33, .ref a34, .int i35])), (a1, .inl (cI, 6, .inl sk)), (a3, .inl (cI, 4, .inl sh)), (a5, .inl (cI, 4, .inl ki)), (a6, .inl (cI, 4, .inl st)), (a7, .inl (cI, 4, .inl aY)), (a18, .inl (cI, 9, .inl mo)), (a19, .inl (cI, 9, .inl mi)), (a20, .inl (cI, 9, .inl mt)), (a21, .inl (cI, 96, .inl fa2_34)), (a22, .inl (cI, 96, .inl gi2_34))]) (ws' := [(m0, .inr (9, [.int i0, .ref a1, .int (nI (cSp C)), .ref a3, .int (nI (cLa C)), .ref a5, .ref a6, .ref a7, .int (nI (cAg C)), .int (-9 : Int32), .int i10, .int i11, .int i12, .ref a13, .ref a14, .ref a15, .ref a16, .int (nI (mN T)), .ref a18, .ref a19, .ref a20, .ref a21, .ref a22, .ref a23, .ref a24, .ref a25, .int (nI (mN E)), .ref a27, .ref a28, .ref a29, .ref a30, .ref a31, .ref a32, .ref a33, .ref a34, .int i35])), (a1, .inl (cI, 6, .inl sk)), (a3, .inl (cI, 4, .inl sh)), (a5, .inl (cI, 4, .inl ki)), (a6, .inl (cI, 4, .inl st)), (a7, .inl (cI, 4, .inl aY)), (a18, .inl (cI, 9, .inl mo)), (a19, .inl (cI, 9, .inl mi)), (a20, .inl (cI, 9, .inl mt)), (a21, .inl (cI, 96, .inl fa2_34)), (a22, .inl (cI, 96, .inl gi2_34)), (a30, .inl (cI, 4, .inl kX))]) (wr := [(a30, .inl (cI, 4, .inl kX))]) (H1 := H1) hP hD [0, 1, 2, 3, 4, 5, 6, 7, 8, 9, 10] [11] rfl rfl rfl rfl 12 rfl (by decide) [m0, a1, a3, a5, a6, a7, a18, a19, a20, a21, a22, a30] rfl rfl hk1 (by rw [← ht]; exact hB)
                            have hw_34 : r_34 = nI (Li (cAll C (cas a)) (plc T (cSt (cAll C (cas a)))) x1N x2N) ∧ True := hw_34
                            clear hF hB hk1 hz1 hvm
                            clear ht
                            generalize H1 = H at hP hS ⊢
                            obtain ⟨rfl, hw_34⟩ := hw_34
                            refine kk_top (y := nI (Li (cAll C (cas a)) (plT C T) x1N x2N)) (rfl) ?_
                            have hll := Li_le (okC_all (f := cas a) hC (fun j _ => cas_le a j)) (plT C T) x1N x2N
                            refine lv_iload_n hx hb dX10_odds_131 rfl (lv_at hl 6 rfl) ?_
                            refine kk_icmp_lt (tgt := 139) hx hb dX10_odds_132 (by decide) (by omega) (by omega) (fun c_35 => ?_) (fun c_35 => ?_)
                            · skip
                              refine lv_lconst (v := lN 0) hx hb dX10_odds_139 (by decide +kernel) ?_
                              refine lv_ladd hx hb dX10_odds_140 ?_
                              refine lv_lstore (lv' := [(5, .long ((lN (cnt C T x1N x2N x3N a)) + (lN 0))), (8, .int (nI d)), (7, .int (nI a)), (0, .ref m0), (1, .int (nI x1N)), (2, .int (nI x2N)), (3, .int (nI x3N)), (4, .int (nI x4N))]) hx hb dX10_odds_141 hl (by decide) rfl (fun ls hl => ?_)
                              have e_36 : (lN (cnt C T x1N x2N x3N a)) + (lN 0) = lN (cnt C T x1N x2N x3N (a + 1)) := by
                                rw [lN_add, cnt_s]
                                rw [if_neg (by omega)]
                              rw [e_36] at hl
                              refine lv_iinc (v := nI (a + 1)) (lv' := [(7, .int (nI (a + 1))), (5, .long (lN (cnt C T x1N x2N x3N (a + 1)))), (8, .int (nI d)), (0, .ref m0), (1, .int (nI x1N)), (2, .int (nI x2N)), (3, .int (nI x3N)), (4, .int (nI x4N))]) hx hb dX10_odds_143 hl (k := 2) rfl (nI_add a 1) (by decide) rfl (fun ls hl => ?_)
                              refine lv_goto (tgt := 77) hx hb dX10_odds_146 (by decide) ?_
                              have o_37 : (a + 1) ≤ 16 := by omega
                              have o_38 : 17 ≤ (a + 1) + n_77 := by omega
                              exact ih_77 (a + 1) aY fa2_34 gi2_34 o_37 o_38 _ _ hP hD hS ls (lv_sub hl [0, 1, 3, 4, 5, 6, 7] rfl)
                            · skip
                              refine lv_lconst (v := lN 1) hx hb dX10_odds_135 (by decide +kernel) ?_
                              refine lv_goto (tgt := 140) hx hb dX10_odds_136 (by decide) ?_
                              refine lv_ladd hx hb dX10_odds_140 ?_
                              refine lv_lstore (lv' := [(5, .long ((lN (cnt C T x1N x2N x3N a)) + (lN 1))), (8, .int (nI d)), (7, .int (nI a)), (0, .ref m0), (1, .int (nI x1N)), (2, .int (nI x2N)), (3, .int (nI x3N)), (4, .int (nI x4N))]) hx hb dX10_odds_141 hl (by decide) rfl (fun ls hl => ?_)
                              have e_39 : (lN (cnt C T x1N x2N x3N a)) + (lN 1) = lN (cnt C T x1N x2N x3N (a + 1)) := by
                                rw [lN_add, cnt_s]
                                rw [if_pos (by omega)]
                              rw [e_39] at hl
                              refine lv_iinc (v := nI (a + 1)) (lv' := [(7, .int (nI (a + 1))), (5, .long (lN (cnt C T x1N x2N x3N (a + 1)))), (8, .int (nI d)), (0, .ref m0), (1, .int (nI x1N)), (2, .int (nI x2N)), (3, .int (nI x3N)), (4, .int (nI x4N))]) hx hb dX10_odds_143 hl (k := 2) rfl (nI_add a 1) (by decide) rfl (fun ls hl => ?_)
                              refine lv_goto (tgt := 77) hx hb dX10_odds_146 (by decide) ?_
                              have o_40 : (a + 1) ≤ 16 := by omega
                              have o_41 : 17 ≤ (a + 1) + n_77 := by omega
                              exact ih_77 (a + 1) aY fa2_34 gi2_34 o_40 o_41 _ _ hP hD hS ls (lv_sub hl [0, 1, 3, 4, 5, 6, 7] rfl)
                          · skip
                            refine lv_aload_n hx hb dX10_odds_93 rfl (lv_at hl 3 rfl) ?_
                            refine va_get (D := D) (ci := 9) (v := .ref a7) (C := RX10) (T := TX10) (N := 36) hx hb hts hwX10 hown hK hP 0 rfl rfl 7 (by decide) hf_22 (fun _ h9 => h9) rfl dX10_odds_94 ?_
                            refine lv_iload hx hb dX10_odds_97 (lv_at hl 0 rfl) ?_
                            refine lv_iload hx hb dX10_odds_99 (lv_at hl 1 rfl) ?_
                            refine lv_iload hx hb dX10_odds_101 (lv_at hl 0 rfl) ?_
                            refine lv_ishr hx hb dX10_odds_103 ?_
                            refine lv_iconst (v := nI 1) hx hb dX10_odds_104 (by decide +kernel) ?_
                            refine lv_iand hx hb dX10_odds_105 ?_
                            refine lv_iconst (v := nI 1) hx hb dX10_odds_106 (by decide +kernel) ?_
                            refine lv_icmp_ne (tgt := 115) hx hb dX10_odds_107 (by decide) (fun c_42 => ?_) (fun c_42 => ?_)
                            · skip
                              have hcs := fun z => c_42 ((kk_bitN a (by omega) d (by omega)).mpr z)
                              refine lv_iconst (v := nI 0) hx hb dX10_odds_115 (by decide +kernel) ?_
                              refine kk_top (y := nI (cas a d)) ((by rw [cas, if_neg hcs])) ?_
                              refine kk_iast hx hb hK hP hD hS 5 rfl rfl (i := d) (by omega) (by decide) dX10_odds_116 (fun H locs hP hD hS => ?_)
                              have hP : va_P D vwCl [(m0, .inr (9, [.int i0, .ref a1, .int (nI (cSp C)), .ref a3, .int (nI (cLa C)), .ref a5, .ref a6, .ref a7, .int (nI (cAg C)), .int (-9 : Int32), .int i10, .int i11, .int i12, .ref a13, .ref a14, .ref a15, .ref a16, .int (nI (mN T)), .ref a18, .ref a19, .ref a20, .ref a21, .ref a22, .ref a23, .ref a24, .ref a25, .int (nI (mN E)), .ref a27, .ref a28, .ref a29, .ref a30, .ref a31, .ref a32, .ref a33, .ref a34, .int i35])), (a1, .inl (cI, 6, .inl sk)), (a3, .inl (cI, 4, .inl sh)), (a5, .inl (cI, 4, .inl ki)), (a6, .inl (cI, 4, .inl st)), (a7, .inl (cI, 4, .inl (upd aY d (nI (cas a d))))), (a18, .inl (cI, 9, .inl mo)), (a19, .inl (cI, 9, .inl mi)), (a20, .inl (cI, 9, .inl mt)), (a21, .inl (cI, 96, .inl faX)), (a22, .inl (cI, 96, .inl giX)), (a30, .inl (cI, 4, .inl kX))] H := hP
                              have hD : va_D A [(m0, .inr (9, [.int i0, .ref a1, .int (nI (cSp C)), .ref a3, .int (nI (cLa C)), .ref a5, .ref a6, .ref a7, .int (nI (cAg C)), .int (-9 : Int32), .int i10, .int i11, .int i12, .ref a13, .ref a14, .ref a15, .ref a16, .int (nI (mN T)), .ref a18, .ref a19, .ref a20, .ref a21, .ref a22, .ref a23, .ref a24, .ref a25, .int (nI (mN E)), .ref a27, .ref a28, .ref a29, .ref a30, .ref a31, .ref a32, .ref a33, .ref a34, .int i35])), (a1, .inl (cI, 6, .inl sk)), (a3, .inl (cI, 4, .inl sh)), (a5, .inl (cI, 4, .inl ki)), (a6, .inl (cI, 4, .inl st)), (a7, .inl (cI, 4, .inl (upd aY d (nI (cas a d))))), (a18, .inl (cI, 9, .inl mo)), (a19, .inl (cI, 9, .inl mi)), (a20, .inl (cI, 9, .inl mt)), (a21, .inl (cI, 96, .inl faX)), (a22, .inl (cI, 96, .inl giX)), (a30, .inl (cI, 4, .inl kX))] := hD
                              refine lv_iinc (v := nI (d + 1)) (lv' := [(8, .int (nI (d + 1))), (7, .int (nI a)), (5, .long (lN (cnt C T x1N x2N x3N a))), (0, .ref m0), (1, .int (nI x1N)), (2, .int (nI x2N)), (3, .int (nI x3N)), (4, .int (nI x4N))]) hx hb dX10_odds_117 hl (k := 0) rfl (nI_add d 1) (by decide) rfl (fun ls hl => ?_)
                              refine lv_goto (tgt := 87) hx hb dX10_odds_120 (by decide) ?_
                              have o_43 : (d + 1) ≤ 4 := by omega
                              have o_44 : ∀ j, j < (d + 1) → (upd aY d (nI (cas a d))) j = nI (cas a j) := by
                                intro j h
                                by_cases e : j = d
                                · subst e; exact up_at _ _ _
                                · rw [up_ne _ _ e]; exact z1 j (by omega)
                              have o_45 : 5 ≤ (d + 1) + n_87 := by omega
                              exact ih_87 (d + 1) (upd aY d (nI (cas a d))) o_43 o_44 o_45 _ _ hP hD hS ls (lv_sub hl [0, 1, 2, 3, 4, 5, 6, 7] rfl)
                            · skip
                              have hcs := (kk_bitN a (by omega) d (by omega)).mp c_42
                              refine lv_bipush (v := nI 9) hx hb dX10_odds_110 (by decide +kernel) ?_
                              refine lv_goto (tgt := 116) hx hb dX10_odds_112 (by decide) ?_
                              refine kk_top (y := nI (cas a d)) ((by rw [cas, if_pos hcs])) ?_
                              refine kk_iast hx hb hK hP hD hS 5 rfl rfl (i := d) (by omega) (by decide) dX10_odds_116 (fun H locs hP hD hS => ?_)
                              have hP : va_P D vwCl [(m0, .inr (9, [.int i0, .ref a1, .int (nI (cSp C)), .ref a3, .int (nI (cLa C)), .ref a5, .ref a6, .ref a7, .int (nI (cAg C)), .int (-9 : Int32), .int i10, .int i11, .int i12, .ref a13, .ref a14, .ref a15, .ref a16, .int (nI (mN T)), .ref a18, .ref a19, .ref a20, .ref a21, .ref a22, .ref a23, .ref a24, .ref a25, .int (nI (mN E)), .ref a27, .ref a28, .ref a29, .ref a30, .ref a31, .ref a32, .ref a33, .ref a34, .int i35])), (a1, .inl (cI, 6, .inl sk)), (a3, .inl (cI, 4, .inl sh)), (a5, .inl (cI, 4, .inl ki)), (a6, .inl (cI, 4, .inl st)), (a7, .inl (cI, 4, .inl (upd aY d (nI (cas a d))))), (a18, .inl (cI, 9, .inl mo)), (a19, .inl (cI, 9, .inl mi)), (a20, .inl (cI, 9, .inl mt)), (a21, .inl (cI, 96, .inl faX)), (a22, .inl (cI, 96, .inl giX)), (a30, .inl (cI, 4, .inl kX))] H := hP
                              have hD : va_D A [(m0, .inr (9, [.int i0, .ref a1, .int (nI (cSp C)), .ref a3, .int (nI (cLa C)), .ref a5, .ref a6, .ref a7, .int (nI (cAg C)), .int (-9 : Int32), .int i10, .int i11, .int i12, .ref a13, .ref a14, .ref a15, .ref a16, .int (nI (mN T)), .ref a18, .ref a19, .ref a20, .ref a21, .ref a22, .ref a23, .ref a24, .ref a25, .int (nI (mN E)), .ref a27, .ref a28, .ref a29, .ref a30, .ref a31, .ref a32, .ref a33, .ref a34, .int i35])), (a1, .inl (cI, 6, .inl sk)), (a3, .inl (cI, 4, .inl sh)), (a5, .inl (cI, 4, .inl ki)), (a6, .inl (cI, 4, .inl st)), (a7, .inl (cI, 4, .inl (upd aY d (nI (cas a d))))), (a18, .inl (cI, 9, .inl mo)), (a19, .inl (cI, 9, .inl mi)), (a20, .inl (cI, 9, .inl mt)), (a21, .inl (cI, 96, .inl faX)), (a22, .inl (cI, 96, .inl giX)), (a30, .inl (cI, 4, .inl kX))] := hD
                              refine lv_iinc (v := nI (d + 1)) (lv' := [(8, .int (nI (d + 1))), (7, .int (nI a)), (5, .long (lN (cnt C T x1N x2N x3N a))), (0, .ref m0), (1, .int (nI x1N)), (2, .int (nI x2N)), (3, .int (nI x3N)), (4, .int (nI x4N))]) hx hb dX10_odds_117 hl (k := 0) rfl (nI_add d 1) (by decide) rfl (fun ls hl => ?_)
                              refine lv_goto (tgt := 87) hx hb dX10_odds_120 (by decide) ?_
                              have o_46 : (d + 1) ≤ 4 := by omega
                              have o_47 : ∀ j, j < (d + 1) → (upd aY d (nI (cas a d))) j = nI (cas a j) := by
                                intro j h
                                by_cases e : j = d
                                · subst e; exact up_at _ _ _
                                · rw [up_ne _ _ e]; exact z1 j (by omega)
                              have o_48 : 5 ≤ (d + 1) + n_87 := by omega
                              exact ih_87 (d + 1) (upd aY d (nI (cas a d))) o_46 o_47 o_48 _ _ hP hD hS ls (lv_sub hl [0, 1, 2, 3, 4, 5, 6, 7] rfl)
                      have o_49 : 0 ≤ 4 := by omega
                      have o_50 : ∀ j, j < 0 → aX j = nI (cas a j) := by intro j h; omega
                      have o_51 : 5 ≤ 0 + 5 := by omega
                      exact L_87 5 0 aX o_49 o_50 o_51 _ _ hP hD hS ls (lv_sub hl [0, 1, 2, 3, 4, 5, 6, 7] rfl)
                have o_52 : 0 ≤ 16 := by omega
                have o_53 : 17 ≤ 0 + 17 := by omega
                exact L_77 17 0 cl fa gi o_52 o_53 _ _ hP hD hS ls (lv_sub hl [0, 1, 2, 3, 4, 5, 6] rfl)
              · skip
                refine lv_aload_n hx hb dX10_odds_51 rfl (lv_at hl 1 rfl) ?_
                refine va_get (D := D) (ci := 9) (v := .ref a30) (C := RX10) (T := TX10) (N := 36) hx hb hts hwX10 hown hK hP 0 rfl rfl 30 (by decide) hf_70 (fun _ h9 => h9) rfl dX10_odds_52 ?_
                refine lv_iload hx hb dX10_odds_55 (lv_at hl 0 rfl) ?_
                refine lv_aload_n hx hb dX10_odds_57 rfl (lv_at hl 1 rfl) ?_
                refine va_get (D := D) (ci := 9) (v := .ref a7) (C := RX10) (T := TX10) (N := 36) hx hb hts hwX10 hown hK hP 0 rfl rfl 7 (by decide) hf_22 (fun _ h9 => h9) rfl dX10_odds_58 ?_
                refine lv_iload hx hb dX10_odds_61 (lv_at hl 0 rfl) ?_
                refine kk_iald hx hb hK hP 5 rfl rfl (i := d) (by omega) (by decide) dX10_odds_63 ?_
                refine kk_iast hx hb hK hP hD hS 11 rfl rfl (i := d) (by omega) (by decide) dX10_odds_64 (fun H locs hP hD hS => ?_)
                have hP : va_P D vwCl [(m0, .inr (9, [.int i0, .ref a1, .int (nI (cSp C)), .ref a3, .int (nI (cLa C)), .ref a5, .ref a6, .ref a7, .int (nI (cAg C)), .int (-9 : Int32), .int i10, .int i11, .int i12, .ref a13, .ref a14, .ref a15, .ref a16, .int (nI (mN T)), .ref a18, .ref a19, .ref a20, .ref a21, .ref a22, .ref a23, .ref a24, .ref a25, .int (nI (mN E)), .ref a27, .ref a28, .ref a29, .ref a30, .ref a31, .ref a32, .ref a33, .ref a34, .int i35])), (a1, .inl (cI, 6, .inl sk)), (a3, .inl (cI, 4, .inl sh)), (a5, .inl (cI, 4, .inl ki)), (a6, .inl (cI, 4, .inl st)), (a7, .inl (cI, 4, .inl cl)), (a18, .inl (cI, 9, .inl mo)), (a19, .inl (cI, 9, .inl mi)), (a20, .inl (cI, 9, .inl mt)), (a21, .inl (cI, 96, .inl fa)), (a22, .inl (cI, 96, .inl gi)), (a30, .inl (cI, 4, .inl (upd kX d (cl d))))] H := hP
                have hD : va_D A [(m0, .inr (9, [.int i0, .ref a1, .int (nI (cSp C)), .ref a3, .int (nI (cLa C)), .ref a5, .ref a6, .ref a7, .int (nI (cAg C)), .int (-9 : Int32), .int i10, .int i11, .int i12, .ref a13, .ref a14, .ref a15, .ref a16, .int (nI (mN T)), .ref a18, .ref a19, .ref a20, .ref a21, .ref a22, .ref a23, .ref a24, .ref a25, .int (nI (mN E)), .ref a27, .ref a28, .ref a29, .ref a30, .ref a31, .ref a32, .ref a33, .ref a34, .int i35])), (a1, .inl (cI, 6, .inl sk)), (a3, .inl (cI, 4, .inl sh)), (a5, .inl (cI, 4, .inl ki)), (a6, .inl (cI, 4, .inl st)), (a7, .inl (cI, 4, .inl cl)), (a18, .inl (cI, 9, .inl mo)), (a19, .inl (cI, 9, .inl mi)), (a20, .inl (cI, 9, .inl mt)), (a21, .inl (cI, 96, .inl fa)), (a22, .inl (cI, 96, .inl gi)), (a30, .inl (cI, 4, .inl (upd kX d (cl d))))] := hD
                refine lv_iinc (v := nI (d + 1)) (lv' := [(5, .int (nI (d + 1))), (0, .ref m0), (1, .int (nI x1N)), (2, .int (nI x2N)), (3, .int (nI x3N)), (4, .int (nI x4N))]) hx hb dX10_odds_65 hl (k := 0) rfl (nI_add d 1) (by decide) rfl (fun ls hl => ?_)
                refine lv_goto (tgt := 45) hx hb dX10_odds_68 (by decide) ?_
                have o_54 : (d + 1) ≤ 4 := by omega
                have o_55 : ∀ j, j < (d + 1) → (upd kX d (cl d)) j = nI (cCl C j) := by
                  intro j h
                  by_cases e : j = d
                  · subst e; rw [up_at]; exact hrC.2.2.2.2 j (by omega)
                  · rw [up_ne _ _ e]; exact z0 j (by omega)
                have o_56 : 5 ≤ (d + 1) + n_45 := by omega
                exact ih_45 (d + 1) (upd kX d (cl d)) o_54 o_55 o_56 _ _ hP hD hS ls (lv_sub hl [0, 1, 2, 3, 4, 5] rfl)
          have o_57 : 0 ≤ 4 := by omega
          have o_58 : ∀ j, j < 0 → kc j = nI (cCl C j) := by intro j h; omega
          have o_59 : 5 ≤ 0 + 5 := by omega
          exact L_45 5 0 kc o_57 o_58 o_59 _ _ hP hD hS ls (lv_sub hl [0, 1, 2, 3, 4, 5] rfl)
        · skip
          refine vp_callSl (W.runS (As := []) (rest := []) ⟨hx, hb, hml, hown, hts⟩ (c_X10_lost lL D cI cS ) (va_cwS 0 hts gX10_odds_X10_lost rfl rfl rfl cd_X10_lost ⟨Nat.le_of_ble_eq_true rfl, Nat.le_of_ble_eq_true rfl⟩) ⟨kBp_blind, fun U hU hW => ⟨rfl, by rw [hU]; exact hP.sub [] rfl, va_K.moved hW.alike hK⟩⟩ rfl rfl hl.1 rfl (lv_room (Nat.le_of_ble_eq_true rfl)) dX10_odds_38 ⟨Nat.le_of_ble_eq_true rfl, Nat.le_of_ble_eq_true rfl⟩) (fun r_60 hw_60 => ?_)
          obtain rfl : r_60 = lostC := hw_60
          have hq : lostC = sp_odds C T (nI x1N) (nI x2N) (nI x3N) x4 ∧ repC C sk sh ki st cl := by refine ⟨by simp only [sp_odds, hb_3, hb_6, hb_9, hb_12, t_x1, t_x2, t_x3, cond_true, cond_false], hrC⟩
          refine kk_QQ hQQ ?_
          exact W.lret (v := lostC) hx hb hr (fun t ht hW => ⟨⟨lostC, (cl, kc, fa, gi), rfl, hq, by show va_P D vwCl _ t.heap; rw [ht]; exact hP⟩, hS.F ht⟩) hS.2.2 dX10_odds_41
