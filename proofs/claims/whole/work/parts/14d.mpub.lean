theorem cd_X10_lightBy : yX10_lightBy.cls = RX10 ∧ yX10_lightBy.cls ≠ "java/lang/invoke/MethodHandle" ∧ yX10_lightBy.cls ≠ "java/lang/invoke/VarHandle" ∧ (parseMethodDescriptor yX10_lightBy.desc).map (fun d => d.parameters.length) = some 2 := by decide +kernel
abbrev rmX10_gives : Room := { frames := 3, cells := 0, slots := 0, locals := 75 }
set_option maxHeartbeats 4000000 in
set_option maxRecDepth 100000 in
theorem c_X10_gives (lL : Launch) (D : va_G) (cI cS : ClassId) (sz : Nat) (C : Co) (T : Mv) (E : Mv) (m0 : Nat) (a1 : Nat) (a3 : Nat) (a5 : Nat) (a6 : Nat) (a7 : Nat) (a13 : Nat) (a14 : Nat) (a15 : Nat) (a16 : Nat) (a18 : Nat) (a19 : Nat) (a20 : Nat) (a21 : Nat) (a22 : Nat) (a23 : Nat) (a24 : Nat) (a25 : Nat) (a27 : Nat) (a28 : Nat) (a29 : Nat) (a30 : Nat) (a31 : Nat) (a32 : Nat) (a33 : Nat) (a34 : Nat) (i0 : Int32) (i10 : Int32) (i11 : Int32) (i12 : Int32) (i35 : Int32) (sk : Nat → Int32) (sh : Nat → Int32) (ki : Nat → Int32) (st : Nat → Int32) (cl : Nat → Int32) (mo : Nat → Int32) (mi : Nat → Int32) (mt : Nat → Int32) (fa : Nat → Int32) (gi : Nat → Int32) (x1 : Int32) (x2 : Int32) (hX : okX C T E) (hrC : repC C sk sh ki st cl) (hrT : repM T mo mi mt) : Met lL yX10_gives wsX10_gives rmX10_gives (va_Pc [.ref m0, .int x1, .int x2] (kB D cI cS [(m0, .inr (9, [.int i0, .ref a1, .int (nI (cSp C)), .ref a3, .int (nI (cLa C)), .ref a5, .ref a6, .ref a7, .int (nI (cAg C)), .int (-9 : Int32), .int i10, .int i11, .int i12, .ref a13, .ref a14, .ref a15, .ref a16, .int (nI (mN T)), .ref a18, .ref a19, .ref a20, .ref a21, .ref a22, .ref a23, .ref a24, .ref a25, .int (nI (mN E)), .ref a27, .ref a28, .ref a29, .ref a30, .ref a31, .ref a32, .ref a33, .ref a34, .int i35])), (a1, .inl (cI, 6, .inl sk)), (a3, .inl (cI, 4, .inl sh)), (a5, .inl (cI, 4, .inl ki)), (a6, .inl (cI, 4, .inl st)), (a7, .inl (cI, 4, .inl cl)), (a18, .inl (cI, 9, .inl mo)), (a19, .inl (cI, 9, .inl mi)), (a20, .inl (cI, 9, .inl mt)), (a21, .inl (cI, 96, .inl fa)), (a22, .inl (cI, 96, .inl gi))] sz)) (kQi D (fun (r : Int32) (u : (Nat → Int32) × (Nat → Int32)) => r = sp_gives C T x1 x2 ∧ True) (fun u : (Nat → Int32) × (Nat → Int32) => [(m0, .inr (9, [.int i0, .ref a1, .int (nI (cSp C)), .ref a3, .int (nI (cLa C)), .ref a5, .ref a6, .ref a7, .int (nI (cAg C)), .int (-9 : Int32), .int i10, .int i11, .int i12, .ref a13, .ref a14, .ref a15, .ref a16, .int (nI (mN T)), .ref a18, .ref a19, .ref a20, .ref a21, .ref a22, .ref a23, .ref a24, .ref a25, .int (nI (mN E)), .ref a27, .ref a28, .ref a29, .ref a30, .ref a31, .ref a32, .ref a33, .ref a34, .int i35])), (a1, .inl (cI, 6, .inl sk)), (a3, .inl (cI, 4, .inl sh)), (a5, .inl (cI, 4, .inl ki)), (a6, .inl (cI, 4, .inl st)), (a7, .inl (cI, 4, .inl cl)), (a18, .inl (cI, 9, .inl mo)), (a19, .inl (cI, 9, .inl mi)), (a20, .inl (cI, 9, .inl mt)), (a21, .inl (cI, 96, .inl u.1)), (a22, .inl (cI, 96, .inl u.2))]) (va_A [(m0, .inr (9, [.int i0, .ref a1, .int (nI (cSp C)), .ref a3, .int (nI (cLa C)), .ref a5, .ref a6, .ref a7, .int (nI (cAg C)), .int (-9 : Int32), .int i10, .int i11, .int i12, .ref a13, .ref a14, .ref a15, .ref a16, .int (nI (mN T)), .ref a18, .ref a19, .ref a20, .ref a21, .ref a22, .ref a23, .ref a24, .ref a25, .int (nI (mN E)), .ref a27, .ref a28, .ref a29, .ref a30, .ref a31, .ref a32, .ref a33, .ref a34, .int i35])), (a1, .inl (cI, 6, .inl sk)), (a3, .inl (cI, 4, .inl sh)), (a5, .inl (cI, 4, .inl ki)), (a6, .inl (cI, 4, .inl st)), (a7, .inl (cI, 4, .inl cl)), (a18, .inl (cI, 9, .inl mo)), (a19, .inl (cI, 9, .inl mi)), (a20, .inl (cI, 9, .inl mt)), (a21, .inl (cI, 96, .inl fa)), (a22, .inl (cI, 96, .inl gi))] sz)) 0 0 (va_A [(m0, .inr (9, [.int i0, .ref a1, .int (nI (cSp C)), .ref a3, .int (nI (cLa C)), .ref a5, .ref a6, .ref a7, .int (nI (cAg C)), .int (-9 : Int32), .int i10, .int i11, .int i12, .ref a13, .ref a14, .ref a15, .ref a16, .int (nI (mN T)), .ref a18, .ref a19, .ref a20, .ref a21, .ref a22, .ref a23, .ref a24, .ref a25, .int (nI (mN E)), .ref a27, .ref a28, .ref a29, .ref a30, .ref a31, .ref a32, .ref a33, .ref a34, .int i35])), (a1, .inl (cI, 6, .inl sk)), (a3, .inl (cI, 4, .inl sh)), (a5, .inl (cI, 4, .inl ki)), (a6, .inl (cI, 4, .inl st)), (a7, .inl (cI, 4, .inl cl)), (a18, .inl (cI, 9, .inl mo)), (a19, .inl (cI, 9, .inl mi)), (a20, .inl (cI, 9, .inl mt)), (a21, .inl (cI, 96, .inl fa)), (a22, .inl (cI, 96, .inl gi))] sz) := by
  refine Met.ofW (cc := cX10_gives) (maxL := 3) (ret := (some .int)) (by decide) rfl ?_
  intro pP eE sS mM args below meth cC s₁ B hml hv
  obtain ⟨rfl, hsz, hP, hK, hD0⟩ := hv
  have hx := B.exec
  have hb := B.bytes
  have hr := B.returns
  have hts := atoms_spec (ws := wsX10_gives) B.pre
  have hown : sS.vm.findClass RX10 = some mM.cls := findClass_of_methodNamed B.named
  have hlocks := B.notSynchronized
  subst hsz
  have hD := hD0.self (sz := sS.heap.size)
  generalize hAe : va_A [(m0, .inr (9, [.int i0, .ref a1, .int (nI (cSp C)), .ref a3, .int (nI (cLa C)), .ref a5, .ref a6, .ref a7, .int (nI (cAg C)), .int (-9 : Int32), .int i10, .int i11, .int i12, .ref a13, .ref a14, .ref a15, .ref a16, .int (nI (mN T)), .ref a18, .ref a19, .ref a20, .ref a21, .ref a22, .ref a23, .ref a24, .ref a25, .int (nI (mN E)), .ref a27, .ref a28, .ref a29, .ref a30, .ref a31, .ref a32, .ref a33, .ref a34, .int i35])), (a1, .inl (cI, 6, .inl sk)), (a3, .inl (cI, 4, .inl sh)), (a5, .inl (cI, 4, .inl ki)), (a6, .inl (cI, 4, .inl st)), (a7, .inl (cI, 4, .inl cl)), (a18, .inl (cI, 9, .inl mo)), (a19, .inl (cI, 9, .inl mi)), (a20, .inl (cI, 9, .inl mt)), (a21, .inl (cI, 96, .inl fa)), (a22, .inl (cI, 96, .inl gi))] sS.heap.size = A at hD ⊢
  have hA : ∀ q : Nat, sS.heap.size ≤ q → A q := fun q h => by rw [← hAe]; exact Or.inr h
  have hS : va_S A sS.heap sS.heap [] := va_S.rf
  have hP : va_P D vwCl [(m0, .inr (9, [.int i0, .ref a1, .int (nI (cSp C)), .ref a3, .int (nI (cLa C)), .ref a5, .ref a6, .ref a7, .int (nI (cAg C)), .int (-9 : Int32), .int i10, .int i11, .int i12, .ref a13, .ref a14, .ref a15, .ref a16, .int (nI (mN T)), .ref a18, .ref a19, .ref a20, .ref a21, .ref a22, .ref a23, .ref a24, .ref a25, .int (nI (mN E)), .ref a27, .ref a28, .ref a29, .ref a30, .ref a31, .ref a32, .ref a33, .ref a34, .int i35])), (a1, .inl (cI, 6, .inl sk)), (a3, .inl (cI, 4, .inl sh)), (a5, .inl (cI, 4, .inl ki)), (a6, .inl (cI, 4, .inl st)), (a7, .inl (cI, 4, .inl cl)), (a18, .inl (cI, 9, .inl mo)), (a19, .inl (cI, 9, .inl mi)), (a20, .inl (cI, 9, .inl mt)), (a21, .inl (cI, 96, .inl fa)), (a22, .inl (cI, 96, .inl gi))] sS.heap := hP
  have hD : va_D A [(m0, .inr (9, [.int i0, .ref a1, .int (nI (cSp C)), .ref a3, .int (nI (cLa C)), .ref a5, .ref a6, .ref a7, .int (nI (cAg C)), .int (-9 : Int32), .int i10, .int i11, .int i12, .ref a13, .ref a14, .ref a15, .ref a16, .int (nI (mN T)), .ref a18, .ref a19, .ref a20, .ref a21, .ref a22, .ref a23, .ref a24, .ref a25, .int (nI (mN E)), .ref a27, .ref a28, .ref a29, .ref a30, .ref a31, .ref a32, .ref a33, .ref a34, .int i35])), (a1, .inl (cI, 6, .inl sk)), (a3, .inl (cI, 4, .inl sh)), (a5, .inl (cI, 4, .inl ki)), (a6, .inl (cI, 4, .inl st)), (a7, .inl (cI, 4, .inl cl)), (a18, .inl (cI, 9, .inl mo)), (a19, .inl (cI, 9, .inl mi)), (a20, .inl (cI, 9, .inl mt)), (a21, .inl (cI, 96, .inl fa)), (a22, .inl (cI, 96, .inl gi))] := hD
  have hf_49 := hts (.fieldLink RX10 49 "OldLampsModel" "givesIn" "[I") (List.mem_of_getElem? (i := 1) rfl)
  have hwX10 : ∀ w ∈ wsX100, w ∈ wsX10_gives := fun _ h => List.mem_cons_of_mem _ (List.mem_append_right _ h)
  have hl := lv_entry ([.ref m0, .int x1, .int x2]) (n := 3) (Nat.le_of_ble_eq_true rfl)
  rw [lg_entry_eq]
  generalize (lg_sl ([.ref m0, .int x1, .int x2]) ++ List.replicate (3 - (lg_sl ([.ref m0, .int x1, .int x2])).length) Slot.unset).toArray = ls at hl ⊢
  have hl : lv_has ls 3 [(0, .ref m0), (1, .int x1), (2, .int x2)] := hl
  obtain ⟨QQ, hQQ⟩ : ∃ QQ : State → Prop, QQ = MQ below (kQi D (fun (r : Int32) (u : (Nat → Int32) × (Nat → Int32)) => r = sp_gives C T x1 x2 ∧ True) (fun u : (Nat → Int32) × (Nat → Int32) => [(m0, .inr (9, [.int i0, .ref a1, .int (nI (cSp C)), .ref a3, .int (nI (cLa C)), .ref a5, .ref a6, .ref a7, .int (nI (cAg C)), .int (-9 : Int32), .int i10, .int i11, .int i12, .ref a13, .ref a14, .ref a15, .ref a16, .int (nI (mN T)), .ref a18, .ref a19, .ref a20, .ref a21, .ref a22, .ref a23, .ref a24, .ref a25, .int (nI (mN E)), .ref a27, .ref a28, .ref a29, .ref a30, .ref a31, .ref a32, .ref a33, .ref a34, .int i35])), (a1, .inl (cI, 6, .inl sk)), (a3, .inl (cI, 4, .inl sh)), (a5, .inl (cI, 4, .inl ki)), (a6, .inl (cI, 4, .inl st)), (a7, .inl (cI, 4, .inl cl)), (a18, .inl (cI, 9, .inl mo)), (a19, .inl (cI, 9, .inl mi)), (a20, .inl (cI, 9, .inl mt)), (a21, .inl (cI, 96, .inl u.1)), (a22, .inl (cI, 96, .inl u.2))]) A) ([.ref m0, .int x1, .int x2]).toArray sS 0 0 A := ⟨_, rfl⟩
  refine kk_QQ hQQ.symm ?_
  obtain ⟨hX1, hX2, hX3, hX4⟩ := okX_le hX
  refine lv_aload_n hx hb dX10_gives_0 rfl (lv_at hl 0 rfl) ?_
  refine lv_iload_n hx hb dX10_gives_1 rfl (lv_at hl 1 rfl) ?_
  have o_1 : (cLa C) ≤ 4 := by omega
  refine vp_callSi (W.runV (As := [.int x1]) (rest := []) ⟨hx, hb, hml, hown, hts⟩ (c_X10_noLamp lL D cI cS m0 a1 a3 a5 a6 a7 a13 a14 a15 a16 a18 a19 a20 a21 a22 a23 a24 a25 a27 a28 a29 a30 a31 a32 a33 a34 i0 (nI (cSp C)) (nI (cAg C)) (-9 : Int32) i10 i11 i12 (nI (mN T)) (nI (mN E)) i35 x1 (cLa C) o_1) (cwV 1 hts gX10_gives_X10_noLamp rfl rfl rfl cd_X10_noLamp ⟨Nat.le_of_ble_eq_true rfl, Nat.le_of_ble_eq_true rfl⟩) ⟨kBp_blind, va_recv hK hP (ci := 9) (q0 := 0) rfl rfl, fun U hU hW => ⟨rfl, by rw [hU]; exact hP.sub [0] rfl, va_K.moved hW.alike hK⟩⟩ rfl rfl hl.1 rfl (lv_room (Nat.le_of_ble_eq_true rfl)) dX10_gives_2 ⟨Nat.le_of_ble_eq_true rfl, Nat.le_of_ble_eq_true rfl⟩) (fun r_2 hw_2 => ?_)
  obtain rfl : r_2 = kb (!inB x1 (cLa C)) := hw_2
  refine kk_ifn_eq (tgt := 10) hx hb dX10_gives_5 (by decide) (fun hb_3 => ?_) (fun hb_3 => ?_)
  · skip
    obtain ⟨x1N, hx1N, rfl⟩ := inB_t hb_3
    have t_x1 := nI_clamp (show x1N < 2 ^ 31 by omega)
    obtain ⟨hC, hM0, hE⟩ := okX_la hX hx1N
    have hM := ok9_of hM0
    have hkd := kdM_of hX hrC
    have hwo := hkd.2
    have hk3 : 9 < cLa C → cKi C 9 = 3 := fun z => absurd hC.2.1 (by omega)
    have hst := hrC.2.2.2.1
    have hrB : repB C sk sh cl := ⟨hrC.1, hrC.2.1, hrC.2.2.2.2⟩
    have hxa := hC.2.1
    have hxs := hC.1
    refine lv_iload_n hx hb dX10_gives_10 rfl (lv_at hl 2 rfl) ?_
    refine vp_callSi (W.runS (As := [.int x2]) (rest := []) ⟨hx, hb, hml, hown, hts⟩ (c_X10_isWatch lL D cI cS x2) (va_cwS 1 hts gX10_gives_X10_isWatch rfl rfl rfl cd_X10_isWatch ⟨Nat.le_of_ble_eq_true rfl, Nat.le_of_ble_eq_true rfl⟩) ⟨kBp_blind, fun U hU hW => ⟨rfl, by rw [hU]; exact hP.sub [] rfl, va_K.moved hW.alike hK⟩⟩ rfl rfl hl.1 rfl (lv_room (Nat.le_of_ble_eq_true rfl)) dX10_gives_11 ⟨Nat.le_of_ble_eq_true rfl, Nat.le_of_ble_eq_true rfl⟩) (fun r_4 hw_4 => ?_)
    obtain rfl : r_4 = kb (inB x2 24) := hw_4
    -- if (inB x2 24)
    refine kk_ifb_ne (tgt := 20) hx hb dX10_gives_14 (by decide) (fun hb_5 => ?_) (fun hb_5 => ?_)
    · skip
      obtain ⟨x2N, hx2N, rfl⟩ := inB_t hb_5
      have t_x2 := nI_clamp (show x2N < 2 ^ 31 by omega)
      refine lv_aload_n hx hb dX10_gives_20 rfl (lv_at hl 0 rfl) ?_
      refine lv_iload_n hx hb dX10_gives_21 rfl (lv_at hl 2 rfl) ?_
      have o_6 : okC C := by assumption
      have o_7 : ok9 C T := by assumption
      have o_8 : ∀ k, k < cLa C → st k = nI (cSt C k) := by assumption
      have o_9 : repM T mo mi mt := by assumption
      have o_10 : kdM C 9 (-9 : Int32) (cKi C) ki := by assumption
      have o_11 : repB C sk sh cl := by assumption
      have o_12 : x2N < 24 := by omega
      have hF := va_free (wc := [(m0, .inr (9, [.int i0, .ref a1, .int (nI (cSp C)), .ref a3, .int (nI (cLa C)), .ref a5, .ref a6, .ref a7, .int (nI (cAg C)), .int (-9 : Int32), .int i10, .int i11, .int i12, .ref a13, .ref a14, .ref a15, .ref a16, .int (nI (mN T)), .ref a18, .ref a19, .ref a20, .ref a21, .ref a22, .ref a23, .ref a24, .ref a25, .int (nI (mN E)), .ref a27, .ref a28, .ref a29, .ref a30, .ref a31, .ref a32, .ref a33, .ref a34, .int i35])), (a1, .inl (cI, 6, .inl sk)), (a3, .inl (cI, 4, .inl sh)), (a5, .inl (cI, 4, .inl ki)), (a6, .inl (cI, 4, .inl st)), (a7, .inl (cI, 4, .inl cl)), (a18, .inl (cI, 9, .inl mo)), (a19, .inl (cI, 9, .inl mi)), (a20, .inl (cI, 9, .inl mt)), (a21, .inl (cI, 96, .inl fa)), (a22, .inl (cI, 96, .inl gi))]) hD hS hA [0, 1, 2, 3, 4, 5, 6, 7, 8, 9, 10] rfl
      refine va_callv (va_runV (As := [.int (nI x2N)]) (rest := []) ⟨hx, hb, hml, hown, hts⟩ (c_X10_goTo lL D cI cS _ C T 9 (cKi C) m0 a1 a3 a5 a6 a7 a13 a14 a15 a16 a18 a19 a20 a21 a22 a23 a24 a25 a27 a28 a29 a30 a31 a32 a33 a34 i0 (nI (cSp C)) (-9 : Int32) i10 i11 i12 (nI (mN E)) i35 sk sh ki st cl mo mi mt fa gi x2N o_6 o_7 o_8 o_9 o_10 o_11 o_12) (cwV 1 hts gX10_gives_X10_goTo rfl rfl rfl cd_X10_goTo ⟨Nat.le_of_ble_eq_true rfl, Nat.le_of_ble_eq_true rfl⟩) ⟨kB_blind, va_recv hK hP (ci := 9) (q0 := 0) rfl rfl, fun U hU hW => ⟨rfl, by rw [hU], by rw [hU]; exact hP.sub [0, 1, 2, 3, 4, 5, 6, 7, 8, 9, 10] rfl, va_K.moved hW.alike hK, (hD.sub [0, 1, 2, 3, 4, 5, 6, 7, 8, 9, 10] (by decide) rfl).weaken (fun _ _ _ _ => trivial)⟩⟩ rfl rfl hl.1 rfl (lv_room (Nat.le_of_ble_eq_true rfl)) dX10_gives_22 ⟨Nat.le_of_ble_eq_true rfl, Nat.le_of_ble_eq_true rfl⟩) hS (fun q _ h => hF q h) hF (fun u_13 t H1 locs ht hvm hw_13 hB hz1 hk1 hS => ?_)
      obtain ⟨fa2_13, gi2_13⟩ := u_13
      obtain ⟨hP, hD⟩ := kk_join2 (wc := [(m0, .inr (9, [.int i0, .ref a1, .int (nI (cSp C)), .ref a3, .int (nI (cLa C)), .ref a5, .ref a6, .ref a7, .int (nI (cAg C)), .int (-9 : Int32), .int i10, .int i11, .int i12, .ref a13, .ref a14, .ref a15, .ref a16, .int (nI (mN T)), .ref a18, .ref a19, .ref a20, .ref a21, .ref a22, .ref a23, .ref a24, .ref a25, .int (nI (mN E)), .ref a27, .ref a28, .ref a29, .ref a30, .ref a31, .ref a32, .ref a33, .ref a34, .int i35])), (a1, .inl (cI, 6, .inl sk)), (a3, .inl (cI, 4, .inl sh)), (a5, .inl (cI, 4, .inl ki)), (a6, .inl (cI, 4, .inl st)), (a7, .inl (cI, 4, .inl cl)), (a18, .inl (cI, 9, .inl mo)), (a19, .inl (cI, 9, .inl mi)), (a20, .inl (cI, 9, .inl mt)), (a21, .inl (cI, 96, .inl fa)), (a22, .inl (cI, 96, .inl gi))]) (w1 := [(m0, .inr (9, [.int i0, .ref a1, .int (nI (cSp C)), .ref a3, .int (nI (cLa C)), .ref a5, .ref a6, .ref a7, .int (nI (cAg C)), .int (-9 : Int32), .int i10, .int i11, .int i12, .ref a13, .ref a14, .ref a15, .ref a16, .int (nI (mN T)), .ref a18, .ref a19, .ref a20, .ref a21, .ref a22, .ref a23, .ref a24, .ref a25, .int (nI (mN E)), .ref a27, .ref a28, .ref a29, .ref a30, .ref a31, .ref a32, .ref a33, .ref a34, .int i35])), (a1, .inl (cI, 6, .inl sk)), (a3, .inl (cI, 4, .inl sh)), (a5, .inl (cI, 4, .inl ki)), (a6, .inl (cI, 4, .inl st)), (a7, .inl (cI, 4, .inl cl)), (a18, .inl (cI, 9, .inl mo)), (a19, .inl (cI, 9, .inl mi)), (a20, .inl (cI, 9, .inl mt)), (a21, .inl (cI, 96, .inl fa2_13)), (a22, .inl (cI, 96, .inl gi2_13))]) (ws' := [(m0, .inr (9, [.int i0, .ref a1, .int (nI (cSp C)), .ref a3, .int (nI (cLa C)), .ref a5, .ref a6, .ref a7, .int (nI (cAg C)), .int (-9 : Int32), .int i10, .int i11, .int i12, .ref a13, .ref a14, .ref a15, .ref a16, .int (nI (mN T)), .ref a18, .ref a19, .ref a20, .ref a21, .ref a22, .ref a23, .ref a24, .ref a25, .int (nI (mN E)), .ref a27, .ref a28, .ref a29, .ref a30, .ref a31, .ref a32, .ref a33, .ref a34, .int i35])), (a1, .inl (cI, 6, .inl sk)), (a3, .inl (cI, 4, .inl sh)), (a5, .inl (cI, 4, .inl ki)), (a6, .inl (cI, 4, .inl st)), (a7, .inl (cI, 4, .inl cl)), (a18, .inl (cI, 9, .inl mo)), (a19, .inl (cI, 9, .inl mi)), (a20, .inl (cI, 9, .inl mt)), (a21, .inl (cI, 96, .inl fa2_13)), (a22, .inl (cI, 96, .inl gi2_13))]) (wr := []) (H1 := H1) hP hD [0, 1, 2, 3, 4, 5, 6, 7, 8, 9, 10] [] rfl rfl rfl rfl 11 rfl (by decide) [m0, a1, a3, a5, a6, a7, a18, a19, a20, a21, a22] rfl rfl hk1 (by rw [← ht]; exact hB)
      have hw_13 : tmF C (plc T (cSt C)) fa2_13 (x2N + 1) ∧ tmG C (plc T (cSt C)) 9 gi2_13 (x2N + 1) := hw_13
      clear hF hB hk1 hz1 hvm
      clear ht
      generalize H1 = H at hP hS ⊢
      refine lv_aload_n hx hb dX10_gives_25 rfl (lv_at hl 0 rfl) ?_
      refine va_get (D := D) (ci := 9) (v := .ref a22) (C := RX10) (T := TX10) (N := 36) hx hb hts hwX10 hown hK hP 0 rfl rfl 22 (by decide) hf_49 (fun _ h9 => h9) rfl dX10_gives_26 ?_
      refine lv_bipush (v := nI 24) hx hb dX10_gives_29 (by decide +kernel) ?_
      refine lv_iload_n hx hb dX10_gives_31 rfl (lv_at hl 1 rfl) ?_
      refine kk_imul hx hb dX10_gives_32 ?_
      refine lv_iload_n hx hb dX10_gives_33 rfl (lv_at hl 2 rfl) ?_
      refine kk_iadd hx hb dX10_gives_34 ?_
      refine kk_iald hx hb hK hP 10 rfl rfl (i := (24 * x1N) + x2N) (by omega) (by decide) dX10_gives_35 ?_
      refine kk_top (y := nI (Gi C (plT C T) x2N x1N)) (hw_13.2 x2N (by omega) x1N hx1N (by omega)) ?_
      have hq : (nI (Gi C (plT C T) x2N x1N)) = sp_gives C T (nI x1N) (nI x2N) ∧ True := by
        refine ⟨?_, trivial⟩
        simp only [sp_gives, hb_3, hb_5, t_x1, t_x2, cond_true, cond_false]
      refine kk_QQ hQQ ?_
      exact W.iret (v := nI (Gi C (plT C T) x2N x1N)) hx hb hr (fun t ht hW => ⟨⟨nI (Gi C (plT C T) x2N x1N), (fa2_13, gi2_13), rfl, hq, by show va_P D vwCl _ t.heap; rw [ht]; exact hP⟩, hS.F ht⟩) hS.2.2 dX10_gives_36
    · skip
      refine lv_bipush (v := (-2 : Int32)) hx hb dX10_gives_17 (by decide +kernel) ?_
      have hq : (-2 : Int32) = sp_gives C T (nI x1N) x2 ∧ True := by
        refine ⟨?_, trivial⟩
        simp only [sp_gives, hb_3, hb_5, t_x1, cond_true, cond_false]
      refine kk_QQ hQQ ?_
      exact W.iret (v := (-2 : Int32)) hx hb hr (fun t ht hW => ⟨⟨(-2 : Int32), (fa, gi), rfl, hq, by show va_P D vwCl _ t.heap; rw [ht]; exact hP⟩, hS.F ht⟩) hS.2.2 dX10_gives_19
  · skip
    refine lv_iconst (v := (-1 : Int32)) hx hb dX10_gives_8 (by decide +kernel) ?_
    have hq : (-1 : Int32) = sp_gives C T x1 x2 ∧ True := by
      refine ⟨?_, trivial⟩
      simp only [sp_gives, hb_3, cond_true, cond_false]
    refine kk_QQ hQQ ?_
    exact W.iret (v := (-1 : Int32)) hx hb hr (fun t ht hW => ⟨⟨(-1 : Int32), (fa, gi), rfl, hq, by show va_P D vwCl _ t.heap; rw [ht]; exact hP⟩, hS.F ht⟩) hS.2.2 dX10_gives_9

abbrev rmX10_falls : Room := { frames := 3, cells := 0, slots := 0, locals := 75 }
set_option maxHeartbeats 4000000 in
set_option maxRecDepth 100000 in
theorem c_X10_falls (lL : Launch) (D : va_G) (cI cS : ClassId) (sz : Nat) (C : Co) (T : Mv) (E : Mv) (m0 : Nat) (a1 : Nat) (a3 : Nat) (a5 : Nat) (a6 : Nat) (a7 : Nat) (a13 : Nat) (a14 : Nat) (a15 : Nat) (a16 : Nat) (a18 : Nat) (a19 : Nat) (a20 : Nat) (a21 : Nat) (a22 : Nat) (a23 : Nat) (a24 : Nat) (a25 : Nat) (a27 : Nat) (a28 : Nat) (a29 : Nat) (a30 : Nat) (a31 : Nat) (a32 : Nat) (a33 : Nat) (a34 : Nat) (i0 : Int32) (i10 : Int32) (i11 : Int32) (i12 : Int32) (i35 : Int32) (sk : Nat → Int32) (sh : Nat → Int32) (ki : Nat → Int32) (st : Nat → Int32) (cl : Nat → Int32) (mo : Nat → Int32) (mi : Nat → Int32) (mt : Nat → Int32) (fa : Nat → Int32) (gi : Nat → Int32) (x1 : Int32) (x2 : Int32) (hX : okX C T E) (hrC : repC C sk sh ki st cl) (hrT : repM T mo mi mt) : Met lL yX10_falls wsX10_falls rmX10_falls (va_Pc [.ref m0, .int x1, .int x2] (kB D cI cS [(m0, .inr (9, [.int i0, .ref a1, .int (nI (cSp C)), .ref a3, .int (nI (cLa C)), .ref a5, .ref a6, .ref a7, .int (nI (cAg C)), .int (-9 : Int32), .int i10, .int i11, .int i12, .ref a13, .ref a14, .ref a15, .ref a16, .int (nI (mN T)), .ref a18, .ref a19, .ref a20, .ref a21, .ref a22, .ref a23, .ref a24, .ref a25, .int (nI (mN E)), .ref a27, .ref a28, .ref a29, .ref a30, .ref a31, .ref a32, .ref a33, .ref a34, .int i35])), (a1, .inl (cI, 6, .inl sk)), (a3, .inl (cI, 4, .inl sh)), (a5, .inl (cI, 4, .inl ki)), (a6, .inl (cI, 4, .inl st)), (a7, .inl (cI, 4, .inl cl)), (a18, .inl (cI, 9, .inl mo)), (a19, .inl (cI, 9, .inl mi)), (a20, .inl (cI, 9, .inl mt)), (a21, .inl (cI, 96, .inl fa)), (a22, .inl (cI, 96, .inl gi))] sz)) (kQi D (fun (r : Int32) (u : (Nat → Int32) × (Nat → Int32)) => r = sp_falls C T x1 x2 ∧ True) (fun u : (Nat → Int32) × (Nat → Int32) => [(m0, .inr (9, [.int i0, .ref a1, .int (nI (cSp C)), .ref a3, .int (nI (cLa C)), .ref a5, .ref a6, .ref a7, .int (nI (cAg C)), .int (-9 : Int32), .int i10, .int i11, .int i12, .ref a13, .ref a14, .ref a15, .ref a16, .int (nI (mN T)), .ref a18, .ref a19, .ref a20, .ref a21, .ref a22, .ref a23, .ref a24, .ref a25, .int (nI (mN E)), .ref a27, .ref a28, .ref a29, .ref a30, .ref a31, .ref a32, .ref a33, .ref a34, .int i35])), (a1, .inl (cI, 6, .inl sk)), (a3, .inl (cI, 4, .inl sh)), (a5, .inl (cI, 4, .inl ki)), (a6, .inl (cI, 4, .inl st)), (a7, .inl (cI, 4, .inl cl)), (a18, .inl (cI, 9, .inl mo)), (a19, .inl (cI, 9, .inl mi)), (a20, .inl (cI, 9, .inl mt)), (a21, .inl (cI, 96, .inl u.1)), (a22, .inl (cI, 96, .inl u.2))]) (va_A [(m0, .inr (9, [.int i0, .ref a1, .int (nI (cSp C)), .ref a3, .int (nI (cLa C)), .ref a5, .ref a6, .ref a7, .int (nI (cAg C)), .int (-9 : Int32), .int i10, .int i11, .int i12, .ref a13, .ref a14, .ref a15, .ref a16, .int (nI (mN T)), .ref a18, .ref a19, .ref a20, .ref a21, .ref a22, .ref a23, .ref a24, .ref a25, .int (nI (mN E)), .ref a27, .ref a28, .ref a29, .ref a30, .ref a31, .ref a32, .ref a33, .ref a34, .int i35])), (a1, .inl (cI, 6, .inl sk)), (a3, .inl (cI, 4, .inl sh)), (a5, .inl (cI, 4, .inl ki)), (a6, .inl (cI, 4, .inl st)), (a7, .inl (cI, 4, .inl cl)), (a18, .inl (cI, 9, .inl mo)), (a19, .inl (cI, 9, .inl mi)), (a20, .inl (cI, 9, .inl mt)), (a21, .inl (cI, 96, .inl fa)), (a22, .inl (cI, 96, .inl gi))] sz)) 0 0 (va_A [(m0, .inr (9, [.int i0, .ref a1, .int (nI (cSp C)), .ref a3, .int (nI (cLa C)), .ref a5, .ref a6, .ref a7, .int (nI (cAg C)), .int (-9 : Int32), .int i10, .int i11, .int i12, .ref a13, .ref a14, .ref a15, .ref a16, .int (nI (mN T)), .ref a18, .ref a19, .ref a20, .ref a21, .ref a22, .ref a23, .ref a24, .ref a25, .int (nI (mN E)), .ref a27, .ref a28, .ref a29, .ref a30, .ref a31, .ref a32, .ref a33, .ref a34, .int i35])), (a1, .inl (cI, 6, .inl sk)), (a3, .inl (cI, 4, .inl sh)), (a5, .inl (cI, 4, .inl ki)), (a6, .inl (cI, 4, .inl st)), (a7, .inl (cI, 4, .inl cl)), (a18, .inl (cI, 9, .inl mo)), (a19, .inl (cI, 9, .inl mi)), (a20, .inl (cI, 9, .inl mt)), (a21, .inl (cI, 96, .inl fa)), (a22, .inl (cI, 96, .inl gi))] sz) := by
  refine Met.ofW (cc := cX10_falls) (maxL := 3) (ret := (some .int)) (by decide) rfl ?_
  intro pP eE sS mM args below meth cC s₁ B hml hv
  obtain ⟨rfl, hsz, hP, hK, hD0⟩ := hv
  have hx := B.exec
  have hb := B.bytes
  have hr := B.returns
  have hts := atoms_spec (ws := wsX10_falls) B.pre
  have hown : sS.vm.findClass RX10 = some mM.cls := findClass_of_methodNamed B.named
  have hlocks := B.notSynchronized
  subst hsz
  have hD := hD0.self (sz := sS.heap.size)
  generalize hAe : va_A [(m0, .inr (9, [.int i0, .ref a1, .int (nI (cSp C)), .ref a3, .int (nI (cLa C)), .ref a5, .ref a6, .ref a7, .int (nI (cAg C)), .int (-9 : Int32), .int i10, .int i11, .int i12, .ref a13, .ref a14, .ref a15, .ref a16, .int (nI (mN T)), .ref a18, .ref a19, .ref a20, .ref a21, .ref a22, .ref a23, .ref a24, .ref a25, .int (nI (mN E)), .ref a27, .ref a28, .ref a29, .ref a30, .ref a31, .ref a32, .ref a33, .ref a34, .int i35])), (a1, .inl (cI, 6, .inl sk)), (a3, .inl (cI, 4, .inl sh)), (a5, .inl (cI, 4, .inl ki)), (a6, .inl (cI, 4, .inl st)), (a7, .inl (cI, 4, .inl cl)), (a18, .inl (cI, 9, .inl mo)), (a19, .inl (cI, 9, .inl mi)), (a20, .inl (cI, 9, .inl mt)), (a21, .inl (cI, 96, .inl fa)), (a22, .inl (cI, 96, .inl gi))] sS.heap.size = A at hD ⊢
  have hA : ∀ q : Nat, sS.heap.size ≤ q → A q := fun q h => by rw [← hAe]; exact Or.inr h
  have hS : va_S A sS.heap sS.heap [] := va_S.rf
  have hP : va_P D vwCl [(m0, .inr (9, [.int i0, .ref a1, .int (nI (cSp C)), .ref a3, .int (nI (cLa C)), .ref a5, .ref a6, .ref a7, .int (nI (cAg C)), .int (-9 : Int32), .int i10, .int i11, .int i12, .ref a13, .ref a14, .ref a15, .ref a16, .int (nI (mN T)), .ref a18, .ref a19, .ref a20, .ref a21, .ref a22, .ref a23, .ref a24, .ref a25, .int (nI (mN E)), .ref a27, .ref a28, .ref a29, .ref a30, .ref a31, .ref a32, .ref a33, .ref a34, .int i35])), (a1, .inl (cI, 6, .inl sk)), (a3, .inl (cI, 4, .inl sh)), (a5, .inl (cI, 4, .inl ki)), (a6, .inl (cI, 4, .inl st)), (a7, .inl (cI, 4, .inl cl)), (a18, .inl (cI, 9, .inl mo)), (a19, .inl (cI, 9, .inl mi)), (a20, .inl (cI, 9, .inl mt)), (a21, .inl (cI, 96, .inl fa)), (a22, .inl (cI, 96, .inl gi))] sS.heap := hP
  have hD : va_D A [(m0, .inr (9, [.int i0, .ref a1, .int (nI (cSp C)), .ref a3, .int (nI (cLa C)), .ref a5, .ref a6, .ref a7, .int (nI (cAg C)), .int (-9 : Int32), .int i10, .int i11, .int i12, .ref a13, .ref a14, .ref a15, .ref a16, .int (nI (mN T)), .ref a18, .ref a19, .ref a20, .ref a21, .ref a22, .ref a23, .ref a24, .ref a25, .int (nI (mN E)), .ref a27, .ref a28, .ref a29, .ref a30, .ref a31, .ref a32, .ref a33, .ref a34, .int i35])), (a1, .inl (cI, 6, .inl sk)), (a3, .inl (cI, 4, .inl sh)), (a5, .inl (cI, 4, .inl ki)), (a6, .inl (cI, 4, .inl st)), (a7, .inl (cI, 4, .inl cl)), (a18, .inl (cI, 9, .inl mo)), (a19, .inl (cI, 9, .inl mi)), (a20, .inl (cI, 9, .inl mt)), (a21, .inl (cI, 96, .inl fa)), (a22, .inl (cI, 96, .inl gi))] := hD
  have hf_46 := hts (.fieldLink RX10 46 "OldLampsModel" "fallsIn" "[I") (List.mem_of_getElem? (i := 1) rfl)
  have hwX10 : ∀ w ∈ wsX100, w ∈ wsX10_falls := fun _ h => List.mem_cons_of_mem _ (List.mem_append_right _ h)
  have hl := lv_entry ([.ref m0, .int x1, .int x2]) (n := 3) (Nat.le_of_ble_eq_true rfl)
  rw [lg_entry_eq]
  generalize (lg_sl ([.ref m0, .int x1, .int x2]) ++ List.replicate (3 - (lg_sl ([.ref m0, .int x1, .int x2])).length) Slot.unset).toArray = ls at hl ⊢
  have hl : lv_has ls 3 [(0, .ref m0), (1, .int x1), (2, .int x2)] := hl
  obtain ⟨QQ, hQQ⟩ : ∃ QQ : State → Prop, QQ = MQ below (kQi D (fun (r : Int32) (u : (Nat → Int32) × (Nat → Int32)) => r = sp_falls C T x1 x2 ∧ True) (fun u : (Nat → Int32) × (Nat → Int32) => [(m0, .inr (9, [.int i0, .ref a1, .int (nI (cSp C)), .ref a3, .int (nI (cLa C)), .ref a5, .ref a6, .ref a7, .int (nI (cAg C)), .int (-9 : Int32), .int i10, .int i11, .int i12, .ref a13, .ref a14, .ref a15, .ref a16, .int (nI (mN T)), .ref a18, .ref a19, .ref a20, .ref a21, .ref a22, .ref a23, .ref a24, .ref a25, .int (nI (mN E)), .ref a27, .ref a28, .ref a29, .ref a30, .ref a31, .ref a32, .ref a33, .ref a34, .int i35])), (a1, .inl (cI, 6, .inl sk)), (a3, .inl (cI, 4, .inl sh)), (a5, .inl (cI, 4, .inl ki)), (a6, .inl (cI, 4, .inl st)), (a7, .inl (cI, 4, .inl cl)), (a18, .inl (cI, 9, .inl mo)), (a19, .inl (cI, 9, .inl mi)), (a20, .inl (cI, 9, .inl mt)), (a21, .inl (cI, 96, .inl u.1)), (a22, .inl (cI, 96, .inl u.2))]) A) ([.ref m0, .int x1, .int x2]).toArray sS 0 0 A := ⟨_, rfl⟩
  refine kk_QQ hQQ.symm ?_
  obtain ⟨hX1, hX2, hX3, hX4⟩ := okX_le hX
  refine lv_aload_n hx hb dX10_falls_0 rfl (lv_at hl 0 rfl) ?_
  refine lv_iload_n hx hb dX10_falls_1 rfl (lv_at hl 1 rfl) ?_
  have o_1 : (cLa C) ≤ 4 := by omega
  refine vp_callSi (W.runV (As := [.int x1]) (rest := []) ⟨hx, hb, hml, hown, hts⟩ (c_X10_noLamp lL D cI cS m0 a1 a3 a5 a6 a7 a13 a14 a15 a16 a18 a19 a20 a21 a22 a23 a24 a25 a27 a28 a29 a30 a31 a32 a33 a34 i0 (nI (cSp C)) (nI (cAg C)) (-9 : Int32) i10 i11 i12 (nI (mN T)) (nI (mN E)) i35 x1 (cLa C) o_1) (cwV 1 hts gX10_falls_X10_noLamp rfl rfl rfl cd_X10_noLamp ⟨Nat.le_of_ble_eq_true rfl, Nat.le_of_ble_eq_true rfl⟩) ⟨kBp_blind, va_recv hK hP (ci := 9) (q0 := 0) rfl rfl, fun U hU hW => ⟨rfl, by rw [hU]; exact hP.sub [0] rfl, va_K.moved hW.alike hK⟩⟩ rfl rfl hl.1 rfl (lv_room (Nat.le_of_ble_eq_true rfl)) dX10_falls_2 ⟨Nat.le_of_ble_eq_true rfl, Nat.le_of_ble_eq_true rfl⟩) (fun r_2 hw_2 => ?_)
  obtain rfl : r_2 = kb (!inB x1 (cLa C)) := hw_2
  refine kk_ifn_eq (tgt := 10) hx hb dX10_falls_5 (by decide) (fun hb_3 => ?_) (fun hb_3 => ?_)
  · skip
    obtain ⟨x1N, hx1N, rfl⟩ := inB_t hb_3
    have t_x1 := nI_clamp (show x1N < 2 ^ 31 by omega)
    obtain ⟨hC, hM0, hE⟩ := okX_la hX hx1N
    have hM := ok9_of hM0
    have hkd := kdM_of hX hrC
    have hwo := hkd.2
    have hk3 : 9 < cLa C → cKi C 9 = 3 := fun z => absurd hC.2.1 (by omega)
    have hst := hrC.2.2.2.1
    have hrB : repB C sk sh cl := ⟨hrC.1, hrC.2.1, hrC.2.2.2.2⟩
    have hxa := hC.2.1
    have hxs := hC.1
    refine lv_iload_n hx hb dX10_falls_10 rfl (lv_at hl 2 rfl) ?_
    refine vp_callSi (W.runS (As := [.int x2]) (rest := []) ⟨hx, hb, hml, hown, hts⟩ (c_X10_isWatch lL D cI cS x2) (va_cwS 1 hts gX10_falls_X10_isWatch rfl rfl rfl cd_X10_isWatch ⟨Nat.le_of_ble_eq_true rfl, Nat.le_of_ble_eq_true rfl⟩) ⟨kBp_blind, fun U hU hW => ⟨rfl, by rw [hU]; exact hP.sub [] rfl, va_K.moved hW.alike hK⟩⟩ rfl rfl hl.1 rfl (lv_room (Nat.le_of_ble_eq_true rfl)) dX10_falls_11 ⟨Nat.le_of_ble_eq_true rfl, Nat.le_of_ble_eq_true rfl⟩) (fun r_4 hw_4 => ?_)
    obtain rfl : r_4 = kb (inB x2 24) := hw_4
    -- if (inB x2 24)
    refine kk_ifb_ne (tgt := 20) hx hb dX10_falls_14 (by decide) (fun hb_5 => ?_) (fun hb_5 => ?_)
    · skip
      obtain ⟨x2N, hx2N, rfl⟩ := inB_t hb_5
      have t_x2 := nI_clamp (show x2N < 2 ^ 31 by omega)
      refine lv_aload_n hx hb dX10_falls_20 rfl (lv_at hl 0 rfl) ?_
      refine lv_iload_n hx hb dX10_falls_21 rfl (lv_at hl 2 rfl) ?_
      have o_6 : okC C := by assumption
      have o_7 : ok9 C T := by assumption
      have o_8 : ∀ k, k < cLa C → st k = nI (cSt C k) := by assumption
      have o_9 : repM T mo mi mt := by assumption
      have o_10 : kdM C 9 (-9 : Int32) (cKi C) ki := by assumption
      have o_11 : repB C sk sh cl := by assumption
      have o_12 : x2N < 24 := by omega
      have hF := va_free (wc := [(m0, .inr (9, [.int i0, .ref a1, .int (nI (cSp C)), .ref a3, .int (nI (cLa C)), .ref a5, .ref a6, .ref a7, .int (nI (cAg C)), .int (-9 : Int32), .int i10, .int i11, .int i12, .ref a13, .ref a14, .ref a15, .ref a16, .int (nI (mN T)), .ref a18, .ref a19, .ref a20, .ref a21, .ref a22, .ref a23, .ref a24, .ref a25, .int (nI (mN E)), .ref a27, .ref a28, .ref a29, .ref a30, .ref a31, .ref a32, .ref a33, .ref a34, .int i35])), (a1, .inl (cI, 6, .inl sk)), (a3, .inl (cI, 4, .inl sh)), (a5, .inl (cI, 4, .inl ki)), (a6, .inl (cI, 4, .inl st)), (a7, .inl (cI, 4, .inl cl)), (a18, .inl (cI, 9, .inl mo)), (a19, .inl (cI, 9, .inl mi)), (a20, .inl (cI, 9, .inl mt)), (a21, .inl (cI, 96, .inl fa)), (a22, .inl (cI, 96, .inl gi))]) hD hS hA [0, 1, 2, 3, 4, 5, 6, 7, 8, 9, 10] rfl
      refine va_callv (va_runV (As := [.int (nI x2N)]) (rest := []) ⟨hx, hb, hml, hown, hts⟩ (c_X10_goTo lL D cI cS _ C T 9 (cKi C) m0 a1 a3 a5 a6 a7 a13 a14 a15 a16 a18 a19 a20 a21 a22 a23 a24 a25 a27 a28 a29 a30 a31 a32 a33 a34 i0 (nI (cSp C)) (-9 : Int32) i10 i11 i12 (nI (mN E)) i35 sk sh ki st cl mo mi mt fa gi x2N o_6 o_7 o_8 o_9 o_10 o_11 o_12) (cwV 1 hts gX10_falls_X10_goTo rfl rfl rfl cd_X10_goTo ⟨Nat.le_of_ble_eq_true rfl, Nat.le_of_ble_eq_true rfl⟩) ⟨kB_blind, va_recv hK hP (ci := 9) (q0 := 0) rfl rfl, fun U hU hW => ⟨rfl, by rw [hU], by rw [hU]; exact hP.sub [0, 1, 2, 3, 4, 5, 6, 7, 8, 9, 10] rfl, va_K.moved hW.alike hK, (hD.sub [0, 1, 2, 3, 4, 5, 6, 7, 8, 9, 10] (by decide) rfl).weaken (fun _ _ _ _ => trivial)⟩⟩ rfl rfl hl.1 rfl (lv_room (Nat.le_of_ble_eq_true rfl)) dX10_falls_22 ⟨Nat.le_of_ble_eq_true rfl, Nat.le_of_ble_eq_true rfl⟩) hS (fun q _ h => hF q h) hF (fun u_13 t H1 locs ht hvm hw_13 hB hz1 hk1 hS => ?_)
      obtain ⟨fa2_13, gi2_13⟩ := u_13
      obtain ⟨hP, hD⟩ := kk_join2 (wc := [(m0, .inr (9, [.int i0, .ref a1, .int (nI (cSp C)), .ref a3, .int (nI (cLa C)), .ref a5, .ref a6, .ref a7, .int (nI (cAg C)), .int (-9 : Int32), .int i10, .int i11, .int i12, .ref a13, .ref a14, .ref a15, .ref a16, .int (nI (mN T)), .ref a18, .ref a19, .ref a20, .ref a21, .ref a22, .ref a23, .ref a24, .ref a25, .int (nI (mN E)), .ref a27, .ref a28, .ref a29, .ref a30, .ref a31, .ref a32, .ref a33, .ref a34, .int i35])), (a1, .inl (cI, 6, .inl sk)), (a3, .inl (cI, 4, .inl sh)), (a5, .inl (cI, 4, .inl ki)), (a6, .inl (cI, 4, .inl st)), (a7, .inl (cI, 4, .inl cl)), (a18, .inl (cI, 9, .inl mo)), (a19, .inl (cI, 9, .inl mi)), (a20, .inl (cI, 9, .inl mt)), (a21, .inl (cI, 96, .inl fa)), (a22, .inl (cI, 96, .inl gi))]) (w1 := [(m0, .inr (9, [.int i0, .ref a1, .int (nI (cSp C)), .ref a3, .int (nI (cLa C)), .ref a5, .ref a6, .ref a7, .int (nI (cAg C)), .int (-9 : Int32), .int i10, .int i11, .int i12, .ref a13, .ref a14, .ref a15, .ref a16, .int (nI (mN T)), .ref a18, .ref a19, .ref a20, .ref a21, .ref a22, .ref a23, .ref a24, .ref a25, .int (nI (mN E)), .ref a27, .ref a28, .ref a29, .ref a30, .ref a31, .ref a32, .ref a33, .ref a34, .int i35])), (a1, .inl (cI, 6, .inl sk)), (a3, .inl (cI, 4, .inl sh)), (a5, .inl (cI, 4, .inl ki)), (a6, .inl (cI, 4, .inl st)), (a7, .inl (cI, 4, .inl cl)), (a18, .inl (cI, 9, .inl mo)), (a19, .inl (cI, 9, .inl mi)), (a20, .inl (cI, 9, .inl mt)), (a21, .inl (cI, 96, .inl fa2_13)), (a22, .inl (cI, 96, .inl gi2_13))]) (ws' := [(m0, .inr (9, [.int i0, .ref a1, .int (nI (cSp C)), .ref a3, .int (nI (cLa C)), .ref a5, .ref a6, .ref a7, .int (nI (cAg C)), .int (-9 : Int32), .int i10, .int i11, .int i12, .ref a13, .ref a14, .ref a15, .ref a16, .int (nI (mN T)), .ref a18, .ref a19, .ref a20, .ref a21, .ref a22, .ref a23, .ref a24, .ref a25, .int (nI (mN E)), .ref a27, .ref a28, .ref a29, .ref a30, .ref a31, .ref a32, .ref a33, .ref a34, .int i35])), (a1, .inl (cI, 6, .inl sk)), (a3, .inl (cI, 4, .inl sh)), (a5, .inl (cI, 4, .inl ki)), (a6, .inl (cI, 4, .inl st)), (a7, .inl (cI, 4, .inl cl)), (a18, .inl (cI, 9, .inl mo)), (a19, .inl (cI, 9, .inl mi)), (a20, .inl (cI, 9, .inl mt)), (a21, .inl (cI, 96, .inl fa2_13)), (a22, .inl (cI, 96, .inl gi2_13))]) (wr := []) (H1 := H1) hP hD [0, 1, 2, 3, 4, 5, 6, 7, 8, 9, 10] [] rfl rfl rfl rfl 11 rfl (by decide) [m0, a1, a3, a5, a6, a7, a18, a19, a20, a21, a22] rfl rfl hk1 (by rw [← ht]; exact hB)
      have hw_13 : tmF C (plc T (cSt C)) fa2_13 (x2N + 1) ∧ tmG C (plc T (cSt C)) 9 gi2_13 (x2N + 1) := hw_13
      clear hF hB hk1 hz1 hvm
      clear ht
      generalize H1 = H at hP hS ⊢
      refine lv_aload_n hx hb dX10_falls_25 rfl (lv_at hl 0 rfl) ?_
      refine va_get (D := D) (ci := 9) (v := .ref a21) (C := RX10) (T := TX10) (N := 36) hx hb hts hwX10 hown hK hP 0 rfl rfl 21 (by decide) hf_46 (fun _ h9 => h9) rfl dX10_falls_26 ?_
      refine lv_bipush (v := nI 24) hx hb dX10_falls_29 (by decide +kernel) ?_
      refine lv_iload_n hx hb dX10_falls_31 rfl (lv_at hl 1 rfl) ?_
      refine kk_imul hx hb dX10_falls_32 ?_
      refine lv_iload_n hx hb dX10_falls_33 rfl (lv_at hl 2 rfl) ?_
      refine kk_iadd hx hb dX10_falls_34 ?_
      refine kk_iald hx hb hK hP 9 rfl rfl (i := (24 * x1N) + x2N) (by omega) (by decide) dX10_falls_35 ?_
      refine kk_top (y := nI (Fa C (plT C T) x2N x1N)) (hw_13.1 x2N (by omega) x1N hx1N) ?_
      have hq : (nI (Fa C (plT C T) x2N x1N)) = sp_falls C T (nI x1N) (nI x2N) ∧ True := by
        refine ⟨?_, trivial⟩
        simp only [sp_falls, hb_3, hb_5, t_x1, t_x2, cond_true, cond_false]
      refine kk_QQ hQQ ?_
      exact W.iret (v := nI (Fa C (plT C T) x2N x1N)) hx hb hr (fun t ht hW => ⟨⟨nI (Fa C (plT C T) x2N x1N), (fa2_13, gi2_13), rfl, hq, by show va_P D vwCl _ t.heap; rw [ht]; exact hP⟩, hS.F ht⟩) hS.2.2 dX10_falls_36
    · skip
      refine lv_bipush (v := (-2 : Int32)) hx hb dX10_falls_17 (by decide +kernel) ?_
      have hq : (-2 : Int32) = sp_falls C T (nI x1N) x2 ∧ True := by
        refine ⟨?_, trivial⟩
        simp only [sp_falls, hb_3, hb_5, t_x1, cond_true, cond_false]
      refine kk_QQ hQQ ?_
      exact W.iret (v := (-2 : Int32)) hx hb hr (fun t ht hW => ⟨⟨(-2 : Int32), (fa, gi), rfl, hq, by show va_P D vwCl _ t.heap; rw [ht]; exact hP⟩, hS.F ht⟩) hS.2.2 dX10_falls_19
  · skip
    refine lv_iconst (v := (-1 : Int32)) hx hb dX10_falls_8 (by decide +kernel) ?_
    have hq : (-1 : Int32) = sp_falls C T x1 x2 ∧ True := by
      refine ⟨?_, trivial⟩
      simp only [sp_falls, hb_3, cond_true, cond_false]
    refine kk_QQ hQQ ?_
    exact W.iret (v := (-1 : Int32)) hx hb hr (fun t ht hW => ⟨⟨(-1 : Int32), (fa, gi), rfl, hq, by show va_P D vwCl _ t.heap; rw [ht]; exact hP⟩, hS.F ht⟩) hS.2.2 dX10_falls_9

abbrev rmX10_light : Room := { frames := 4, cells := 0, slots := 0, locals := 97 }
set_option maxHeartbeats 4000000 in
set_option maxRecDepth 100000 in
theorem c_X10_light (lL : Launch) (D : va_G) (cI cS : ClassId) (sz : Nat) (C : Co) (T : Mv) (E : Mv) (m0 : Nat) (a1 : Nat) (a3 : Nat) (a5 : Nat) (a6 : Nat) (a7 : Nat) (a13 : Nat) (a14 : Nat) (a15 : Nat) (a16 : Nat) (a18 : Nat) (a19 : Nat) (a20 : Nat) (a21 : Nat) (a22 : Nat) (a23 : Nat) (a24 : Nat) (a25 : Nat) (a27 : Nat) (a28 : Nat) (a29 : Nat) (a30 : Nat) (a31 : Nat) (a32 : Nat) (a33 : Nat) (a34 : Nat) (i0 : Int32) (i10 : Int32) (i11 : Int32) (i12 : Int32) (i35 : Int32) (sk : Nat → Int32) (sh : Nat → Int32) (ki : Nat → Int32) (st : Nat → Int32) (cl : Nat → Int32) (mo : Nat → Int32) (mi : Nat → Int32) (mt : Nat → Int32) (fa : Nat → Int32) (gi : Nat → Int32) (x1 : Int32) (x2 : Int32) (hX : okX C T E) (hrC : repC C sk sh ki st cl) (hrT : repM T mo mi mt) : Met lL yX10_light wsX10_light rmX10_light (va_Pc [.ref m0, .int x1, .int x2] (kB D cI cS [(m0, .inr (9, [.int i0, .ref a1, .int (nI (cSp C)), .ref a3, .int (nI (cLa C)), .ref a5, .ref a6, .ref a7, .int (nI (cAg C)), .int (-9 : Int32), .int i10, .int i11, .int i12, .ref a13, .ref a14, .ref a15, .ref a16, .int (nI (mN T)), .ref a18, .ref a19, .ref a20, .ref a21, .ref a22, .ref a23, .ref a24, .ref a25, .int (nI (mN E)), .ref a27, .ref a28, .ref a29, .ref a30, .ref a31, .ref a32, .ref a33, .ref a34, .int i35])), (a1, .inl (cI, 6, .inl sk)), (a3, .inl (cI, 4, .inl sh)), (a5, .inl (cI, 4, .inl ki)), (a6, .inl (cI, 4, .inl st)), (a7, .inl (cI, 4, .inl cl)), (a18, .inl (cI, 9, .inl mo)), (a19, .inl (cI, 9, .inl mi)), (a20, .inl (cI, 9, .inl mt)), (a21, .inl (cI, 96, .inl fa)), (a22, .inl (cI, 96, .inl gi))] sz)) (kQi D (fun (r : Int32) (u : (Nat → Int32) × (Nat → Int32)) => r = sp_light C T x1 x2 ∧ True) (fun u : (Nat → Int32) × (Nat → Int32) => [(m0, .inr (9, [.int i0, .ref a1, .int (nI (cSp C)), .ref a3, .int (nI (cLa C)), .ref a5, .ref a6, .ref a7, .int (nI (cAg C)), .int (-9 : Int32), .int i10, .int i11, .int i12, .ref a13, .ref a14, .ref a15, .ref a16, .int (nI (mN T)), .ref a18, .ref a19, .ref a20, .ref a21, .ref a22, .ref a23, .ref a24, .ref a25, .int (nI (mN E)), .ref a27, .ref a28, .ref a29, .ref a30, .ref a31, .ref a32, .ref a33, .ref a34, .int i35])), (a1, .inl (cI, 6, .inl sk)), (a3, .inl (cI, 4, .inl sh)), (a5, .inl (cI, 4, .inl ki)), (a6, .inl (cI, 4, .inl st)), (a7, .inl (cI, 4, .inl cl)), (a18, .inl (cI, 9, .inl mo)), (a19, .inl (cI, 9, .inl mi)), (a20, .inl (cI, 9, .inl mt)), (a21, .inl (cI, 96, .inl u.1)), (a22, .inl (cI, 96, .inl u.2))]) (va_A [(m0, .inr (9, [.int i0, .ref a1, .int (nI (cSp C)), .ref a3, .int (nI (cLa C)), .ref a5, .ref a6, .ref a7, .int (nI (cAg C)), .int (-9 : Int32), .int i10, .int i11, .int i12, .ref a13, .ref a14, .ref a15, .ref a16, .int (nI (mN T)), .ref a18, .ref a19, .ref a20, .ref a21, .ref a22, .ref a23, .ref a24, .ref a25, .int (nI (mN E)), .ref a27, .ref a28, .ref a29, .ref a30, .ref a31, .ref a32, .ref a33, .ref a34, .int i35])), (a1, .inl (cI, 6, .inl sk)), (a3, .inl (cI, 4, .inl sh)), (a5, .inl (cI, 4, .inl ki)), (a6, .inl (cI, 4, .inl st)), (a7, .inl (cI, 4, .inl cl)), (a18, .inl (cI, 9, .inl mo)), (a19, .inl (cI, 9, .inl mi)), (a20, .inl (cI, 9, .inl mt)), (a21, .inl (cI, 96, .inl fa)), (a22, .inl (cI, 96, .inl gi))] sz)) 0 0 (va_A [(m0, .inr (9, [.int i0, .ref a1, .int (nI (cSp C)), .ref a3, .int (nI (cLa C)), .ref a5, .ref a6, .ref a7, .int (nI (cAg C)), .int (-9 : Int32), .int i10, .int i11, .int i12, .ref a13, .ref a14, .ref a15, .ref a16, .int (nI (mN T)), .ref a18, .ref a19, .ref a20, .ref a21, .ref a22, .ref a23, .ref a24, .ref a25, .int (nI (mN E)), .ref a27, .ref a28, .ref a29, .ref a30, .ref a31, .ref a32, .ref a33, .ref a34, .int i35])), (a1, .inl (cI, 6, .inl sk)), (a3, .inl (cI, 4, .inl sh)), (a5, .inl (cI, 4, .inl ki)), (a6, .inl (cI, 4, .inl st)), (a7, .inl (cI, 4, .inl cl)), (a18, .inl (cI, 9, .inl mo)), (a19, .inl (cI, 9, .inl mi)), (a20, .inl (cI, 9, .inl mt)), (a21, .inl (cI, 96, .inl fa)), (a22, .inl (cI, 96, .inl gi))] sz) := by
  refine Met.ofW (cc := cX10_light) (maxL := 3) (ret := (some .int)) (by decide) rfl ?_
  intro pP eE sS mM args below meth cC s₁ B hml hv
  obtain ⟨rfl, hsz, hP, hK, hD0⟩ := hv
  have hx := B.exec
  have hb := B.bytes
  have hr := B.returns
  have hts := atoms_spec (ws := wsX10_light) B.pre
  have hown : sS.vm.findClass RX10 = some mM.cls := findClass_of_methodNamed B.named
  have hlocks := B.notSynchronized
  subst hsz
  have hD := hD0.self (sz := sS.heap.size)
  generalize hAe : va_A [(m0, .inr (9, [.int i0, .ref a1, .int (nI (cSp C)), .ref a3, .int (nI (cLa C)), .ref a5, .ref a6, .ref a7, .int (nI (cAg C)), .int (-9 : Int32), .int i10, .int i11, .int i12, .ref a13, .ref a14, .ref a15, .ref a16, .int (nI (mN T)), .ref a18, .ref a19, .ref a20, .ref a21, .ref a22, .ref a23, .ref a24, .ref a25, .int (nI (mN E)), .ref a27, .ref a28, .ref a29, .ref a30, .ref a31, .ref a32, .ref a33, .ref a34, .int i35])), (a1, .inl (cI, 6, .inl sk)), (a3, .inl (cI, 4, .inl sh)), (a5, .inl (cI, 4, .inl ki)), (a6, .inl (cI, 4, .inl st)), (a7, .inl (cI, 4, .inl cl)), (a18, .inl (cI, 9, .inl mo)), (a19, .inl (cI, 9, .inl mi)), (a20, .inl (cI, 9, .inl mt)), (a21, .inl (cI, 96, .inl fa)), (a22, .inl (cI, 96, .inl gi))] sS.heap.size = A at hD ⊢
  have hA : ∀ q : Nat, sS.heap.size ≤ q → A q := fun q h => by rw [← hAe]; exact Or.inr h
  have hS : va_S A sS.heap sS.heap [] := va_S.rf
  have hP : va_P D vwCl [(m0, .inr (9, [.int i0, .ref a1, .int (nI (cSp C)), .ref a3, .int (nI (cLa C)), .ref a5, .ref a6, .ref a7, .int (nI (cAg C)), .int (-9 : Int32), .int i10, .int i11, .int i12, .ref a13, .ref a14, .ref a15, .ref a16, .int (nI (mN T)), .ref a18, .ref a19, .ref a20, .ref a21, .ref a22, .ref a23, .ref a24, .ref a25, .int (nI (mN E)), .ref a27, .ref a28, .ref a29, .ref a30, .ref a31, .ref a32, .ref a33, .ref a34, .int i35])), (a1, .inl (cI, 6, .inl sk)), (a3, .inl (cI, 4, .inl sh)), (a5, .inl (cI, 4, .inl ki)), (a6, .inl (cI, 4, .inl st)), (a7, .inl (cI, 4, .inl cl)), (a18, .inl (cI, 9, .inl mo)), (a19, .inl (cI, 9, .inl mi)), (a20, .inl (cI, 9, .inl mt)), (a21, .inl (cI, 96, .inl fa)), (a22, .inl (cI, 96, .inl gi))] sS.heap := hP
  have hD : va_D A [(m0, .inr (9, [.int i0, .ref a1, .int (nI (cSp C)), .ref a3, .int (nI (cLa C)), .ref a5, .ref a6, .ref a7, .int (nI (cAg C)), .int (-9 : Int32), .int i10, .int i11, .int i12, .ref a13, .ref a14, .ref a15, .ref a16, .int (nI (mN T)), .ref a18, .ref a19, .ref a20, .ref a21, .ref a22, .ref a23, .ref a24, .ref a25, .int (nI (mN E)), .ref a27, .ref a28, .ref a29, .ref a30, .ref a31, .ref a32, .ref a33, .ref a34, .int i35])), (a1, .inl (cI, 6, .inl sk)), (a3, .inl (cI, 4, .inl sh)), (a5, .inl (cI, 4, .inl ki)), (a6, .inl (cI, 4, .inl st)), (a7, .inl (cI, 4, .inl cl)), (a18, .inl (cI, 9, .inl mo)), (a19, .inl (cI, 9, .inl mi)), (a20, .inl (cI, 9, .inl mt)), (a21, .inl (cI, 96, .inl fa)), (a22, .inl (cI, 96, .inl gi))] := hD
  have hl := lv_entry ([.ref m0, .int x1, .int x2]) (n := 3) (Nat.le_of_ble_eq_true rfl)
  rw [lg_entry_eq]
  generalize (lg_sl ([.ref m0, .int x1, .int x2]) ++ List.replicate (3 - (lg_sl ([.ref m0, .int x1, .int x2])).length) Slot.unset).toArray = ls at hl ⊢
  have hl : lv_has ls 3 [(0, .ref m0), (1, .int x1), (2, .int x2)] := hl
  obtain ⟨QQ, hQQ⟩ : ∃ QQ : State → Prop, QQ = MQ below (kQi D (fun (r : Int32) (u : (Nat → Int32) × (Nat → Int32)) => r = sp_light C T x1 x2 ∧ True) (fun u : (Nat → Int32) × (Nat → Int32) => [(m0, .inr (9, [.int i0, .ref a1, .int (nI (cSp C)), .ref a3, .int (nI (cLa C)), .ref a5, .ref a6, .ref a7, .int (nI (cAg C)), .int (-9 : Int32), .int i10, .int i11, .int i12, .ref a13, .ref a14, .ref a15, .ref a16, .int (nI (mN T)), .ref a18, .ref a19, .ref a20, .ref a21, .ref a22, .ref a23, .ref a24, .ref a25, .int (nI (mN E)), .ref a27, .ref a28, .ref a29, .ref a30, .ref a31, .ref a32, .ref a33, .ref a34, .int i35])), (a1, .inl (cI, 6, .inl sk)), (a3, .inl (cI, 4, .inl sh)), (a5, .inl (cI, 4, .inl ki)), (a6, .inl (cI, 4, .inl st)), (a7, .inl (cI, 4, .inl cl)), (a18, .inl (cI, 9, .inl mo)), (a19, .inl (cI, 9, .inl mi)), (a20, .inl (cI, 9, .inl mt)), (a21, .inl (cI, 96, .inl u.1)), (a22, .inl (cI, 96, .inl u.2))]) A) ([.ref m0, .int x1, .int x2]).toArray sS 0 0 A := ⟨_, rfl⟩
  refine kk_QQ hQQ.symm ?_
  obtain ⟨hX1, hX2, hX3, hX4⟩ := okX_le hX
  refine lv_aload_n hx hb dX10_light_0 rfl (lv_at hl 0 rfl) ?_
  refine lv_iload_n hx hb dX10_light_1 rfl (lv_at hl 1 rfl) ?_
  have o_1 : (cSp C) ≤ 4 := by omega
  refine vp_callSi (W.runV (As := [.int x1]) (rest := []) ⟨hx, hb, hml, hown, hts⟩ (c_X10_noSpot lL D cI cS m0 a1 a3 a5 a6 a7 a13 a14 a15 a16 a18 a19 a20 a21 a22 a23 a24 a25 a27 a28 a29 a30 a31 a32 a33 a34 i0 (nI (cLa C)) (nI (cAg C)) (-9 : Int32) i10 i11 i12 (nI (mN T)) (nI (mN E)) i35 x1 (cSp C) o_1) (cwV 1 hts gX10_light_X10_noSpot rfl rfl rfl cd_X10_noSpot ⟨Nat.le_of_ble_eq_true rfl, Nat.le_of_ble_eq_true rfl⟩) ⟨kBp_blind, va_recv hK hP (ci := 9) (q0 := 0) rfl rfl, fun U hU hW => ⟨rfl, by rw [hU]; exact hP.sub [0] rfl, va_K.moved hW.alike hK⟩⟩ rfl rfl hl.1 rfl (lv_room (Nat.le_of_ble_eq_true rfl)) dX10_light_2 ⟨Nat.le_of_ble_eq_true rfl, Nat.le_of_ble_eq_true rfl⟩) (fun r_2 hw_2 => ?_)
  obtain rfl : r_2 = kb (!inB x1 (cSp C)) := hw_2
  refine kk_ifn_eq (tgt := 10) hx hb dX10_light_5 (by decide) (fun hb_3 => ?_) (fun hb_3 => ?_)
  · skip
    obtain ⟨x1N, hx1N, rfl⟩ := inB_t hb_3
    have t_x1 := nI_clamp (show x1N < 2 ^ 31 by omega)
    obtain ⟨hC, hM0, hE⟩ := okX_sp hX hx1N
    have hM := ok9_of hM0
    have hkd := kdM_of hX hrC
    have hwo := hkd.2
    have hk3 : 9 < cLa C → cKi C 9 = 3 := fun z => absurd hC.2.1 (by omega)
    have hst := hrC.2.2.2.1
    have hrB : repB C sk sh cl := ⟨hrC.1, hrC.2.1, hrC.2.2.2.2⟩
    have hxa := hC.2.1
    have hxs := hC.1
    refine lv_iload_n hx hb dX10_light_10 rfl (lv_at hl 2 rfl) ?_
    refine vp_callSi (W.runS (As := [.int x2]) (rest := []) ⟨hx, hb, hml, hown, hts⟩ (c_X10_isWatch lL D cI cS x2) (va_cwS 1 hts gX10_light_X10_isWatch rfl rfl rfl cd_X10_isWatch ⟨Nat.le_of_ble_eq_true rfl, Nat.le_of_ble_eq_true rfl⟩) ⟨kBp_blind, fun U hU hW => ⟨rfl, by rw [hU]; exact hP.sub [] rfl, va_K.moved hW.alike hK⟩⟩ rfl rfl hl.1 rfl (lv_room (Nat.le_of_ble_eq_true rfl)) dX10_light_11 ⟨Nat.le_of_ble_eq_true rfl, Nat.le_of_ble_eq_true rfl⟩) (fun r_4 hw_4 => ?_)
    obtain rfl : r_4 = kb (inB x2 24) := hw_4
    -- if (inB x2 24)
    refine kk_ifb_eq (tgt := 26) hx hb dX10_light_14 (by decide) (fun hb_5 => ?_) (fun hb_5 => ?_)
    · skip
      refine lv_bipush (v := (-2 : Int32)) hx hb dX10_light_26 (by decide +kernel) ?_
      have hq : (-2 : Int32) = sp_light C T (nI x1N) x2 ∧ True := by
        refine ⟨?_, trivial⟩
        simp only [sp_light, hb_3, hb_5, t_x1, cond_true, cond_false]
      refine kk_QQ hQQ ?_
      exact W.iret (v := (-2 : Int32)) hx hb hr (fun t ht hW => ⟨⟨(-2 : Int32), (fa, gi), rfl, hq, by show va_P D vwCl _ t.heap; rw [ht]; exact hP⟩, hS.F ht⟩) hS.2.2 dX10_light_28
    · skip
      obtain ⟨x2N, hx2N, rfl⟩ := inB_t hb_5
      have t_x2 := nI_clamp (show x2N < 2 ^ 31 by omega)
      refine lv_aload_n hx hb dX10_light_17 rfl (lv_at hl 0 rfl) ?_
      refine lv_iload_n hx hb dX10_light_18 rfl (lv_at hl 1 rfl) ?_
      refine lv_iload_n hx hb dX10_light_19 rfl (lv_at hl 2 rfl) ?_
      have o_6 : okC C := by assumption
      have o_7 : ok9 C T := by assumption
      have o_8 : ∀ k, k < cLa C → st k = nI (cSt C k) := by assumption
      have o_9 : repM T mo mi mt := by assumption
      have o_10 : kdM C 9 (-9 : Int32) (cKi C) ki := by assumption
      have o_11 : repB C sk sh cl := by assumption
      have o_12 : x1N < cSp C := by omega
      have o_13 : x2N < 24 := by omega
      have hF := va_free (wc := [(m0, .inr (9, [.int i0, .ref a1, .int (nI (cSp C)), .ref a3, .int (nI (cLa C)), .ref a5, .ref a6, .ref a7, .int (nI (cAg C)), .int (-9 : Int32), .int i10, .int i11, .int i12, .ref a13, .ref a14, .ref a15, .ref a16, .int (nI (mN T)), .ref a18, .ref a19, .ref a20, .ref a21, .ref a22, .ref a23, .ref a24, .ref a25, .int (nI (mN E)), .ref a27, .ref a28, .ref a29, .ref a30, .ref a31, .ref a32, .ref a33, .ref a34, .int i35])), (a1, .inl (cI, 6, .inl sk)), (a3, .inl (cI, 4, .inl sh)), (a5, .inl (cI, 4, .inl ki)), (a6, .inl (cI, 4, .inl st)), (a7, .inl (cI, 4, .inl cl)), (a18, .inl (cI, 9, .inl mo)), (a19, .inl (cI, 9, .inl mi)), (a20, .inl (cI, 9, .inl mt)), (a21, .inl (cI, 96, .inl fa)), (a22, .inl (cI, 96, .inl gi))]) hD hS hA [0, 1, 2, 3, 4, 5, 6, 7, 8, 9, 10] rfl
      refine va_calli (va_runV (As := [.int (nI x1N), .int (nI x2N)]) (rest := []) ⟨hx, hb, hml, hown, hts⟩ (c_X10_lightBy lL D cI cS _ C T 9 (cKi C) m0 a1 a3 a5 a6 a7 a13 a14 a15 a16 a18 a19 a20 a21 a22 a23 a24 a25 a27 a28 a29 a30 a31 a32 a33 a34 i0 (nI (cSp C)) (-9 : Int32) i10 i11 i12 (nI (mN E)) i35 sk sh ki st cl mo mi mt fa gi x1N x2N o_6 o_7 o_8 o_9 o_10 o_11 o_12 o_13) (cwV 2 hts gX10_light_X10_lightBy rfl rfl rfl cd_X10_lightBy ⟨Nat.le_of_ble_eq_true rfl, Nat.le_of_ble_eq_true rfl⟩) ⟨kB_blind, va_recv hK hP (ci := 9) (q0 := 0) rfl rfl, fun U hU hW => ⟨rfl, by rw [hU], by rw [hU]; exact hP.sub [0, 1, 2, 3, 4, 5, 6, 7, 8, 9, 10] rfl, va_K.moved hW.alike hK, (hD.sub [0, 1, 2, 3, 4, 5, 6, 7, 8, 9, 10] (by decide) rfl).weaken (fun _ _ _ _ => trivial)⟩⟩ rfl rfl hl.1 rfl (lv_room (Nat.le_of_ble_eq_true rfl)) dX10_light_20 ⟨Nat.le_of_ble_eq_true rfl, Nat.le_of_ble_eq_true rfl⟩) hS (fun q _ h => hF q h) hF (fun r_14 u_14 t H1 locs ht hvm hw_14 hB hz1 hk1 hS => ?_)
      obtain ⟨fa2_14, gi2_14⟩ := u_14
      obtain ⟨hP, hD⟩ := kk_join2 (wc := [(m0, .inr (9, [.int i0, .ref a1, .int (nI (cSp C)), .ref a3, .int (nI (cLa C)), .ref a5, .ref a6, .ref a7, .int (nI (cAg C)), .int (-9 : Int32), .int i10, .int i11, .int i12, .ref a13, .ref a14, .ref a15, .ref a16, .int (nI (mN T)), .ref a18, .ref a19, .ref a20, .ref a21, .ref a22, .ref a23, .ref a24, .ref a25, .int (nI (mN E)), .ref a27, .ref a28, .ref a29, .ref a30, .ref a31, .ref a32, .ref a33, .ref a34, .int i35])), (a1, .inl (cI, 6, .inl sk)), (a3, .inl (cI, 4, .inl sh)), (a5, .inl (cI, 4, .inl ki)), (a6, .inl (cI, 4, .inl st)), (a7, .inl (cI, 4, .inl cl)), (a18, .inl (cI, 9, .inl mo)), (a19, .inl (cI, 9, .inl mi)), (a20, .inl (cI, 9, .inl mt)), (a21, .inl (cI, 96, .inl fa)), (a22, .inl (cI, 96, .inl gi))]) (w1 := [(m0, .inr (9, [.int i0, .ref a1, .int (nI (cSp C)), .ref a3, .int (nI (cLa C)), .ref a5, .ref a6, .ref a7, .int (nI (cAg C)), .int (-9 : Int32), .int i10, .int i11, .int i12, .ref a13, .ref a14, .ref a15, .ref a16, .int (nI (mN T)), .ref a18, .ref a19, .ref a20, .ref a21, .ref a22, .ref a23, .ref a24, .ref a25, .int (nI (mN E)), .ref a27, .ref a28, .ref a29, .ref a30, .ref a31, .ref a32, .ref a33, .ref a34, .int i35])), (a1, .inl (cI, 6, .inl sk)), (a3, .inl (cI, 4, .inl sh)), (a5, .inl (cI, 4, .inl ki)), (a6, .inl (cI, 4, .inl st)), (a7, .inl (cI, 4, .inl cl)), (a18, .inl (cI, 9, .inl mo)), (a19, .inl (cI, 9, .inl mi)), (a20, .inl (cI, 9, .inl mt)), (a21, .inl (cI, 96, .inl fa2_14)), (a22, .inl (cI, 96, .inl gi2_14))]) (ws' := [(m0, .inr (9, [.int i0, .ref a1, .int (nI (cSp C)), .ref a3, .int (nI (cLa C)), .ref a5, .ref a6, .ref a7, .int (nI (cAg C)), .int (-9 : Int32), .int i10, .int i11, .int i12, .ref a13, .ref a14, .ref a15, .ref a16, .int (nI (mN T)), .ref a18, .ref a19, .ref a20, .ref a21, .ref a22, .ref a23, .ref a24, .ref a25, .int (nI (mN E)), .ref a27, .ref a28, .ref a29, .ref a30, .ref a31, .ref a32, .ref a33, .ref a34, .int i35])), (a1, .inl (cI, 6, .inl sk)), (a3, .inl (cI, 4, .inl sh)), (a5, .inl (cI, 4, .inl ki)), (a6, .inl (cI, 4, .inl st)), (a7, .inl (cI, 4, .inl cl)), (a18, .inl (cI, 9, .inl mo)), (a19, .inl (cI, 9, .inl mi)), (a20, .inl (cI, 9, .inl mt)), (a21, .inl (cI, 96, .inl fa2_14)), (a22, .inl (cI, 96, .inl gi2_14))]) (wr := []) (H1 := H1) hP hD [0, 1, 2, 3, 4, 5, 6, 7, 8, 9, 10] [] rfl rfl rfl rfl 11 rfl (by decide) [m0, a1, a3, a5, a6, a7, a18, a19, a20, a21, a22] rfl rfl hk1 (by rw [← ht]; exact hB)
      have hw_14 : r_14 = nI (Li C (plc T (cSt C)) x1N x2N) ∧ True := hw_14
      clear hF hB hk1 hz1 hvm
      clear ht
      generalize H1 = H at hP hS ⊢
      obtain ⟨rfl, hw_14⟩ := hw_14
      refine lv_goto (tgt := 28) hx hb dX10_light_23 (by decide) ?_
      have hq : (nI (Li C (plc T (cSt C)) x1N x2N)) = sp_light C T (nI x1N) (nI x2N) ∧ True := by
        refine ⟨?_, trivial⟩
        simp only [sp_light, hb_3, hb_5, t_x1, t_x2, cond_true, cond_false]
      refine kk_QQ hQQ ?_
      exact W.iret (v := nI (Li C (plc T (cSt C)) x1N x2N)) hx hb hr (fun t ht hW => ⟨⟨nI (Li C (plc T (cSt C)) x1N x2N), (fa2_14, gi2_14), rfl, hq, by show va_P D vwCl _ t.heap; rw [ht]; exact hP⟩, hS.F ht⟩) hS.2.2 dX10_light_28
  · skip
    refine lv_iconst (v := (-1 : Int32)) hx hb dX10_light_8 (by decide +kernel) ?_
    have hq : (-1 : Int32) = sp_light C T x1 x2 ∧ True := by
      refine ⟨?_, trivial⟩
      simp only [sp_light, hb_3, cond_true, cond_false]
    refine kk_QQ hQQ ?_
    exact W.iret (v := (-1 : Int32)) hx hb hr (fun t ht hW => ⟨⟨(-1 : Int32), (fa, gi), rfl, hq, by show va_P D vwCl _ t.heap; rw [ht]; exact hP⟩, hS.F ht⟩) hS.2.2 dX10_light_9

abbrev rmX10_dark : Room := { frames := 3, cells := 0, slots := 0, locals := 75 }
set_option maxHeartbeats 4000000 in
set_option maxRecDepth 100000 in
theorem c_X10_dark (lL : Launch) (D : va_G) (cI cS : ClassId) (sz : Nat) (C : Co) (T : Mv) (E : Mv) (m0 : Nat) (a1 : Nat) (a3 : Nat) (a5 : Nat) (a6 : Nat) (a7 : Nat) (a13 : Nat) (a14 : Nat) (a15 : Nat) (a16 : Nat) (a18 : Nat) (a19 : Nat) (a20 : Nat) (a21 : Nat) (a22 : Nat) (a23 : Nat) (a24 : Nat) (a25 : Nat) (a27 : Nat) (a28 : Nat) (a29 : Nat) (a30 : Nat) (a31 : Nat) (a32 : Nat) (a33 : Nat) (a34 : Nat) (i0 : Int32) (i10 : Int32) (i11 : Int32) (i12 : Int32) (i35 : Int32) (sk : Nat → Int32) (sh : Nat → Int32) (ki : Nat → Int32) (st : Nat → Int32) (cl : Nat → Int32) (mo : Nat → Int32) (mi : Nat → Int32) (mt : Nat → Int32) (fa : Nat → Int32) (gi : Nat → Int32) (x1 : Int32) (x2 : Int32) (x3 : Int32) (hX : okX C T E) (hrC : repC C sk sh ki st cl) (hrT : repM T mo mi mt) : Met lL yX10_dark wsX10_dark rmX10_dark (va_Pc [.ref m0, .int x1, .int x2, .int x3] (kB D cI cS [(m0, .inr (9, [.int i0, .ref a1, .int (nI (cSp C)), .ref a3, .int (nI (cLa C)), .ref a5, .ref a6, .ref a7, .int (nI (cAg C)), .int (-9 : Int32), .int i10, .int i11, .int i12, .ref a13, .ref a14, .ref a15, .ref a16, .int (nI (mN T)), .ref a18, .ref a19, .ref a20, .ref a21, .ref a22, .ref a23, .ref a24, .ref a25, .int (nI (mN E)), .ref a27, .ref a28, .ref a29, .ref a30, .ref a31, .ref a32, .ref a33, .ref a34, .int i35])), (a1, .inl (cI, 6, .inl sk)), (a3, .inl (cI, 4, .inl sh)), (a5, .inl (cI, 4, .inl ki)), (a6, .inl (cI, 4, .inl st)), (a7, .inl (cI, 4, .inl cl)), (a18, .inl (cI, 9, .inl mo)), (a19, .inl (cI, 9, .inl mi)), (a20, .inl (cI, 9, .inl mt)), (a21, .inl (cI, 96, .inl fa)), (a22, .inl (cI, 96, .inl gi))] sz)) (kQi D (fun (r : Int32) (u : (Nat → Int32) × (Nat → Int32)) => r = sp_dark C T x1 x2 x3 ∧ True) (fun u : (Nat → Int32) × (Nat → Int32) => [(m0, .inr (9, [.int i0, .ref a1, .int (nI (cSp C)), .ref a3, .int (nI (cLa C)), .ref a5, .ref a6, .ref a7, .int (nI (cAg C)), .int (-9 : Int32), .int i10, .int i11, .int i12, .ref a13, .ref a14, .ref a15, .ref a16, .int (nI (mN T)), .ref a18, .ref a19, .ref a20, .ref a21, .ref a22, .ref a23, .ref a24, .ref a25, .int (nI (mN E)), .ref a27, .ref a28, .ref a29, .ref a30, .ref a31, .ref a32, .ref a33, .ref a34, .int i35])), (a1, .inl (cI, 6, .inl sk)), (a3, .inl (cI, 4, .inl sh)), (a5, .inl (cI, 4, .inl ki)), (a6, .inl (cI, 4, .inl st)), (a7, .inl (cI, 4, .inl cl)), (a18, .inl (cI, 9, .inl mo)), (a19, .inl (cI, 9, .inl mi)), (a20, .inl (cI, 9, .inl mt)), (a21, .inl (cI, 96, .inl u.1)), (a22, .inl (cI, 96, .inl u.2))]) (va_A [(m0, .inr (9, [.int i0, .ref a1, .int (nI (cSp C)), .ref a3, .int (nI (cLa C)), .ref a5, .ref a6, .ref a7, .int (nI (cAg C)), .int (-9 : Int32), .int i10, .int i11, .int i12, .ref a13, .ref a14, .ref a15, .ref a16, .int (nI (mN T)), .ref a18, .ref a19, .ref a20, .ref a21, .ref a22, .ref a23, .ref a24, .ref a25, .int (nI (mN E)), .ref a27, .ref a28, .ref a29, .ref a30, .ref a31, .ref a32, .ref a33, .ref a34, .int i35])), (a1, .inl (cI, 6, .inl sk)), (a3, .inl (cI, 4, .inl sh)), (a5, .inl (cI, 4, .inl ki)), (a6, .inl (cI, 4, .inl st)), (a7, .inl (cI, 4, .inl cl)), (a18, .inl (cI, 9, .inl mo)), (a19, .inl (cI, 9, .inl mi)), (a20, .inl (cI, 9, .inl mt)), (a21, .inl (cI, 96, .inl fa)), (a22, .inl (cI, 96, .inl gi))] sz)) 0 0 (va_A [(m0, .inr (9, [.int i0, .ref a1, .int (nI (cSp C)), .ref a3, .int (nI (cLa C)), .ref a5, .ref a6, .ref a7, .int (nI (cAg C)), .int (-9 : Int32), .int i10, .int i11, .int i12, .ref a13, .ref a14, .ref a15, .ref a16, .int (nI (mN T)), .ref a18, .ref a19, .ref a20, .ref a21, .ref a22, .ref a23, .ref a24, .ref a25, .int (nI (mN E)), .ref a27, .ref a28, .ref a29, .ref a30, .ref a31, .ref a32, .ref a33, .ref a34, .int i35])), (a1, .inl (cI, 6, .inl sk)), (a3, .inl (cI, 4, .inl sh)), (a5, .inl (cI, 4, .inl ki)), (a6, .inl (cI, 4, .inl st)), (a7, .inl (cI, 4, .inl cl)), (a18, .inl (cI, 9, .inl mo)), (a19, .inl (cI, 9, .inl mi)), (a20, .inl (cI, 9, .inl mt)), (a21, .inl (cI, 96, .inl fa)), (a22, .inl (cI, 96, .inl gi))] sz) := by
  refine Met.ofW (cc := cX10_dark) (maxL := 5) (ret := (some .int)) (by decide) rfl ?_
  intro pP eE sS mM args below meth cC s₁ B hml hv
  obtain ⟨rfl, hsz, hP, hK, hD0⟩ := hv
  have hx := B.exec
  have hb := B.bytes
  have hr := B.returns
  have hts := atoms_spec (ws := wsX10_dark) B.pre
  have hown : sS.vm.findClass RX10 = some mM.cls := findClass_of_methodNamed B.named
  have hlocks := B.notSynchronized
  subst hsz
  have hD := hD0.self (sz := sS.heap.size)
  generalize hAe : va_A [(m0, .inr (9, [.int i0, .ref a1, .int (nI (cSp C)), .ref a3, .int (nI (cLa C)), .ref a5, .ref a6, .ref a7, .int (nI (cAg C)), .int (-9 : Int32), .int i10, .int i11, .int i12, .ref a13, .ref a14, .ref a15, .ref a16, .int (nI (mN T)), .ref a18, .ref a19, .ref a20, .ref a21, .ref a22, .ref a23, .ref a24, .ref a25, .int (nI (mN E)), .ref a27, .ref a28, .ref a29, .ref a30, .ref a31, .ref a32, .ref a33, .ref a34, .int i35])), (a1, .inl (cI, 6, .inl sk)), (a3, .inl (cI, 4, .inl sh)), (a5, .inl (cI, 4, .inl ki)), (a6, .inl (cI, 4, .inl st)), (a7, .inl (cI, 4, .inl cl)), (a18, .inl (cI, 9, .inl mo)), (a19, .inl (cI, 9, .inl mi)), (a20, .inl (cI, 9, .inl mt)), (a21, .inl (cI, 96, .inl fa)), (a22, .inl (cI, 96, .inl gi))] sS.heap.size = A at hD ⊢
  have hA : ∀ q : Nat, sS.heap.size ≤ q → A q := fun q h => by rw [← hAe]; exact Or.inr h
  have hS : va_S A sS.heap sS.heap [] := va_S.rf
  have hP : va_P D vwCl [(m0, .inr (9, [.int i0, .ref a1, .int (nI (cSp C)), .ref a3, .int (nI (cLa C)), .ref a5, .ref a6, .ref a7, .int (nI (cAg C)), .int (-9 : Int32), .int i10, .int i11, .int i12, .ref a13, .ref a14, .ref a15, .ref a16, .int (nI (mN T)), .ref a18, .ref a19, .ref a20, .ref a21, .ref a22, .ref a23, .ref a24, .ref a25, .int (nI (mN E)), .ref a27, .ref a28, .ref a29, .ref a30, .ref a31, .ref a32, .ref a33, .ref a34, .int i35])), (a1, .inl (cI, 6, .inl sk)), (a3, .inl (cI, 4, .inl sh)), (a5, .inl (cI, 4, .inl ki)), (a6, .inl (cI, 4, .inl st)), (a7, .inl (cI, 4, .inl cl)), (a18, .inl (cI, 9, .inl mo)), (a19, .inl (cI, 9, .inl mi)), (a20, .inl (cI, 9, .inl mt)), (a21, .inl (cI, 96, .inl fa)), (a22, .inl (cI, 96, .inl gi))] sS.heap := hP
  have hD : va_D A [(m0, .inr (9, [.int i0, .ref a1, .int (nI (cSp C)), .ref a3, .int (nI (cLa C)), .ref a5, .ref a6, .ref a7, .int (nI (cAg C)), .int (-9 : Int32), .int i10, .int i11, .int i12, .ref a13, .ref a14, .ref a15, .ref a16, .int (nI (mN T)), .ref a18, .ref a19, .ref a20, .ref a21, .ref a22, .ref a23, .ref a24, .ref a25, .int (nI (mN E)), .ref a27, .ref a28, .ref a29, .ref a30, .ref a31, .ref a32, .ref a33, .ref a34, .int i35])), (a1, .inl (cI, 6, .inl sk)), (a3, .inl (cI, 4, .inl sh)), (a5, .inl (cI, 4, .inl ki)), (a6, .inl (cI, 4, .inl st)), (a7, .inl (cI, 4, .inl cl)), (a18, .inl (cI, 9, .inl mo)), (a19, .inl (cI, 9, .inl mi)), (a20, .inl (cI, 9, .inl mt)), (a21, .inl (cI, 96, .inl fa)), (a22, .inl (cI, 96, .inl gi))] := hD
  have hk_210 := hts (.constantLong RX10 210 (999)) (List.mem_of_getElem? (i := 1) rfl)
  have hl := lv_entry ([.ref m0, .int x1, .int x2, .int x3]) (n := 5) (Nat.le_of_ble_eq_true rfl)
  rw [lg_entry_eq]
  generalize (lg_sl ([.ref m0, .int x1, .int x2, .int x3]) ++ List.replicate (5 - (lg_sl ([.ref m0, .int x1, .int x2, .int x3])).length) Slot.unset).toArray = ls at hl ⊢
  have hl : lv_has ls 5 [(0, .ref m0), (1, .int x1), (2, .int x2), (3, .int x3)] := hl
  obtain ⟨QQ, hQQ⟩ : ∃ QQ : State → Prop, QQ = MQ below (kQi D (fun (r : Int32) (u : (Nat → Int32) × (Nat → Int32)) => r = sp_dark C T x1 x2 x3 ∧ True) (fun u : (Nat → Int32) × (Nat → Int32) => [(m0, .inr (9, [.int i0, .ref a1, .int (nI (cSp C)), .ref a3, .int (nI (cLa C)), .ref a5, .ref a6, .ref a7, .int (nI (cAg C)), .int (-9 : Int32), .int i10, .int i11, .int i12, .ref a13, .ref a14, .ref a15, .ref a16, .int (nI (mN T)), .ref a18, .ref a19, .ref a20, .ref a21, .ref a22, .ref a23, .ref a24, .ref a25, .int (nI (mN E)), .ref a27, .ref a28, .ref a29, .ref a30, .ref a31, .ref a32, .ref a33, .ref a34, .int i35])), (a1, .inl (cI, 6, .inl sk)), (a3, .inl (cI, 4, .inl sh)), (a5, .inl (cI, 4, .inl ki)), (a6, .inl (cI, 4, .inl st)), (a7, .inl (cI, 4, .inl cl)), (a18, .inl (cI, 9, .inl mo)), (a19, .inl (cI, 9, .inl mi)), (a20, .inl (cI, 9, .inl mt)), (a21, .inl (cI, 96, .inl u.1)), (a22, .inl (cI, 96, .inl u.2))]) A) ([.ref m0, .int x1, .int x2, .int x3]).toArray sS 0 0 A := ⟨_, rfl⟩
  refine kk_QQ hQQ.symm ?_
  obtain ⟨hX1, hX2, hX3, hX4⟩ := okX_le hX
  refine lv_aload_n hx hb dX10_dark_0 rfl (lv_at hl 0 rfl) ?_
  refine lv_iload_n hx hb dX10_dark_1 rfl (lv_at hl 1 rfl) ?_
  have o_1 : (cSp C) ≤ 4 := by omega
  refine vp_callSi (W.runV (As := [.int x1]) (rest := []) ⟨hx, hb, hml, hown, hts⟩ (c_X10_noSpot lL D cI cS m0 a1 a3 a5 a6 a7 a13 a14 a15 a16 a18 a19 a20 a21 a22 a23 a24 a25 a27 a28 a29 a30 a31 a32 a33 a34 i0 (nI (cLa C)) (nI (cAg C)) (-9 : Int32) i10 i11 i12 (nI (mN T)) (nI (mN E)) i35 x1 (cSp C) o_1) (cwV 1 hts gX10_dark_X10_noSpot rfl rfl rfl cd_X10_noSpot ⟨Nat.le_of_ble_eq_true rfl, Nat.le_of_ble_eq_true rfl⟩) ⟨kBp_blind, va_recv hK hP (ci := 9) (q0 := 0) rfl rfl, fun U hU hW => ⟨rfl, by rw [hU]; exact hP.sub [0] rfl, va_K.moved hW.alike hK⟩⟩ rfl rfl hl.1 rfl (lv_room (Nat.le_of_ble_eq_true rfl)) dX10_dark_2 ⟨Nat.le_of_ble_eq_true rfl, Nat.le_of_ble_eq_true rfl⟩) (fun r_2 hw_2 => ?_)
  obtain rfl : r_2 = kb (!inB x1 (cSp C)) := hw_2
  refine kk_ifn_eq (tgt := 10) hx hb dX10_dark_5 (by decide) (fun hb_3 => ?_) (fun hb_3 => ?_)
  · skip
    obtain ⟨x1N, hx1N, rfl⟩ := inB_t hb_3
    have t_x1 := nI_clamp (show x1N < 2 ^ 31 by omega)
    obtain ⟨hC, hM0, hE⟩ := okX_sp hX hx1N
    have hM := ok9_of hM0
    have hkd := kdM_of hX hrC
    have hwo := hkd.2
    have hk3 : 9 < cLa C → cKi C 9 = 3 := fun z => absurd hC.2.1 (by omega)
    have hst := hrC.2.2.2.1
    have hrB : repB C sk sh cl := ⟨hrC.1, hrC.2.1, hrC.2.2.2.2⟩
    have hxa := hC.2.1
    have hxs := hC.1
    refine lv_iload_n hx hb dX10_dark_10 rfl (lv_at hl 2 rfl) ?_
    refine vp_callSi (W.runS (As := [.int x2]) (rest := []) ⟨hx, hb, hml, hown, hts⟩ (c_X10_isWatch lL D cI cS x2) (va_cwS 1 hts gX10_dark_X10_isWatch rfl rfl rfl cd_X10_isWatch ⟨Nat.le_of_ble_eq_true rfl, Nat.le_of_ble_eq_true rfl⟩) ⟨kBp_blind, fun U hU hW => ⟨rfl, by rw [hU]; exact hP.sub [] rfl, va_K.moved hW.alike hK⟩⟩ rfl rfl hl.1 rfl (lv_room (Nat.le_of_ble_eq_true rfl)) dX10_dark_11 ⟨Nat.le_of_ble_eq_true rfl, Nat.le_of_ble_eq_true rfl⟩) (fun r_4 hw_4 => ?_)
    obtain rfl : r_4 = kb (inB x2 24) := hw_4
    -- if (inB x2 24)
    refine kk_ifb_eq (tgt := 29) hx hb dX10_dark_14 (by decide) (fun hb_5 => ?_) (fun hb_5 => ?_)
    · skip
      refine lv_bipush (v := (-2 : Int32)) hx hb dX10_dark_29 (by decide +kernel) ?_
      have hq : (-2 : Int32) = sp_dark C T (nI x1N) x2 x3 ∧ True := by
        refine ⟨?_, trivial⟩
        simp only [sp_dark, hb_3, hb_5, t_x1, cond_true, cond_false]
      refine kk_QQ hQQ ?_
      exact W.iret (v := (-2 : Int32)) hx hb hr (fun t ht hW => ⟨⟨(-2 : Int32), (fa, gi), rfl, hq, by show va_P D vwCl _ t.heap; rw [ht]; exact hP⟩, hS.F ht⟩) hS.2.2 dX10_dark_31
    · skip
      obtain ⟨x2N, hx2N, rfl⟩ := inB_t hb_5
      have t_x2 := nI_clamp (show x2N < 2 ^ 31 by omega)
      refine lv_iload_n hx hb dX10_dark_17 rfl (lv_at hl 3 rfl) ?_
      refine lv_i2l (v := x3.toInt64) hx hb dX10_dark_18 rfl ?_
      refine lv_lconst (v := lN 0) hx hb dX10_dark_19 (by decide +kernel) ?_
      refine lv_ldc2 (v := (999 : Int64)) hx hb hown hk_210 dX10_dark_20 ?_
      refine kk_topl (y := lN 999) (by decide +kernel) ?_
      refine vp_callSi (W.runS (As := [.long x3.toInt64, .long (lN 0), .long (lN 999)]) (rest := []) ⟨hx, hb, hml, hown, hts⟩ (c_X10_in lL D cI cS x3.toInt64 (lN 0) (lN 999)) (va_cwS 3 hts gX10_dark_X10_in rfl rfl rfl cd_X10_in ⟨Nat.le_of_ble_eq_true rfl, Nat.le_of_ble_eq_true rfl⟩) ⟨kBp_blind, fun U hU hW => ⟨rfl, by rw [hU]; exact hP.sub [] rfl, va_K.moved hW.alike hK⟩⟩ rfl rfl hl.1 rfl (lv_room (Nat.le_of_ble_eq_true rfl)) dX10_dark_23 ⟨Nat.le_of_ble_eq_true rfl, Nat.le_of_ble_eq_true rfl⟩) (fun r_6 hw_6 => ?_)
      obtain rfl : r_6 = kb (inL x3.toInt64 (lN 0) (lN 999)) := hw_6
      refine kk_top (y := kb (wB x3 0 999)) (congrArg kb (inL_w x3 (by omega) (by omega))) ?_
      -- if wB x3 0 999
      refine kk_ifb_ne (tgt := 32) hx hb dX10_dark_26 (by decide) (fun hb_7 => ?_) (fun hb_7 => ?_)
      · skip
        obtain ⟨x3N, hx3L, hx3N, rfl⟩ := wB_t hb_7
        have t_x3 := nI_clamp (show x3N < 2 ^ 31 by omega)
        refine lv_aload_n hx hb dX10_dark_32 rfl (lv_at hl 0 rfl) ?_
        refine lv_bipush (v := nI 23) hx hb dX10_dark_33 (by decide +kernel) ?_
        have o_8 : okC C := by assumption
        have o_9 : ok9 C T := by assumption
        have o_10 : ∀ k, k < cLa C → st k = nI (cSt C k) := by assumption
        have o_11 : repM T mo mi mt := by assumption
        have o_12 : kdM C 9 (-9 : Int32) (cKi C) ki := by assumption
        have o_13 : repB C sk sh cl := by assumption
        have o_14 : 23 < 24 := by omega
        have hF := va_free (wc := [(m0, .inr (9, [.int i0, .ref a1, .int (nI (cSp C)), .ref a3, .int (nI (cLa C)), .ref a5, .ref a6, .ref a7, .int (nI (cAg C)), .int (-9 : Int32), .int i10, .int i11, .int i12, .ref a13, .ref a14, .ref a15, .ref a16, .int (nI (mN T)), .ref a18, .ref a19, .ref a20, .ref a21, .ref a22, .ref a23, .ref a24, .ref a25, .int (nI (mN E)), .ref a27, .ref a28, .ref a29, .ref a30, .ref a31, .ref a32, .ref a33, .ref a34, .int i35])), (a1, .inl (cI, 6, .inl sk)), (a3, .inl (cI, 4, .inl sh)), (a5, .inl (cI, 4, .inl ki)), (a6, .inl (cI, 4, .inl st)), (a7, .inl (cI, 4, .inl cl)), (a18, .inl (cI, 9, .inl mo)), (a19, .inl (cI, 9, .inl mi)), (a20, .inl (cI, 9, .inl mt)), (a21, .inl (cI, 96, .inl fa)), (a22, .inl (cI, 96, .inl gi))]) hD hS hA [0, 1, 2, 3, 4, 5, 6, 7, 8, 9, 10] rfl
        refine va_callv (va_runV (As := [.int (nI 23)]) (rest := []) ⟨hx, hb, hml, hown, hts⟩ (c_X10_goTo lL D cI cS _ C T 9 (cKi C) m0 a1 a3 a5 a6 a7 a13 a14 a15 a16 a18 a19 a20 a21 a22 a23 a24 a25 a27 a28 a29 a30 a31 a32 a33 a34 i0 (nI (cSp C)) (-9 : Int32) i10 i11 i12 (nI (mN E)) i35 sk sh ki st cl mo mi mt fa gi 23 o_8 o_9 o_10 o_11 o_12 o_13 o_14) (cwV 1 hts gX10_dark_X10_goTo rfl rfl rfl cd_X10_goTo ⟨Nat.le_of_ble_eq_true rfl, Nat.le_of_ble_eq_true rfl⟩) ⟨kB_blind, va_recv hK hP (ci := 9) (q0 := 0) rfl rfl, fun U hU hW => ⟨rfl, by rw [hU], by rw [hU]; exact hP.sub [0, 1, 2, 3, 4, 5, 6, 7, 8, 9, 10] rfl, va_K.moved hW.alike hK, (hD.sub [0, 1, 2, 3, 4, 5, 6, 7, 8, 9, 10] (by decide) rfl).weaken (fun _ _ _ _ => trivial)⟩⟩ rfl rfl hl.1 rfl (lv_room (Nat.le_of_ble_eq_true rfl)) dX10_dark_35 ⟨Nat.le_of_ble_eq_true rfl, Nat.le_of_ble_eq_true rfl⟩) hS (fun q _ h => hF q h) hF (fun u_15 t H1 locs ht hvm hw_15 hB hz1 hk1 hS => ?_)
        obtain ⟨fa2_15, gi2_15⟩ := u_15
        obtain ⟨hP, hD⟩ := kk_join2 (wc := [(m0, .inr (9, [.int i0, .ref a1, .int (nI (cSp C)), .ref a3, .int (nI (cLa C)), .ref a5, .ref a6, .ref a7, .int (nI (cAg C)), .int (-9 : Int32), .int i10, .int i11, .int i12, .ref a13, .ref a14, .ref a15, .ref a16, .int (nI (mN T)), .ref a18, .ref a19, .ref a20, .ref a21, .ref a22, .ref a23, .ref a24, .ref a25, .int (nI (mN E)), .ref a27, .ref a28, .ref a29, .ref a30, .ref a31, .ref a32, .ref a33, .ref a34, .int i35])), (a1, .inl (cI, 6, .inl sk)), (a3, .inl (cI, 4, .inl sh)), (a5, .inl (cI, 4, .inl ki)), (a6, .inl (cI, 4, .inl st)), (a7, .inl (cI, 4, .inl cl)), (a18, .inl (cI, 9, .inl mo)), (a19, .inl (cI, 9, .inl mi)), (a20, .inl (cI, 9, .inl mt)), (a21, .inl (cI, 96, .inl fa)), (a22, .inl (cI, 96, .inl gi))]) (w1 := [(m0, .inr (9, [.int i0, .ref a1, .int (nI (cSp C)), .ref a3, .int (nI (cLa C)), .ref a5, .ref a6, .ref a7, .int (nI (cAg C)), .int (-9 : Int32), .int i10, .int i11, .int i12, .ref a13, .ref a14, .ref a15, .ref a16, .int (nI (mN T)), .ref a18, .ref a19, .ref a20, .ref a21, .ref a22, .ref a23, .ref a24, .ref a25, .int (nI (mN E)), .ref a27, .ref a28, .ref a29, .ref a30, .ref a31, .ref a32, .ref a33, .ref a34, .int i35])), (a1, .inl (cI, 6, .inl sk)), (a3, .inl (cI, 4, .inl sh)), (a5, .inl (cI, 4, .inl ki)), (a6, .inl (cI, 4, .inl st)), (a7, .inl (cI, 4, .inl cl)), (a18, .inl (cI, 9, .inl mo)), (a19, .inl (cI, 9, .inl mi)), (a20, .inl (cI, 9, .inl mt)), (a21, .inl (cI, 96, .inl fa2_15)), (a22, .inl (cI, 96, .inl gi2_15))]) (ws' := [(m0, .inr (9, [.int i0, .ref a1, .int (nI (cSp C)), .ref a3, .int (nI (cLa C)), .ref a5, .ref a6, .ref a7, .int (nI (cAg C)), .int (-9 : Int32), .int i10, .int i11, .int i12, .ref a13, .ref a14, .ref a15, .ref a16, .int (nI (mN T)), .ref a18, .ref a19, .ref a20, .ref a21, .ref a22, .ref a23, .ref a24, .ref a25, .int (nI (mN E)), .ref a27, .ref a28, .ref a29, .ref a30, .ref a31, .ref a32, .ref a33, .ref a34, .int i35])), (a1, .inl (cI, 6, .inl sk)), (a3, .inl (cI, 4, .inl sh)), (a5, .inl (cI, 4, .inl ki)), (a6, .inl (cI, 4, .inl st)), (a7, .inl (cI, 4, .inl cl)), (a18, .inl (cI, 9, .inl mo)), (a19, .inl (cI, 9, .inl mi)), (a20, .inl (cI, 9, .inl mt)), (a21, .inl (cI, 96, .inl fa2_15)), (a22, .inl (cI, 96, .inl gi2_15))]) (wr := []) (H1 := H1) hP hD [0, 1, 2, 3, 4, 5, 6, 7, 8, 9, 10] [] rfl rfl rfl rfl 11 rfl (by decide) [m0, a1, a3, a5, a6, a7, a18, a19, a20, a21, a22] rfl rfl hk1 (by rw [← ht]; exact hB)
        have hw_15 : tmF C (plc T (cSt C)) fa2_15 (23 + 1) ∧ tmG C (plc T (cSt C)) 9 gi2_15 (23 + 1) := hw_15
        clear hF hB hk1 hz1 hvm
        clear ht
        generalize H1 = H at hP hS ⊢
        have hGG := hw_15.2
        refine lv_iload_n hx hb dX10_dark_38 rfl (lv_at hl 2 rfl) ?_
        refine lv_istore (lv' := [(4, .int (nI x2N)), (0, .ref m0), (1, .int (nI x1N)), (2, .int (nI x2N)), (3, .int (nI x3N))]) hx hb dX10_dark_39 hl (by decide) rfl (fun ls hl => ?_)
        have L_41 : ∀ (n_41 : Nat) (v : Nat), (x2N ≤ v) → (v ≤ 24) → (dk C (plT C T) x1N x3N (24 - x2N) x2N = dk C (plT C T) x1N x3N (24 - v) v) → 25 ≤ v + n_41 → ∀ (H : Heap) (locs : List Loc), va_P D vwCl [(m0, .inr (9, [.int i0, .ref a1, .int (nI (cSp C)), .ref a3, .int (nI (cLa C)), .ref a5, .ref a6, .ref a7, .int (nI (cAg C)), .int (-9 : Int32), .int i10, .int i11, .int i12, .ref a13, .ref a14, .ref a15, .ref a16, .int (nI (mN T)), .ref a18, .ref a19, .ref a20, .ref a21, .ref a22, .ref a23, .ref a24, .ref a25, .int (nI (mN E)), .ref a27, .ref a28, .ref a29, .ref a30, .ref a31, .ref a32, .ref a33, .ref a34, .int i35])), (a1, .inl (cI, 6, .inl sk)), (a3, .inl (cI, 4, .inl sh)), (a5, .inl (cI, 4, .inl ki)), (a6, .inl (cI, 4, .inl st)), (a7, .inl (cI, 4, .inl cl)), (a18, .inl (cI, 9, .inl mo)), (a19, .inl (cI, 9, .inl mi)), (a20, .inl (cI, 9, .inl mt)), (a21, .inl (cI, 96, .inl fa2_15)), (a22, .inl (cI, 96, .inl gi2_15))] H → va_D A [(m0, .inr (9, [.int i0, .ref a1, .int (nI (cSp C)), .ref a3, .int (nI (cLa C)), .ref a5, .ref a6, .ref a7, .int (nI (cAg C)), .int (-9 : Int32), .int i10, .int i11, .int i12, .ref a13, .ref a14, .ref a15, .ref a16, .int (nI (mN T)), .ref a18, .ref a19, .ref a20, .ref a21, .ref a22, .ref a23, .ref a24, .ref a25, .int (nI (mN E)), .ref a27, .ref a28, .ref a29, .ref a30, .ref a31, .ref a32, .ref a33, .ref a34, .int i35])), (a1, .inl (cI, 6, .inl sk)), (a3, .inl (cI, 4, .inl sh)), (a5, .inl (cI, 4, .inl ki)), (a6, .inl (cI, 4, .inl st)), (a7, .inl (cI, 4, .inl cl)), (a18, .inl (cI, 9, .inl mo)), (a19, .inl (cI, 9, .inl mi)), (a20, .inl (cI, 9, .inl mt)), (a21, .inl (cI, 96, .inl fa2_15)), (a22, .inl (cI, 96, .inl gi2_15))] → va_S A sS.heap H locs → ∀ (ls : Array Slot), lv_has ls 5 [(4, .int (nI v)), (0, .ref m0), (1, .int (nI x1N)), (2, .int (nI x2N)), (3, .int (nI x3N))] → W pP lL eE (headSpec wsX10_dark rmX10_dark).room sS mM ([.ref m0, .int (nI x1N), .int (nI x2N), .int (nI x3N)]).toArray below meth cC H locs 0 0 QQ (F0 mM 41 ls []) := by
          intro n_41
          induction n_41 with
          | zero =>
            intro v hv1 hv2 hdk hn_41 H locs hP hD hS ls hl
            exact absurd hn_41 (by omega)
          | succ n_41 ih_41 =>
            intro v hv1 hv2 hdk hn_41 H locs hP hD hS ls hl
            refine lv_iload hx hb dX10_dark_41 (lv_at hl 0 rfl) ?_
            refine lv_bipush (v := nI 24) hx hb dX10_dark_43 (by decide +kernel) ?_
            refine kk_icmp_ge (tgt := 68) hx hb dX10_dark_45 (by decide) (by omega) (by omega) (fun c_16 => ?_) (fun c_16 => ?_)
            · skip
              refine lv_bipush (v := (-9 : Int32)) hx hb dX10_dark_68 (by decide +kernel) ?_
              have hq : (-9 : Int32) = sp_dark C T (nI x1N) (nI x2N) (nI x3N) ∧ True := by
                refine ⟨?_, trivial⟩
                simp only [sp_dark, hb_3, hb_5, hb_7, t_x1, t_x2, t_x3, cond_true, cond_false]
                rw [hdk, show 24 - v = 0 by omega]; rfl
              refine kk_QQ hQQ ?_
              exact W.iret (v := (-9 : Int32)) hx hb hr (fun t ht hW => ⟨⟨(-9 : Int32), (fa2_15, gi2_15), rfl, hq, by show va_P D vwCl _ t.heap; rw [ht]; exact hP⟩, hS.F ht⟩) hS.2.2 dX10_dark_70
            · skip
              refine lv_aload_n hx hb dX10_dark_48 rfl (lv_at hl 1 rfl) ?_
              refine lv_iload_n hx hb dX10_dark_49 rfl (lv_at hl 2 rfl) ?_
              refine lv_iload hx hb dX10_dark_50 (lv_at hl 0 rfl) ?_
              have o_17 : okC C := by assumption
              have o_18 : ok9 C T := by assumption
              have o_19 : ∀ k, k < cLa C → st k = nI (cSt C k) := by assumption
              have o_20 : repM T mo mi mt := by assumption
              have o_21 : ∀ k, k < 4 → (nI k = (-9 : Int32) ↔ k = 9) := by assumption
              have o_22 : 9 < cLa C → cKi C 9 = 3 := by assumption
              have o_23 : repB C sk sh cl := by assumption
              have o_24 : ∀ k, k < cLa C → k ≠ 9 → gi2_15 (24 * k + v) = nI (Gi C (plc T (cSt C)) v k) := by exact fun k hk hne => hGG v (by omega) k hk hne
              have o_25 : x1N < cSp C := by omega
              have o_26 : v < 24 := by omega
              refine vp_callSi (W.runV (As := [.int (nI x1N), .int (nI v)]) (rest := []) ⟨hx, hb, hml, hown, hts⟩ (c_X10_lightOf lL D cI cS C T 9 m0 a1 a3 a5 a6 a7 a13 a14 a15 a16 a18 a19 a20 a21 a22 a23 a24 a25 a27 a28 a29 a30 a31 a32 a33 a34 i0 (nI (cSp C)) (nI (cAg C)) (-9 : Int32) i10 i11 i12 (nI (mN E)) i35 sk sh st cl mo mi mt gi2_15 x1N v o_17 o_18 o_19 o_20 o_21 o_22 o_23 o_24 o_25 o_26) (cwV 2 hts gX10_dark_X10_lightOf rfl rfl rfl cd_X10_lightOf ⟨Nat.le_of_ble_eq_true rfl, Nat.le_of_ble_eq_true rfl⟩) ⟨kBp_blind, va_recv hK hP (ci := 9) (q0 := 0) rfl rfl, fun U hU hW => ⟨rfl, by rw [hU]; exact hP.sub [0, 1, 2, 4, 5, 6, 7, 8, 10] rfl, va_K.moved hW.alike hK⟩⟩ rfl rfl hl.1 rfl (lv_room (Nat.le_of_ble_eq_true rfl)) dX10_dark_52 ⟨Nat.le_of_ble_eq_true rfl, Nat.le_of_ble_eq_true rfl⟩) (fun r_27 hw_27 => ?_)
              obtain rfl : r_27 = nI (Li C (plc T (cSt C)) x1N v) := hw_27
              refine kk_top (y := nI (Li C (plT C T) x1N v)) (rfl) ?_
              have hll := Li_le hC (plT C T) x1N v
              refine lv_iload_n hx hb dX10_dark_55 rfl (lv_at hl 4 rfl) ?_
              refine kk_icmp_ge (tgt := 62) hx hb dX10_dark_56 (by decide) (by omega) (by omega) (fun c_28 => ?_) (fun c_28 => ?_)
              · skip
                refine lv_iinc (v := nI (v + 1)) (lv' := [(4, .int (nI (v + 1))), (0, .ref m0), (1, .int (nI x1N)), (2, .int (nI x2N)), (3, .int (nI x3N))]) hx hb dX10_dark_62 hl (k := 0) rfl (nI_add v 1) (by decide) rfl (fun ls hl => ?_)
                refine lv_goto (tgt := 41) hx hb dX10_dark_65 (by decide) ?_
                have o_29 : x2N ≤ (v + 1) := by omega
                have o_30 : (v + 1) ≤ 24 := by omega
                have o_31 : dk C (plT C T) x1N x3N (24 - x2N) x2N = dk C (plT C T) x1N x3N (24 - (v + 1)) (v + 1) := by rw [hdk, show 24 - v = (24 - (v + 1)) + 1 by omega, dk_s, if_neg (by omega)]
                have o_32 : 25 ≤ (v + 1) + n_41 := by omega
                exact ih_41 (v + 1) o_29 o_30 o_31 o_32 _ _ hP hD hS ls (lv_sub hl [0, 1, 2, 3, 4] rfl)
              · skip
                refine lv_iload hx hb dX10_dark_59 (lv_at hl 0 rfl) ?_
                have hq : (nI v) = sp_dark C T (nI x1N) (nI x2N) (nI x3N) ∧ True := by
                  refine ⟨?_, trivial⟩
                  simp only [sp_dark, hb_3, hb_5, hb_7, t_x1, t_x2, t_x3, cond_true, cond_false]
                  rw [hdk, show 24 - v = (24 - (v + 1)) + 1 by omega, dk_s, if_pos (by omega)]
                refine kk_QQ hQQ ?_
                exact W.iret (v := nI v) hx hb hr (fun t ht hW => ⟨⟨nI v, (fa2_15, gi2_15), rfl, hq, by show va_P D vwCl _ t.heap; rw [ht]; exact hP⟩, hS.F ht⟩) hS.2.2 dX10_dark_61
        have o_33 : x2N ≤ x2N := by omega
        have o_34 : x2N ≤ 24 := by omega
        have o_35 : dk C (plT C T) x1N x3N (24 - x2N) x2N = dk C (plT C T) x1N x3N (24 - x2N) x2N := by rfl
        have o_36 : 25 ≤ x2N + 25 := by omega
        exact L_41 25 x2N o_33 o_34 o_35 o_36 _ _ hP hD hS ls (lv_sub hl [0, 1, 2, 3, 4] rfl)
      · skip
        refine lv_bipush (v := (-2 : Int32)) hx hb dX10_dark_29 (by decide +kernel) ?_
        have hq : (-2 : Int32) = sp_dark C T (nI x1N) (nI x2N) x3 ∧ True := by
          refine ⟨?_, trivial⟩
          simp only [sp_dark, hb_3, hb_5, hb_7, t_x1, t_x2, cond_true, cond_false]
        refine kk_QQ hQQ ?_
        exact W.iret (v := (-2 : Int32)) hx hb hr (fun t ht hW => ⟨⟨(-2 : Int32), (fa, gi), rfl, hq, by show va_P D vwCl _ t.heap; rw [ht]; exact hP⟩, hS.F ht⟩) hS.2.2 dX10_dark_31
  · skip
    refine lv_iconst (v := (-1 : Int32)) hx hb dX10_dark_8 (by decide +kernel) ?_
    have hq : (-1 : Int32) = sp_dark C T x1 x2 x3 ∧ True := by
      refine ⟨?_, trivial⟩
      simp only [sp_dark, hb_3, cond_true, cond_false]
    refine kk_QQ hQQ ?_
    exact W.iret (v := (-1 : Int32)) hx hb hr (fun t ht hW => ⟨⟨(-1 : Int32), (fa, gi), rfl, hq, by show va_P D vwCl _ t.heap; rw [ht]; exact hP⟩, hS.F ht⟩) hS.2.2 dX10_dark_9
