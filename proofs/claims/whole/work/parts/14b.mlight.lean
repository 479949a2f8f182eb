def ok9 (C : Co) (M : Mv) : Prop := mN M ≤ 9 ∧ ∀ i, i < mN M → mW M i < cLa C ∧ mT M i < 24 ∧ mV M i < cSp C
def repB (C : Co) (sk sh cl : Nat → Int32) : Prop := (∀ w, w < 6 → sk w = nI (cSk C w)) ∧ (∀ s, s < cSp C → sh s = nI (cSh C s)) ∧ ∀ d, d < 4 → cl d = nI (cCl C d)
theorem plc_lt9 {C : Co} {M : Mv} (hC : okC C) (hM : ok9 C M) {k : Nat} (hk : k < cLa C) (w : Nat) : plc M (cSt C) k w < cSp C := by
  rw [← stP_plc]
  exact stP_le (hC.2.2.2.2.2.1 k hk).2 _ (fun i hi => (hM.2 i hi).2.2)
theorem kk_nlt {x y : Int32} (h : ¬ x < y) : y ≤ x := Int32.not_lt.mp h

theorem cd_X10_allGiven : yX10_allGiven.cls = RX10 ∧ yX10_allGiven.cls ≠ "java/lang/invoke/MethodHandle" ∧ yX10_allGiven.cls ≠ "java/lang/invoke/VarHandle" ∧ (parseMethodDescriptor yX10_allGiven.desc).map (fun d => d.parameters.length) = some 3 := by decide +kernel
theorem cd_X10_byDay : yX10_byDay.cls = RX10 ∧ yX10_byDay.cls ≠ "java/lang/invoke/MethodHandle" ∧ yX10_byDay.cls ≠ "java/lang/invoke/VarHandle" ∧ (parseMethodDescriptor yX10_byDay.desc).map (fun d => d.parameters.length) = some 2 := by decide +kernel
theorem cd_X10_givenBy : yX10_givenBy.cls = RX10 ∧ yX10_givenBy.cls ≠ "java/lang/invoke/MethodHandle" ∧ yX10_givenBy.cls ≠ "java/lang/invoke/VarHandle" ∧ (parseMethodDescriptor yX10_givenBy.desc).map (fun d => d.parameters.length) = some 2 := by decide +kernel
theorem cd_X10_goTo : yX10_goTo.cls = RX10 ∧ yX10_goTo.cls ≠ "java/lang/invoke/MethodHandle" ∧ yX10_goTo.cls ≠ "java/lang/invoke/VarHandle" ∧ (parseMethodDescriptor yX10_goTo.desc).map (fun d => d.parameters.length) = some 1 := by decide +kernel
theorem cd_X10_lightOf : yX10_lightOf.cls = RX10 ∧ yX10_lightOf.cls ≠ "java/lang/invoke/MethodHandle" ∧ yX10_lightOf.cls ≠ "java/lang/invoke/VarHandle" ∧ (parseMethodDescriptor yX10_lightOf.desc).map (fun d => d.parameters.length) = some 2 := by decide +kernel
theorem cd_X10_standsIn : yX10_standsIn.cls = RX10 ∧ yX10_standsIn.cls ≠ "java/lang/invoke/MethodHandle" ∧ yX10_standsIn.cls ≠ "java/lang/invoke/VarHandle" ∧ (parseMethodDescriptor yX10_standsIn.desc).map (fun d => d.parameters.length) = some 2 := by decide +kernel
abbrev rmX10_standsIn : Room := { frames := 0, cells := 0, slots := 0, locals := 0 }
set_option maxHeartbeats 4000000 in
set_option maxRecDepth 100000 in
theorem c_X10_standsIn (lL : Launch) (D : va_G) (cI cS : ClassId) (J : Co) (M : Mv) (m0 : Nat) (a1 : Nat) (a3 : Nat) (a5 : Nat) (a6 : Nat) (a7 : Nat) (a13 : Nat) (a14 : Nat) (a15 : Nat) (a16 : Nat) (a18 : Nat) (a19 : Nat) (a20 : Nat) (a21 : Nat) (a22 : Nat) (a23 : Nat) (a24 : Nat) (a25 : Nat) (a27 : Nat) (a28 : Nat) (a29 : Nat) (a30 : Nat) (a31 : Nat) (a32 : Nat) (a33 : Nat) (a34 : Nat) (i0 : Int32) (i2 : Int32) (i4 : Int32) (i8 : Int32) (i9 : Int32) (i10 : Int32) (i11 : Int32) (i12 : Int32) (i26 : Int32) (i35 : Int32) (st : Nat → Int32) (mo : Nat → Int32) (mi : Nat → Int32) (mt : Nat → Int32) (k : Nat) (w : Nat) (hJ : okC J) (hM : ok9 J M) (hst : ∀ k, k < cLa J → st k = nI (cSt J k)) (hrM : repM M mo mi mt) (hk : k < cLa J) (hw : w < 24) : Met lL yX10_standsIn wsX10_standsIn rmX10_standsIn (va_Pc [.ref m0, .int (nI k), .int (nI w)] (kBp D cI cS [(m0, .inr (9, [.int i0, .ref a1, .int i2, .ref a3, .int i4, .ref a5, .ref a6, .ref a7, .int i8, .int i9, .int i10, .int i11, .int i12, .ref a13, .ref a14, .ref a15, .ref a16, .int (nI (mN M)), .ref a18, .ref a19, .ref a20, .ref a21, .ref a22, .ref a23, .ref a24, .ref a25, .int i26, .ref a27, .ref a28, .ref a29, .ref a30, .ref a31, .ref a32, .ref a33, .ref a34, .int i35])), (a6, .inl (cI, 4, .inl st)), (a18, .inl (cI, 9, .inl mo)), (a19, .inl (cI, 9, .inl mi)), (a20, .inl (cI, 9, .inl mt))])) (vp_Si (fun r : Int32 => r = nI (plc M (cSt J) k w))) 0 0 (fun _ => False) := by
  refine Met.ofW (cc := cX10_standsIn) (maxL := 6) (ret := (some .int)) (by decide) rfl ?_
  intro pP eE sS mM args below meth cC s₁ B hml hv
  obtain ⟨rfl, hP, hK⟩ := hv
  have hx := B.exec
  have hb := B.bytes
  have hr := B.returns
  have hts := atoms_spec (ws := wsX10_standsIn) B.pre
  have hown : sS.vm.findClass RX10 = some mM.cls := findClass_of_methodNamed B.named
  have hlocks := B.notSynchronized
  have hP : va_P D vwCl [(m0, .inr (9, [.int i0, .ref a1, .int i2, .ref a3, .int i4, .ref a5, .ref a6, .ref a7, .int i8, .int i9, .int i10, .int i11, .int i12, .ref a13, .ref a14, .ref a15, .ref a16, .int (nI (mN M)), .ref a18, .ref a19, .ref a20, .ref a21, .ref a22, .ref a23, .ref a24, .ref a25, .int i26, .ref a27, .ref a28, .ref a29, .ref a30, .ref a31, .ref a32, .ref a33, .ref a34, .int i35])), (a6, .inl (cI, 4, .inl st)), (a18, .inl (cI, 9, .inl mo)), (a19, .inl (cI, 9, .inl mi)), (a20, .inl (cI, 9, .inl mt))] sS.heap := hP
  have hf_19 := hts (.fieldLink RX10 19 "OldLampsModel" "stoodAt" "[I") (List.mem_of_getElem? (i := 1) rfl)
  have hf_37 := hts (.fieldLink RX10 37 "OldLampsModel" "moveOf" "[I") (List.mem_of_getElem? (i := 3) rfl)
  have hf_40 := hts (.fieldLink RX10 40 "OldLampsModel" "moveIn" "[I") (List.mem_of_getElem? (i := 4) rfl)
  have hf_43 := hts (.fieldLink RX10 43 "OldLampsModel" "moveTo" "[I") (List.mem_of_getElem? (i := 5) rfl)
  have hf_161 := hts (.fieldLink RX10 161 "OldLampsModel" "movesNow" "I") (List.mem_of_getElem? (i := 2) rfl)
  have hwX10 : ∀ w ∈ wsX100, w ∈ wsX10_standsIn := fun _ h => List.mem_cons_of_mem _ (List.mem_append_right _ h)
  have hl := lv_entry ([.ref m0, .int (nI k), .int (nI w)]) (n := 6) (Nat.le_of_ble_eq_true rfl)
  rw [lg_entry_eq]
  generalize (lg_sl ([.ref m0, .int (nI k), .int (nI w)]) ++ List.replicate (6 - (lg_sl ([.ref m0, .int (nI k), .int (nI w)])).length) Slot.unset).toArray = ls at hl ⊢
  have hl : lv_has ls 6 [(0, .ref m0), (1, .int (nI k)), (2, .int (nI w))] := hl
  obtain ⟨QQ, hQQ⟩ : ∃ QQ : State → Prop, QQ = MQ below (vp_Si (fun r : Int32 => r = nI (plc M (cSt J) k w))) ([.ref m0, .int (nI k), .int (nI w)]).toArray sS 0 0 (fun _ => False) := ⟨_, rfl⟩
  refine kk_QQ hQQ.symm ?_
  obtain ⟨hJ1, hJ2, hJ3, hJ4, hJ5, hJ6, hJ7, hJ8⟩ := id hJ
  obtain ⟨hM1, hM2⟩ := id hM
  refine lv_aload_n hx hb dX10_standsIn_0 rfl (lv_at hl 0 rfl) ?_
  refine va_get (D := D) (ci := 9) (v := .ref a6) (C := RX10) (T := TX10) (N := 36) hx hb hts hwX10 hown hK hP 0 rfl rfl 6 (by decide) hf_19 (fun _ h9 => h9) rfl dX10_standsIn_1 ?_
  refine lv_iload_n hx hb dX10_standsIn_4 rfl (lv_at hl 1 rfl) ?_
  refine kk_iald hx hb hK hP 1 rfl rfl (i := k) (by omega) (by decide) dX10_standsIn_5 ?_
  refine kk_top (y := nI (cSt J k)) (hst k hk) ?_
  refine lv_istore_n (lv' := [(3, .int (nI (cSt J k))), (0, .ref m0), (1, .int (nI k)), (2, .int (nI w))]) hx hb dX10_standsIn_6 rfl hl (by decide) rfl (fun ls hl => ?_)
  refine lv_iconst (v := (-1 : Int32)) hx hb dX10_standsIn_7 (by decide +kernel) ?_
  refine lv_istore (lv' := [(4, .int (-1 : Int32)), (3, .int (nI (cSt J k))), (0, .ref m0), (1, .int (nI k)), (2, .int (nI w))]) hx hb dX10_standsIn_8 hl (by decide) rfl (fun ls hl => ?_)
  refine lv_iconst (v := nI 0) hx hb dX10_standsIn_10 (by decide +kernel) ?_
  refine lv_istore (lv' := [(5, .int (nI 0)), (4, .int (-1 : Int32)), (3, .int (nI (cSt J k))), (0, .ref m0), (1, .int (nI k)), (2, .int (nI w))]) hx hb dX10_standsIn_11 hl (by decide) rfl (fun ls hl => ?_)
  have L_13 : ∀ (n_13 : Nat) (i : Nat), (i ≤ mN M) → mN M + 1 ≤ i + n_13 → ∀ (ls : Array Slot), lv_has ls 6 [(5, .int (nI i)), (4, .int (snI (stP M (cSt J) k w i).2)), (3, .int (nI ((stP M (cSt J) k w i).1))), (0, .ref m0), (1, .int (nI k)), (2, .int (nI w))] → W pP lL eE (headSpec wsX10_standsIn rmX10_standsIn).room sS mM ([.ref m0, .int (nI k), .int (nI w)]).toArray below meth cC sS.heap [] 0 0 QQ (F0 mM 13 ls []) := by
    intro n_13
    induction n_13 with
    | zero =>
      intro i hi hn_13 ls hl
      exact absurd hn_13 (by omega)
    | succ n_13 ih_13 =>
      intro i hi hn_13 ls hl
      have hsi := (stP_inv M (cSt J) k w i).2.1
      refine lv_iload hx hb dX10_standsIn_13 (lv_at hl 0 rfl) ?_
      refine lv_aload_n hx hb dX10_standsIn_15 rfl (lv_at hl 3 rfl) ?_
      refine va_get (D := D) (ci := 9) (v := .int (nI (mN M))) (C := RX10) (T := TX10) (N := 36) hx hb hts hwX10 hown hK hP 0 rfl rfl 17 (by decide) hf_161 (fun _ h9 => h9) rfl dX10_standsIn_16 ?_
      refine kk_icmp_ge (tgt := 79) hx hb dX10_standsIn_19 (by decide) (by omega) (by omega) (fun c_1 => ?_) (fun c_1 => ?_)
      · skip
        refine lv_iload_n hx hb dX10_standsIn_79 rfl (lv_at hl 2 rfl) ?_
        have hq : nI ((stP M (cSt J) k w i).1) = nI (plc M (cSt J) k w) := by rw [← stP_plc M (cSt J) k w, show i = mN M by omega]
        refine kk_QQ hQQ ?_
        exact W.iret (v := nI ((stP M (cSt J) k w i).1)) hx hb hr (fun t ht hW => ⟨nI ((stP M (cSt J) k w i).1), rfl, hq, ht⟩) (fun q h => by cases h) dX10_standsIn_80
      · skip
        refine lv_aload_n hx hb dX10_standsIn_22 rfl (lv_at hl 3 rfl) ?_
        refine va_get (D := D) (ci := 9) (v := .ref a18) (C := RX10) (T := TX10) (N := 36) hx hb hts hwX10 hown hK hP 0 rfl rfl 18 (by decide) hf_37 (fun _ h9 => h9) rfl dX10_standsIn_23 ?_
        refine lv_iload hx hb dX10_standsIn_26 (lv_at hl 0 rfl) ?_
        refine kk_iald hx hb hK hP 2 rfl rfl (i := i) (by omega) (by decide) dX10_standsIn_28 ?_
        refine kk_top (y := nI (mW M i)) ((hrM i (by omega)).1) ?_
        have hmi := hM2 i (by omega)
        refine lv_iload_n hx hb dX10_standsIn_29 rfl (lv_at hl 4 rfl) ?_
        refine kk_icmp_ne (tgt := 73) hx hb dX10_standsIn_30 (by decide) (by omega) (by omega) (fun c_2 => ?_) (fun c_2 => ?_)
        · skip
          have e_3 : nI ((stP M (cSt J) k w i).1) = nI ((stP M (cSt J) k w (i + 1)).1) := by
            congr 1
            rw [stP_s, if_neg (by omega)]
          rw [e_3] at hl
          have e_4 : snI (stP M (cSt J) k w i).2 = snI (stP M (cSt J) k w (i + 1)).2 := by
            rw [stP_s, if_neg (by omega)]
          rw [e_4] at hl
          refine lv_iinc (v := nI (i + 1)) (lv' := [(5, .int (nI (i + 1))), (4, .int (snI (stP M (cSt J) k w (i + 1)).2)), (3, .int (nI ((stP M (cSt J) k w (i + 1)).1))), (0, .ref m0), (1, .int (nI k)), (2, .int (nI w))]) hx hb dX10_standsIn_73 hl (k := 0) rfl (nI_add i 1) (by decide) rfl (fun ls hl => ?_)
          refine lv_goto (tgt := 13) hx hb dX10_standsIn_76 (by decide) ?_
          have o_5 : (i + 1) ≤ mN M := by omega
          have o_6 : mN M + 1 ≤ (i + 1) + n_13 := by omega
          exact ih_13 (i + 1) o_5 o_6 ls (lv_sub hl [0, 1, 2, 3, 4, 5] rfl)
        · skip
          refine lv_aload_n hx hb dX10_standsIn_33 rfl (lv_at hl 3 rfl) ?_
          refine va_get (D := D) (ci := 9) (v := .ref a19) (C := RX10) (T := TX10) (N := 36) hx hb hts hwX10 hown hK hP 0 rfl rfl 19 (by decide) hf_40 (fun _ h9 => h9) rfl dX10_standsIn_34 ?_
          refine lv_iload hx hb dX10_standsIn_37 (lv_at hl 0 rfl) ?_
          refine kk_iald hx hb hK hP 3 rfl rfl (i := i) (by omega) (by decide) dX10_standsIn_39 ?_
          refine kk_top (y := nI (mT M i)) ((hrM i (by omega)).2.1) ?_
          refine lv_iload_n hx hb dX10_standsIn_40 rfl (lv_at hl 5 rfl) ?_
          refine kk_icmp_gt (tgt := 73) hx hb dX10_standsIn_41 (by decide) (by omega) (by omega) (fun c_7 => ?_) (fun c_7 => ?_)
          · skip
            have e_8 : nI ((stP M (cSt J) k w i).1) = nI ((stP M (cSt J) k w (i + 1)).1) := by
              congr 1
              rw [stP_s, if_neg (by omega)]
            rw [e_8] at hl
            have e_9 : snI (stP M (cSt J) k w i).2 = snI (stP M (cSt J) k w (i + 1)).2 := by
              rw [stP_s, if_neg (by omega)]
            rw [e_9] at hl
            refine lv_iinc (v := nI (i + 1)) (lv' := [(5, .int (nI (i + 1))), (4, .int (snI (stP M (cSt J) k w (i + 1)).2)), (3, .int (nI ((stP M (cSt J) k w (i + 1)).1))), (0, .ref m0), (1, .int (nI k)), (2, .int (nI w))]) hx hb dX10_standsIn_73 hl (k := 0) rfl (nI_add i 1) (by decide) rfl (fun ls hl => ?_)
            refine lv_goto (tgt := 13) hx hb dX10_standsIn_76 (by decide) ?_
            have o_10 : (i + 1) ≤ mN M := by omega
            have o_11 : mN M + 1 ≤ (i + 1) + n_13 := by omega
            exact ih_13 (i + 1) o_10 o_11 ls (lv_sub hl [0, 1, 2, 3, 4, 5] rfl)
          · skip
            refine lv_aload_n hx hb dX10_standsIn_44 rfl (lv_at hl 3 rfl) ?_
            refine va_get (D := D) (ci := 9) (v := .ref a19) (C := RX10) (T := TX10) (N := 36) hx hb hts hwX10 hown hK hP 0 rfl rfl 19 (by decide) hf_40 (fun _ h9 => h9) rfl dX10_standsIn_45 ?_
            refine lv_iload hx hb dX10_standsIn_48 (lv_at hl 0 rfl) ?_
            refine kk_iald hx hb hK hP 3 rfl rfl (i := i) (by omega) (by decide) dX10_standsIn_50 ?_
            refine kk_top (y := nI (mT M i)) ((hrM i (by omega)).2.1) ?_
            refine lv_iload hx hb dX10_standsIn_51 (lv_at hl 1 rfl) ?_
            refine lv_icmp_lt (tgt := 73) hx hb dX10_standsIn_53 (by decide) (fun c_12 => ?_) (fun c_12 => ?_)
            · skip
              rw [snI_lt (by omega) (by omega)] at c_12
              have e_13 : nI ((stP M (cSt J) k w i).1) = nI ((stP M (cSt J) k w (i + 1)).1) := by
                congr 1
                rw [stP_s, if_neg (by omega)]
              rw [e_13] at hl
              have e_14 : snI (stP M (cSt J) k w i).2 = snI (stP M (cSt J) k w (i + 1)).2 := by
                rw [stP_s, if_neg (by omega)]
              rw [e_14] at hl
              refine lv_iinc (v := nI (i + 1)) (lv' := [(5, .int (nI (i + 1))), (4, .int (snI (stP M (cSt J) k w (i + 1)).2)), (3, .int (nI ((stP M (cSt J) k w (i + 1)).1))), (0, .ref m0), (1, .int (nI k)), (2, .int (nI w))]) hx hb dX10_standsIn_73 hl (k := 0) rfl (nI_add i 1) (by decide) rfl (fun ls hl => ?_)
              refine lv_goto (tgt := 13) hx hb dX10_standsIn_76 (by decide) ?_
              have o_15 : (i + 1) ≤ mN M := by omega
              have o_16 : mN M + 1 ≤ (i + 1) + n_13 := by omega
              exact ih_13 (i + 1) o_15 o_16 ls (lv_sub hl [0, 1, 2, 3, 4, 5] rfl)
            · skip
              rw [snI_lt (by omega) (by omega)] at c_12
              refine lv_aload_n hx hb dX10_standsIn_56 rfl (lv_at hl 3 rfl) ?_
              refine va_get (D := D) (ci := 9) (v := .ref a19) (C := RX10) (T := TX10) (N := 36) hx hb hts hwX10 hown hK hP 0 rfl rfl 19 (by decide) hf_40 (fun _ h9 => h9) rfl dX10_standsIn_57 ?_
              refine lv_iload hx hb dX10_standsIn_60 (lv_at hl 0 rfl) ?_
              refine kk_iald hx hb hK hP 3 rfl rfl (i := i) (by omega) (by decide) dX10_standsIn_62 ?_
              refine kk_top (y := nI (mT M i)) ((hrM i (by omega)).2.1) ?_
              refine lv_istore (lv' := [(4, .int (nI (mT M i))), (5, .int (nI i)), (3, .int (nI ((stP M (cSt J) k w i).1))), (0, .ref m0), (1, .int (nI k)), (2, .int (nI w))]) hx hb dX10_standsIn_63 hl (by decide) rfl (fun ls hl => ?_)
              refine lv_aload_n hx hb dX10_standsIn_65 rfl (lv_at hl 3 rfl) ?_
              refine va_get (D := D) (ci := 9) (v := .ref a20) (C := RX10) (T := TX10) (N := 36) hx hb hts hwX10 hown hK hP 0 rfl rfl 20 (by decide) hf_43 (fun _ h9 => h9) rfl dX10_standsIn_66 ?_
              refine lv_iload hx hb dX10_standsIn_69 (lv_at hl 1 rfl) ?_
              refine kk_iald hx hb hK hP 4 rfl rfl (i := i) (by omega) (by decide) dX10_standsIn_71 ?_
              refine kk_top (y := nI (mV M i)) ((hrM i (by omega)).2.2) ?_
              refine lv_istore_n (lv' := [(3, .int (nI (mV M i))), (4, .int (nI (mT M i))), (5, .int (nI i)), (0, .ref m0), (1, .int (nI k)), (2, .int (nI w))]) hx hb dX10_standsIn_72 rfl hl (by decide) rfl (fun ls hl => ?_)
              have e_17 : nI (mV M i) = nI ((stP M (cSt J) k w (i + 1)).1) := by
                congr 1
                rw [stP_s, if_pos ⟨by omega, by omega, by omega⟩]
              rw [e_17] at hl
              have e_18 : nI (mT M i) = snI (stP M (cSt J) k w (i + 1)).2 := by
                rw [stP_s, if_pos ⟨by omega, by omega, by omega⟩]; rfl
              rw [e_18] at hl
              refine lv_iinc (v := nI (i + 1)) (lv' := [(5, .int (nI (i + 1))), (3, .int (nI ((stP M (cSt J) k w (i + 1)).1))), (4, .int (snI (stP M (cSt J) k w (i + 1)).2)), (0, .ref m0), (1, .int (nI k)), (2, .int (nI w))]) hx hb dX10_standsIn_73 hl (k := 2) rfl (nI_add i 1) (by decide) rfl (fun ls hl => ?_)
              refine lv_goto (tgt := 13) hx hb dX10_standsIn_76 (by decide) ?_
              have o_19 : (i + 1) ≤ mN M := by omega
              have o_20 : mN M + 1 ≤ (i + 1) + n_13 := by omega
              exact ih_13 (i + 1) o_19 o_20 ls (lv_sub hl [0, 2, 1, 3, 4, 5] rfl)
  have o_21 : 0 ≤ mN M := by omega
  have o_22 : mN M + 1 ≤ 0 + (mN M + 1) := by omega
  exact L_13 (mN M + 1) 0 o_21 o_22 ls (lv_sub hl [0, 1, 2, 3, 4, 5] rfl)

abbrev rmX10_byDay : Room := { frames := 0, cells := 0, slots := 0, locals := 0 }
set_option maxHeartbeats 4000000 in
set_option maxRecDepth 100000 in
theorem c_X10_byDay (lL : Launch) (D : va_G) (cI cS : ClassId) (J : Co) (m0 : Nat) (a1 : Nat) (a3 : Nat) (a5 : Nat) (a6 : Nat) (a7 : Nat) (a13 : Nat) (a14 : Nat) (a15 : Nat) (a16 : Nat) (a18 : Nat) (a19 : Nat) (a20 : Nat) (a21 : Nat) (a22 : Nat) (a23 : Nat) (a24 : Nat) (a25 : Nat) (a27 : Nat) (a28 : Nat) (a29 : Nat) (a30 : Nat) (a31 : Nat) (a32 : Nat) (a33 : Nat) (a34 : Nat) (i0 : Int32) (i2 : Int32) (i4 : Int32) (i8 : Int32) (i9 : Int32) (i10 : Int32) (i11 : Int32) (i12 : Int32) (i17 : Int32) (i26 : Int32) (i35 : Int32) (sk : Nat → Int32) (sh : Nat → Int32) (cl : Nat → Int32) (s : Nat) (w : Nat) (hJ : okC J) (hrB : repB J sk sh cl) (hs : s < cSp J) (hw : w < 24) : Met lL yX10_byDay wsX10_byDay rmX10_byDay (va_Pc [.ref m0, .int (nI s), .int (nI w)] (kBp D cI cS [(m0, .inr (9, [.int i0, .ref a1, .int i2, .ref a3, .int i4, .ref a5, .ref a6, .ref a7, .int i8, .int i9, .int i10, .int i11, .int i12, .ref a13, .ref a14, .ref a15, .ref a16, .int i17, .ref a18, .ref a19, .ref a20, .ref a21, .ref a22, .ref a23, .ref a24, .ref a25, .int i26, .ref a27, .ref a28, .ref a29, .ref a30, .ref a31, .ref a32, .ref a33, .ref a34, .int i35])), (a1, .inl (cI, 6, .inl sk)), (a3, .inl (cI, 4, .inl sh)), (a7, .inl (cI, 4, .inl cl))])) (vp_Si (fun r : Int32 => r = nI (day J s w))) 0 0 (fun _ => False) := by
  refine Met.ofW (cc := cX10_byDay) (maxL := 4) (ret := (some .int)) (by decide) rfl ?_
  intro pP eE sS mM args below meth cC s₁ B hml hv
  obtain ⟨rfl, hP, hK⟩ := hv
  have hx := B.exec
  have hb := B.bytes
  have hr := B.returns
  have hts := atoms_spec (ws := wsX10_byDay) B.pre
  have hown : sS.vm.findClass RX10 = some mM.cls := findClass_of_methodNamed B.named
  have hlocks := B.notSynchronized
  have hP : va_P D vwCl [(m0, .inr (9, [.int i0, .ref a1, .int i2, .ref a3, .int i4, .ref a5, .ref a6, .ref a7, .int i8, .int i9, .int i10, .int i11, .int i12, .ref a13, .ref a14, .ref a15, .ref a16, .int i17, .ref a18, .ref a19, .ref a20, .ref a21, .ref a22, .ref a23, .ref a24, .ref a25, .int i26, .ref a27, .ref a28, .ref a29, .ref a30, .ref a31, .ref a32, .ref a33, .ref a34, .int i35])), (a1, .inl (cI, 6, .inl sk)), (a3, .inl (cI, 4, .inl sh)), (a7, .inl (cI, 4, .inl cl))] sS.heap := hP
  have hf_7 := hts (.fieldLink RX10 7 "OldLampsModel" "skyOf" "[I") (List.mem_of_getElem? (i := 1) rfl)
  have hf_13 := hts (.fieldLink RX10 13 "OldLampsModel" "shadeOf" "[I") (List.mem_of_getElem? (i := 2) rfl)
  have hf_22 := hts (.fieldLink RX10 22 "OldLampsModel" "cloudOf" "[I") (List.mem_of_getElem? (i := 3) rfl)
  have hwX10 : ∀ w ∈ wsX100, w ∈ wsX10_byDay := fun _ h => List.mem_cons_of_mem _ (List.mem_append_right _ h)
  have hl := lv_entry ([.ref m0, .int (nI s), .int (nI w)]) (n := 4) (Nat.le_of_ble_eq_true rfl)
  rw [lg_entry_eq]
  generalize (lg_sl ([.ref m0, .int (nI s), .int (nI w)]) ++ List.replicate (4 - (lg_sl ([.ref m0, .int (nI s), .int (nI w)])).length) Slot.unset).toArray = ls at hl ⊢
  have hl : lv_has ls 4 [(0, .ref m0), (1, .int (nI s)), (2, .int (nI w))] := hl
  obtain ⟨QQ, hQQ⟩ : ∃ QQ : State → Prop, QQ = MQ below (vp_Si (fun r : Int32 => r = nI (day J s w))) ([.ref m0, .int (nI s), .int (nI w)]).toArray sS 0 0 (fun _ => False) := ⟨_, rfl⟩
  refine kk_QQ hQQ.symm ?_
  obtain ⟨hJ1, hJ2, hJ3, hJ4, hJ5, hJ6, hJ7, hJ8⟩ := id hJ
  have b1 := hJ5 (w % 6) (by omega)
  have b2 := hJ7 s hs
  have b3 := hJ8 (w / 6) (by omega)
  refine lv_aload_n hx hb dX10_byDay_0 rfl (lv_at hl 0 rfl) ?_
  refine va_get (D := D) (ci := 9) (v := .ref a1) (C := RX10) (T := TX10) (N := 36) hx hb hts hwX10 hown hK hP 0 rfl rfl 1 (by decide) hf_7 (fun _ h9 => h9) rfl dX10_byDay_1 ?_
  refine lv_iload_n hx hb dX10_byDay_4 rfl (lv_at hl 2 rfl) ?_
  refine lv_bipush (v := nI 6) hx hb dX10_byDay_5 (by decide +kernel) ?_
  refine kk_irem hx hb dX10_byDay_7 (by omega) (by omega) (by omega) ?_
  refine kk_iald hx hb hK hP 1 rfl rfl (i := w % 6) (by omega) (by decide) dX10_byDay_8 ?_
  refine kk_top (y := nI (cSk J (w % 6))) (hrB.1 (w % 6) (by omega)) ?_
  refine lv_aload_n hx hb dX10_byDay_9 rfl (lv_at hl 0 rfl) ?_
  refine va_get (D := D) (ci := 9) (v := .ref a3) (C := RX10) (T := TX10) (N := 36) hx hb hts hwX10 hown hK hP 0 rfl rfl 3 (by decide) hf_13 (fun _ h9 => h9) rfl dX10_byDay_10 ?_
  refine lv_iload_n hx hb dX10_byDay_13 rfl (lv_at hl 1 rfl) ?_
  refine kk_iald hx hb hK hP 2 rfl rfl (i := s) (by omega) (by decide) dX10_byDay_14 ?_
  refine kk_top (y := nI (cSh J s)) (hrB.2.1 s hs) ?_
  refine lv_isub hx hb dX10_byDay_15 ?_
  refine lv_aload_n hx hb dX10_byDay_16 rfl (lv_at hl 0 rfl) ?_
  refine va_get (D := D) (ci := 9) (v := .ref a7) (C := RX10) (T := TX10) (N := 36) hx hb hts hwX10 hown hK hP 0 rfl rfl 7 (by decide) hf_22 (fun _ h9 => h9) rfl dX10_byDay_17 ?_
  refine lv_iload_n hx hb dX10_byDay_20 rfl (lv_at hl 2 rfl) ?_
  refine lv_bipush (v := nI 6) hx hb dX10_byDay_21 (by decide +kernel) ?_
  refine kk_idiv hx hb dX10_byDay_23 (by omega) (by omega) (by omega) ?_
  refine kk_iald hx hb hK hP 3 rfl rfl (i := w / 6) (by omega) (by decide) dX10_byDay_24 ?_
  refine kk_top (y := nI (cCl J (w / 6))) (hrB.2.2 (w / 6) (by omega)) ?_
  refine lv_isub hx hb dX10_byDay_25 ?_
  refine lv_istore_n (lv' := [(3, .int (((nI (cSk J (w % 6))) - (nI (cSh J s))) - (nI (cCl J (w / 6))))), (0, .ref m0), (1, .int (nI s)), (2, .int (nI w))]) hx hb dX10_byDay_26 rfl hl (by decide) rfl (fun ls hl => ?_)
  refine lv_iload_n hx hb dX10_byDay_27 rfl (lv_at hl 0 rfl) ?_
  refine lv_if_ge (tgt := 35) hx hb dX10_byDay_28 (by decide) (fun c_1 => ?_) (fun c_1 => ?_)
  · skip
    refine lv_iload_n hx hb dX10_byDay_35 rfl (lv_at hl 0 rfl) ?_
    have hq : ((nI (cSk J (w % 6))) - (nI (cSh J s))) - (nI (cCl J (w / 6))) = nI (day J s w) := by exact (kk_day2 (cSk J (w % 6)) (by omega) (cSh J s) (by omega) (cCl J (w / 6)) (by omega)).2 (Int32.not_lt.mpr c_1)
    refine kk_QQ hQQ ?_
    exact W.iret (v := ((nI (cSk J (w % 6))) - (nI (cSh J s))) - (nI (cCl J (w / 6)))) hx hb hr (fun t ht hW => ⟨((nI (cSk J (w % 6))) - (nI (cSh J s))) - (nI (cCl J (w / 6))), rfl, hq, ht⟩) (fun q h => by cases h) dX10_byDay_36
  · skip
    refine lv_iconst (v := nI 0) hx hb dX10_byDay_31 (by decide +kernel) ?_
    refine lv_goto (tgt := 36) hx hb dX10_byDay_32 (by decide) ?_
    have hq : nI 0 = nI (day J s w) := by exact congrArg nI ((kk_day2 (cSk J (w % 6)) (by omega) (cSh J s) (by omega) (cCl J (w / 6)) (by omega)).1 (Int32.not_le.mp c_1)).symm
    refine kk_QQ hQQ ?_
    exact W.iret (v := nI 0) hx hb hr (fun t ht hW => ⟨nI 0, rfl, hq, ht⟩) (fun q h => by cases h) dX10_byDay_36

abbrev rmX10_givenBy : Room := { frames := 0, cells := 0, slots := 0, locals := 0 }
set_option maxHeartbeats 4000000 in
set_option maxRecDepth 100000 in
theorem c_X10_givenBy (lL : Launch) (D : va_G) (cI cS : ClassId) (m0 : Nat) (a1 : Nat) (a3 : Nat) (a5 : Nat) (a6 : Nat) (a7 : Nat) (a13 : Nat) (a14 : Nat) (a15 : Nat) (a16 : Nat) (a18 : Nat) (a19 : Nat) (a20 : Nat) (a21 : Nat) (a22 : Nat) (a23 : Nat) (a24 : Nat) (a25 : Nat) (a27 : Nat) (a28 : Nat) (a29 : Nat) (a30 : Nat) (a31 : Nat) (a32 : Nat) (a33 : Nat) (a34 : Nat) (i0 : Int32) (i2 : Int32) (i4 : Int32) (i8 : Int32) (i9 : Int32) (i10 : Int32) (i11 : Int32) (i12 : Int32) (i17 : Int32) (i26 : Int32) (i35 : Int32) (ki : Nat → Int32) (kq : Nat → Nat) (k : Nat) (f : Nat) (hkk : ki k = nI (kq k) ∧ kq k ≤ 2) (hk : k < 4) (hf : f ≤ 999) : Met lL yX10_givenBy wsX10_givenBy rmX10_givenBy (va_Pc [.ref m0, .int (nI k), .int (nI f)] (kBp D cI cS [(m0, .inr (9, [.int i0, .ref a1, .int i2, .ref a3, .int i4, .ref a5, .ref a6, .ref a7, .int i8, .int i9, .int i10, .int i11, .int i12, .ref a13, .ref a14, .ref a15, .ref a16, .int i17, .ref a18, .ref a19, .ref a20, .ref a21, .ref a22, .ref a23, .ref a24, .ref a25, .int i26, .ref a27, .ref a28, .ref a29, .ref a30, .ref a31, .ref a32, .ref a33, .ref a34, .int i35])), (a5, .inl (cI, 4, .inl ki))])) (vp_Si (fun r : Int32 => r = nI (glow (kq k) f))) 0 0 (fun _ => False) := by
  refine Met.ofW (cc := cX10_givenBy) (maxL := 4) (ret := (some .int)) (by decide) rfl ?_
  intro pP eE sS mM args below meth cC s₁ B hml hv
  obtain ⟨rfl, hP, hK⟩ := hv
  have hx := B.exec
  have hb := B.bytes
  have hr := B.returns
  have hts := atoms_spec (ws := wsX10_givenBy) B.pre
  have hown : sS.vm.findClass RX10 = some mM.cls := findClass_of_methodNamed B.named
  have hlocks := B.notSynchronized
  have hP : va_P D vwCl [(m0, .inr (9, [.int i0, .ref a1, .int i2, .ref a3, .int i4, .ref a5, .ref a6, .ref a7, .int i8, .int i9, .int i10, .int i11, .int i12, .ref a13, .ref a14, .ref a15, .ref a16, .int i17, .ref a18, .ref a19, .ref a20, .ref a21, .ref a22, .ref a23, .ref a24, .ref a25, .int i26, .ref a27, .ref a28, .ref a29, .ref a30, .ref a31, .ref a32, .ref a33, .ref a34, .int i35])), (a5, .inl (cI, 4, .inl ki))] sS.heap := hP
  have hf_16 := hts (.fieldLink RX10 16 "OldLampsModel" "kindOf" "[I") (List.mem_of_getElem? (i := 1) rfl)
  have hwX10 : ∀ w ∈ wsX100, w ∈ wsX10_givenBy := fun _ h => List.mem_cons_of_mem _ (List.mem_append_right _ h)
  have hl := lv_entry ([.ref m0, .int (nI k), .int (nI f)]) (n := 4) (Nat.le_of_ble_eq_true rfl)
  rw [lg_entry_eq]
  generalize (lg_sl ([.ref m0, .int (nI k), .int (nI f)]) ++ List.replicate (4 - (lg_sl ([.ref m0, .int (nI k), .int (nI f)])).length) Slot.unset).toArray = ls at hl ⊢
  have hl : lv_has ls 4 [(0, .ref m0), (1, .int (nI k)), (2, .int (nI f))] := hl
  obtain ⟨QQ, hQQ⟩ : ∃ QQ : State → Prop, QQ = MQ below (vp_Si (fun r : Int32 => r = nI (glow (kq k) f))) ([.ref m0, .int (nI k), .int (nI f)]).toArray sS 0 0 (fun _ => False) := ⟨_, rfl⟩
  refine kk_QQ hQQ.symm ?_
  obtain ⟨hkk1, hkk2⟩ := hkk
  refine lv_aload_n hx hb dX10_givenBy_0 rfl (lv_at hl 0 rfl) ?_
  refine va_get (D := D) (ci := 9) (v := .ref a5) (C := RX10) (T := TX10) (N := 36) hx hb hts hwX10 hown hK hP 0 rfl rfl 5 (by decide) hf_16 (fun _ h9 => h9) rfl dX10_givenBy_1 ?_
  refine lv_iload_n hx hb dX10_givenBy_4 rfl (lv_at hl 1 rfl) ?_
  refine kk_iald hx hb hK hP 1 rfl rfl (i := k) (by omega) (by decide) dX10_givenBy_5 ?_
  refine kk_top (y := nI (kq k)) (hkk1) ?_
  refine kk_if_eq (tgt := 13) hx hb dX10_givenBy_6 (by decide) (by omega) (fun c_1 => ?_) (fun c_1 => ?_)
  · skip
    refine lv_iload_n hx hb dX10_givenBy_13 rfl (lv_at hl 2 rfl) ?_
    refine lv_goto (tgt := 20) hx hb dX10_givenBy_14 (by decide) ?_
    refine lv_istore_n (lv' := [(3, .int (nI f)), (0, .ref m0), (1, .int (nI k)), (2, .int (nI f))]) hx hb dX10_givenBy_20 rfl hl (by decide) rfl (fun ls hl => ?_)
    refine lv_aload_n hx hb dX10_givenBy_21 rfl (lv_at hl 1 rfl) ?_
    refine va_get (D := D) (ci := 9) (v := .ref a5) (C := RX10) (T := TX10) (N := 36) hx hb hts hwX10 hown hK hP 0 rfl rfl 5 (by decide) hf_16 (fun _ h9 => h9) rfl dX10_givenBy_22 ?_
    refine lv_iload_n hx hb dX10_givenBy_25 rfl (lv_at hl 2 rfl) ?_
    refine kk_iald hx hb hK hP 1 rfl rfl (i := k) (by omega) (by decide) dX10_givenBy_26 ?_
    refine kk_top (y := nI (kq k)) (hkk1) ?_
    refine lv_iconst (v := nI 2) hx hb dX10_givenBy_27 (by decide +kernel) ?_
    refine kk_icmp_ne (tgt := 37) hx hb dX10_givenBy_28 (by decide) (by omega) (by omega) (fun c_2 => ?_) (fun c_2 => ?_)
    · skip
      refine lv_iload_n hx hb dX10_givenBy_37 rfl (lv_at hl 0 rfl) ?_
      refine lv_istore_n (lv' := [(3, .int (nI f)), (0, .ref m0), (1, .int (nI k)), (2, .int (nI f))]) hx hb dX10_givenBy_38 rfl hl (by decide) rfl (fun ls hl => ?_)
      refine lv_iload_n hx hb dX10_givenBy_39 rfl (lv_at hl 0 rfl) ?_
      refine lv_bipush (v := nI 99) hx hb dX10_givenBy_40 (by decide +kernel) ?_
      refine kk_icmp_le (tgt := 50) hx hb dX10_givenBy_42 (by decide) (by omega) (by omega) (fun c_3 => ?_) (fun c_3 => ?_)
      · skip
        refine lv_iload_n hx hb dX10_givenBy_50 rfl (lv_at hl 0 rfl) ?_
        have hq : nI f = nI (glow (kq k) f) := by
          rw [glow_q hkk2]
          congr 1
          repeat' split
          all_goals omega
        refine kk_QQ hQQ ?_
        exact W.iret (v := nI f) hx hb hr (fun t ht hW => ⟨nI f, rfl, hq, ht⟩) (fun q h => by cases h) dX10_givenBy_51
      · skip
        refine lv_bipush (v := nI 99) hx hb dX10_givenBy_45 (by decide +kernel) ?_
        refine lv_goto (tgt := 51) hx hb dX10_givenBy_47 (by decide) ?_
        have hq : nI 99 = nI (glow (kq k) f) := by
          rw [glow_q hkk2]
          congr 1
          repeat' split
          all_goals omega
        refine kk_QQ hQQ ?_
        exact W.iret (v := nI 99) hx hb hr (fun t ht hW => ⟨nI 99, rfl, hq, ht⟩) (fun q h => by cases h) dX10_givenBy_51
    · skip
      refine lv_iconst (v := nI 2) hx hb dX10_givenBy_31 (by decide +kernel) ?_
      refine lv_iload_n hx hb dX10_givenBy_32 rfl (lv_at hl 0 rfl) ?_
      refine kk_imul hx hb dX10_givenBy_33 ?_
      refine lv_goto (tgt := 38) hx hb dX10_givenBy_34 (by decide) ?_
      refine lv_istore_n (lv' := [(3, .int (nI (2 * f))), (0, .ref m0), (1, .int (nI k)), (2, .int (nI f))]) hx hb dX10_givenBy_38 rfl hl (by decide) rfl (fun ls hl => ?_)
      refine lv_iload_n hx hb dX10_givenBy_39 rfl (lv_at hl 0 rfl) ?_
      refine lv_bipush (v := nI 99) hx hb dX10_givenBy_40 (by decide +kernel) ?_
      refine kk_icmp_le (tgt := 50) hx hb dX10_givenBy_42 (by decide) (by omega) (by omega) (fun c_4 => ?_) (fun c_4 => ?_)
      · skip
        refine lv_iload_n hx hb dX10_givenBy_50 rfl (lv_at hl 0 rfl) ?_
        have hq : nI (2 * f) = nI (glow (kq k) f) := by
          rw [glow_q hkk2]
          congr 1
          repeat' split
          all_goals omega
        refine kk_QQ hQQ ?_
        exact W.iret (v := nI (2 * f)) hx hb hr (fun t ht hW => ⟨nI (2 * f), rfl, hq, ht⟩) (fun q h => by cases h) dX10_givenBy_51
      · skip
        refine lv_bipush (v := nI 99) hx hb dX10_givenBy_45 (by decide +kernel) ?_
        refine lv_goto (tgt := 51) hx hb dX10_givenBy_47 (by decide) ?_
        have hq : nI 99 = nI (glow (kq k) f) := by
          rw [glow_q hkk2]
          congr 1
          repeat' split
          all_goals omega
        refine kk_QQ hQQ ?_
        exact W.iret (v := nI 99) hx hb hr (fun t ht hW => ⟨nI 99, rfl, hq, ht⟩) (fun q h => by cases h) dX10_givenBy_51
  · skip
    refine lv_iload_n hx hb dX10_givenBy_9 rfl (lv_at hl 2 rfl) ?_
    refine kk_if_ne (tgt := 17) hx hb dX10_givenBy_10 (by decide) (by omega) (fun c_5 => ?_) (fun c_5 => ?_)
    · skip
      refine lv_iload_n hx hb dX10_givenBy_17 rfl (lv_at hl 2 rfl) ?_
      refine lv_iconst (v := nI 1) hx hb dX10_givenBy_18 (by decide +kernel) ?_
      refine kk_iadd hx hb dX10_givenBy_19 ?_
      refine lv_istore_n (lv' := [(3, .int (nI (f + 1))), (0, .ref m0), (1, .int (nI k)), (2, .int (nI f))]) hx hb dX10_givenBy_20 rfl hl (by decide) rfl (fun ls hl => ?_)
      refine lv_aload_n hx hb dX10_givenBy_21 rfl (lv_at hl 1 rfl) ?_
      refine va_get (D := D) (ci := 9) (v := .ref a5) (C := RX10) (T := TX10) (N := 36) hx hb hts hwX10 hown hK hP 0 rfl rfl 5 (by decide) hf_16 (fun _ h9 => h9) rfl dX10_givenBy_22 ?_
      refine lv_iload_n hx hb dX10_givenBy_25 rfl (lv_at hl 2 rfl) ?_
      refine kk_iald hx hb hK hP 1 rfl rfl (i := k) (by omega) (by decide) dX10_givenBy_26 ?_
      refine kk_top (y := nI (kq k)) (hkk1) ?_
      refine lv_iconst (v := nI 2) hx hb dX10_givenBy_27 (by decide +kernel) ?_
      refine kk_icmp_ne (tgt := 37) hx hb dX10_givenBy_28 (by decide) (by omega) (by omega) (fun c_6 => ?_) (fun c_6 => ?_)
      · skip
        refine lv_iload_n hx hb dX10_givenBy_37 rfl (lv_at hl 0 rfl) ?_
        refine lv_istore_n (lv' := [(3, .int (nI (f + 1))), (0, .ref m0), (1, .int (nI k)), (2, .int (nI f))]) hx hb dX10_givenBy_38 rfl hl (by decide) rfl (fun ls hl => ?_)
        refine lv_iload_n hx hb dX10_givenBy_39 rfl (lv_at hl 0 rfl) ?_
        refine lv_bipush (v := nI 99) hx hb dX10_givenBy_40 (by decide +kernel) ?_
        refine kk_icmp_le (tgt := 50) hx hb dX10_givenBy_42 (by decide) (by omega) (by omega) (fun c_7 => ?_) (fun c_7 => ?_)
        · skip
          refine lv_iload_n hx hb dX10_givenBy_50 rfl (lv_at hl 0 rfl) ?_
          have hq : nI (f + 1) = nI (glow (kq k) f) := by
            rw [glow_q hkk2]
            congr 1
            repeat' split
            all_goals omega
          refine kk_QQ hQQ ?_
          exact W.iret (v := nI (f + 1)) hx hb hr (fun t ht hW => ⟨nI (f + 1), rfl, hq, ht⟩) (fun q h => by cases h) dX10_givenBy_51
        · skip
          refine lv_bipush (v := nI 99) hx hb dX10_givenBy_45 (by decide +kernel) ?_
          refine lv_goto (tgt := 51) hx hb dX10_givenBy_47 (by decide) ?_
          have hq : nI 99 = nI (glow (kq k) f) := by
            rw [glow_q hkk2]
            congr 1
            repeat' split
            all_goals omega
          refine kk_QQ hQQ ?_
          exact W.iret (v := nI 99) hx hb hr (fun t ht hW => ⟨nI 99, rfl, hq, ht⟩) (fun q h => by cases h) dX10_givenBy_51
      · skip
        refine lv_iconst (v := nI 2) hx hb dX10_givenBy_31 (by decide +kernel) ?_
        refine lv_iload_n hx hb dX10_givenBy_32 rfl (lv_at hl 0 rfl) ?_
        refine kk_imul hx hb dX10_givenBy_33 ?_
        refine lv_goto (tgt := 38) hx hb dX10_givenBy_34 (by decide) ?_
        refine lv_istore_n (lv' := [(3, .int (nI (2 * (f + 1)))), (0, .ref m0), (1, .int (nI k)), (2, .int (nI f))]) hx hb dX10_givenBy_38 rfl hl (by decide) rfl (fun ls hl => ?_)
        refine lv_iload_n hx hb dX10_givenBy_39 rfl (lv_at hl 0 rfl) ?_
        refine lv_bipush (v := nI 99) hx hb dX10_givenBy_40 (by decide +kernel) ?_
        refine kk_icmp_le (tgt := 50) hx hb dX10_givenBy_42 (by decide) (by omega) (by omega) (fun c_8 => ?_) (fun c_8 => ?_)
        · skip
          refine lv_iload_n hx hb dX10_givenBy_50 rfl (lv_at hl 0 rfl) ?_
          have hq : nI (2 * (f + 1)) = nI (glow (kq k) f) := by
            rw [glow_q hkk2]
            congr 1
            repeat' split
            all_goals omega
          refine kk_QQ hQQ ?_
          exact W.iret (v := nI (2 * (f + 1))) hx hb hr (fun t ht hW => ⟨nI (2 * (f + 1)), rfl, hq, ht⟩) (fun q h => by cases h) dX10_givenBy_51
        · skip
          refine lv_bipush (v := nI 99) hx hb dX10_givenBy_45 (by decide +kernel) ?_
          refine lv_goto (tgt := 51) hx hb dX10_givenBy_47 (by decide) ?_
          have hq : nI 99 = nI (glow (kq k) f) := by
            rw [glow_q hkk2]
            congr 1
            repeat' split
            all_goals omega
          refine kk_QQ hQQ ?_
          exact W.iret (v := nI 99) hx hb hr (fun t ht hW => ⟨nI 99, rfl, hq, ht⟩) (fun q h => by cases h) dX10_givenBy_51
    · skip
      refine lv_iload_n hx hb dX10_givenBy_13 rfl (lv_at hl 2 rfl) ?_
      refine lv_goto (tgt := 20) hx hb dX10_givenBy_14 (by decide) ?_
      refine lv_istore_n (lv' := [(3, .int (nI f)), (0, .ref m0), (1, .int (nI k)), (2, .int (nI f))]) hx hb dX10_givenBy_20 rfl hl (by decide) rfl (fun ls hl => ?_)
      refine lv_aload_n hx hb dX10_givenBy_21 rfl (lv_at hl 1 rfl) ?_
      refine va_get (D := D) (ci := 9) (v := .ref a5) (C := RX10) (T := TX10) (N := 36) hx hb hts hwX10 hown hK hP 0 rfl rfl 5 (by decide) hf_16 (fun _ h9 => h9) rfl dX10_givenBy_22 ?_
      refine lv_iload_n hx hb dX10_givenBy_25 rfl (lv_at hl 2 rfl) ?_
      refine kk_iald hx hb hK hP 1 rfl rfl (i := k) (by omega) (by decide) dX10_givenBy_26 ?_
      refine kk_top (y := nI (kq k)) (hkk1) ?_
      refine lv_iconst (v := nI 2) hx hb dX10_givenBy_27 (by decide +kernel) ?_
      refine kk_icmp_ne (tgt := 37) hx hb dX10_givenBy_28 (by decide) (by omega) (by omega) (fun c_9 => ?_) (fun c_9 => ?_)
      · skip
        refine lv_iload_n hx hb dX10_givenBy_37 rfl (lv_at hl 0 rfl) ?_
        refine lv_istore_n (lv' := [(3, .int (nI f)), (0, .ref m0), (1, .int (nI k)), (2, .int (nI f))]) hx hb dX10_givenBy_38 rfl hl (by decide) rfl (fun ls hl => ?_)
        refine lv_iload_n hx hb dX10_givenBy_39 rfl (lv_at hl 0 rfl) ?_
        refine lv_bipush (v := nI 99) hx hb dX10_givenBy_40 (by decide +kernel) ?_
        refine kk_icmp_le (tgt := 50) hx hb dX10_givenBy_42 (by decide) (by omega) (by omega) (fun c_10 => ?_) (fun c_10 => ?_)
        · skip
          refine lv_iload_n hx hb dX10_givenBy_50 rfl (lv_at hl 0 rfl) ?_
          have hq : nI f = nI (glow (kq k) f) := by
            rw [glow_q hkk2]
            congr 1
            repeat' split
            all_goals omega
          refine kk_QQ hQQ ?_
          exact W.iret (v := nI f) hx hb hr (fun t ht hW => ⟨nI f, rfl, hq, ht⟩) (fun q h => by cases h) dX10_givenBy_51
        · skip
          refine lv_bipush (v := nI 99) hx hb dX10_givenBy_45 (by decide +kernel) ?_
          refine lv_goto (tgt := 51) hx hb dX10_givenBy_47 (by decide) ?_
          have hq : nI 99 = nI (glow (kq k) f) := by
            rw [glow_q hkk2]
            congr 1
            repeat' split
            all_goals omega
          refine kk_QQ hQQ ?_
          exact W.iret (v := nI 99) hx hb hr (fun t ht hW => ⟨nI 99, rfl, hq, ht⟩) (fun q h => by cases h) dX10_givenBy_51
      · skip
        refine lv_iconst (v := nI 2) hx hb dX10_givenBy_31 (by decide +kernel) ?_
        refine lv_iload_n hx hb dX10_givenBy_32 rfl (lv_at hl 0 rfl) ?_
        refine kk_imul hx hb dX10_givenBy_33 ?_
        refine lv_goto (tgt := 38) hx hb dX10_givenBy_34 (by decide) ?_
        refine lv_istore_n (lv' := [(3, .int (nI (2 * f))), (0, .ref m0), (1, .int (nI k)), (2, .int (nI f))]) hx hb dX10_givenBy_38 rfl hl (by decide) rfl (fun ls hl => ?_)
        refine lv_iload_n hx hb dX10_givenBy_39 rfl (lv_at hl 0 rfl) ?_
        refine lv_bipush (v := nI 99) hx hb dX10_givenBy_40 (by decide +kernel) ?_
        refine kk_icmp_le (tgt := 50) hx hb dX10_givenBy_42 (by decide) (by omega) (by omega) (fun c_11 => ?_) (fun c_11 => ?_)
        · skip
          refine lv_iload_n hx hb dX10_givenBy_50 rfl (lv_at hl 0 rfl) ?_
          have hq : nI (2 * f) = nI (glow (kq k) f) := by
            rw [glow_q hkk2]
            congr 1
            repeat' split
            all_goals omega
          refine kk_QQ hQQ ?_
          exact W.iret (v := nI (2 * f)) hx hb hr (fun t ht hW => ⟨nI (2 * f), rfl, hq, ht⟩) (fun q h => by cases h) dX10_givenBy_51
        · skip
          refine lv_bipush (v := nI 99) hx hb dX10_givenBy_45 (by decide +kernel) ?_
          refine lv_goto (tgt := 51) hx hb dX10_givenBy_47 (by decide) ?_
          have hq : nI 99 = nI (glow (kq k) f) := by
            rw [glow_q hkk2]
            congr 1
            repeat' split
            all_goals omega
          refine kk_QQ hQQ ?_
          exact W.iret (v := nI 99) hx hb hr (fun t ht hW => ⟨nI 99, rfl, hq, ht⟩) (fun q h => by cases h) dX10_givenBy_51

abbrev rmX10_allGiven : Room := { frames := 1, cells := 0, slots := 0, locals := 25 }
set_option maxHeartbeats 4000000 in
set_option maxRecDepth 100000 in
theorem c_X10_allGiven (lL : Launch) (D : va_G) (cI cS : ClassId) (J : Co) (M : Mv) (wo : Nat) (m0 : Nat) (a1 : Nat) (a3 : Nat) (a5 : Nat) (a6 : Nat) (a7 : Nat) (a13 : Nat) (a14 : Nat) (a15 : Nat) (a16 : Nat) (a18 : Nat) (a19 : Nat) (a20 : Nat) (a21 : Nat) (a22 : Nat) (a23 : Nat) (a24 : Nat) (a25 : Nat) (a27 : Nat) (a28 : Nat) (a29 : Nat) (a30 : Nat) (a31 : Nat) (a32 : Nat) (a33 : Nat) (a34 : Nat) (i0 : Int32) (i2 : Int32) (i8 : Int32) (i9 : Int32) (i10 : Int32) (i11 : Int32) (i12 : Int32) (i26 : Int32) (i35 : Int32) (st : Nat → Int32) (mo : Nat → Int32) (mi : Nat → Int32) (mt : Nat → Int32) (gi : Nat → Int32) (s : Nat) (w : Nat) (b : Nat) (bv : Int32) (hJ : okC J) (hM : ok9 J M) (hst : ∀ k, k < cLa J → st k = nI (cSt J k)) (hrM : repM M mo mi mt) (hwo : ∀ k, k < 4 → (nI k = i9 ↔ k = wo)) (hk3 : wo < cLa J → cKi J wo = 3) (hbv : ∀ j, j < 4 → (nI j = bv ↔ j = b)) (hG : ∀ k, k < cLa J → k ≠ wo → gi (24 * k + w) = nI (Gi J (plc M (cSt J)) w k)) (hs : s < cSp J) (hw : w < 24) : Met lL yX10_allGiven wsX10_allGiven rmX10_allGiven (va_Pc [.ref m0, .int (nI s), .int (nI w), .int bv] (kBp D cI cS [(m0, .inr (9, [.int i0, .ref a1, .int i2, .ref a3, .int (nI (cLa J)), .ref a5, .ref a6, .ref a7, .int i8, .int i9, .int i10, .int i11, .int i12, .ref a13, .ref a14, .ref a15, .ref a16, .int (nI (mN M)), .ref a18, .ref a19, .ref a20, .ref a21, .ref a22, .ref a23, .ref a24, .ref a25, .int i26, .ref a27, .ref a28, .ref a29, .ref a30, .ref a31, .ref a32, .ref a33, .ref a34, .int i35])), (a6, .inl (cI, 4, .inl st)), (a18, .inl (cI, 9, .inl mo)), (a19, .inl (cI, 9, .inl mi)), (a20, .inl (cI, 9, .inl mt)), (a22, .inl (cI, 96, .inl gi))])) (vp_Si (fun r : Int32 => r = nI (gvN J (plc M (cSt J)) s w b (cLa J)))) 0 0 (fun _ => False) := by
  refine Met.ofW (cc := cX10_allGiven) (maxL := 6) (ret := (some .int)) (by decide) rfl ?_
  intro pP eE sS mM args below meth cC s₁ B hml hv
  obtain ⟨rfl, hP, hK⟩ := hv
  have hx := B.exec
  have hb := B.bytes
  have hr := B.returns
  have hts := atoms_spec (ws := wsX10_allGiven) B.pre
  have hown : sS.vm.findClass RX10 = some mM.cls := findClass_of_methodNamed B.named
  have hlocks := B.notSynchronized
  have hP : va_P D vwCl [(m0, .inr (9, [.int i0, .ref a1, .int i2, .ref a3, .int (nI (cLa J)), .ref a5, .ref a6, .ref a7, .int i8, .int i9, .int i10, .int i11, .int i12, .ref a13, .ref a14, .ref a15, .ref a16, .int (nI (mN M)), .ref a18, .ref a19, .ref a20, .ref a21, .ref a22, .ref a23, .ref a24, .ref a25, .int i26, .ref a27, .ref a28, .ref a29, .ref a30, .ref a31, .ref a32, .ref a33, .ref a34, .int i35])), (a6, .inl (cI, 4, .inl st)), (a18, .inl (cI, 9, .inl mo)), (a19, .inl (cI, 9, .inl mi)), (a20, .inl (cI, 9, .inl mt)), (a22, .inl (cI, 96, .inl gi))] sS.heap := hP
  have hf_49 := hts (.fieldLink RX10 49 "OldLampsModel" "givesIn" "[I") (List.mem_of_getElem? (i := 3) rfl)
  have hf_85 := hts (.fieldLink RX10 85 "OldLampsModel" "without" "I") (List.mem_of_getElem? (i := 2) rfl)
  have hf_105 := hts (.fieldLink RX10 105 "OldLampsModel" "lamps" "I") (List.mem_of_getElem? (i := 1) rfl)
  have hwX10 : ∀ w ∈ wsX100, w ∈ wsX10_allGiven := fun _ h => List.mem_cons_of_mem _ (List.mem_append_right _ h)
  have hl := lv_entry ([.ref m0, .int (nI s), .int (nI w), .int bv]) (n := 6) (Nat.le_of_ble_eq_true rfl)
  rw [lg_entry_eq]
  generalize (lg_sl ([.ref m0, .int (nI s), .int (nI w), .int bv]) ++ List.replicate (6 - (lg_sl ([.ref m0, .int (nI s), .int (nI w), .int bv])).length) Slot.unset).toArray = ls at hl ⊢
  have hl : lv_has ls 6 [(0, .ref m0), (1, .int (nI s)), (2, .int (nI w)), (3, .int bv)] := hl
  obtain ⟨QQ, hQQ⟩ : ∃ QQ : State → Prop, QQ = MQ below (vp_Si (fun r : Int32 => r = nI (gvN J (plc M (cSt J)) s w b (cLa J)))) ([.ref m0, .int (nI s), .int (nI w), .int bv]).toArray sS 0 0 (fun _ => False) := ⟨_, rfl⟩
  refine kk_QQ hQQ.symm ?_
  obtain ⟨hJ1, hJ2, hJ3, hJ4, hJ5, hJ6, hJ7, hJ8⟩ := id hJ
  obtain ⟨hM1, hM2⟩ := id hM
  refine lv_iconst (v := nI 0) hx hb dX10_allGiven_0 (by decide +kernel) ?_
  refine lv_istore (lv' := [(4, .int (nI 0)), (0, .ref m0), (1, .int (nI s)), (2, .int (nI w)), (3, .int bv)]) hx hb dX10_allGiven_1 hl (by decide) rfl (fun ls hl => ?_)
  refine lv_iconst (v := nI 0) hx hb dX10_allGiven_3 (by decide +kernel) ?_
  refine lv_istore (lv' := [(5, .int (nI 0)), (4, .int (nI 0)), (0, .ref m0), (1, .int (nI s)), (2, .int (nI w)), (3, .int bv)]) hx hb dX10_allGiven_4 hl (by decide) rfl (fun ls hl => ?_)
  have L_6 : ∀ (n_6 : Nat) (k : Nat), (k ≤ cLa J) → cLa J + 1 ≤ k + n_6 → ∀ (ls : Array Slot), lv_has ls 6 [(5, .int (nI k)), (4, .int (nI (gvN J (plc M (cSt J)) s w b k))), (0, .ref m0), (1, .int (nI s)), (2, .int (nI w)), (3, .int bv)] → W pP lL eE (headSpec wsX10_allGiven rmX10_allGiven).room sS mM ([.ref m0, .int (nI s), .int (nI w), .int bv]).toArray below meth cC sS.heap [] 0 0 QQ (F0 mM 6 ls []) := by
    intro n_6
    induction n_6 with
    | zero =>
      intro k hk hn_6 ls hl
      exact absurd hn_6 (by omega)
    | succ n_6 ih_6 =>
      intro k hk hn_6 ls hl
      refine lv_iload hx hb dX10_allGiven_6 (lv_at hl 0 rfl) ?_
      refine lv_aload_n hx hb dX10_allGiven_8 rfl (lv_at hl 2 rfl) ?_
      refine va_get (D := D) (ci := 9) (v := .int (nI (cLa J))) (C := RX10) (T := TX10) (N := 36) hx hb hts hwX10 hown hK hP 0 rfl rfl 4 (by decide) hf_105 (fun _ h9 => h9) rfl dX10_allGiven_9 ?_
      refine kk_icmp_ge (tgt := 68) hx hb dX10_allGiven_12 (by decide) (by omega) (by omega) (fun c_1 => ?_) (fun c_1 => ?_)
      · skip
        refine lv_iload hx hb dX10_allGiven_68 (lv_at hl 1 rfl) ?_
        have hq : nI (gvN J (plc M (cSt J)) s w b k) = nI (gvN J (plc M (cSt J)) s w b (cLa J)) := by rw [show k = cLa J by omega]
        refine kk_QQ hQQ ?_
        exact W.iret (v := nI (gvN J (plc M (cSt J)) s w b k)) hx hb hr (fun t ht hW => ⟨nI (gvN J (plc M (cSt J)) s w b k), rfl, hq, ht⟩) (fun q h => by cases h) dX10_allGiven_70
      · skip
        refine lv_iload hx hb dX10_allGiven_15 (lv_at hl 1 rfl) ?_
        refine lv_iload hx hb dX10_allGiven_17 (lv_at hl 0 rfl) ?_
        refine lv_iload_n hx hb dX10_allGiven_19 rfl (lv_at hl 5 rfl) ?_
        refine lv_icmp_eq (tgt := 58) hx hb dX10_allGiven_20 (by decide) (fun c_2 => ?_) (fun c_2 => ?_)
        · skip
          have hkb := (hbv k (by omega)).mp c_2
          refine lv_iconst (v := nI 0) hx hb dX10_allGiven_58 (by decide +kernel) ?_
          refine kk_iadd hx hb dX10_allGiven_59 ?_
          refine lv_istore (lv' := [(4, .int (nI ((gvN J (plc M (cSt J)) s w b k) + 0))), (5, .int (nI k)), (0, .ref m0), (1, .int (nI s)), (2, .int (nI w)), (3, .int bv)]) hx hb dX10_allGiven_60 hl (by decide) rfl (fun ls hl => ?_)
          have e_3 : nI ((gvN J (plc M (cSt J)) s w b k) + 0) = nI (gvN J (plc M (cSt J)) s w b (k + 1)) := by
            congr 1
            rw [gvN_s, if_neg (by omega)]
          rw [e_3] at hl
          refine lv_iinc (v := nI (k + 1)) (lv' := [(5, .int (nI (k + 1))), (4, .int (nI (gvN J (plc M (cSt J)) s w b (k + 1)))), (0, .ref m0), (1, .int (nI s)), (2, .int (nI w)), (3, .int bv)]) hx hb dX10_allGiven_62 hl (k := 1) rfl (nI_add k 1) (by decide) rfl (fun ls hl => ?_)
          refine lv_goto (tgt := 6) hx hb dX10_allGiven_65 (by decide) ?_
          have o_4 : (k + 1) ≤ cLa J := by omega
          have o_5 : cLa J + 1 ≤ (k + 1) + n_6 := by omega
          exact ih_6 (k + 1) o_4 o_5 ls (lv_sub hl [0, 1, 2, 3, 4, 5] rfl)
        · skip
          have hkb : ¬ k = b := fun z => c_2 ((hbv k (by omega)).mpr z)
          refine lv_iload hx hb dX10_allGiven_23 (lv_at hl 0 rfl) ?_
          refine lv_aload_n hx hb dX10_allGiven_25 rfl (lv_at hl 2 rfl) ?_
          refine va_get (D := D) (ci := 9) (v := .int i9) (C := RX10) (T := TX10) (N := 36) hx hb hts hwX10 hown hK hP 0 rfl rfl 9 (by decide) hf_85 (fun _ h9 => h9) rfl dX10_allGiven_26 ?_
          refine lv_icmp_eq (tgt := 58) hx hb dX10_allGiven_29 (by decide) (fun c_6 => ?_) (fun c_6 => ?_)
          · skip
            have hkw := (hwo k (by omega)).mp c_6
            refine lv_iconst (v := nI 0) hx hb dX10_allGiven_58 (by decide +kernel) ?_
            refine kk_iadd hx hb dX10_allGiven_59 ?_
            refine lv_istore (lv' := [(4, .int (nI ((gvN J (plc M (cSt J)) s w b k) + 0))), (5, .int (nI k)), (0, .ref m0), (1, .int (nI s)), (2, .int (nI w)), (3, .int bv)]) hx hb dX10_allGiven_60 hl (by decide) rfl (fun ls hl => ?_)
            have e_7 : nI ((gvN J (plc M (cSt J)) s w b k) + 0) = nI (gvN J (plc M (cSt J)) s w b (k + 1)) := by
              congr 1
              rw [gvN_s, Gi_3 (by rw [hkw]; exact hk3 (by omega))]
              split <;> rfl
            rw [e_7] at hl
            refine lv_iinc (v := nI (k + 1)) (lv' := [(5, .int (nI (k + 1))), (4, .int (nI (gvN J (plc M (cSt J)) s w b (k + 1)))), (0, .ref m0), (1, .int (nI s)), (2, .int (nI w)), (3, .int bv)]) hx hb dX10_allGiven_62 hl (k := 1) rfl (nI_add k 1) (by decide) rfl (fun ls hl => ?_)
            refine lv_goto (tgt := 6) hx hb dX10_allGiven_65 (by decide) ?_
            have o_8 : (k + 1) ≤ cLa J := by omega
            have o_9 : cLa J + 1 ≤ (k + 1) + n_6 := by omega
            exact ih_6 (k + 1) o_8 o_9 ls (lv_sub hl [0, 1, 2, 3, 4, 5] rfl)
          · skip
            have hkw : ¬ k = wo := fun z => c_6 ((hwo k (by omega)).mpr z)
            refine lv_aload_n hx hb dX10_allGiven_32 rfl (lv_at hl 2 rfl) ?_
            refine lv_iload hx hb dX10_allGiven_33 (lv_at hl 0 rfl) ?_
            refine lv_iload_n hx hb dX10_allGiven_35 rfl (lv_at hl 4 rfl) ?_
            have hpl := plc_lt9 hJ hM (k := k) (by omega) w
            have o_10 : okC J := by assumption
            have o_11 : ok9 J M := by assumption
            have o_12 : ∀ k, k < cLa J → st k = nI (cSt J k) := by assumption
            have o_13 : repM M mo mi mt := by assumption
            have o_14 : k < cLa J := by omega
            have o_15 : w < 24 := by omega
            refine vp_callSi (W.runV (As := [.int (nI k), .int (nI w)]) (rest := [.int (nI (gvN J (plc M (cSt J)) s w b k))]) ⟨hx, hb, hml, hown, hts⟩ (c_X10_standsIn lL D cI cS J M m0 a1 a3 a5 a6 a7 a13 a14 a15 a16 a18 a19 a20 a21 a22 a23 a24 a25 a27 a28 a29 a30 a31 a32 a33 a34 i0 i2 (nI (cLa J)) i8 i9 i10 i11 i12 i26 i35 st mo mi mt k w o_10 o_11 o_12 o_13 o_14 o_15) (cwV 2 hts gX10_allGiven_X10_standsIn rfl rfl rfl cd_X10_standsIn ⟨Nat.le_of_ble_eq_true rfl, Nat.le_of_ble_eq_true rfl⟩) ⟨kBp_blind, va_recv hK hP (ci := 9) (q0 := 0) rfl rfl, fun U hU hW => ⟨rfl, by rw [hU]; exact hP.sub [0, 1, 2, 3, 4] rfl, va_K.moved hW.alike hK⟩⟩ rfl rfl hl.1 rfl (lv_room (Nat.le_of_ble_eq_true rfl)) dX10_allGiven_36 ⟨Nat.le_of_ble_eq_true rfl, Nat.le_of_ble_eq_true rfl⟩) (fun r_16 hw_16 => ?_)
            obtain rfl : r_16 = nI (plc M (cSt J) k w) := hw_16
            refine lv_iload_n hx hb dX10_allGiven_39 rfl (lv_at hl 3 rfl) ?_
            refine kk_icmp_ne (tgt := 58) hx hb dX10_allGiven_40 (by decide) (by omega) (by omega) (fun c_17 => ?_) (fun c_17 => ?_)
            · skip
              refine lv_iconst (v := nI 0) hx hb dX10_allGiven_58 (by decide +kernel) ?_
              refine kk_iadd hx hb dX10_allGiven_59 ?_
              refine lv_istore (lv' := [(4, .int (nI ((gvN J (plc M (cSt J)) s w b k) + 0))), (5, .int (nI k)), (0, .ref m0), (1, .int (nI s)), (2, .int (nI w)), (3, .int bv)]) hx hb dX10_allGiven_60 hl (by decide) rfl (fun ls hl => ?_)
              have e_18 : nI ((gvN J (plc M (cSt J)) s w b k) + 0) = nI (gvN J (plc M (cSt J)) s w b (k + 1)) := by
                congr 1
                rw [gvN_s, if_neg (by omega)]
              rw [e_18] at hl
              refine lv_iinc (v := nI (k + 1)) (lv' := [(5, .int (nI (k + 1))), (4, .int (nI (gvN J (plc M (cSt J)) s w b (k + 1)))), (0, .ref m0), (1, .int (nI s)), (2, .int (nI w)), (3, .int bv)]) hx hb dX10_allGiven_62 hl (k := 1) rfl (nI_add k 1) (by decide) rfl (fun ls hl => ?_)
              refine lv_goto (tgt := 6) hx hb dX10_allGiven_65 (by decide) ?_
              have o_19 : (k + 1) ≤ cLa J := by omega
              have o_20 : cLa J + 1 ≤ (k + 1) + n_6 := by omega
              exact ih_6 (k + 1) o_19 o_20 ls (lv_sub hl [0, 1, 2, 3, 4, 5] rfl)
            · skip
              refine lv_aload_n hx hb dX10_allGiven_43 rfl (lv_at hl 2 rfl) ?_
              refine va_get (D := D) (ci := 9) (v := .ref a22) (C := RX10) (T := TX10) (N := 36) hx hb hts hwX10 hown hK hP 0 rfl rfl 22 (by decide) hf_49 (fun _ h9 => h9) rfl dX10_allGiven_44 ?_
              refine lv_bipush (v := nI 24) hx hb dX10_allGiven_47 (by decide +kernel) ?_
              refine lv_iload hx hb dX10_allGiven_49 (lv_at hl 0 rfl) ?_
              refine kk_imul hx hb dX10_allGiven_51 ?_
              refine lv_iload_n hx hb dX10_allGiven_52 rfl (lv_at hl 4 rfl) ?_
              refine kk_iadd hx hb dX10_allGiven_53 ?_
              refine kk_iald hx hb hK hP 5 rfl rfl (i := (24 * k) + w) (by omega) (by decide) dX10_allGiven_54 ?_
              refine kk_top (y := nI (Gi J (plc M (cSt J)) w k)) (hG k (by omega) hkw) ?_
              refine lv_goto (tgt := 59) hx hb dX10_allGiven_55 (by decide) ?_
              refine kk_iadd hx hb dX10_allGiven_59 ?_
              refine lv_istore (lv' := [(4, .int (nI ((gvN J (plc M (cSt J)) s w b k) + (Gi J (plc M (cSt J)) w k)))), (5, .int (nI k)), (0, .ref m0), (1, .int (nI s)), (2, .int (nI w)), (3, .int bv)]) hx hb dX10_allGiven_60 hl (by decide) rfl (fun ls hl => ?_)
              have e_21 : nI ((gvN J (plc M (cSt J)) s w b k) + (Gi J (plc M (cSt J)) w k)) = nI (gvN J (plc M (cSt J)) s w b (k + 1)) := by
                congr 1
                rw [gvN_s, if_pos ⟨by omega, by omega⟩]
              rw [e_21] at hl
              refine lv_iinc (v := nI (k + 1)) (lv' := [(5, .int (nI (k + 1))), (4, .int (nI (gvN J (plc M (cSt J)) s w b (k + 1)))), (0, .ref m0), (1, .int (nI s)), (2, .int (nI w)), (3, .int bv)]) hx hb dX10_allGiven_62 hl (k := 1) rfl (nI_add k 1) (by decide) rfl (fun ls hl => ?_)
              refine lv_goto (tgt := 6) hx hb dX10_allGiven_65 (by decide) ?_
              have o_22 : (k + 1) ≤ cLa J := by omega
              have o_23 : cLa J + 1 ≤ (k + 1) + n_6 := by omega
              exact ih_6 (k + 1) o_22 o_23 ls (lv_sub hl [0, 1, 2, 3, 4, 5] rfl)
  have o_24 : 0 ≤ cLa J := by omega
  have o_25 : cLa J + 1 ≤ 0 + (cLa J + 1) := by omega
  exact L_6 (cLa J + 1) 0 o_24 o_25 ls (lv_sub hl [0, 1, 2, 3, 4, 5] rfl)

abbrev rmX10_goTo : Room := { frames := 2, cells := 0, slots := 0, locals := 50 }
set_option maxHeartbeats 4000000 in
set_option maxRecDepth 100000 in
theorem c_X10_goTo (lL : Launch) (D : va_G) (cI cS : ClassId) (sz : Nat) (J : Co) (M : Mv) (wo : Nat) (kq : Nat → Nat) (m0 : Nat) (a1 : Nat) (a3 : Nat) (a5 : Nat) (a6 : Nat) (a7 : Nat) (a13 : Nat) (a14 : Nat) (a15 : Nat) (a16 : Nat) (a18 : Nat) (a19 : Nat) (a20 : Nat) (a21 : Nat) (a22 : Nat) (a23 : Nat) (a24 : Nat) (a25 : Nat) (a27 : Nat) (a28 : Nat) (a29 : Nat) (a30 : Nat) (a31 : Nat) (a32 : Nat) (a33 : Nat) (a34 : Nat) (i0 : Int32) (i2 : Int32) (i9 : Int32) (i10 : Int32) (i11 : Int32) (i12 : Int32) (i26 : Int32) (i35 : Int32) (sk : Nat → Int32) (sh : Nat → Int32) (ki : Nat → Int32) (st : Nat → Int32) (cl : Nat → Int32) (mo : Nat → Int32) (mi : Nat → Int32) (mt : Nat → Int32) (fa : Nat → Int32) (gi : Nat → Int32) (w : Nat) (hJ : okC J) (hM : ok9 J M) (hst : ∀ k, k < cLa J → st k = nI (cSt J k)) (hrM : repM M mo mi mt) (hkd : kdM J wo i9 kq ki) (hrB : repB J sk sh cl) (hw : w < 24) : Met lL yX10_goTo wsX10_goTo rmX10_goTo (va_Pc [.ref m0, .int (nI w)] (kB D cI cS [(m0, .inr (9, [.int i0, .ref a1, .int i2, .ref a3, .int (nI (cLa J)), .ref a5, .ref a6, .ref a7, .int (nI (cAg J)), .int i9, .int i10, .int i11, .int i12, .ref a13, .ref a14, .ref a15, .ref a16, .int (nI (mN M)), .ref a18, .ref a19, .ref a20, .ref a21, .ref a22, .ref a23, .ref a24, .ref a25, .int i26, .ref a27, .ref a28, .ref a29, .ref a30, .ref a31, .ref a32, .ref a33, .ref a34, .int i35])), (a1, .inl (cI, 6, .inl sk)), (a3, .inl (cI, 4, .inl sh)), (a5, .inl (cI, 4, .inl ki)), (a6, .inl (cI, 4, .inl st)), (a7, .inl (cI, 4, .inl cl)), (a18, .inl (cI, 9, .inl mo)), (a19, .inl (cI, 9, .inl mi)), (a20, .inl (cI, 9, .inl mt)), (a21, .inl (cI, 96, .inl fa)), (a22, .inl (cI, 96, .inl gi))] sz)) (kQv D (fun u : (Nat → Int32) × (Nat → Int32) => tmF J (plc M (cSt J)) u.1 (w + 1) ∧ tmG J (plc M (cSt J)) wo u.2 (w + 1)) (fun u : (Nat → Int32) × (Nat → Int32) => [(m0, .inr (9, [.int i0, .ref a1, .int i2, .ref a3, .int (nI (cLa J)), .ref a5, .ref a6, .ref a7, .int (nI (cAg J)), .int i9, .int i10, .int i11, .int i12, .ref a13, .ref a14, .ref a15, .ref a16, .int (nI (mN M)), .ref a18, .ref a19, .ref a20, .ref a21, .ref a22, .ref a23, .ref a24, .ref a25, .int i26, .ref a27, .ref a28, .ref a29, .ref a30, .ref a31, .ref a32, .ref a33, .ref a34, .int i35])), (a1, .inl (cI, 6, .inl sk)), (a3, .inl (cI, 4, .inl sh)), (a5, .inl (cI, 4, .inl ki)), (a6, .inl (cI, 4, .inl st)), (a7, .inl (cI, 4, .inl cl)), (a18, .inl (cI, 9, .inl mo)), (a19, .inl (cI, 9, .inl mi)), (a20, .inl (cI, 9, .inl mt)), (a21, .inl (cI, 96, .inl u.1)), (a22, .inl (cI, 96, .inl u.2))]) (va_A [(m0, .inr (9, [.int i0, .ref a1, .int i2, .ref a3, .int (nI (cLa J)), .ref a5, .ref a6, .ref a7, .int (nI (cAg J)), .int i9, .int i10, .int i11, .int i12, .ref a13, .ref a14, .ref a15, .ref a16, .int (nI (mN M)), .ref a18, .ref a19, .ref a20, .ref a21, .ref a22, .ref a23, .ref a24, .ref a25, .int i26, .ref a27, .ref a28, .ref a29, .ref a30, .ref a31, .ref a32, .ref a33, .ref a34, .int i35])), (a1, .inl (cI, 6, .inl sk)), (a3, .inl (cI, 4, .inl sh)), (a5, .inl (cI, 4, .inl ki)), (a6, .inl (cI, 4, .inl st)), (a7, .inl (cI, 4, .inl cl)), (a18, .inl (cI, 9, .inl mo)), (a19, .inl (cI, 9, .inl mi)), (a20, .inl (cI, 9, .inl mt)), (a21, .inl (cI, 96, .inl fa)), (a22, .inl (cI, 96, .inl gi))] sz)) 0 0 (va_A [(m0, .inr (9, [.int i0, .ref a1, .int i2, .ref a3, .int (nI (cLa J)), .ref a5, .ref a6, .ref a7, .int (nI (cAg J)), .int i9, .int i10, .int i11, .int i12, .ref a13, .ref a14, .ref a15, .ref a16, .int (nI (mN M)), .ref a18, .ref a19, .ref a20, .ref a21, .ref a22, .ref a23, .ref a24, .ref a25, .int i26, .ref a27, .ref a28, .ref a29, .ref a30, .ref a31, .ref a32, .ref a33, .ref a34, .int i35])), (a1, .inl (cI, 6, .inl sk)), (a3, .inl (cI, 4, .inl sh)), (a5, .inl (cI, 4, .inl ki)), (a6, .inl (cI, 4, .inl st)), (a7, .inl (cI, 4, .inl cl)), (a18, .inl (cI, 9, .inl mo)), (a19, .inl (cI, 9, .inl mi)), (a20, .inl (cI, 9, .inl mt)), (a21, .inl (cI, 96, .inl fa)), (a22, .inl (cI, 96, .inl gi))] sz) := by
  refine Met.ofW (cc := cX10_goTo) (maxL := 6) (ret := none) (by decide) rfl ?_
  intro pP eE sS mM args below meth cC s₁ B hml hv
  obtain ⟨rfl, hsz, hP, hK, hD0⟩ := hv
  have hx := B.exec
  have hb := B.bytes
  have hr := B.returns
  have hts := atoms_spec (ws := wsX10_goTo) B.pre
  have hown : sS.vm.findClass RX10 = some mM.cls := findClass_of_methodNamed B.named
  have hlocks := B.notSynchronized
  subst hsz
  have hD := hD0.self (sz := sS.heap.size)
  generalize hAe : va_A [(m0, .inr (9, [.int i0, .ref a1, .int i2, .ref a3, .int (nI (cLa J)), .ref a5, .ref a6, .ref a7, .int (nI (cAg J)), .int i9, .int i10, .int i11, .int i12, .ref a13, .ref a14, .ref a15, .ref a16, .int (nI (mN M)), .ref a18, .ref a19, .ref a20, .ref a21, .ref a22, .ref a23, .ref a24, .ref a25, .int i26, .ref a27, .ref a28, .ref a29, .ref a30, .ref a31, .ref a32, .ref a33, .ref a34, .int i35])), (a1, .inl (cI, 6, .inl sk)), (a3, .inl (cI, 4, .inl sh)), (a5, .inl (cI, 4, .inl ki)), (a6, .inl (cI, 4, .inl st)), (a7, .inl (cI, 4, .inl cl)), (a18, .inl (cI, 9, .inl mo)), (a19, .inl (cI, 9, .inl mi)), (a20, .inl (cI, 9, .inl mt)), (a21, .inl (cI, 96, .inl fa)), (a22, .inl (cI, 96, .inl gi))] sS.heap.size = A at hD ⊢
  have hA : ∀ q : Nat, sS.heap.size ≤ q → A q := fun q h => by rw [← hAe]; exact Or.inr h
  have hS : va_S A sS.heap sS.heap [] := va_S.rf
  have hP : va_P D vwCl [(m0, .inr (9, [.int i0, .ref a1, .int i2, .ref a3, .int (nI (cLa J)), .ref a5, .ref a6, .ref a7, .int (nI (cAg J)), .int i9, .int i10, .int i11, .int i12, .ref a13, .ref a14, .ref a15, .ref a16, .int (nI (mN M)), .ref a18, .ref a19, .ref a20, .ref a21, .ref a22, .ref a23, .ref a24, .ref a25, .int i26, .ref a27, .ref a28, .ref a29, .ref a30, .ref a31, .ref a32, .ref a33, .ref a34, .int i35])), (a1, .inl (cI, 6, .inl sk)), (a3, .inl (cI, 4, .inl sh)), (a5, .inl (cI, 4, .inl ki)), (a6, .inl (cI, 4, .inl st)), (a7, .inl (cI, 4, .inl cl)), (a18, .inl (cI, 9, .inl mo)), (a19, .inl (cI, 9, .inl mi)), (a20, .inl (cI, 9, .inl mt)), (a21, .inl (cI, 96, .inl fa)), (a22, .inl (cI, 96, .inl gi))] sS.heap := hP
  have hD : va_D A [(m0, .inr (9, [.int i0, .ref a1, .int i2, .ref a3, .int (nI (cLa J)), .ref a5, .ref a6, .ref a7, .int (nI (cAg J)), .int i9, .int i10, .int i11, .int i12, .ref a13, .ref a14, .ref a15, .ref a16, .int (nI (mN M)), .ref a18, .ref a19, .ref a20, .ref a21, .ref a22, .ref a23, .ref a24, .ref a25, .int i26, .ref a27, .ref a28, .ref a29, .ref a30, .ref a31, .ref a32, .ref a33, .ref a34, .int i35])), (a1, .inl (cI, 6, .inl sk)), (a3, .inl (cI, 4, .inl sh)), (a5, .inl (cI, 4, .inl ki)), (a6, .inl (cI, 4, .inl st)), (a7, .inl (cI, 4, .inl cl)), (a18, .inl (cI, 9, .inl mo)), (a19, .inl (cI, 9, .inl mi)), (a20, .inl (cI, 9, .inl mt)), (a21, .inl (cI, 96, .inl fa)), (a22, .inl (cI, 96, .inl gi))] := hD
  have hf_46 := hts (.fieldLink RX10 46 "OldLampsModel" "fallsIn" "[I") (List.mem_of_getElem? (i := 4) rfl)
  have hf_49 := hts (.fieldLink RX10 49 "OldLampsModel" "givesIn" "[I") (List.mem_of_getElem? (i := 2) rfl)
  have hf_105 := hts (.fieldLink RX10 105 "OldLampsModel" "lamps" "I") (List.mem_of_getElem? (i := 1) rfl)
  have hf_158 := hts (.fieldLink RX10 158 "OldLampsModel" "ageNow" "I") (List.mem_of_getElem? (i := 3) rfl)
  have hwX10 : ∀ w ∈ wsX100, w ∈ wsX10_goTo := fun _ h => List.mem_cons_of_mem _ (List.mem_append_right _ h)
  have hl := lv_entry ([.ref m0, .int (nI w)]) (n := 6) (Nat.le_of_ble_eq_true rfl)
  rw [lg_entry_eq]
  generalize (lg_sl ([.ref m0, .int (nI w)]) ++ List.replicate (6 - (lg_sl ([.ref m0, .int (nI w)])).length) Slot.unset).toArray = ls at hl ⊢
  have hl : lv_has ls 6 [(0, .ref m0), (1, .int (nI w))] := hl
  obtain ⟨QQ, hQQ⟩ : ∃ QQ : State → Prop, QQ = MQ below (kQv D (fun u : (Nat → Int32) × (Nat → Int32) => tmF J (plc M (cSt J)) u.1 (w + 1) ∧ tmG J (plc M (cSt J)) wo u.2 (w + 1)) (fun u : (Nat → Int32) × (Nat → Int32) => [(m0, .inr (9, [.int i0, .ref a1, .int i2, .ref a3, .int (nI (cLa J)), .ref a5, .ref a6, .ref a7, .int (nI (cAg J)), .int i9, .int i10, .int i11, .int i12, .ref a13, .ref a14, .ref a15, .ref a16, .int (nI (mN M)), .ref a18, .ref a19, .ref a20, .ref a21, .ref a22, .ref a23, .ref a24, .ref a25, .int i26, .ref a27, .ref a28, .ref a29, .ref a30, .ref a31, .ref a32, .ref a33, .ref a34, .int i35])), (a1, .inl (cI, 6, .inl sk)), (a3, .inl (cI, 4, .inl sh)), (a5, .inl (cI, 4, .inl ki)), (a6, .inl (cI, 4, .inl st)), (a7, .inl (cI, 4, .inl cl)), (a18, .inl (cI, 9, .inl mo)), (a19, .inl (cI, 9, .inl mi)), (a20, .inl (cI, 9, .inl mt)), (a21, .inl (cI, 96, .inl u.1)), (a22, .inl (cI, 96, .inl u.2))]) A) ([.ref m0, .int (nI w)]).toArray sS 0 0 A := ⟨_, rfl⟩
  refine kk_QQ hQQ.symm ?_
  obtain ⟨hJ1, hJ2, hJ3, hJ4, hJ5, hJ6, hJ7, hJ8⟩ := id hJ
  obtain ⟨hM1, hM2⟩ := id hM
  have hwo := hkd.2
  have hk3 : wo < cLa J → cKi J wo = 3 := fun z => (hkd.1 wo z).2.2.2 rfl
  refine lv_iconst (v := nI 0) hx hb dX10_goTo_0 (by decide +kernel) ?_
  refine lv_istore_n (lv' := [(2, .int (nI 0)), (0, .ref m0), (1, .int (nI w))]) hx hb dX10_goTo_1 rfl hl (by decide) rfl (fun ls hl => ?_)
  have L_2 : ∀ (n_2 : Nat) (v : Nat) (fX : Nat → Int32) (gX : Nat → Int32), (v ≤ w + 1) → (tmF J (plc M (cSt J)) fX v) → (tmG J (plc M (cSt J)) wo gX v) → w + 2 ≤ v + n_2 → ∀ (H : Heap) (locs : List Loc), va_P D vwCl [(m0, .inr (9, [.int i0, .ref a1, .int i2, .ref a3, .int (nI (cLa J)), .ref a5, .ref a6, .ref a7, .int (nI (cAg J)), .int i9, .int i10, .int i11, .int i12, .ref a13, .ref a14, .ref a15, .ref a16, .int (nI (mN M)), .ref a18, .ref a19, .ref a20, .ref a21, .ref a22, .ref a23, .ref a24, .ref a25, .int i26, .ref a27, .ref a28, .ref a29, .ref a30, .ref a31, .ref a32, .ref a33, .ref a34, .int i35])), (a1, .inl (cI, 6, .inl sk)), (a3, .inl (cI, 4, .inl sh)), (a5, .inl (cI, 4, .inl ki)), (a6, .inl (cI, 4, .inl st)), (a7, .inl (cI, 4, .inl cl)), (a18, .inl (cI, 9, .inl mo)), (a19, .inl (cI, 9, .inl mi)), (a20, .inl (cI, 9, .inl mt)), (a21, .inl (cI, 96, .inl fX)), (a22, .inl (cI, 96, .inl gX))] H → va_D A [(m0, .inr (9, [.int i0, .ref a1, .int i2, .ref a3, .int (nI (cLa J)), .ref a5, .ref a6, .ref a7, .int (nI (cAg J)), .int i9, .int i10, .int i11, .int i12, .ref a13, .ref a14, .ref a15, .ref a16, .int (nI (mN M)), .ref a18, .ref a19, .ref a20, .ref a21, .ref a22, .ref a23, .ref a24, .ref a25, .int i26, .ref a27, .ref a28, .ref a29, .ref a30, .ref a31, .ref a32, .ref a33, .ref a34, .int i35])), (a1, .inl (cI, 6, .inl sk)), (a3, .inl (cI, 4, .inl sh)), (a5, .inl (cI, 4, .inl ki)), (a6, .inl (cI, 4, .inl st)), (a7, .inl (cI, 4, .inl cl)), (a18, .inl (cI, 9, .inl mo)), (a19, .inl (cI, 9, .inl mi)), (a20, .inl (cI, 9, .inl mt)), (a21, .inl (cI, 96, .inl fX)), (a22, .inl (cI, 96, .inl gX))] → va_S A sS.heap H locs → ∀ (ls : Array Slot), lv_has ls 6 [(2, .int (nI v)), (0, .ref m0), (1, .int (nI w))] → W pP lL eE (headSpec wsX10_goTo rmX10_goTo).room sS mM ([.ref m0, .int (nI w)]).toArray below meth cC H locs 0 0 QQ (F0 mM 2 ls []) := by
    intro n_2
    induction n_2 with
    | zero =>
      intro v fX gX hv F1 G1 hn_2 H locs hP hD hS ls hl
      exact absurd hn_2 (by omega)
    | succ n_2 ih_2 =>
      intro v fX gX hv F1 G1 hn_2 H locs hP hD hS ls hl
      refine lv_iload_n hx hb dX10_goTo_2 rfl (lv_at hl 0 rfl) ?_
      refine lv_iload_n hx hb dX10_goTo_3 rfl (lv_at hl 2 rfl) ?_
      refine kk_icmp_gt (tgt := 142) hx hb dX10_goTo_4 (by decide) (by omega) (by omega) (fun c_1 => ?_) (fun c_1 => ?_)
      · skip
        have hq : tmF J (plc M (cSt J)) fX (w + 1) ∧ tmG J (plc M (cSt J)) wo gX (w + 1) := by rw [show w + 1 = v by omega]; exact ⟨F1, G1⟩
        refine kk_QQ hQQ ?_
        exact W.vret hx hb hr (fun t ht hW => ⟨⟨(fX, gX), rfl, hq, by show va_P D vwCl _ t.heap; rw [ht]; exact hP⟩, hS.F ht⟩) hS.2.2 dX10_goTo_142
      · skip
        refine lv_iconst (v := nI 0) hx hb dX10_goTo_7 (by decide +kernel) ?_
        refine lv_istore_n (lv' := [(3, .int (nI 0)), (2, .int (nI v)), (0, .ref m0), (1, .int (nI w))]) hx hb dX10_goTo_8 rfl hl (by decide) rfl (fun ls hl => ?_)
        have L_9 : ∀ (n_9 : Nat) (k : Nat) (gY : Nat → Int32), (k ≤ cLa J) → (tmG J (plc M (cSt J)) wo gY v) → (∀ j, j < k → j ≠ wo → gY (24 * j + v) = nI (Gi J (plc M (cSt J)) v j)) → cLa J + 1 ≤ k + n_9 → ∀ (H : Heap) (locs : List Loc), va_P D vwCl [(m0, .inr (9, [.int i0, .ref a1, .int i2, .ref a3, .int (nI (cLa J)), .ref a5, .ref a6, .ref a7, .int (nI (cAg J)), .int i9, .int i10, .int i11, .int i12, .ref a13, .ref a14, .ref a15, .ref a16, .int (nI (mN M)), .ref a18, .ref a19, .ref a20, .ref a21, .ref a22, .ref a23, .ref a24, .ref a25, .int i26, .ref a27, .ref a28, .ref a29, .ref a30, .ref a31, .ref a32, .ref a33, .ref a34, .int i35])), (a1, .inl (cI, 6, .inl sk)), (a3, .inl (cI, 4, .inl sh)), (a5, .inl (cI, 4, .inl ki)), (a6, .inl (cI, 4, .inl st)), (a7, .inl (cI, 4, .inl cl)), (a18, .inl (cI, 9, .inl mo)), (a19, .inl (cI, 9, .inl mi)), (a20, .inl (cI, 9, .inl mt)), (a21, .inl (cI, 96, .inl fX)), (a22, .inl (cI, 96, .inl gY))] H → va_D A [(m0, .inr (9, [.int i0, .ref a1, .int i2, .ref a3, .int (nI (cLa J)), .ref a5, .ref a6, .ref a7, .int (nI (cAg J)), .int i9, .int i10, .int i11, .int i12, .ref a13, .ref a14, .ref a15, .ref a16, .int (nI (mN M)), .ref a18, .ref a19, .ref a20, .ref a21, .ref a22, .ref a23, .ref a24, .ref a25, .int i26, .ref a27, .ref a28, .ref a29, .ref a30, .ref a31, .ref a32, .ref a33, .ref a34, .int i35])), (a1, .inl (cI, 6, .inl sk)), (a3, .inl (cI, 4, .inl sh)), (a5, .inl (cI, 4, .inl ki)), (a6, .inl (cI, 4, .inl st)), (a7, .inl (cI, 4, .inl cl)), (a18, .inl (cI, 9, .inl mo)), (a19, .inl (cI, 9, .inl mi)), (a20, .inl (cI, 9, .inl mt)), (a21, .inl (cI, 96, .inl fX)), (a22, .inl (cI, 96, .inl gY))] → va_S A sS.heap H locs → ∀ (ls : Array Slot), lv_has ls 6 [(3, .int (nI k)), (2, .int (nI v)), (0, .ref m0), (1, .int (nI w))] → W pP lL eE (headSpec wsX10_goTo rmX10_goTo).room sS mM ([.ref m0, .int (nI w)]).toArray below meth cC H locs 0 0 QQ (F0 mM 9 ls []) := by
          intro n_9
          induction n_9 with
          | zero =>
            intro k gY hk k2 z2 hn_9 H locs hP hD hS ls hl
            exact absurd hn_9 (by omega)
          | succ n_9 ih_9 =>
            intro k gY hk k2 z2 hn_9 H locs hP hD hS ls hl
            refine lv_iload_n hx hb dX10_goTo_9 rfl (lv_at hl 0 rfl) ?_
            refine lv_aload_n hx hb dX10_goTo_10 rfl (lv_at hl 2 rfl) ?_
            refine va_get (D := D) (ci := 9) (v := .int (nI (cLa J))) (C := RX10) (T := TX10) (N := 36) hx hb hts hwX10 hown hK hP 0 rfl rfl 4 (by decide) hf_105 (fun _ h9 => h9) rfl dX10_goTo_11 ?_
            refine kk_icmp_ge (tgt := 67) hx hb dX10_goTo_14 (by decide) (by omega) (by omega) (fun c_2 => ?_) (fun c_2 => ?_)
            · skip
              refine lv_iconst (v := nI 0) hx hb dX10_goTo_67 (by decide +kernel) ?_
              refine lv_istore_n (lv' := [(3, .int (nI 0)), (2, .int (nI v)), (0, .ref m0), (1, .int (nI w))]) hx hb dX10_goTo_68 rfl hl (by decide) rfl (fun ls hl => ?_)
              have L_69 : ∀ (n_69 : Nat) (k : Nat) (fZ : Nat → Int32), (k ≤ cLa J) → (tmF J (plc M (cSt J)) fZ v) → (∀ j, j < k → fZ (24 * j + v) = nI (Fa J (plc M (cSt J)) v j)) → cLa J + 1 ≤ k + n_69 → ∀ (H : Heap) (locs : List Loc), va_P D vwCl [(m0, .inr (9, [.int i0, .ref a1, .int i2, .ref a3, .int (nI (cLa J)), .ref a5, .ref a6, .ref a7, .int (nI (cAg J)), .int i9, .int i10, .int i11, .int i12, .ref a13, .ref a14, .ref a15, .ref a16, .int (nI (mN M)), .ref a18, .ref a19, .ref a20, .ref a21, .ref a22, .ref a23, .ref a24, .ref a25, .int i26, .ref a27, .ref a28, .ref a29, .ref a30, .ref a31, .ref a32, .ref a33, .ref a34, .int i35])), (a1, .inl (cI, 6, .inl sk)), (a3, .inl (cI, 4, .inl sh)), (a5, .inl (cI, 4, .inl ki)), (a6, .inl (cI, 4, .inl st)), (a7, .inl (cI, 4, .inl cl)), (a18, .inl (cI, 9, .inl mo)), (a19, .inl (cI, 9, .inl mi)), (a20, .inl (cI, 9, .inl mt)), (a21, .inl (cI, 96, .inl fZ)), (a22, .inl (cI, 96, .inl gY))] H → va_D A [(m0, .inr (9, [.int i0, .ref a1, .int i2, .ref a3, .int (nI (cLa J)), .ref a5, .ref a6, .ref a7, .int (nI (cAg J)), .int i9, .int i10, .int i11, .int i12, .ref a13, .ref a14, .ref a15, .ref a16, .int (nI (mN M)), .ref a18, .ref a19, .ref a20, .ref a21, .ref a22, .ref a23, .ref a24, .ref a25, .int i26, .ref a27, .ref a28, .ref a29, .ref a30, .ref a31, .ref a32, .ref a33, .ref a34, .int i35])), (a1, .inl (cI, 6, .inl sk)), (a3, .inl (cI, 4, .inl sh)), (a5, .inl (cI, 4, .inl ki)), (a6, .inl (cI, 4, .inl st)), (a7, .inl (cI, 4, .inl cl)), (a18, .inl (cI, 9, .inl mo)), (a19, .inl (cI, 9, .inl mi)), (a20, .inl (cI, 9, .inl mt)), (a21, .inl (cI, 96, .inl fZ)), (a22, .inl (cI, 96, .inl gY))] → va_S A sS.heap H locs → ∀ (ls : Array Slot), lv_has ls 6 [(3, .int (nI k)), (2, .int (nI v)), (0, .ref m0), (1, .int (nI w))] → W pP lL eE (headSpec wsX10_goTo rmX10_goTo).room sS mM ([.ref m0, .int (nI w)]).toArray below meth cC H locs 0 0 QQ (F0 mM 69 ls []) := by
                intro n_69
                induction n_69 with
                | zero =>
                  intro k fZ hk k3 z3 hn_69 H locs hP hD hS ls hl
                  exact absurd hn_69 (by omega)
                | succ n_69 ih_69 =>
                  intro k fZ hk k3 z3 hn_69 H locs hP hD hS ls hl
                  refine lv_iload_n hx hb dX10_goTo_69 rfl (lv_at hl 0 rfl) ?_
                  refine lv_aload_n hx hb dX10_goTo_70 rfl (lv_at hl 2 rfl) ?_
                  refine va_get (D := D) (ci := 9) (v := .int (nI (cLa J))) (C := RX10) (T := TX10) (N := 36) hx hb hts hwX10 hown hK hP 0 rfl rfl 4 (by decide) hf_105 (fun _ h9 => h9) rfl dX10_goTo_71 ?_
                  refine kk_icmp_ge (tgt := 136) hx hb dX10_goTo_74 (by decide) (by omega) (by omega) (fun c_3 => ?_) (fun c_3 => ?_)
                  · skip
                    refine lv_iinc (v := nI (v + 1)) (lv' := [(2, .int (nI (v + 1))), (3, .int (nI k)), (0, .ref m0), (1, .int (nI w))]) hx hb dX10_goTo_136 hl (k := 1) rfl (nI_add v 1) (by decide) rfl (fun ls hl => ?_)
                    refine lv_goto (tgt := 2) hx hb dX10_goTo_139 (by decide) ?_
                    have o_4 : (v + 1) ≤ w + 1 := by omega
                    have o_5 : tmF J (plc M (cSt J)) fZ (v + 1) := by
                      intro u hu j hj
                      by_cases e : u = v
                      · subst e; exact z3 j (by omega)
                      · exact k3 u (by omega) j hj
                    have o_6 : tmG J (plc M (cSt J)) wo gY (v + 1) := by
                      intro u hu j hj hne
                      by_cases e : u = v
                      · subst e; exact z2 j (by omega) hne
                      · exact k2 u (by omega) j hj hne
                    have o_7 : w + 2 ≤ (v + 1) + n_2 := by omega
                    exact ih_2 (v + 1) fZ gY o_4 o_5 o_6 o_7 _ _ hP hD hS ls (lv_sub hl [0, 2, 3] rfl)
                  · skip
                    refine lv_aload_n hx hb dX10_goTo_77 rfl (lv_at hl 2 rfl) ?_
                    refine lv_iload_n hx hb dX10_goTo_78 rfl (lv_at hl 0 rfl) ?_
                    refine lv_iload_n hx hb dX10_goTo_79 rfl (lv_at hl 1 rfl) ?_
                    have hpl := plc_lt9 hJ hM (k := k) (by omega) v
                    have o_8 : okC J := by assumption
                    have o_9 : ok9 J M := by assumption
                    have o_10 : ∀ k, k < cLa J → st k = nI (cSt J k) := by assumption
                    have o_11 : repM M mo mi mt := by assumption
                    have o_12 : k < cLa J := by omega
                    have o_13 : v < 24 := by omega
                    refine vp_callSi (W.runV (As := [.int (nI k), .int (nI v)]) (rest := []) ⟨hx, hb, hml, hown, hts⟩ (c_X10_standsIn lL D cI cS J M m0 a1 a3 a5 a6 a7 a13 a14 a15 a16 a18 a19 a20 a21 a22 a23 a24 a25 a27 a28 a29 a30 a31 a32 a33 a34 i0 i2 (nI (cLa J)) (nI (cAg J)) i9 i10 i11 i12 i26 i35 st mo mi mt k v o_8 o_9 o_10 o_11 o_12 o_13) (cwV 2 hts gX10_goTo_X10_standsIn rfl rfl rfl cd_X10_standsIn ⟨Nat.le_of_ble_eq_true rfl, Nat.le_of_ble_eq_true rfl⟩) ⟨kBp_blind, va_recv hK hP (ci := 9) (q0 := 0) rfl rfl, fun U hU hW => ⟨rfl, by rw [hU]; exact hP.sub [0, 4, 6, 7, 8] rfl, va_K.moved hW.alike hK⟩⟩ rfl rfl hl.1 rfl (lv_room (Nat.le_of_ble_eq_true rfl)) dX10_goTo_80 ⟨Nat.le_of_ble_eq_true rfl, Nat.le_of_ble_eq_true rfl⟩) (fun r_14 hw_14 => ?_)
                    obtain rfl : r_14 = nI (plc M (cSt J) k v) := hw_14
                    refine lv_istore (lv' := [(4, .int (nI (plc M (cSt J) k v))), (3, .int (nI k)), (2, .int (nI v)), (0, .ref m0), (1, .int (nI w))]) hx hb dX10_goTo_83 hl (by decide) rfl (fun ls hl => ?_)
                    refine lv_aload_n hx hb dX10_goTo_85 rfl (lv_at hl 3 rfl) ?_
                    refine lv_iload hx hb dX10_goTo_86 (lv_at hl 0 rfl) ?_
                    refine lv_iload_n hx hb dX10_goTo_88 rfl (lv_at hl 2 rfl) ?_
                    have o_15 : okC J := by assumption
                    have o_16 : repB J sk sh cl := by assumption
                    have o_17 : (plc M (cSt J) k v) < cSp J := by omega
                    have o_18 : v < 24 := by omega
                    refine vp_callSi (W.runV (As := [.int (nI (plc M (cSt J) k v)), .int (nI v)]) (rest := []) ⟨hx, hb, hml, hown, hts⟩ (c_X10_byDay lL D cI cS J m0 a1 a3 a5 a6 a7 a13 a14 a15 a16 a18 a19 a20 a21 a22 a23 a24 a25 a27 a28 a29 a30 a31 a32 a33 a34 i0 i2 (nI (cLa J)) (nI (cAg J)) i9 i10 i11 i12 (nI (mN M)) i26 i35 sk sh cl (plc M (cSt J) k v) v o_15 o_16 o_17 o_18) (cwV 2 hts gX10_goTo_X10_byDay rfl rfl rfl cd_X10_byDay ⟨Nat.le_of_ble_eq_true rfl, Nat.le_of_ble_eq_true rfl⟩) ⟨kBp_blind, va_recv hK hP (ci := 9) (q0 := 0) rfl rfl, fun U hU hW => ⟨rfl, by rw [hU]; exact hP.sub [0, 1, 2, 5] rfl, va_K.moved hW.alike hK⟩⟩ rfl rfl hl.1 rfl (lv_room (Nat.le_of_ble_eq_true rfl)) dX10_goTo_89 ⟨Nat.le_of_ble_eq_true rfl, Nat.le_of_ble_eq_true rfl⟩) (fun r_19 hw_19 => ?_)
                    obtain rfl : r_19 = nI (day J (plc M (cSt J) k v) v) := hw_19
                    refine lv_aload_n hx hb dX10_goTo_92 rfl (lv_at hl 3 rfl) ?_
                    refine lv_iload hx hb dX10_goTo_93 (lv_at hl 0 rfl) ?_
                    refine lv_iload_n hx hb dX10_goTo_95 rfl (lv_at hl 2 rfl) ?_
                    refine lv_iload_n hx hb dX10_goTo_96 rfl (lv_at hl 1 rfl) ?_
                    have o_20 : okC J := by assumption
                    have o_21 : ok9 J M := by assumption
                    have o_22 : ∀ k, k < cLa J → st k = nI (cSt J k) := by assumption
                    have o_23 : repM M mo mi mt := by assumption
                    have o_24 : ∀ k, k < 4 → (nI k = i9 ↔ k = wo) := by assumption
                    have o_25 : wo < cLa J → cKi J wo = 3 := by assumption
                    have o_26 : ∀ j, j < 4 → (nI j = (nI k) ↔ j = k) := by exact fun j hj => nI_eq (by omega) (by omega)
                    have o_27 : ∀ k, k < cLa J → k ≠ wo → gY (24 * k + v) = nI (Gi J (plc M (cSt J)) v k) := by exact fun j hj hne => z2 j (by omega) hne
                    have o_28 : (plc M (cSt J) k v) < cSp J := by omega
                    have o_29 : v < 24 := by omega
                    refine vp_callSi (W.runV (As := [.int (nI (plc M (cSt J) k v)), .int (nI v), .int (nI k)]) (rest := [.int (nI (day J (plc M (cSt J) k v) v))]) ⟨hx, hb, hml, hown, hts⟩ (c_X10_allGiven lL D cI cS J M wo m0 a1 a3 a5 a6 a7 a13 a14 a15 a16 a18 a19 a20 a21 a22 a23 a24 a25 a27 a28 a29 a30 a31 a32 a33 a34 i0 i2 (nI (cAg J)) i9 i10 i11 i12 i26 i35 st mo mi mt gY (plc M (cSt J) k v) v k (nI k) o_20 o_21 o_22 o_23 o_24 o_25 o_26 o_27 o_28 o_29) (cwV 3 hts gX10_goTo_X10_allGiven rfl rfl rfl cd_X10_allGiven ⟨Nat.le_of_ble_eq_true rfl, Nat.le_of_ble_eq_true rfl⟩) ⟨kBp_blind, va_recv hK hP (ci := 9) (q0 := 0) rfl rfl, fun U hU hW => ⟨rfl, by rw [hU]; exact hP.sub [0, 4, 6, 7, 8, 10] rfl, va_K.moved hW.alike hK⟩⟩ rfl rfl hl.1 rfl (lv_room (Nat.le_of_ble_eq_true rfl)) dX10_goTo_97 ⟨Nat.le_of_ble_eq_true rfl, Nat.le_of_ble_eq_true rfl⟩) (fun r_30 hw_30 => ?_)
                    obtain rfl : r_30 = nI (gvN J (plc M (cSt J)) (plc M (cSt J) k v) v k (cLa J)) := hw_30
                    have hd9 := day_le hJ (plc M (cSt J) k v) v
                    have hgl := gvN_le J (plc M (cSt J)) (plc M (cSt J) k v) v k (cLa J)
                    refine kk_iadd hx hb dX10_goTo_100 ?_
                    refine lv_istore (lv' := [(5, .int (nI ((day J (plc M (cSt J) k v) v) + (gvN J (plc M (cSt J)) (plc M (cSt J) k v) v k (cLa J))))), (4, .int (nI (plc M (cSt J) k v))), (3, .int (nI k)), (2, .int (nI v)), (0, .ref m0), (1, .int (nI w))]) hx hb dX10_goTo_101 hl (by decide) rfl (fun ls hl => ?_)
                    refine lv_aload_n hx hb dX10_goTo_103 rfl (lv_at hl 4 rfl) ?_
                    refine va_get (D := D) (ci := 9) (v := .ref a21) (C := RX10) (T := TX10) (N := 36) hx hb hts hwX10 hown hK hP 0 rfl rfl 21 (by decide) hf_46 (fun _ h9 => h9) rfl dX10_goTo_104 ?_
                    refine lv_bipush (v := nI 24) hx hb dX10_goTo_107 (by decide +kernel) ?_
                    refine lv_iload_n hx hb dX10_goTo_109 rfl (lv_at hl 2 rfl) ?_
                    refine kk_imul hx hb dX10_goTo_110 ?_
                    refine lv_iload_n hx hb dX10_goTo_111 rfl (lv_at hl 3 rfl) ?_
                    refine kk_iadd hx hb dX10_goTo_112 ?_
                    refine lv_iload hx hb dX10_goTo_113 (lv_at hl 0 rfl) ?_
                    refine lv_sipush (v := nI 999) hx hb dX10_goTo_115 (by decide +kernel) ?_
                    refine kk_icmp_le (tgt := 127) hx hb dX10_goTo_118 (by decide) (by omega) (by omega) (fun c_31 => ?_) (fun c_31 => ?_)
                    · skip
                      refine lv_iload hx hb dX10_goTo_127 (lv_at hl 0 rfl) ?_
                      refine kk_iast hx hb hK hP hD hS 9 rfl rfl (i := (24 * k) + v) (by omega) (by decide) dX10_goTo_129 (fun H locs hP hD hS => ?_)
                      have hP : va_P D vwCl [(m0, .inr (9, [.int i0, .ref a1, .int i2, .ref a3, .int (nI (cLa J)), .ref a5, .ref a6, .ref a7, .int (nI (cAg J)), .int i9, .int i10, .int i11, .int i12, .ref a13, .ref a14, .ref a15, .ref a16, .int (nI (mN M)), .ref a18, .ref a19, .ref a20, .ref a21, .ref a22, .ref a23, .ref a24, .ref a25, .int i26, .ref a27, .ref a28, .ref a29, .ref a30, .ref a31, .ref a32, .ref a33, .ref a34, .int i35])), (a1, .inl (cI, 6, .inl sk)), (a3, .inl (cI, 4, .inl sh)), (a5, .inl (cI, 4, .inl ki)), (a6, .inl (cI, 4, .inl st)), (a7, .inl (cI, 4, .inl cl)), (a18, .inl (cI, 9, .inl mo)), (a19, .inl (cI, 9, .inl mi)), (a20, .inl (cI, 9, .inl mt)), (a21, .inl (cI, 96, .inl (upd fZ ((24 * k) + v) (nI ((day J (plc M (cSt J) k v) v) + (gvN J (plc M (cSt J)) (plc M (cSt J) k v) v k (cLa J))))))), (a22, .inl (cI, 96, .inl gY))] H := hP
                      have hD : va_D A [(m0, .inr (9, [.int i0, .ref a1, .int i2, .ref a3, .int (nI (cLa J)), .ref a5, .ref a6, .ref a7, .int (nI (cAg J)), .int i9, .int i10, .int i11, .int i12, .ref a13, .ref a14, .ref a15, .ref a16, .int (nI (mN M)), .ref a18, .ref a19, .ref a20, .ref a21, .ref a22, .ref a23, .ref a24, .ref a25, .int i26, .ref a27, .ref a28, .ref a29, .ref a30, .ref a31, .ref a32, .ref a33, .ref a34, .int i35])), (a1, .inl (cI, 6, .inl sk)), (a3, .inl (cI, 4, .inl sh)), (a5, .inl (cI, 4, .inl ki)), (a6, .inl (cI, 4, .inl st)), (a7, .inl (cI, 4, .inl cl)), (a18, .inl (cI, 9, .inl mo)), (a19, .inl (cI, 9, .inl mi)), (a20, .inl (cI, 9, .inl mt)), (a21, .inl (cI, 96, .inl (upd fZ ((24 * k) + v) (nI ((day J (plc M (cSt J) k v) v) + (gvN J (plc M (cSt J)) (plc M (cSt J) k v) v k (cLa J))))))), (a22, .inl (cI, 96, .inl gY))] := hD
                      refine lv_iinc (v := nI (k + 1)) (lv' := [(3, .int (nI (k + 1))), (5, .int (nI ((day J (plc M (cSt J) k v) v) + (gvN J (plc M (cSt J)) (plc M (cSt J) k v) v k (cLa J))))), (4, .int (nI (plc M (cSt J) k v))), (2, .int (nI v)), (0, .ref m0), (1, .int (nI w))]) hx hb dX10_goTo_130 hl (k := 2) rfl (nI_add k 1) (by decide) rfl (fun ls hl => ?_)
                      refine lv_goto (tgt := 69) hx hb dX10_goTo_133 (by decide) ?_
                      have o_32 : (k + 1) ≤ cLa J := by omega
                      have o_33 : tmF J (plc M (cSt J)) (upd fZ ((24 * k) + v) (nI ((day J (plc M (cSt J) k v) v) + (gvN J (plc M (cSt J)) (plc M (cSt J) k v) v k (cLa J))))) v := by intro u hu j hj; rw [up_ne _ _ (by omega)]; exact k3 u hu j hj
                      have o_34 : ∀ j, j < (k + 1) → (upd fZ ((24 * k) + v) (nI ((day J (plc M (cSt J) k v) v) + (gvN J (plc M (cSt J)) (plc M (cSt J) k v) v k (cLa J))))) (24 * j + v) = nI (Fa J (plc M (cSt J)) v j) := by
                        intro j hj
                        by_cases e : j = k
                        · subst e; rw [up_at, Fa_gv hJ3]; congr 1; omega
                        · rw [up_ne _ _ (by omega)]; exact z3 j (by omega)
                      have o_35 : cLa J + 1 ≤ (k + 1) + n_69 := by omega
                      exact ih_69 (k + 1) (upd fZ ((24 * k) + v) (nI ((day J (plc M (cSt J) k v) v) + (gvN J (plc M (cSt J)) (plc M (cSt J) k v) v k (cLa J))))) o_32 o_33 o_34 o_35 _ _ hP hD hS ls (lv_sub hl [0, 3, 4, 5] rfl)
                    · skip
                      refine lv_sipush (v := nI 999) hx hb dX10_goTo_121 (by decide +kernel) ?_
                      refine lv_goto (tgt := 129) hx hb dX10_goTo_124 (by decide) ?_
                      refine kk_iast hx hb hK hP hD hS 9 rfl rfl (i := (24 * k) + v) (by omega) (by decide) dX10_goTo_129 (fun H locs hP hD hS => ?_)
                      have hP : va_P D vwCl [(m0, .inr (9, [.int i0, .ref a1, .int i2, .ref a3, .int (nI (cLa J)), .ref a5, .ref a6, .ref a7, .int (nI (cAg J)), .int i9, .int i10, .int i11, .int i12, .ref a13, .ref a14, .ref a15, .ref a16, .int (nI (mN M)), .ref a18, .ref a19, .ref a20, .ref a21, .ref a22, .ref a23, .ref a24, .ref a25, .int i26, .ref a27, .ref a28, .ref a29, .ref a30, .ref a31, .ref a32, .ref a33, .ref a34, .int i35])), (a1, .inl (cI, 6, .inl sk)), (a3, .inl (cI, 4, .inl sh)), (a5, .inl (cI, 4, .inl ki)), (a6, .inl (cI, 4, .inl st)), (a7, .inl (cI, 4, .inl cl)), (a18, .inl (cI, 9, .inl mo)), (a19, .inl (cI, 9, .inl mi)), (a20, .inl (cI, 9, .inl mt)), (a21, .inl (cI, 96, .inl (upd fZ ((24 * k) + v) (nI 999)))), (a22, .inl (cI, 96, .inl gY))] H := hP
                      have hD : va_D A [(m0, .inr (9, [.int i0, .ref a1, .int i2, .ref a3, .int (nI (cLa J)), .ref a5, .ref a6, .ref a7, .int (nI (cAg J)), .int i9, .int i10, .int i11, .int i12, .ref a13, .ref a14, .ref a15, .ref a16, .int (nI (mN M)), .ref a18, .ref a19, .ref a20, .ref a21, .ref a22, .ref a23, .ref a24, .ref a25, .int i26, .ref a27, .ref a28, .ref a29, .ref a30, .ref a31, .ref a32, .ref a33, .ref a34, .int i35])), (a1, .inl (cI, 6, .inl sk)), (a3, .inl (cI, 4, .inl sh)), (a5, .inl (cI, 4, .inl ki)), (a6, .inl (cI, 4, .inl st)), (a7, .inl (cI, 4, .inl cl)), (a18, .inl (cI, 9, .inl mo)), (a19, .inl (cI, 9, .inl mi)), (a20, .inl (cI, 9, .inl mt)), (a21, .inl (cI, 96, .inl (upd fZ ((24 * k) + v) (nI 999)))), (a22, .inl (cI, 96, .inl gY))] := hD
                      refine lv_iinc (v := nI (k + 1)) (lv' := [(3, .int (nI (k + 1))), (5, .int (nI ((day J (plc M (cSt J) k v) v) + (gvN J (plc M (cSt J)) (plc M (cSt J) k v) v k (cLa J))))), (4, .int (nI (plc M (cSt J) k v))), (2, .int (nI v)), (0, .ref m0), (1, .int (nI w))]) hx hb dX10_goTo_130 hl (k := 2) rfl (nI_add k 1) (by decide) rfl (fun ls hl => ?_)
                      refine lv_goto (tgt := 69) hx hb dX10_goTo_133 (by decide) ?_
                      have o_36 : (k + 1) ≤ cLa J := by omega
                      have o_37 : tmF J (plc M (cSt J)) (upd fZ ((24 * k) + v) (nI 999)) v := by intro u hu j hj; rw [up_ne _ _ (by omega)]; exact k3 u hu j hj
                      have o_38 : ∀ j, j < (k + 1) → (upd fZ ((24 * k) + v) (nI 999)) (24 * j + v) = nI (Fa J (plc M (cSt J)) v j) := by
                        intro j hj
                        by_cases e : j = k
                        · subst e; rw [up_at, Fa_gv hJ3]; congr 1; omega
                        · rw [up_ne _ _ (by omega)]; exact z3 j (by omega)
                      have o_39 : cLa J + 1 ≤ (k + 1) + n_69 := by omega
                      exact ih_69 (k + 1) (upd fZ ((24 * k) + v) (nI 999)) o_36 o_37 o_38 o_39 _ _ hP hD hS ls (lv_sub hl [0, 3, 4, 5] rfl)
              have o_40 : 0 ≤ cLa J := by omega
              have o_41 : tmF J (plc M (cSt J)) fX v := by exact F1
              have o_42 : ∀ j, j < 0 → fX (24 * j + v) = nI (Fa J (plc M (cSt J)) v j) := by intro j h; omega
              have o_43 : cLa J + 1 ≤ 0 + (cLa J + 1) := by omega
              exact L_69 (cLa J + 1) 0 fX o_40 o_41 o_42 o_43 _ _ hP hD hS ls (lv_sub hl [0, 1, 2, 3] rfl)
            · skip
              refine lv_aload_n hx hb dX10_goTo_17 rfl (lv_at hl 2 rfl) ?_
              refine va_get (D := D) (ci := 9) (v := .ref a22) (C := RX10) (T := TX10) (N := 36) hx hb hts hwX10 hown hK hP 0 rfl rfl 22 (by decide) hf_49 (fun _ h9 => h9) rfl dX10_goTo_18 ?_
              refine lv_bipush (v := nI 24) hx hb dX10_goTo_21 (by decide +kernel) ?_
              refine lv_iload_n hx hb dX10_goTo_23 rfl (lv_at hl 0 rfl) ?_
              refine kk_imul hx hb dX10_goTo_24 ?_
              refine lv_iload_n hx hb dX10_goTo_25 rfl (lv_at hl 1 rfl) ?_
              refine kk_iadd hx hb dX10_goTo_26 ?_
              refine lv_iload_n hx hb dX10_goTo_27 rfl (lv_at hl 1 rfl) ?_
              refine lv_aload_n hx hb dX10_goTo_28 rfl (lv_at hl 2 rfl) ?_
              refine va_get (D := D) (ci := 9) (v := .int (nI (cAg J))) (C := RX10) (T := TX10) (N := 36) hx hb hts hwX10 hown hK hP 0 rfl rfl 8 (by decide) hf_158 (fun _ h9 => h9) rfl dX10_goTo_29 ?_
              refine kk_icmp_ge (tgt := 39) hx hb dX10_goTo_32 (by decide) (by omega) (by omega) (fun c_44 => ?_) (fun c_44 => ?_)
              · skip
                refine lv_aload_n hx hb dX10_goTo_39 rfl (lv_at hl 2 rfl) ?_
                refine lv_iload_n hx hb dX10_goTo_40 rfl (lv_at hl 0 rfl) ?_
                refine lv_aload_n hx hb dX10_goTo_41 rfl (lv_at hl 2 rfl) ?_
                refine va_get (D := D) (ci := 9) (v := .ref a21) (C := RX10) (T := TX10) (N := 36) hx hb hts hwX10 hown hK hP 0 rfl rfl 21 (by decide) hf_46 (fun _ h9 => h9) rfl dX10_goTo_42 ?_
                refine lv_bipush (v := nI 24) hx hb dX10_goTo_45 (by decide +kernel) ?_
                refine lv_iload_n hx hb dX10_goTo_47 rfl (lv_at hl 0 rfl) ?_
                refine kk_imul hx hb dX10_goTo_48 ?_
                refine lv_iload_n hx hb dX10_goTo_49 rfl (lv_at hl 1 rfl) ?_
                refine kk_iadd hx hb dX10_goTo_50 ?_
                refine lv_aload_n hx hb dX10_goTo_51 rfl (lv_at hl 2 rfl) ?_
                refine va_get (D := D) (ci := 9) (v := .int (nI (cAg J))) (C := RX10) (T := TX10) (N := 36) hx hb hts hwX10 hown hK hP 0 rfl rfl 8 (by decide) hf_158 (fun _ h9 => h9) rfl dX10_goTo_52 ?_
                refine kk_isub hx hb dX10_goTo_55 (by omega) ?_
                refine kk_iald hx hb hK hP 9 rfl rfl (i := ((24 * k) + v) - (cAg J)) (by omega) (by decide) dX10_goTo_56 ?_
                refine kk_top (y := nI (Fa J (plc M (cSt J)) (v - cAg J) k)) ((congrArg fX (by omega)).trans (F1 (v - cAg J) (by omega) k (by omega))) ?_
                have hfl := Fa_le (C := J) (pl := (plc M (cSt J))) hJ3 (v - cAg J) k
                have o_45 : ki k = nI (kq k) ∧ kq k ≤ 2 := by exact ⟨(hkd.1 k (by omega)).1, (hkd.1 k (by omega)).2.1⟩
                have o_46 : k < 4 := by omega
                have o_47 : (Fa J (plc M (cSt J)) (v - cAg J) k) ≤ 999 := by omega
                refine vp_callSi (W.runV (As := [.int (nI k), .int (nI (Fa J (plc M (cSt J)) (v - cAg J) k))]) (rest := [.int (nI ((24 * k) + v)), .ref a22]) ⟨hx, hb, hml, hown, hts⟩ (c_X10_givenBy lL D cI cS m0 a1 a3 a5 a6 a7 a13 a14 a15 a16 a18 a19 a20 a21 a22 a23 a24 a25 a27 a28 a29 a30 a31 a32 a33 a34 i0 i2 (nI (cLa J)) (nI (cAg J)) i9 i10 i11 i12 (nI (mN M)) i26 i35 ki kq k (Fa J (plc M (cSt J)) (v - cAg J) k) o_45 o_46 o_47) (cwV 2 hts gX10_goTo_X10_givenBy rfl rfl rfl cd_X10_givenBy ⟨Nat.le_of_ble_eq_true rfl, Nat.le_of_ble_eq_true rfl⟩) ⟨kBp_blind, va_recv hK hP (ci := 9) (q0 := 0) rfl rfl, fun U hU hW => ⟨rfl, by rw [hU]; exact hP.sub [0, 3] rfl, va_K.moved hW.alike hK⟩⟩ rfl rfl hl.1 rfl (lv_room (Nat.le_of_ble_eq_true rfl)) dX10_goTo_57 ⟨Nat.le_of_ble_eq_true rfl, Nat.le_of_ble_eq_true rfl⟩) (fun r_48 hw_48 => ?_)
                obtain rfl : r_48 = nI (glow (kq k) (Fa J (plc M (cSt J)) (v - cAg J) k)) := hw_48
                refine kk_iast hx hb hK hP hD hS 10 rfl rfl (i := (24 * k) + v) (by omega) (by decide) dX10_goTo_60 (fun H locs hP hD hS => ?_)
                have hP : va_P D vwCl [(m0, .inr (9, [.int i0, .ref a1, .int i2, .ref a3, .int (nI (cLa J)), .ref a5, .ref a6, .ref a7, .int (nI (cAg J)), .int i9, .int i10, .int i11, .int i12, .ref a13, .ref a14, .ref a15, .ref a16, .int (nI (mN M)), .ref a18, .ref a19, .ref a20, .ref a21, .ref a22, .ref a23, .ref a24, .ref a25, .int i26, .ref a27, .ref a28, .ref a29, .ref a30, .ref a31, .ref a32, .ref a33, .ref a34, .int i35])), (a1, .inl (cI, 6, .inl sk)), (a3, .inl (cI, 4, .inl sh)), (a5, .inl (cI, 4, .inl ki)), (a6, .inl (cI, 4, .inl st)), (a7, .inl (cI, 4, .inl cl)), (a18, .inl (cI, 9, .inl mo)), (a19, .inl (cI, 9, .inl mi)), (a20, .inl (cI, 9, .inl mt)), (a21, .inl (cI, 96, .inl fX)), (a22, .inl (cI, 96, .inl (upd gY ((24 * k) + v) (nI (glow (kq k) (Fa J (plc M (cSt J)) (v - cAg J) k))))))] H := hP
                have hD : va_D A [(m0, .inr (9, [.int i0, .ref a1, .int i2, .ref a3, .int (nI (cLa J)), .ref a5, .ref a6, .ref a7, .int (nI (cAg J)), .int i9, .int i10, .int i11, .int i12, .ref a13, .ref a14, .ref a15, .ref a16, .int (nI (mN M)), .ref a18, .ref a19, .ref a20, .ref a21, .ref a22, .ref a23, .ref a24, .ref a25, .int i26, .ref a27, .ref a28, .ref a29, .ref a30, .ref a31, .ref a32, .ref a33, .ref a34, .int i35])), (a1, .inl (cI, 6, .inl sk)), (a3, .inl (cI, 4, .inl sh)), (a5, .inl (cI, 4, .inl ki)), (a6, .inl (cI, 4, .inl st)), (a7, .inl (cI, 4, .inl cl)), (a18, .inl (cI, 9, .inl mo)), (a19, .inl (cI, 9, .inl mi)), (a20, .inl (cI, 9, .inl mt)), (a21, .inl (cI, 96, .inl fX)), (a22, .inl (cI, 96, .inl (upd gY ((24 * k) + v) (nI (glow (kq k) (Fa J (plc M (cSt J)) (v - cAg J) k))))))] := hD
                refine lv_iinc (v := nI (k + 1)) (lv' := [(3, .int (nI (k + 1))), (2, .int (nI v)), (0, .ref m0), (1, .int (nI w))]) hx hb dX10_goTo_61 hl (k := 0) rfl (nI_add k 1) (by decide) rfl (fun ls hl => ?_)
                refine lv_goto (tgt := 9) hx hb dX10_goTo_64 (by decide) ?_
                have o_49 : (k + 1) ≤ cLa J := by omega
                have o_50 : tmG J (plc M (cSt J)) wo (upd gY ((24 * k) + v) (nI (glow (kq k) (Fa J (plc M (cSt J)) (v - cAg J) k)))) v := by intro u hu j hj hne; rw [up_ne _ _ (by omega)]; exact k2 u hu j hj hne
                have o_51 : ∀ j, j < (k + 1) → j ≠ wo → (upd gY ((24 * k) + v) (nI (glow (kq k) (Fa J (plc M (cSt J)) (v - cAg J) k)))) (24 * j + v) = nI (Gi J (plc M (cSt J)) v j) := by
                  intro j hj hne
                  by_cases e : j = k
                  · subst e; rw [up_at, Gi, if_neg (by omega), (hkd.1 j (by omega)).2.2.1 hne]
                  · rw [up_ne _ _ (by omega)]; exact z2 j (by omega) hne
                have o_52 : cLa J + 1 ≤ (k + 1) + n_9 := by omega
                exact ih_9 (k + 1) (upd gY ((24 * k) + v) (nI (glow (kq k) (Fa J (plc M (cSt J)) (v - cAg J) k)))) o_49 o_50 o_51 o_52 _ _ hP hD hS ls (lv_sub hl [0, 1, 2, 3] rfl)
              · skip
                refine lv_iconst (v := nI 0) hx hb dX10_goTo_35 (by decide +kernel) ?_
                refine lv_goto (tgt := 60) hx hb dX10_goTo_36 (by decide) ?_
                refine kk_iast hx hb hK hP hD hS 10 rfl rfl (i := (24 * k) + v) (by omega) (by decide) dX10_goTo_60 (fun H locs hP hD hS => ?_)
                have hP : va_P D vwCl [(m0, .inr (9, [.int i0, .ref a1, .int i2, .ref a3, .int (nI (cLa J)), .ref a5, .ref a6, .ref a7, .int (nI (cAg J)), .int i9, .int i10, .int i11, .int i12, .ref a13, .ref a14, .ref a15, .ref a16, .int (nI (mN M)), .ref a18, .ref a19, .ref a20, .ref a21, .ref a22, .ref a23, .ref a24, .ref a25, .int i26, .ref a27, .ref a28, .ref a29, .ref a30, .ref a31, .ref a32, .ref a33, .ref a34, .int i35])), (a1, .inl (cI, 6, .inl sk)), (a3, .inl (cI, 4, .inl sh)), (a5, .inl (cI, 4, .inl ki)), (a6, .inl (cI, 4, .inl st)), (a7, .inl (cI, 4, .inl cl)), (a18, .inl (cI, 9, .inl mo)), (a19, .inl (cI, 9, .inl mi)), (a20, .inl (cI, 9, .inl mt)), (a21, .inl (cI, 96, .inl fX)), (a22, .inl (cI, 96, .inl (upd gY ((24 * k) + v) (nI 0))))] H := hP
                have hD : va_D A [(m0, .inr (9, [.int i0, .ref a1, .int i2, .ref a3, .int (nI (cLa J)), .ref a5, .ref a6, .ref a7, .int (nI (cAg J)), .int i9, .int i10, .int i11, .int i12, .ref a13, .ref a14, .ref a15, .ref a16, .int (nI (mN M)), .ref a18, .ref a19, .ref a20, .ref a21, .ref a22, .ref a23, .ref a24, .ref a25, .int i26, .ref a27, .ref a28, .ref a29, .ref a30, .ref a31, .ref a32, .ref a33, .ref a34, .int i35])), (a1, .inl (cI, 6, .inl sk)), (a3, .inl (cI, 4, .inl sh)), (a5, .inl (cI, 4, .inl ki)), (a6, .inl (cI, 4, .inl st)), (a7, .inl (cI, 4, .inl cl)), (a18, .inl (cI, 9, .inl mo)), (a19, .inl (cI, 9, .inl mi)), (a20, .inl (cI, 9, .inl mt)), (a21, .inl (cI, 96, .inl fX)), (a22, .inl (cI, 96, .inl (upd gY ((24 * k) + v) (nI 0))))] := hD
                refine lv_iinc (v := nI (k + 1)) (lv' := [(3, .int (nI (k + 1))), (2, .int (nI v)), (0, .ref m0), (1, .int (nI w))]) hx hb dX10_goTo_61 hl (k := 0) rfl (nI_add k 1) (by decide) rfl (fun ls hl => ?_)
                refine lv_goto (tgt := 9) hx hb dX10_goTo_64 (by decide) ?_
                have o_53 : (k + 1) ≤ cLa J := by omega
                have o_54 : tmG J (plc M (cSt J)) wo (upd gY ((24 * k) + v) (nI 0)) v := by intro u hu j hj hne; rw [up_ne _ _ (by omega)]; exact k2 u hu j hj hne
                have o_55 : ∀ j, j < (k + 1) → j ≠ wo → (upd gY ((24 * k) + v) (nI 0)) (24 * j + v) = nI (Gi J (plc M (cSt J)) v j) := by
                  intro j hj hne
                  by_cases e : j = k
                  · subst e; rw [up_at, Gi, if_pos (by omega)]
                  · rw [up_ne _ _ (by omega)]; exact z2 j (by omega) hne
                have o_56 : cLa J + 1 ≤ (k + 1) + n_9 := by omega
                exact ih_9 (k + 1) (upd gY ((24 * k) + v) (nI 0)) o_53 o_54 o_55 o_56 _ _ hP hD hS ls (lv_sub hl [0, 1, 2, 3] rfl)
        have o_57 : 0 ≤ cLa J := by omega
        have o_58 : tmG J (plc M (cSt J)) wo gX v := by exact G1
        have o_59 : ∀ j, j < 0 → j ≠ wo → gX (24 * j + v) = nI (Gi J (plc M (cSt J)) v j) := by intro j h; omega
        have o_60 : cLa J + 1 ≤ 0 + (cLa J + 1) := by omega
        exact L_9 (cLa J + 1) 0 gX o_57 o_58 o_59 o_60 _ _ hP hD hS ls (lv_sub hl [0, 1, 2, 3] rfl)
  have o_61 : 0 ≤ w + 1 := by omega
  have o_62 : tmF J (plc M (cSt J)) fa 0 := by intro u hu; omega
  have o_63 : tmG J (plc M (cSt J)) wo gi 0 := by intro u hu; omega
  have o_64 : w + 2 ≤ 0 + (w + 2) := by omega
  exact L_2 (w + 2) 0 fa gi o_61 o_62 o_63 o_64 _ _ hP hD hS ls (lv_sub hl [0, 1, 2] rfl)

abbrev rmX10_lightOf : Room := { frames := 2, cells := 0, slots := 0, locals := 50 }
set_option maxHeartbeats 4000000 in
set_option maxRecDepth 100000 in
theorem c_X10_lightOf (lL : Launch) (D : va_G) (cI cS : ClassId) (J : Co) (M : Mv) (wo : Nat) (m0 : Nat) (a1 : Nat) (a3 : Nat) (a5 : Nat) (a6 : Nat) (a7 : Nat) (a13 : Nat) (a14 : Nat) (a15 : Nat) (a16 : Nat) (a18 : Nat) (a19 : Nat) (a20 : Nat) (a21 : Nat) (a22 : Nat) (a23 : Nat) (a24 : Nat) (a25 : Nat) (a27 : Nat) (a28 : Nat) (a29 : Nat) (a30 : Nat) (a31 : Nat) (a32 : Nat) (a33 : Nat) (a34 : Nat) (i0 : Int32) (i2 : Int32) (i8 : Int32) (i9 : Int32) (i10 : Int32) (i11 : Int32) (i12 : Int32) (i26 : Int32) (i35 : Int32) (sk : Nat → Int32) (sh : Nat → Int32) (st : Nat → Int32) (cl : Nat → Int32) (mo : Nat → Int32) (mi : Nat → Int32) (mt : Nat → Int32) (gi : Nat → Int32) (s : Nat) (w : Nat) (hJ : okC J) (hM : ok9 J M) (hst : ∀ k, k < cLa J → st k = nI (cSt J k)) (hrM : repM M mo mi mt) (hwo : ∀ k, k < 4 → (nI k = i9 ↔ k = wo)) (hk3 : wo < cLa J → cKi J wo = 3) (hrB : repB J sk sh cl) (hG : ∀ k, k < cLa J → k ≠ wo → gi (24 * k + w) = nI (Gi J (plc M (cSt J)) w k)) (hs : s < cSp J) (hw : w < 24) : Met lL yX10_lightOf wsX10_lightOf rmX10_lightOf (va_Pc [.ref m0, .int (nI s), .int (nI w)] (kBp D cI cS [(m0, .inr (9, [.int i0, .ref a1, .int i2, .ref a3, .int (nI (cLa J)), .ref a5, .ref a6, .ref a7, .int i8, .int i9, .int i10, .int i11, .int i12, .ref a13, .ref a14, .ref a15, .ref a16, .int (nI (mN M)), .ref a18, .ref a19, .ref a20, .ref a21, .ref a22, .ref a23, .ref a24, .ref a25, .int i26, .ref a27, .ref a28, .ref a29, .ref a30, .ref a31, .ref a32, .ref a33, .ref a34, .int i35])), (a1, .inl (cI, 6, .inl sk)), (a3, .inl (cI, 4, .inl sh)), (a6, .inl (cI, 4, .inl st)), (a7, .inl (cI, 4, .inl cl)), (a18, .inl (cI, 9, .inl mo)), (a19, .inl (cI, 9, .inl mi)), (a20, .inl (cI, 9, .inl mt)), (a22, .inl (cI, 96, .inl gi))])) (vp_Si (fun r : Int32 => r = nI (Li J (plc M (cSt J)) s w))) 0 0 (fun _ => False) := by
  refine Met.ofW (cc := cX10_lightOf) (maxL := 3) (ret := (some .int)) (by decide) rfl ?_
  intro pP eE sS mM args below meth cC s₁ B hml hv
  obtain ⟨rfl, hP, hK⟩ := hv
  have hx := B.exec
  have hb := B.bytes
  have hr := B.returns
  have hts := atoms_spec (ws := wsX10_lightOf) B.pre
  have hown : sS.vm.findClass RX10 = some mM.cls := findClass_of_methodNamed B.named
  have hlocks := B.notSynchronized
  have hP : va_P D vwCl [(m0, .inr (9, [.int i0, .ref a1, .int i2, .ref a3, .int (nI (cLa J)), .ref a5, .ref a6, .ref a7, .int i8, .int i9, .int i10, .int i11, .int i12, .ref a13, .ref a14, .ref a15, .ref a16, .int (nI (mN M)), .ref a18, .ref a19, .ref a20, .ref a21, .ref a22, .ref a23, .ref a24, .ref a25, .int i26, .ref a27, .ref a28, .ref a29, .ref a30, .ref a31, .ref a32, .ref a33, .ref a34, .int i35])), (a1, .inl (cI, 6, .inl sk)), (a3, .inl (cI, 4, .inl sh)), (a6, .inl (cI, 4, .inl st)), (a7, .inl (cI, 4, .inl cl)), (a18, .inl (cI, 9, .inl mo)), (a19, .inl (cI, 9, .inl mi)), (a20, .inl (cI, 9, .inl mt)), (a22, .inl (cI, 96, .inl gi))] sS.heap := hP
  have hl := lv_entry ([.ref m0, .int (nI s), .int (nI w)]) (n := 3) (Nat.le_of_ble_eq_true rfl)
  rw [lg_entry_eq]
  generalize (lg_sl ([.ref m0, .int (nI s), .int (nI w)]) ++ List.replicate (3 - (lg_sl ([.ref m0, .int (nI s), .int (nI w)])).length) Slot.unset).toArray = ls at hl ⊢
  have hl : lv_has ls 3 [(0, .ref m0), (1, .int (nI s)), (2, .int (nI w))] := hl
  obtain ⟨QQ, hQQ⟩ : ∃ QQ : State → Prop, QQ = MQ below (vp_Si (fun r : Int32 => r = nI (Li J (plc M (cSt J)) s w))) ([.ref m0, .int (nI s), .int (nI w)]).toArray sS 0 0 (fun _ => False) := ⟨_, rfl⟩
  refine kk_QQ hQQ.symm ?_
  obtain ⟨hJ1, hJ2, hJ3, hJ4, hJ5, hJ6, hJ7, hJ8⟩ := id hJ
  obtain ⟨hM1, hM2⟩ := id hM
  refine lv_aload_n hx hb dX10_lightOf_0 rfl (lv_at hl 0 rfl) ?_
  refine lv_iload_n hx hb dX10_lightOf_1 rfl (lv_at hl 1 rfl) ?_
  refine lv_iload_n hx hb dX10_lightOf_2 rfl (lv_at hl 2 rfl) ?_
  have o_1 : okC J := by assumption
  have o_2 : repB J sk sh cl := by assumption
  have o_3 : s < cSp J := by omega
  have o_4 : w < 24 := by omega
  refine vp_callSi (W.runV (As := [.int (nI s), .int (nI w)]) (rest := []) ⟨hx, hb, hml, hown, hts⟩ (c_X10_byDay lL D cI cS J m0 a1 a3 a5 a6 a7 a13 a14 a15 a16 a18 a19 a20 a21 a22 a23 a24 a25 a27 a28 a29 a30 a31 a32 a33 a34 i0 i2 (nI (cLa J)) i8 i9 i10 i11 i12 (nI (mN M)) i26 i35 sk sh cl s w o_1 o_2 o_3 o_4) (cwV 2 hts gX10_lightOf_X10_byDay rfl rfl rfl cd_X10_byDay ⟨Nat.le_of_ble_eq_true rfl, Nat.le_of_ble_eq_true rfl⟩) ⟨kBp_blind, va_recv hK hP (ci := 9) (q0 := 0) rfl rfl, fun U hU hW => ⟨rfl, by rw [hU]; exact hP.sub [0, 1, 2, 4] rfl, va_K.moved hW.alike hK⟩⟩ rfl rfl hl.1 rfl (lv_room (Nat.le_of_ble_eq_true rfl)) dX10_lightOf_3 ⟨Nat.le_of_ble_eq_true rfl, Nat.le_of_ble_eq_true rfl⟩) (fun r_5 hw_5 => ?_)
  obtain rfl : r_5 = nI (day J s w) := hw_5
  refine lv_aload_n hx hb dX10_lightOf_6 rfl (lv_at hl 0 rfl) ?_
  refine lv_iload_n hx hb dX10_lightOf_7 rfl (lv_at hl 1 rfl) ?_
  refine lv_iload_n hx hb dX10_lightOf_8 rfl (lv_at hl 2 rfl) ?_
  refine lv_bipush (v := (-9 : Int32)) hx hb dX10_lightOf_9 (by decide +kernel) ?_
  have o_6 : okC J := by assumption
  have o_7 : ok9 J M := by assumption
  have o_8 : ∀ k, k < cLa J → st k = nI (cSt J k) := by assumption
  have o_9 : repM M mo mi mt := by assumption
  have o_10 : ∀ k, k < 4 → (nI k = i9 ↔ k = wo) := by assumption
  have o_11 : wo < cLa J → cKi J wo = 3 := by assumption
  have o_12 : ∀ j, j < 4 → (nI j = (-9 : Int32) ↔ j = 9) := by decide +kernel
  have o_13 : ∀ k, k < cLa J → k ≠ wo → gi (24 * k + w) = nI (Gi J (plc M (cSt J)) w k) := by exact hG
  have o_14 : s < cSp J := by omega
  have o_15 : w < 24 := by omega
  refine vp_callSi (W.runV (As := [.int (nI s), .int (nI w), .int (-9 : Int32)]) (rest := [.int (nI (day J s w))]) ⟨hx, hb, hml, hown, hts⟩ (c_X10_allGiven lL D cI cS J M wo m0 a1 a3 a5 a6 a7 a13 a14 a15 a16 a18 a19 a20 a21 a22 a23 a24 a25 a27 a28 a29 a30 a31 a32 a33 a34 i0 i2 i8 i9 i10 i11 i12 i26 i35 st mo mi mt gi s w 9 (-9 : Int32) o_6 o_7 o_8 o_9 o_10 o_11 o_12 o_13 o_14 o_15) (cwV 3 hts gX10_lightOf_X10_allGiven rfl rfl rfl cd_X10_allGiven ⟨Nat.le_of_ble_eq_true rfl, Nat.le_of_ble_eq_true rfl⟩) ⟨kBp_blind, va_recv hK hP (ci := 9) (q0 := 0) rfl rfl, fun U hU hW => ⟨rfl, by rw [hU]; exact hP.sub [0, 3, 5, 6, 7, 8] rfl, va_K.moved hW.alike hK⟩⟩ rfl rfl hl.1 rfl (lv_room (Nat.le_of_ble_eq_true rfl)) dX10_lightOf_11 ⟨Nat.le_of_ble_eq_true rfl, Nat.le_of_ble_eq_true rfl⟩) (fun r_16 hw_16 => ?_)
  obtain rfl : r_16 = nI (gvN J (plc M (cSt J)) s w 9 (cLa J)) := hw_16
  refine kk_iadd hx hb dX10_lightOf_14 ?_
  have hq : nI ((day J s w) + (gvN J (plc M (cSt J)) s w 9 (cLa J))) = nI (Li J (plc M (cSt J)) s w) := by rw [Li_gv (show cLa J ≤ 9 by omega)]
  refine kk_QQ hQQ ?_
  exact W.iret (v := nI ((day J s w) + (gvN J (plc M (cSt J)) s w 9 (cLa J)))) hx hb hr (fun t ht hW => ⟨nI ((day J s w) + (gvN J (plc M (cSt J)) s w 9 (cLa J))), rfl, hq, ht⟩) (fun q h => by cases h) dX10_lightOf_15

abbrev rmX10_lightBy : Room := { frames := 3, cells := 0, slots := 0, locals := 75 }
set_option maxHeartbeats 4000000 in
set_option maxRecDepth 100000 in
theorem c_X10_lightBy (lL : Launch) (D : va_G) (cI cS : ClassId) (sz : Nat) (J : Co) (M : Mv) (wo : Nat) (kq : Nat → Nat) (m0 : Nat) (a1 : Nat) (a3 : Nat) (a5 : Nat) (a6 : Nat) (a7 : Nat) (a13 : Nat) (a14 : Nat) (a15 : Nat) (a16 : Nat) (a18 : Nat) (a19 : Nat) (a20 : Nat) (a21 : Nat) (a22 : Nat) (a23 : Nat) (a24 : Nat) (a25 : Nat) (a27 : Nat) (a28 : Nat) (a29 : Nat) (a30 : Nat) (a31 : Nat) (a32 : Nat) (a33 : Nat) (a34 : Nat) (i0 : Int32) (i2 : Int32) (i9 : Int32) (i10 : Int32) (i11 : Int32) (i12 : Int32) (i26 : Int32) (i35 : Int32) (sk : Nat → Int32) (sh : Nat → Int32) (ki : Nat → Int32) (st : Nat → Int32) (cl : Nat → Int32) (mo : Nat → Int32) (mi : Nat → Int32) (mt : Nat → Int32) (fa : Nat → Int32) (gi : Nat → Int32) (s : Nat) (w : Nat) (hJ : okC J) (hM : ok9 J M) (hst : ∀ k, k < cLa J → st k = nI (cSt J k)) (hrM : repM M mo mi mt) (hkd : kdM J wo i9 kq ki) (hrB : repB J sk sh cl) (hs : s < cSp J) (hw : w < 24) : Met lL yX10_lightBy wsX10_lightBy rmX10_lightBy (va_Pc [.ref m0, .int (nI s), .int (nI w)] (kB D cI cS [(m0, .inr (9, [.int i0, .ref a1, .int i2, .ref a3, .int (nI (cLa J)), .ref a5, .ref a6, .ref a7, .int (nI (cAg J)), .int i9, .int i10, .int i11, .int i12, .ref a13, .ref a14, .ref a15, .ref a16, .int (nI (mN M)), .ref a18, .ref a19, .ref a20, .ref a21, .ref a22, .ref a23, .ref a24, .ref a25, .int i26, .ref a27, .ref a28, .ref a29, .ref a30, .ref a31, .ref a32, .ref a33, .ref a34, .int i35])), (a1, .inl (cI, 6, .inl sk)), (a3, .inl (cI, 4, .inl sh)), (a5, .inl (cI, 4, .inl ki)), (a6, .inl (cI, 4, .inl st)), (a7, .inl (cI, 4, .inl cl)), (a18, .inl (cI, 9, .inl mo)), (a19, .inl (cI, 9, .inl mi)), (a20, .inl (cI, 9, .inl mt)), (a21, .inl (cI, 96, .inl fa)), (a22, .inl (cI, 96, .inl gi))] sz)) (kQi D (fun (r : Int32) (u : (Nat → Int32) × (Nat → Int32)) => r = nI (Li J (plc M (cSt J)) s w) ∧ True) (fun u : (Nat → Int32) × (Nat → Int32) => [(m0, .inr (9, [.int i0, .ref a1, .int i2, .ref a3, .int (nI (cLa J)), .ref a5, .ref a6, .ref a7, .int (nI (cAg J)), .int i9, .int i10, .int i11, .int i12, .ref a13, .ref a14, .ref a15, .ref a16, .int (nI (mN M)), .ref a18, .ref a19, .ref a20, .ref a21, .ref a22, .ref a23, .ref a24, .ref a25, .int i26, .ref a27, .ref a28, .ref a29, .ref a30, .ref a31, .ref a32, .ref a33, .ref a34, .int i35])), (a1, .inl (cI, 6, .inl sk)), (a3, .inl (cI, 4, .inl sh)), (a5, .inl (cI, 4, .inl ki)), (a6, .inl (cI, 4, .inl st)), (a7, .inl (cI, 4, .inl cl)), (a18, .inl (cI, 9, .inl mo)), (a19, .inl (cI, 9, .inl mi)), (a20, .inl (cI, 9, .inl mt)), (a21, .inl (cI, 96, .inl u.1)), (a22, .inl (cI, 96, .inl u.2))]) (va_A [(m0, .inr (9, [.int i0, .ref a1, .int i2, .ref a3, .int (nI (cLa J)), .ref a5, .ref a6, .ref a7, .int (nI (cAg J)), .int i9, .int i10, .int i11, .int i12, .ref a13, .ref a14, .ref a15, .ref a16, .int (nI (mN M)), .ref a18, .ref a19, .ref a20, .ref a21, .ref a22, .ref a23, .ref a24, .ref a25, .int i26, .ref a27, .ref a28, .ref a29, .ref a30, .ref a31, .ref a32, .ref a33, .ref a34, .int i35])), (a1, .inl (cI, 6, .inl sk)), (a3, .inl (cI, 4, .inl sh)), (a5, .inl (cI, 4, .inl ki)), (a6, .inl (cI, 4, .inl st)), (a7, .inl (cI, 4, .inl cl)), (a18, .inl (cI, 9, .inl mo)), (a19, .inl (cI, 9, .inl mi)), (a20, .inl (cI, 9, .inl mt)), (a21, .inl (cI, 96, .inl fa)), (a22, .inl (cI, 96, .inl gi))] sz)) 0 0 (va_A [(m0, .inr (9, [.int i0, .ref a1, .int i2, .ref a3, .int (nI (cLa J)), .ref a5, .ref a6, .ref a7, .int (nI (cAg J)), .int i9, .int i10, .int i11, .int i12, .ref a13, .ref a14, .ref a15, .ref a16, .int (nI (mN M)), .ref a18, .ref a19, .ref a20, .ref a21, .ref a22, .ref a23, .ref a24, .ref a25, .int i26, .ref a27, .ref a28, .ref a29, .ref a30, .ref a31, .ref a32, .ref a33, .ref a34, .int i35])), (a1, .inl (cI, 6, .inl sk)), (a3, .inl (cI, 4, .inl sh)), (a5, .inl (cI, 4, .inl ki)), (a6, .inl (cI, 4, .inl st)), (a7, .inl (cI, 4, .inl cl)), (a18, .inl (cI, 9, .inl mo)), (a19, .inl (cI, 9, .inl mi)), (a20, .inl (cI, 9, .inl mt)), (a21, .inl (cI, 96, .inl fa)), (a22, .inl (cI, 96, .inl gi))] sz) := by
  refine Met.ofW (cc := cX10_lightBy) (maxL := 3) (ret := (some .int)) (by decide) rfl ?_
  intro pP eE sS mM args below meth cC s₁ B hml hv
  obtain ⟨rfl, hsz, hP, hK, hD0⟩ := hv
  have hx := B.exec
  have hb := B.bytes
  have hr := B.returns
  have hts := atoms_spec (ws := wsX10_lightBy) B.pre
  have hown : sS.vm.findClass RX10 = some mM.cls := findClass_of_methodNamed B.named
  have hlocks := B.notSynchronized
  subst hsz
  have hD := hD0.self (sz := sS.heap.size)
  generalize hAe : va_A [(m0, .inr (9, [.int i0, .ref a1, .int i2, .ref a3, .int (nI (cLa J)), .ref a5, .ref a6, .ref a7, .int (nI (cAg J)), .int i9, .int i10, .int i11, .int i12, .ref a13, .ref a14, .ref a15, .ref a16, .int (nI (mN M)), .ref a18, .ref a19, .ref a20, .ref a21, .ref a22, .ref a23, .ref a24, .ref a25, .int i26, .ref a27, .ref a28, .ref a29, .ref a30, .ref a31, .ref a32, .ref a33, .ref a34, .int i35])), (a1, .inl (cI, 6, .inl sk)), (a3, .inl (cI, 4, .inl sh)), (a5, .inl (cI, 4, .inl ki)), (a6, .inl (cI, 4, .inl st)), (a7, .inl (cI, 4, .inl cl)), (a18, .inl (cI, 9, .inl mo)), (a19, .inl (cI, 9, .inl mi)), (a20, .inl (cI, 9, .inl mt)), (a21, .inl (cI, 96, .inl fa)), (a22, .inl (cI, 96, .inl gi))] sS.heap.size = A at hD ⊢
  have hA : ∀ q : Nat, sS.heap.size ≤ q → A q := fun q h => by rw [← hAe]; exact Or.inr h
  have hS : va_S A sS.heap sS.heap [] := va_S.rf
  have hP : va_P D vwCl [(m0, .inr (9, [.int i0, .ref a1, .int i2, .ref a3, .int (nI (cLa J)), .ref a5, .ref a6, .ref a7, .int (nI (cAg J)), .int i9, .int i10, .int i11, .int i12, .ref a13, .ref a14, .ref a15, .ref a16, .int (nI (mN M)), .ref a18, .ref a19, .ref a20, .ref a21, .ref a22, .ref a23, .ref a24, .ref a25, .int i26, .ref a27, .ref a28, .ref a29, .ref a30, .ref a31, .ref a32, .ref a33, .ref a34, .int i35])), (a1, .inl (cI, 6, .inl sk)), (a3, .inl (cI, 4, .inl sh)), (a5, .inl (cI, 4, .inl ki)), (a6, .inl (cI, 4, .inl st)), (a7, .inl (cI, 4, .inl cl)), (a18, .inl (cI, 9, .inl mo)), (a19, .inl (cI, 9, .inl mi)), (a20, .inl (cI, 9, .inl mt)), (a21, .inl (cI, 96, .inl fa)), (a22, .inl (cI, 96, .inl gi))] sS.heap := hP
  have hD : va_D A [(m0, .inr (9, [.int i0, .ref a1, .int i2, .ref a3, .int (nI (cLa J)), .ref a5, .ref a6, .ref a7, .int (nI (cAg J)), .int i9, .int i10, .int i11, .int i12, .ref a13, .ref a14, .ref a15, .ref a16, .int (nI (mN M)), .ref a18, .ref a19, .ref a20, .ref a21, .ref a22, .ref a23, .ref a24, .ref a25, .int i26, .ref a27, .ref a28, .ref a29, .ref a30, .ref a31, .ref a32, .ref a33, .ref a34, .int i35])), (a1, .inl (cI, 6, .inl sk)), (a3, .inl (cI, 4, .inl sh)), (a5, .inl (cI, 4, .inl ki)), (a6, .inl (cI, 4, .inl st)), (a7, .inl (cI, 4, .inl cl)), (a18, .inl (cI, 9, .inl mo)), (a19, .inl (cI, 9, .inl mi)), (a20, .inl (cI, 9, .inl mt)), (a21, .inl (cI, 96, .inl fa)), (a22, .inl (cI, 96, .inl gi))] := hD
  have hl := lv_entry ([.ref m0, .int (nI s), .int (nI w)]) (n := 3) (Nat.le_of_ble_eq_true rfl)
  rw [lg_entry_eq]
  generalize (lg_sl ([.ref m0, .int (nI s), .int (nI w)]) ++ List.replicate (3 - (lg_sl ([.ref m0, .int (nI s), .int (nI w)])).length) Slot.unset).toArray = ls at hl ⊢
  have hl : lv_has ls 3 [(0, .ref m0), (1, .int (nI s)), (2, .int (nI w))] := hl
  obtain ⟨QQ, hQQ⟩ : ∃ QQ : State → Prop, QQ = MQ below (kQi D (fun (r : Int32) (u : (Nat → Int32) × (Nat → Int32)) => r = nI (Li J (plc M (cSt J)) s w) ∧ True) (fun u : (Nat → Int32) × (Nat → Int32) => [(m0, .inr (9, [.int i0, .ref a1, .int i2, .ref a3, .int (nI (cLa J)), .ref a5, .ref a6, .ref a7, .int (nI (cAg J)), .int i9, .int i10, .int i11, .int i12, .ref a13, .ref a14, .ref a15, .ref a16, .int (nI (mN M)), .ref a18, .ref a19, .ref a20, .ref a21, .ref a22, .ref a23, .ref a24, .ref a25, .int i26, .ref a27, .ref a28, .ref a29, .ref a30, .ref a31, .ref a32, .ref a33, .ref a34, .int i35])), (a1, .inl (cI, 6, .inl sk)), (a3, .inl (cI, 4, .inl sh)), (a5, .inl (cI, 4, .inl ki)), (a6, .inl (cI, 4, .inl st)), (a7, .inl (cI, 4, .inl cl)), (a18, .inl (cI, 9, .inl mo)), (a19, .inl (cI, 9, .inl mi)), (a20, .inl (cI, 9, .inl mt)), (a21, .inl (cI, 96, .inl u.1)), (a22, .inl (cI, 96, .inl u.2))]) A) ([.ref m0, .int (nI s), .int (nI w)]).toArray sS 0 0 A := ⟨_, rfl⟩
  refine kk_QQ hQQ.symm ?_
  obtain ⟨hJ1, hJ2, hJ3, hJ4, hJ5, hJ6, hJ7, hJ8⟩ := id hJ
  obtain ⟨hM1, hM2⟩ := id hM
  have hwo := hkd.2
  have hk3 : wo < cLa J → cKi J wo = 3 := fun z => (hkd.1 wo z).2.2.2 rfl
  refine lv_aload_n hx hb dX10_lightBy_0 rfl (lv_at hl 0 rfl) ?_
  refine lv_iload_n hx hb dX10_lightBy_1 rfl (lv_at hl 2 rfl) ?_
  have o_1 : okC J := by assumption
  have o_2 : ok9 J M := by assumption
  have o_3 : ∀ k, k < cLa J → st k = nI (cSt J k) := by assumption
  have o_4 : repM M mo mi mt := by assumption
  have o_5 : kdM J wo i9 kq ki := by assumption
  have o_6 : repB J sk sh cl := by assumption
  have o_7 : w < 24 := by omega
  have hF := va_free (wc := [(m0, .inr (9, [.int i0, .ref a1, .int i2, .ref a3, .int (nI (cLa J)), .ref a5, .ref a6, .ref a7, .int (nI (cAg J)), .int i9, .int i10, .int i11, .int i12, .ref a13, .ref a14, .ref a15, .ref a16, .int (nI (mN M)), .ref a18, .ref a19, .ref a20, .ref a21, .ref a22, .ref a23, .ref a24, .ref a25, .int i26, .ref a27, .ref a28, .ref a29, .ref a30, .ref a31, .ref a32, .ref a33, .ref a34, .int i35])), (a1, .inl (cI, 6, .inl sk)), (a3, .inl (cI, 4, .inl sh)), (a5, .inl (cI, 4, .inl ki)), (a6, .inl (cI, 4, .inl st)), (a7, .inl (cI, 4, .inl cl)), (a18, .inl (cI, 9, .inl mo)), (a19, .inl (cI, 9, .inl mi)), (a20, .inl (cI, 9, .inl mt)), (a21, .inl (cI, 96, .inl fa)), (a22, .inl (cI, 96, .inl gi))]) hD hS hA [0, 1, 2, 3, 4, 5, 6, 7, 8, 9, 10] rfl
  refine va_callv (va_runV (As := [.int (nI w)]) (rest := []) ⟨hx, hb, hml, hown, hts⟩ (c_X10_goTo lL D cI cS _ J M wo kq m0 a1 a3 a5 a6 a7 a13 a14 a15 a16 a18 a19 a20 a21 a22 a23 a24 a25 a27 a28 a29 a30 a31 a32 a33 a34 i0 i2 i9 i10 i11 i12 i26 i35 sk sh ki st cl mo mi mt fa gi w o_1 o_2 o_3 o_4 o_5 o_6 o_7) (cwV 1 hts gX10_lightBy_X10_goTo rfl rfl rfl cd_X10_goTo ⟨Nat.le_of_ble_eq_true rfl, Nat.le_of_ble_eq_true rfl⟩) ⟨kB_blind, va_recv hK hP (ci := 9) (q0 := 0) rfl rfl, fun U hU hW => ⟨rfl, by rw [hU], by rw [hU]; exact hP.sub [0, 1, 2, 3, 4, 5, 6, 7, 8, 9, 10] rfl, va_K.moved hW.alike hK, (hD.sub [0, 1, 2, 3, 4, 5, 6, 7, 8, 9, 10] (by decide) rfl).weaken (fun _ _ _ _ => trivial)⟩⟩ rfl rfl hl.1 rfl (lv_room (Nat.le_of_ble_eq_true rfl)) dX10_lightBy_2 ⟨Nat.le_of_ble_eq_true rfl, Nat.le_of_ble_eq_true rfl⟩) hS (fun q _ h => hF q h) hF (fun u_8 t H1 locs ht hvm hw_8 hB hz1 hk1 hS => ?_)
  obtain ⟨fa2_8, gi2_8⟩ := u_8
  obtain ⟨hP, hD⟩ := kk_join2 (wc := [(m0, .inr (9, [.int i0, .ref a1, .int i2, .ref a3, .int (nI (cLa J)), .ref a5, .ref a6, .ref a7, .int (nI (cAg J)), .int i9, .int i10, .int i11, .int i12, .ref a13, .ref a14, .ref a15, .ref a16, .int (nI (mN M)), .ref a18, .ref a19, .ref a20, .ref a21, .ref a22, .ref a23, .ref a24, .ref a25, .int i26, .ref a27, .ref a28, .ref a29, .ref a30, .ref a31, .ref a32, .ref a33, .ref a34, .int i35])), (a1, .inl (cI, 6, .inl sk)), (a3, .inl (cI, 4, .inl sh)), (a5, .inl (cI, 4, .inl ki)), (a6, .inl (cI, 4, .inl st)), (a7, .inl (cI, 4, .inl cl)), (a18, .inl (cI, 9, .inl mo)), (a19, .inl (cI, 9, .inl mi)), (a20, .inl (cI, 9, .inl mt)), (a21, .inl (cI, 96, .inl fa)), (a22, .inl (cI, 96, .inl gi))]) (w1 := [(m0, .inr (9, [.int i0, .ref a1, .int i2, .ref a3, .int (nI (cLa J)), .ref a5, .ref a6, .ref a7, .int (nI (cAg J)), .int i9, .int i10, .int i11, .int i12, .ref a13, .ref a14, .ref a15, .ref a16, .int (nI (mN M)), .ref a18, .ref a19, .ref a20, .ref a21, .ref a22, .ref a23, .ref a24, .ref a25, .int i26, .ref a27, .ref a28, .ref a29, .ref a30, .ref a31, .ref a32, .ref a33, .ref a34, .int i35])), (a1, .inl (cI, 6, .inl sk)), (a3, .inl (cI, 4, .inl sh)), (a5, .inl (cI, 4, .inl ki)), (a6, .inl (cI, 4, .inl st)), (a7, .inl (cI, 4, .inl cl)), (a18, .inl (cI, 9, .inl mo)), (a19, .inl (cI, 9, .inl mi)), (a20, .inl (cI, 9, .inl mt)), (a21, .inl (cI, 96, .inl fa2_8)), (a22, .inl (cI, 96, .inl gi2_8))]) (ws' := [(m0, .inr (9, [.int i0, .ref a1, .int i2, .ref a3, .int (nI (cLa J)), .ref a5, .ref a6, .ref a7, .int (nI (cAg J)), .int i9, .int i10, .int i11, .int i12, .ref a13, .ref a14, .ref a15, .ref a16, .int (nI (mN M)), .ref a18, .ref a19, .ref a20, .ref a21, .ref a22, .ref a23, .ref a24, .ref a25, .int i26, .ref a27, .ref a28, .ref a29, .ref a30, .ref a31, .ref a32, .ref a33, .ref a34, .int i35])), (a1, .inl (cI, 6, .inl sk)), (a3, .inl (cI, 4, .inl sh)), (a5, .inl (cI, 4, .inl ki)), (a6, .inl (cI, 4, .inl st)), (a7, .inl (cI, 4, .inl cl)), (a18, .inl (cI, 9, .inl mo)), (a19, .inl (cI, 9, .inl mi)), (a20, .inl (cI, 9, .inl mt)), (a21, .inl (cI, 96, .inl fa2_8)), (a22, .inl (cI, 96, .inl gi2_8))]) (wr := []) (H1 := H1) hP hD [0, 1, 2, 3, 4, 5, 6, 7, 8, 9, 10] [] rfl rfl rfl rfl 11 rfl (by decide) [m0, a1, a3, a5, a6, a7, a18, a19, a20, a21, a22] rfl rfl hk1 (by rw [← ht]; exact hB)
  have hw_8 : tmF J (plc M (cSt J)) fa2_8 (w + 1) ∧ tmG J (plc M (cSt J)) wo gi2_8 (w + 1) := hw_8
  clear hF hB hk1 hz1 hvm
  clear ht
  generalize H1 = H at hP hS ⊢
  refine lv_aload_n hx hb dX10_lightBy_5 rfl (lv_at hl 0 rfl) ?_
  refine lv_iload_n hx hb dX10_lightBy_6 rfl (lv_at hl 1 rfl) ?_
  refine lv_iload_n hx hb dX10_lightBy_7 rfl (lv_at hl 2 rfl) ?_
  have o_9 : okC J := by assumption
  have o_10 : ok9 J M := by assumption
  have o_11 : ∀ k, k < cLa J → st k = nI (cSt J k) := by assumption
  have o_12 : repM M mo mi mt := by assumption
  have o_13 : ∀ k, k < 4 → (nI k = i9 ↔ k = wo) := by assumption
  have o_14 : wo < cLa J → cKi J wo = 3 := by assumption
  have o_15 : repB J sk sh cl := by assumption
  have o_16 : ∀ k, k < cLa J → k ≠ wo → gi2_8 (24 * k + w) = nI (Gi J (plc M (cSt J)) w k) := by exact fun k hk hne => hw_8.2 w (by omega) k hk hne
  have o_17 : s < cSp J := by omega
  have o_18 : w < 24 := by omega
  refine vp_callSi (W.runV (As := [.int (nI s), .int (nI w)]) (rest := []) ⟨hx, hb, hml, hown, hts⟩ (c_X10_lightOf lL D cI cS J M wo m0 a1 a3 a5 a6 a7 a13 a14 a15 a16 a18 a19 a20 a21 a22 a23 a24 a25 a27 a28 a29 a30 a31 a32 a33 a34 i0 i2 (nI (cAg J)) i9 i10 i11 i12 i26 i35 sk sh st cl mo mi mt gi2_8 s w o_9 o_10 o_11 o_12 o_13 o_14 o_15 o_16 o_17 o_18) (cwV 2 hts gX10_lightBy_X10_lightOf rfl rfl rfl cd_X10_lightOf ⟨Nat.le_of_ble_eq_true rfl, Nat.le_of_ble_eq_true rfl⟩) ⟨kBp_blind, va_recv hK hP (ci := 9) (q0 := 0) rfl rfl, fun U hU hW => ⟨rfl, by rw [hU]; exact hP.sub [0, 1, 2, 4, 5, 6, 7, 8, 10] rfl, va_K.moved hW.alike hK⟩⟩ rfl rfl hl.1 rfl (lv_room (Nat.le_of_ble_eq_true rfl)) dX10_lightBy_8 ⟨Nat.le_of_ble_eq_true rfl, Nat.le_of_ble_eq_true rfl⟩) (fun r_19 hw_19 => ?_)
  obtain rfl : r_19 = nI (Li J (plc M (cSt J)) s w) := hw_19
  have hq : (nI (Li J (plc M (cSt J)) s w)) = nI (Li J (plc M (cSt J)) s w) ∧ True := by exact ⟨rfl, trivial⟩
  refine kk_QQ hQQ ?_
  exact W.iret (v := nI (Li J (plc M (cSt J)) s w)) hx hb hr (fun t ht hW => ⟨⟨nI (Li J (plc M (cSt J)) s w), (fa2_8, gi2_8), rfl, hq, by show va_P D vwCl _ t.heap; rw [ht]; exact hP⟩, hS.F ht⟩) hS.2.2 dX10_lightBy_11
