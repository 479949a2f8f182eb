theorem cd_X2_daylight : yX2_daylight.cls = RX2 ∧ yX2_daylight.cls ≠ "java/lang/invoke/MethodHandle" ∧ yX2_daylight.cls ≠ "java/lang/invoke/VarHandle" ∧ (parseMethodDescriptor yX2_daylight.desc).map (fun d => d.parameters.length) = some 2 := by decide +kernel
theorem cd_X8_placeLamps : yX8_placeLamps.cls = RX8 ∧ yX8_placeLamps.cls ≠ "java/lang/invoke/MethodHandle" ∧ yX8_placeLamps.cls ≠ "java/lang/invoke/VarHandle" ∧ (parseMethodDescriptor yX8_placeLamps.desc).map (fun d => d.parameters.length) = some 3 := by decide +kernel
theorem cd_X8_reckonLight : yX8_reckonLight.cls = RX8 ∧ yX8_reckonLight.cls ≠ "java/lang/invoke/MethodHandle" ∧ yX8_reckonLight.cls ≠ "java/lang/invoke/VarHandle" ∧ (parseMethodDescriptor yX8_reckonLight.desc).map (fun d => d.parameters.length) = some 3 := by decide +kernel
abbrev rmX8_lightOf : Room := { frames := 1, cells := 0, slots := 0, locals := 21 }
set_option maxHeartbeats 4000000 in
set_option maxRecDepth 100000 in
theorem c_X8_lightOf (lL : Launch) (D : va_G) (cI cS : ClassId) (h0 : Nat) (h1 : Nat) (h2 : Nat) (h3 : Nat) (h4 : Nat) (h5 : Nat) (lA : Nat → Int32) (s : Nat) (w : Nat) (hs : s < 4) (hw : w < 24) : Met lL yX8_lightOf wsX8_lightOf rmX8_lightOf (va_Pc [.ref h0, .int (nI s), .int (nI w)] (kBp D cI cS [(h0, .inr (7, [.ref h1, .ref h2, .ref h3, .ref h4, .ref h5])), (h5, .inl (cI, 96, .inl lA))])) (vp_Si (fun r : Int32 => r = lA (w * 4 + s))) 0 0 (fun _ => False) := by
  refine Met.ofW (cc := cX8_lightOf) (maxL := 3) (ret := (some .int)) (by decide) rfl ?_
  intro pP eE sS mM args below meth cC s₁ B hml hv
  obtain ⟨rfl, hP, hK⟩ := hv
  have hx := B.exec
  have hb := B.bytes
  have hr := B.returns
  have hts := atoms_spec (ws := wsX8_lightOf) B.pre
  have hown : sS.vm.findClass RX8 = some mM.cls := findClass_of_methodNamed B.named
  have hlocks := B.notSynchronized
  have hP : va_P D vwCl [(h0, .inr (7, [.ref h1, .ref h2, .ref h3, .ref h4, .ref h5])), (h5, .inl (cI, 96, .inl lA))] sS.heap := hP
  have hf_24 := hts (.fieldLink RX8 24 "OldLamps$Watches" "lit" "[I") (List.mem_of_getElem? (i := 1) rfl)
  have hwX8 : ∀ w ∈ wsX80, w ∈ wsX8_lightOf := fun _ h => List.mem_cons_of_mem _ (List.mem_append_right _ h)
  have hl := lv_entry ([.ref h0, .int (nI s), .int (nI w)]) (n := 3) (Nat.le_of_ble_eq_true rfl)
  rw [lg_entry_eq]
  generalize (lg_sl ([.ref h0, .int (nI s), .int (nI w)]) ++ List.replicate (3 - (lg_sl ([.ref h0, .int (nI s), .int (nI w)])).length) Slot.unset).toArray = ls at hl ⊢
  have hl : lv_has ls 3 [(0, .ref h0), (1, .int (nI s)), (2, .int (nI w))] := hl
  obtain ⟨QQ, hQQ⟩ : ∃ QQ : State → Prop, QQ = MQ below (vp_Si (fun r : Int32 => r = lA (w * 4 + s))) ([.ref h0, .int (nI s), .int (nI w)]).toArray sS 0 0 (fun _ => False) := ⟨_, rfl⟩
  refine kk_QQ hQQ.symm ?_
  refine lv_aload_n hx hb dX8_lightOf_0 rfl (lv_at hl 0 rfl) ?_
  refine va_get (D := D) (ci := 7) (v := .ref h5) (C := RX8) (T := TX8) (N := 5) hx hb hts hwX8 hown hK hP 0 rfl rfl 4 (by decide) hf_24 (fun _ h9 => h9) rfl dX8_lightOf_1 ?_
  refine lv_iload_n hx hb dX8_lightOf_4 rfl (lv_at hl 2 rfl) ?_
  refine lv_iload_n hx hb dX8_lightOf_5 rfl (lv_at hl 1 rfl) ?_
  refine vp_callSi (W.runS (As := [.int (nI w), .int (nI s)]) (rest := [.ref h5]) ⟨hx, hb, hml, hown, hts⟩ (c_X8_at lL D cI cS w s) (va_cwS 2 hts gX8_lightOf_X8_at rfl rfl rfl cd_X8_at ⟨Nat.le_of_ble_eq_true rfl, Nat.le_of_ble_eq_true rfl⟩) ⟨kBp_blind, fun U hU hW => ⟨rfl, by rw [hU]; exact hP.sub [] rfl, va_K.moved hW.alike hK⟩⟩ rfl rfl hl.1 rfl (lv_room (Nat.le_of_ble_eq_true rfl)) dX8_lightOf_6 ⟨Nat.le_of_ble_eq_true rfl, Nat.le_of_ble_eq_true rfl⟩) (fun r_1 hw_1 => ?_)
  obtain rfl : r_1 = nI (w * 4 + s) := hw_1
  refine kk_iald hx hb hK hP 1 rfl rfl (i := w * 4 + s) (by omega) (by decide) dX8_lightOf_9 ?_
  have hq : lA (w * 4 + s) = lA (w * 4 + s) := by rfl
  refine kk_QQ hQQ ?_
  exact W.iret (v := lA (w * 4 + s)) hx hb hr (fun t ht hW => ⟨lA (w * 4 + s), rfl, hq, ht⟩) (fun q h => by cases h) dX8_lightOf_10

abbrev rmX8_allLight : Room := { frames := 1, cells := 0, slots := 0, locals := 21 }
set_option maxHeartbeats 4000000 in
set_option maxRecDepth 100000 in
theorem c_X8_allLight (lL : Launch) (D : va_G) (cI cS : ClassId) (C : Co) (pl : Nat → Nat → Nat) (h0 : Nat) (h1 : Nat) (h2 : Nat) (h3 : Nat) (h4 : Nat) (h5 : Nat) (lA : Nat → Int32) (hC : okC C) (tL0 : tL C pl lA 0 24) : Met lL yX8_allLight wsX8_allLight rmX8_allLight (va_Pc [.ref h0, .int (nI (cSp C))] (kBp D cI cS [(h0, .inr (7, [.ref h1, .ref h2, .ref h3, .ref h4, .ref h5])), (h5, .inl (cI, 96, .inl lA))])) (vp_Si (fun r : Int32 => r = nI (allL C pl))) 0 0 (fun _ => False) := by
  refine Met.ofW (cc := cX8_allLight) (maxL := 5) (ret := (some .int)) (by decide) rfl ?_
  intro pP eE sS mM args below meth cC s₁ B hml hv
  obtain ⟨rfl, hP, hK⟩ := hv
  have hx := B.exec
  have hb := B.bytes
  have hr := B.returns
  have hts := atoms_spec (ws := wsX8_allLight) B.pre
  have hown : sS.vm.findClass RX8 = some mM.cls := findClass_of_methodNamed B.named
  have hlocks := B.notSynchronized
  have hP : va_P D vwCl [(h0, .inr (7, [.ref h1, .ref h2, .ref h3, .ref h4, .ref h5])), (h5, .inl (cI, 96, .inl lA))] sS.heap := hP
  have hf_24 := hts (.fieldLink RX8 24 "OldLamps$Watches" "lit" "[I") (List.mem_of_getElem? (i := 1) rfl)
  have hwX8 : ∀ w ∈ wsX80, w ∈ wsX8_allLight := fun _ h => List.mem_cons_of_mem _ (List.mem_append_right _ h)
  have hl := lv_entry ([.ref h0, .int (nI (cSp C))]) (n := 5) (Nat.le_of_ble_eq_true rfl)
  rw [lg_entry_eq]
  generalize (lg_sl ([.ref h0, .int (nI (cSp C))]) ++ List.replicate (5 - (lg_sl ([.ref h0, .int (nI (cSp C))])).length) Slot.unset).toArray = ls at hl ⊢
  have hl : lv_has ls 5 [(0, .ref h0), (1, .int (nI (cSp C)))] := hl
  obtain ⟨QQ, hQQ⟩ : ∃ QQ : State → Prop, QQ = MQ below (vp_Si (fun r : Int32 => r = nI (allL C pl))) ([.ref h0, .int (nI (cSp C))]).toArray sS 0 0 (fun _ => False) := ⟨_, rfl⟩
  refine kk_QQ hQQ.symm ?_
  obtain ⟨hC1, hC2, hC3, hC4, hC5, hC6, hC7, hC8⟩ := id hC
  refine lv_iconst (v := nI 0) hx hb dX8_allLight_0 (by decide +kernel) ?_
  refine lv_istore_n (lv' := [(2, .int (nI 0)), (0, .ref h0), (1, .int (nI (cSp C)))]) hx hb dX8_allLight_1 rfl hl (by decide) rfl (fun ls hl => ?_)
  refine lv_iconst (v := nI 0) hx hb dX8_allLight_2 (by decide +kernel) ?_
  refine lv_istore_n (lv' := [(3, .int (nI 0)), (2, .int (nI 0)), (0, .ref h0), (1, .int (nI (cSp C)))]) hx hb dX8_allLight_3 rfl hl (by decide) rfl (fun ls hl => ?_)
  have L_4 : ∀ (n_4 : Nat) (w : Nat), (w ≤ 24) → 25 ≤ w + n_4 → ∀ (ls : Array Slot), lv_has ls 5 [(3, .int (nI w)), (2, .int (nI (sumN (fun w => sumN (fun s => Li C pl s w) (cSp C)) w))), (0, .ref h0), (1, .int (nI (cSp C)))] → W pP lL eE (headSpec wsX8_allLight rmX8_allLight).room sS mM ([.ref h0, .int (nI (cSp C))]).toArray below meth cC sS.heap [] 0 0 QQ (F0 mM 4 ls []) := by
    intro n_4
    induction n_4 with
    | zero =>
      intro w hw hn_4 ls hl
      exact absurd hn_4 (by omega)
    | succ n_4 ih_4 =>
      intro w hw hn_4 ls hl
      refine lv_iload_n hx hb dX8_allLight_4 rfl (lv_at hl 0 rfl) ?_
      refine lv_bipush (v := nI 24) hx hb dX8_allLight_5 (by decide +kernel) ?_
      refine kk_icmp_ge (tgt := 45) hx hb dX8_allLight_7 (by decide) (by omega) (by omega) (fun c_1 => ?_) (fun c_1 => ?_)
      · skip
        refine lv_iload_n hx hb dX8_allLight_45 rfl (lv_at hl 1 rfl) ?_
        have hq : nI (sumN (fun w => sumN (fun s => Li C pl s w) (cSp C)) w) = nI (allL C pl) := by
          have e_w : w = 24 := by omega
          subst e_w
          rfl
        refine kk_QQ hQQ ?_
        exact W.iret (v := nI (sumN (fun w => sumN (fun s => Li C pl s w) (cSp C)) w)) hx hb hr (fun t ht hW => ⟨nI (sumN (fun w => sumN (fun s => Li C pl s w) (cSp C)) w), rfl, hq, ht⟩) (fun q h => by cases h) dX8_allLight_46
      · skip
        refine lv_iconst (v := nI 0) hx hb dX8_allLight_10 (by decide +kernel) ?_
        refine lv_istore (lv' := [(4, .int (nI 0)), (3, .int (nI w)), (2, .int (nI (sumN (fun w => sumN (fun s => Li C pl s w) (cSp C)) w))), (0, .ref h0), (1, .int (nI (cSp C)))]) hx hb dX8_allLight_11 hl (by decide) rfl (fun ls hl => ?_)
        have L_13 : ∀ (n_13 : Nat) (s : Nat), (s ≤ cSp C) → cSp C + 1 ≤ s + n_13 → ∀ (ls : Array Slot), lv_has ls 5 [(4, .int (nI s)), (3, .int (nI w)), (2, .int (nI (sumN (fun w => sumN (fun s => Li C pl s w) (cSp C)) w + sumN (fun s => Li C pl s w) s))), (0, .ref h0), (1, .int (nI (cSp C)))] → W pP lL eE (headSpec wsX8_allLight rmX8_allLight).room sS mM ([.ref h0, .int (nI (cSp C))]).toArray below meth cC sS.heap [] 0 0 QQ (F0 mM 13 ls []) := by
          intro n_13
          induction n_13 with
          | zero =>
            intro s hs hn_13 ls hl
            exact absurd hn_13 (by omega)
          | succ n_13 ih_13 =>
            intro s hs hn_13 ls hl
            refine lv_iload hx hb dX8_allLight_13 (lv_at hl 0 rfl) ?_
            refine lv_iload_n hx hb dX8_allLight_15 rfl (lv_at hl 4 rfl) ?_
            refine kk_icmp_ge (tgt := 39) hx hb dX8_allLight_16 (by decide) (by omega) (by omega) (fun c_2 => ?_) (fun c_2 => ?_)
            · skip
              have e_3 : nI (sumN (fun w => sumN (fun s => Li C pl s w) (cSp C)) w + sumN (fun s => Li C pl s w) s) = nI (sumN (fun w => sumN (fun s => Li C pl s w) (cSp C)) (w + 1)) := by
                congr 1
                rw [show s = cSp C by omega]; rfl
              rw [e_3] at hl
              refine lv_iinc (v := nI (w + 1)) (lv' := [(3, .int (nI (w + 1))), (4, .int (nI s)), (2, .int (nI (sumN (fun w => sumN (fun s => Li C pl s w) (cSp C)) (w + 1)))), (0, .ref h0), (1, .int (nI (cSp C)))]) hx hb dX8_allLight_39 hl (k := 1) rfl (nI_add w 1) (by decide) rfl (fun ls hl => ?_)
              refine lv_goto (tgt := 4) hx hb dX8_allLight_42 (by decide) ?_
              have o_4 : (w + 1) ≤ 24 := by omega
              have o_5 : 25 ≤ (w + 1) + n_4 := by omega
              exact ih_4 (w + 1) o_4 o_5 ls (lv_sub hl [0, 2, 3, 4] rfl)
            · skip
              refine lv_iload_n hx hb dX8_allLight_19 rfl (lv_at hl 2 rfl) ?_
              refine lv_aload_n hx hb dX8_allLight_20 rfl (lv_at hl 3 rfl) ?_
              refine va_get (D := D) (ci := 7) (v := .ref h5) (C := RX8) (T := TX8) (N := 5) hx hb hts hwX8 hown hK hP 0 rfl rfl 4 (by decide) hf_24 (fun _ h9 => h9) rfl dX8_allLight_21 ?_
              refine lv_iload_n hx hb dX8_allLight_24 rfl (lv_at hl 1 rfl) ?_
              refine lv_iload hx hb dX8_allLight_25 (lv_at hl 0 rfl) ?_
              refine vp_callSi (W.runS (As := [.int (nI w), .int (nI s)]) (rest := [.ref h5, .int (nI (sumN (fun w => sumN (fun s => Li C pl s w) (cSp C)) w + sumN (fun s => Li C pl s w) s))]) ⟨hx, hb, hml, hown, hts⟩ (c_X8_at lL D cI cS w s) (va_cwS 2 hts gX8_allLight_X8_at rfl rfl rfl cd_X8_at ⟨Nat.le_of_ble_eq_true rfl, Nat.le_of_ble_eq_true rfl⟩) ⟨kBp_blind, fun U hU hW => ⟨rfl, by rw [hU]; exact hP.sub [] rfl, va_K.moved hW.alike hK⟩⟩ rfl rfl hl.1 rfl (lv_room (Nat.le_of_ble_eq_true rfl)) dX8_allLight_27 ⟨Nat.le_of_ble_eq_true rfl, Nat.le_of_ble_eq_true rfl⟩) (fun r_6 hw_6 => ?_)
              obtain rfl : r_6 = nI (w * 4 + s) := hw_6
              refine kk_iald hx hb hK hP 1 rfl rfl (i := w * 4 + s) (by omega) (by decide) dX8_allLight_30 ?_
              refine kk_top (y := nI (Li C pl s w)) (tL0 w (by omega) (by omega) s (by omega)) ?_
              refine kk_iadd hx hb dX8_allLight_31 ?_
              refine lv_istore_n (lv' := [(2, .int (nI ((sumN (fun w => sumN (fun s => Li C pl s w) (cSp C)) w + sumN (fun s => Li C pl s w) s) + (Li C pl s w)))), (4, .int (nI s)), (3, .int (nI w)), (0, .ref h0), (1, .int (nI (cSp C)))]) hx hb dX8_allLight_32 rfl hl (by decide) rfl (fun ls hl => ?_)
              have e_7 : nI ((sumN (fun w => sumN (fun s => Li C pl s w) (cSp C)) w + sumN (fun s => Li C pl s w) s) + (Li C pl s w)) = nI (sumN (fun w => sumN (fun s => Li C pl s w) (cSp C)) w + sumN (fun s => Li C pl s w) (s + 1)) := by
                congr 1
                exact Nat.add_assoc _ _ _
              rw [e_7] at hl
              refine lv_iinc (v := nI (s + 1)) (lv' := [(4, .int (nI (s + 1))), (2, .int (nI (sumN (fun w => sumN (fun s => Li C pl s w) (cSp C)) w + sumN (fun s => Li C pl s w) (s + 1)))), (3, .int (nI w)), (0, .ref h0), (1, .int (nI (cSp C)))]) hx hb dX8_allLight_33 hl (k := 1) rfl (nI_add s 1) (by decide) rfl (fun ls hl => ?_)
              refine lv_goto (tgt := 13) hx hb dX8_allLight_36 (by decide) ?_
              have o_8 : (s + 1) ≤ cSp C := by omega
              have o_9 : cSp C + 1 ≤ (s + 1) + n_13 := by omega
              exact ih_13 (s + 1) o_8 o_9 ls (lv_sub hl [0, 2, 1, 3, 4] rfl)
        have o_10 : 0 ≤ cSp C := by omega
        have o_11 : cSp C + 1 ≤ 0 + (cSp C + 1) := by omega
        exact L_13 (cSp C + 1) 0 o_10 o_11 ls (lv_sub hl [0, 1, 2, 3, 4] rfl)
  have o_12 : 0 ≤ 24 := by omega
  have o_13 : 25 ≤ 0 + 25 := by omega
  exact L_4 25 0 o_12 o_13 ls (lv_sub hl [0, 1, 2, 3] rfl)

abbrev rmX8_countBelow : Room := { frames := 1, cells := 0, slots := 0, locals := 21 }
set_option maxHeartbeats 4000000 in
set_option maxRecDepth 100000 in
theorem c_X8_countBelow (lL : Launch) (D : va_G) (cI cS : ClassId) (C : Co) (pl : Nat → Nat → Nat) (h0 : Nat) (h1 : Nat) (h2 : Nat) (h3 : Nat) (h4 : Nat) (h5 : Nat) (lA : Nat → Int32) (s : Nat) (v : Nat) (hC : okC C) (hs : s < cSp C) (hv0 : v < 1000) (tL0 : tL C pl lA 0 24) : Met lL yX8_countBelow wsX8_countBelow rmX8_countBelow (va_Pc [.ref h0, .int (nI s), .int (nI v)] (kBp D cI cS [(h0, .inr (7, [.ref h1, .ref h2, .ref h3, .ref h4, .ref h5])), (h5, .inl (cI, 96, .inl lA))])) (vp_Si (fun r : Int32 => r = nI (cntB C pl s v))) 0 0 (fun _ => False) := by
  refine Met.ofW (cc := cX8_countBelow) (maxL := 5) (ret := (some .int)) (by decide) rfl ?_
  intro pP eE sS mM args below meth cC s₁ B hml hv
  obtain ⟨rfl, hP, hK⟩ := hv
  have hx := B.exec
  have hb := B.bytes
  have hr := B.returns
  have hts := atoms_spec (ws := wsX8_countBelow) B.pre
  have hown : sS.vm.findClass RX8 = some mM.cls := findClass_of_methodNamed B.named
  have hlocks := B.notSynchronized
  have hP : va_P D vwCl [(h0, .inr (7, [.ref h1, .ref h2, .ref h3, .ref h4, .ref h5])), (h5, .inl (cI, 96, .inl lA))] sS.heap := hP
  have hf_24 := hts (.fieldLink RX8 24 "OldLamps$Watches" "lit" "[I") (List.mem_of_getElem? (i := 1) rfl)
  have hwX8 : ∀ w ∈ wsX80, w ∈ wsX8_countBelow := fun _ h => List.mem_cons_of_mem _ (List.mem_append_right _ h)
  have hl := lv_entry ([.ref h0, .int (nI s), .int (nI v)]) (n := 5) (Nat.le_of_ble_eq_true rfl)
  rw [lg_entry_eq]
  generalize (lg_sl ([.ref h0, .int (nI s), .int (nI v)]) ++ List.replicate (5 - (lg_sl ([.ref h0, .int (nI s), .int (nI v)])).length) Slot.unset).toArray = ls at hl ⊢
  have hl : lv_has ls 5 [(0, .ref h0), (1, .int (nI s)), (2, .int (nI v))] := hl
  obtain ⟨QQ, hQQ⟩ : ∃ QQ : State → Prop, QQ = MQ below (vp_Si (fun r : Int32 => r = nI (cntB C pl s v))) ([.ref h0, .int (nI s), .int (nI v)]).toArray sS 0 0 (fun _ => False) := ⟨_, rfl⟩
  refine kk_QQ hQQ.symm ?_
  obtain ⟨hC1, hC2, hC3, hC4, hC5, hC6, hC7, hC8⟩ := id hC
  refine lv_iconst (v := nI 0) hx hb dX8_countBelow_0 (by decide +kernel) ?_
  refine lv_istore_n (lv' := [(3, .int (nI 0)), (0, .ref h0), (1, .int (nI s)), (2, .int (nI v))]) hx hb dX8_countBelow_1 rfl hl (by decide) rfl (fun ls hl => ?_)
  refine lv_iconst (v := nI 0) hx hb dX8_countBelow_2 (by decide +kernel) ?_
  refine lv_istore (lv' := [(4, .int (nI 0)), (3, .int (nI 0)), (0, .ref h0), (1, .int (nI s)), (2, .int (nI v))]) hx hb dX8_countBelow_3 hl (by decide) rfl (fun ls hl => ?_)
  have L_5 : ∀ (n_5 : Nat) (w : Nat), (w ≤ 24) → 25 ≤ w + n_5 → ∀ (ls : Array Slot), lv_has ls 5 [(4, .int (nI w)), (3, .int (nI (sumN (fun w => if Li C pl s w < v then 1 else 0) w))), (0, .ref h0), (1, .int (nI s)), (2, .int (nI v))] → W pP lL eE (headSpec wsX8_countBelow rmX8_countBelow).room sS mM ([.ref h0, .int (nI s), .int (nI v)]).toArray below meth cC sS.heap [] 0 0 QQ (F0 mM 5 ls []) := by
    intro n_5
    induction n_5 with
    | zero =>
      intro w hw hn_5 ls hl
      exact absurd hn_5 (by omega)
    | succ n_5 ih_5 =>
      intro w hw hn_5 ls hl
      refine lv_iload hx hb dX8_countBelow_5 (lv_at hl 0 rfl) ?_
      refine lv_bipush (v := nI 24) hx hb dX8_countBelow_7 (by decide +kernel) ?_
      refine kk_icmp_ge (tgt := 36) hx hb dX8_countBelow_9 (by decide) (by omega) (by omega) (fun c_1 => ?_) (fun c_1 => ?_)
      · skip
        refine lv_iload_n hx hb dX8_countBelow_36 rfl (lv_at hl 1 rfl) ?_
        have hq : nI (sumN (fun w => if Li C pl s w < v then 1 else 0) w) = nI (cntB C pl s v) := by
          have e_w : w = 24 := by omega
          subst e_w
          rfl
        refine kk_QQ hQQ ?_
        exact W.iret (v := nI (sumN (fun w => if Li C pl s w < v then 1 else 0) w)) hx hb hr (fun t ht hW => ⟨nI (sumN (fun w => if Li C pl s w < v then 1 else 0) w), rfl, hq, ht⟩) (fun q h => by cases h) dX8_countBelow_37
      · skip
        refine lv_aload_n hx hb dX8_countBelow_12 rfl (lv_at hl 2 rfl) ?_
        refine va_get (D := D) (ci := 7) (v := .ref h5) (C := RX8) (T := TX8) (N := 5) hx hb hts hwX8 hown hK hP 0 rfl rfl 4 (by decide) hf_24 (fun _ h9 => h9) rfl dX8_countBelow_13 ?_
        refine lv_iload hx hb dX8_countBelow_16 (lv_at hl 0 rfl) ?_
        refine lv_iload_n hx hb dX8_countBelow_18 rfl (lv_at hl 3 rfl) ?_
        refine vp_callSi (W.runS (As := [.int (nI w), .int (nI s)]) (rest := [.ref h5]) ⟨hx, hb, hml, hown, hts⟩ (c_X8_at lL D cI cS w s) (va_cwS 2 hts gX8_countBelow_X8_at rfl rfl rfl cd_X8_at ⟨Nat.le_of_ble_eq_true rfl, Nat.le_of_ble_eq_true rfl⟩) ⟨kBp_blind, fun U hU hW => ⟨rfl, by rw [hU]; exact hP.sub [] rfl, va_K.moved hW.alike hK⟩⟩ rfl rfl hl.1 rfl (lv_room (Nat.le_of_ble_eq_true rfl)) dX8_countBelow_19 ⟨Nat.le_of_ble_eq_true rfl, Nat.le_of_ble_eq_true rfl⟩) (fun r_2 hw_2 => ?_)
        obtain rfl : r_2 = nI (w * 4 + s) := hw_2
        refine kk_iald hx hb hK hP 1 rfl rfl (i := w * 4 + s) (by omega) (by decide) dX8_countBelow_22 ?_
        refine kk_top (y := nI (Li C pl s w)) (tL0 w (by omega) (by omega) s (by omega)) ?_
        have hll := Li_le hC pl s w
        refine lv_iload_n hx hb dX8_countBelow_23 rfl (lv_at hl 4 rfl) ?_
        refine kk_icmp_ge (tgt := 30) hx hb dX8_countBelow_24 (by decide) (by omega) (by omega) (fun c_3 => ?_) (fun c_3 => ?_)
        · skip
          have e_4 : nI (sumN (fun w => if Li C pl s w < v then 1 else 0) w) = nI (sumN (fun w => if Li C pl s w < v then 1 else 0) (w + 1)) := by
            congr 1
            show _ = sumN _ w + (if Li C pl s w < v then 1 else 0)
            rw [if_neg (by omega)]; rfl
          rw [e_4] at hl
          refine lv_iinc (v := nI (w + 1)) (lv' := [(4, .int (nI (w + 1))), (3, .int (nI (sumN (fun w => if Li C pl s w < v then 1 else 0) (w + 1)))), (0, .ref h0), (1, .int (nI s)), (2, .int (nI v))]) hx hb dX8_countBelow_30 hl (k := 0) rfl (nI_add w 1) (by decide) rfl (fun ls hl => ?_)
          refine lv_goto (tgt := 5) hx hb dX8_countBelow_33 (by decide) ?_
          have o_5 : (w + 1) ≤ 24 := by omega
          have o_6 : 25 ≤ (w + 1) + n_5 := by omega
          exact ih_5 (w + 1) o_5 o_6 ls (lv_sub hl [0, 1, 2, 3, 4] rfl)
        · skip
          refine lv_iinc (v := nI (sumN (fun w => if Li C pl s w < v then 1 else 0) w + 1)) (lv' := [(3, .int (nI (sumN (fun w => if Li C pl s w < v then 1 else 0) w + 1))), (4, .int (nI w)), (0, .ref h0), (1, .int (nI s)), (2, .int (nI v))]) hx hb dX8_countBelow_27 hl (k := 1) rfl (nI_add (sumN (fun w => if Li C pl s w < v then 1 else 0) w) 1) (by decide) rfl (fun ls hl => ?_)
          have e_7 : nI (sumN (fun w => if Li C pl s w < v then 1 else 0) w + 1) = nI (sumN (fun w => if Li C pl s w < v then 1 else 0) (w + 1)) := by
            congr 1
            show _ = sumN _ w + (if Li C pl s w < v then 1 else 0)
            rw [if_pos (by omega)]
          rw [e_7] at hl
          refine lv_iinc (v := nI (w + 1)) (lv' := [(4, .int (nI (w + 1))), (3, .int (nI (sumN (fun w => if Li C pl s w < v then 1 else 0) (w + 1)))), (0, .ref h0), (1, .int (nI s)), (2, .int (nI v))]) hx hb dX8_countBelow_30 hl (k := 1) rfl (nI_add w 1) (by decide) rfl (fun ls hl => ?_)
          refine lv_goto (tgt := 5) hx hb dX8_countBelow_33 (by decide) ?_
          have o_8 : (w + 1) ≤ 24 := by omega
          have o_9 : 25 ≤ (w + 1) + n_5 := by omega
          exact ih_5 (w + 1) o_8 o_9 ls (lv_sub hl [0, 1, 2, 3, 4] rfl)
  have o_10 : 0 ≤ 24 := by omega
  have o_11 : 25 ≤ 0 + 25 := by omega
  exact L_5 25 0 o_10 o_11 ls (lv_sub hl [0, 1, 2, 3, 4] rfl)

abbrev rmX1_nextWatch : Room := { frames := 1, cells := 0, slots := 0, locals := 40 }
set_option maxHeartbeats 4000000 in
set_option maxRecDepth 100000 in
theorem c_X1_nextWatch (lL : Launch) (D : va_G) (cI cS : ClassId) (C : Co) (M : Mv) (e0 : Nat) (e1 : Nat) (e2 : Nat) (e3 : Nat) (wf : Nat → Int32) (tf : Nat → Int32) (k : Nat) (w : Nat) (hM : okM C M) (hwf : ∀ i, i < mN M → wf i = nI (mW M i)) (htf : ∀ i, i < mN M → tf i = nI (mT M i)) (hk : k < 4) (hw : w < 24) (hla : cLa C ≤ 4) : Met lL yX1_nextWatch wsX1_nextWatch rmX1_nextWatch (va_Pc [.ref e0, .int (nI k), .int (nI w)] (kBp D cI cS [(e0, .inr (0, [.int (nI (mN M)), .ref e1, .ref e2, .ref e3])), (e1, .inl (cI, 8, .inl wf)), (e2, .inl (cI, 8, .inl tf))])) (vp_Si (fun r : Int32 => r = nI (nxtE M k w (mN M)))) 0 0 (fun _ => False) := by
  refine Met.ofW (cc := cX1_nextWatch) (maxL := 5) (ret := (some .int)) (by decide) rfl ?_
  intro pP eE sS mM args below meth cC s₁ B hml hv
  obtain ⟨rfl, hP, hK⟩ := hv
  have hx := B.exec
  have hb := B.bytes
  have hr := B.returns
  have hts := atoms_spec (ws := wsX1_nextWatch) B.pre
  have hown : sS.vm.findClass RX1 = some mM.cls := findClass_of_methodNamed B.named
  have hlocks := B.notSynchronized
  have hP : va_P D vwCl [(e0, .inr (0, [.int (nI (mN M)), .ref e1, .ref e2, .ref e3])), (e1, .inl (cI, 8, .inl wf)), (e2, .inl (cI, 8, .inl tf))] sS.heap := hP
  have hf_9 := hts (.fieldLink RX1 9 "OldLamps$Entries" "count" "I") (List.mem_of_getElem? (i := 1) rfl)
  have hf_15 := hts (.fieldLink RX1 15 "OldLamps$Entries" "whos" "[I") (List.mem_of_getElem? (i := 2) rfl)
  have hf_19 := hts (.fieldLink RX1 19 "OldLamps$Entries" "watches" "[I") (List.mem_of_getElem? (i := 3) rfl)
  have hm1_min := hts (.methodLink RX1 25 Lib.Math.min.name) (List.mem_of_getElem? (i := 4) rfl)
  have hm2_min := hts (.static Lib.Math.min.name) (List.mem_of_getElem? (i := 5) rfl)
  have hm3 := hts (.initialized "java/lang/Math") (List.mem_of_getElem? (i := 6) rfl)
  have hm4_min := hts (.code Lib.Math.min.name Lib.Math.min.code 2 (some .int)) (List.mem_of_getElem? (i := 7) rfl)
  have hwX1 : ∀ w ∈ wsX10, w ∈ wsX1_nextWatch := fun _ h => List.mem_cons_of_mem _ (List.mem_append_right _ h)
  have hl := lv_entry ([.ref e0, .int (nI k), .int (nI w)]) (n := 5) (Nat.le_of_ble_eq_true rfl)
  rw [lg_entry_eq]
  generalize (lg_sl ([.ref e0, .int (nI k), .int (nI w)]) ++ List.replicate (5 - (lg_sl ([.ref e0, .int (nI k), .int (nI w)])).length) Slot.unset).toArray = ls at hl ⊢
  have hl : lv_has ls 5 [(0, .ref e0), (1, .int (nI k)), (2, .int (nI w))] := hl
  obtain ⟨QQ, hQQ⟩ : ∃ QQ : State → Prop, QQ = MQ below (vp_Si (fun r : Int32 => r = nI (nxtE M k w (mN M)))) ([.ref e0, .int (nI k), .int (nI w)]).toArray sS 0 0 (fun _ => False) := ⟨_, rfl⟩
  refine kk_QQ hQQ.symm ?_
  obtain ⟨hM1, hM2⟩ := id hM
  refine lv_bipush (v := nI 24) hx hb dX1_nextWatch_0 (by decide +kernel) ?_
  refine lv_istore_n (lv' := [(3, .int (nI 24)), (0, .ref e0), (1, .int (nI k)), (2, .int (nI w))]) hx hb dX1_nextWatch_2 rfl hl (by decide) rfl (fun ls hl => ?_)
  refine lv_iconst (v := nI 0) hx hb dX1_nextWatch_3 (by decide +kernel) ?_
  refine lv_istore (lv' := [(4, .int (nI 0)), (3, .int (nI 24)), (0, .ref e0), (1, .int (nI k)), (2, .int (nI w))]) hx hb dX1_nextWatch_4 hl (by decide) rfl (fun ls hl => ?_)
  have L_6 : ∀ (n_6 : Nat) (i : Nat), (i ≤ mN M) → mN M + 1 ≤ i + n_6 → ∀ (ls : Array Slot), lv_has ls 5 [(4, .int (nI i)), (3, .int (nI (nxtE M k w i))), (0, .ref e0), (1, .int (nI k)), (2, .int (nI w))] → W pP lL eE (headSpec wsX1_nextWatch rmX1_nextWatch).room sS mM ([.ref e0, .int (nI k), .int (nI w)]).toArray below meth cC sS.heap [] 0 0 QQ (F0 mM 6 ls []) := by
    intro n_6
    induction n_6 with
    | zero =>
      intro i hi hn_6 ls hl
      exact absurd hn_6 (by omega)
    | succ n_6 ih_6 =>
      intro i hi hn_6 ls hl
      have hnx := nxtE_le M k w i
      refine lv_iload hx hb dX1_nextWatch_6 (lv_at hl 0 rfl) ?_
      refine lv_aload_n hx hb dX1_nextWatch_8 rfl (lv_at hl 2 rfl) ?_
      refine va_get (D := D) (ci := 0) (v := .int (nI (mN M))) (C := RX1) (T := TX1) (N := 4) hx hb hts hwX1 hown hK hP 0 rfl rfl 0 (by decide) hf_9 (fun _ h9 => h9) rfl dX1_nextWatch_9 ?_
      refine kk_icmp_ge (tgt := 55) hx hb dX1_nextWatch_12 (by decide) (by omega) (by omega) (fun c_1 => ?_) (fun c_1 => ?_)
      · skip
        refine lv_iload_n hx hb dX1_nextWatch_55 rfl (lv_at hl 1 rfl) ?_
        have hq : nI (nxtE M k w i) = nI (nxtE M k w (mN M)) := by rw [show i = mN M by omega]
        refine kk_QQ hQQ ?_
        exact W.iret (v := nI (nxtE M k w i)) hx hb hr (fun t ht hW => ⟨nI (nxtE M k w i), rfl, hq, ht⟩) (fun q h => by cases h) dX1_nextWatch_56
      · skip
        refine lv_aload_n hx hb dX1_nextWatch_15 rfl (lv_at hl 2 rfl) ?_
        refine va_get (D := D) (ci := 0) (v := .ref e1) (C := RX1) (T := TX1) (N := 4) hx hb hts hwX1 hown hK hP 0 rfl rfl 1 (by decide) hf_15 (fun _ h9 => h9) rfl dX1_nextWatch_16 ?_
        refine lv_iload hx hb dX1_nextWatch_19 (lv_at hl 0 rfl) ?_
        refine kk_iald hx hb hK hP 1 rfl rfl (i := i) (by omega) (by decide) dX1_nextWatch_21 ?_
        refine kk_top (y := nI (mW M i)) (hwf i (by omega)) ?_
        have hmi := hM2 i (by omega)
        refine lv_iload_n hx hb dX1_nextWatch_22 rfl (lv_at hl 3 rfl) ?_
        refine kk_icmp_ne (tgt := 49) hx hb dX1_nextWatch_23 (by decide) (by omega) (by omega) (fun c_2 => ?_) (fun c_2 => ?_)
        · skip
          have e_3 : nI (nxtE M k w i) = nI (nxtE M k w (i + 1)) := by
            congr 1
            rw [nxtE_s, if_neg (by omega)]
          rw [e_3] at hl
          refine lv_iinc (v := nI (i + 1)) (lv' := [(4, .int (nI (i + 1))), (3, .int (nI (nxtE M k w (i + 1)))), (0, .ref e0), (1, .int (nI k)), (2, .int (nI w))]) hx hb dX1_nextWatch_49 hl (k := 0) rfl (nI_add i 1) (by decide) rfl (fun ls hl => ?_)
          refine lv_goto (tgt := 6) hx hb dX1_nextWatch_52 (by decide) ?_
          have o_4 : (i + 1) ≤ mN M := by omega
          have o_5 : mN M + 1 ≤ (i + 1) + n_6 := by omega
          exact ih_6 (i + 1) o_4 o_5 ls (lv_sub hl [0, 1, 2, 3, 4] rfl)
        · skip
          refine lv_aload_n hx hb dX1_nextWatch_26 rfl (lv_at hl 2 rfl) ?_
          refine va_get (D := D) (ci := 0) (v := .ref e2) (C := RX1) (T := TX1) (N := 4) hx hb hts hwX1 hown hK hP 0 rfl rfl 2 (by decide) hf_19 (fun _ h9 => h9) rfl dX1_nextWatch_27 ?_
          refine lv_iload hx hb dX1_nextWatch_30 (lv_at hl 0 rfl) ?_
          refine kk_iald hx hb hK hP 2 rfl rfl (i := i) (by omega) (by decide) dX1_nextWatch_32 ?_
          refine kk_top (y := nI (mT M i)) (htf i (by omega)) ?_
          refine lv_iload_n hx hb dX1_nextWatch_33 rfl (lv_at hl 4 rfl) ?_
          refine kk_icmp_le (tgt := 49) hx hb dX1_nextWatch_34 (by decide) (by omega) (by omega) (fun c_6 => ?_) (fun c_6 => ?_)
          · skip
            have e_7 : nI (nxtE M k w i) = nI (nxtE M k w (i + 1)) := by
              congr 1
              rw [nxtE_s, if_neg (by omega)]
            rw [e_7] at hl
            refine lv_iinc (v := nI (i + 1)) (lv' := [(4, .int (nI (i + 1))), (3, .int (nI (nxtE M k w (i + 1)))), (0, .ref e0), (1, .int (nI k)), (2, .int (nI w))]) hx hb dX1_nextWatch_49 hl (k := 0) rfl (nI_add i 1) (by decide) rfl (fun ls hl => ?_)
            refine lv_goto (tgt := 6) hx hb dX1_nextWatch_52 (by decide) ?_
            have o_8 : (i + 1) ≤ mN M := by omega
            have o_9 : mN M + 1 ≤ (i + 1) + n_6 := by omega
            exact ih_6 (i + 1) o_8 o_9 ls (lv_sub hl [0, 1, 2, 3, 4] rfl)
          · skip
            refine lv_iload_n hx hb dX1_nextWatch_37 rfl (lv_at hl 1 rfl) ?_
            refine lv_aload_n hx hb dX1_nextWatch_38 rfl (lv_at hl 2 rfl) ?_
            refine va_get (D := D) (ci := 0) (v := .ref e2) (C := RX1) (T := TX1) (N := 4) hx hb hts hwX1 hown hK hP 0 rfl rfl 2 (by decide) hf_19 (fun _ h9 => h9) rfl dX1_nextWatch_39 ?_
            refine lv_iload hx hb dX1_nextWatch_42 (lv_at hl 0 rfl) ?_
            refine kk_iald hx hb hK hP 2 rfl rfl (i := i) (by omega) (by decide) dX1_nextWatch_44 ?_
            refine kk_top (y := nI (mT M i)) (htf i (by omega)) ?_
            refine va_mmin hx hb (hml.trans hl.1.symm) hown hm1_min hm2_min hm3 hm4_min (Nat.le_of_ble_eq_true rfl) (Nat.le_of_ble_eq_true rfl) (Nat.zero_le _) (Nat.zero_le _) dX1_nextWatch_45 ?_
            refine kk_top (y := nI (min (nxtE M k w i) (mT M i))) (kk_min (by omega) (by omega)) ?_
            refine lv_istore_n (lv' := [(3, .int (nI (min (nxtE M k w i) (mT M i)))), (4, .int (nI i)), (0, .ref e0), (1, .int (nI k)), (2, .int (nI w))]) hx hb dX1_nextWatch_48 rfl hl (by decide) rfl (fun ls hl => ?_)
            have e_10 : nI (min (nxtE M k w i) (mT M i)) = nI (nxtE M k w (i + 1)) := by
              congr 1
              rw [nxtE_s, if_pos ⟨c_2, by omega⟩]
            rw [e_10] at hl
            refine lv_iinc (v := nI (i + 1)) (lv' := [(4, .int (nI (i + 1))), (3, .int (nI (nxtE M k w (i + 1)))), (0, .ref e0), (1, .int (nI k)), (2, .int (nI w))]) hx hb dX1_nextWatch_49 hl (k := 1) rfl (nI_add i 1) (by decide) rfl (fun ls hl => ?_)
            refine lv_goto (tgt := 6) hx hb dX1_nextWatch_52 (by decide) ?_
            have o_11 : (i + 1) ≤ mN M := by omega
            have o_12 : mN M + 1 ≤ (i + 1) + n_6 := by omega
            exact ih_6 (i + 1) o_11 o_12 ls (lv_sub hl [0, 1, 2, 3, 4] rfl)
  have o_13 : 0 ≤ mN M := by omega
  have o_14 : mN M + 1 ≤ 0 + (mN M + 1) := by omega
  exact L_6 (mN M + 1) 0 o_13 o_14 ls (lv_sub hl [0, 1, 2, 3, 4] rfl)

abbrev rmX2_become : Room := { frames := 1, cells := 0, slots := 0, locals := 60 }
set_option maxHeartbeats 4000000 in
set_option maxRecDepth 100000 in
theorem c_X2_become (lL : Launch) (D : va_G) (cI cS : ClassId) (sz : Nat) (q0 : Nat) (q1 : Nat) (q2 : Nat) (q3 : Nat) (q4 : Nat) (q5 : Nat) (g0 : Nat) (g1 : Nat) (g2 : Nat) (g3 : Nat) (g4 : Nat) (g5 : Nat) (x1 : Int32) (x2 : Int32) (x3 : Int32) (y1 : Int32) (y2 : Int32) (y3 : Int32) (sk : Nat → Int32) (sh : Nat → Int32) (ki : Nat → Int32) (st : Nat → Int32) (cl : Nat → Int32) (sk2 : Nat → Int32) (sh2 : Nat → Int32) (ki2 : Nat → Int32) (st2 : Nat → Int32) (cl2 : Nat → Int32) : Met lL yX2_become wsX2_become rmX2_become (va_Pc [.ref q0, .ref g0] (kB D cI cS [(q0, .inr (1, [.int y1, .int y2, .int y3, .ref q1, .ref q2, .ref q3, .ref q4, .ref q5])), (q1, .inl (cI, 6, .inl sk2)), (q2, .inl (cI, 4, .inl sh2)), (q3, .inl (cI, 4, .inl ki2)), (q4, .inl (cI, 4, .inl st2)), (q5, .inl (cI, 4, .inl cl2)), (g0, .inr (1, [.int x1, .int x2, .int x3, .ref g1, .ref g2, .ref g3, .ref g4, .ref g5])), (g1, .inl (cI, 6, .inl sk)), (g2, .inl (cI, 4, .inl sh)), (g3, .inl (cI, 4, .inl ki)), (g4, .inl (cI, 4, .inl st)), (g5, .inl (cI, 4, .inl cl))] sz)) (kQv D (fun u : (Nat → Int32) × (Nat → Int32) × (Nat → Int32) × (Nat → Int32) × (Nat → Int32) => (∀ j, j < 6 → u.1 j = sk j) ∧ (∀ j, j < 4 → u.2.1 j = sh j) ∧ (∀ j, j < 4 → u.2.2.1 j = ki j) ∧ (∀ j, j < 4 → u.2.2.2.1 j = st j) ∧ (∀ j, j < 4 → u.2.2.2.2 j = cl j)) (fun u : (Nat → Int32) × (Nat → Int32) × (Nat → Int32) × (Nat → Int32) × (Nat → Int32) => [(q0, .inr (1, [.int x1, .int x2, .int x3, .ref q1, .ref q2, .ref q3, .ref q4, .ref q5])), (q1, .inl (cI, 6, .inl u.1)), (q2, .inl (cI, 4, .inl u.2.1)), (q3, .inl (cI, 4, .inl u.2.2.1)), (q4, .inl (cI, 4, .inl u.2.2.2.1)), (q5, .inl (cI, 4, .inl u.2.2.2.2)), (g0, .inr (1, [.int x1, .int x2, .int x3, .ref g1, .ref g2, .ref g3, .ref g4, .ref g5])), (g1, .inl (cI, 6, .inl sk)), (g2, .inl (cI, 4, .inl sh)), (g3, .inl (cI, 4, .inl ki)), (g4, .inl (cI, 4, .inl st)), (g5, .inl (cI, 4, .inl cl))]) (va_A [(q0, .inr (1, [.int y1, .int y2, .int y3, .ref q1, .ref q2, .ref q3, .ref q4, .ref q5])), (q1, .inl (cI, 6, .inl sk2)), (q2, .inl (cI, 4, .inl sh2)), (q3, .inl (cI, 4, .inl ki2)), (q4, .inl (cI, 4, .inl st2)), (q5, .inl (cI, 4, .inl cl2)), (g0, .inr (1, [.int x1, .int x2, .int x3, .ref g1, .ref g2, .ref g3, .ref g4, .ref g5])), (g1, .inl (cI, 6, .inl sk)), (g2, .inl (cI, 4, .inl sh)), (g3, .inl (cI, 4, .inl ki)), (g4, .inl (cI, 4, .inl st)), (g5, .inl (cI, 4, .inl cl))] sz)) 0 0 (va_A [(q0, .inr (1, [.int y1, .int y2, .int y3, .ref q1, .ref q2, .ref q3, .ref q4, .ref q5])), (q1, .inl (cI, 6, .inl sk2)), (q2, .inl (cI, 4, .inl sh2)), (q3, .inl (cI, 4, .inl ki2)), (q4, .inl (cI, 4, .inl st2)), (q5, .inl (cI, 4, .inl cl2)), (g0, .inr (1, [.int x1, .int x2, .int x3, .ref g1, .ref g2, .ref g3, .ref g4, .ref g5])), (g1, .inl (cI, 6, .inl sk)), (g2, .inl (cI, 4, .inl sh)), (g3, .inl (cI, 4, .inl ki)), (g4, .inl (cI, 4, .inl st)), (g5, .inl (cI, 4, .inl cl))] sz) := by
  refine Met.ofW (cc := cX2_become) (maxL := 2) (ret := none) (by decide) rfl ?_
  intro pP eE sS mM args below meth cC s₁ B hml hv
  obtain ⟨rfl, hsz, hP, hK, hD0⟩ := hv
  have hx := B.exec
  have hb := B.bytes
  have hr := B.returns
  have hts := atoms_spec (ws := wsX2_become) B.pre
  have hown : sS.vm.findClass RX2 = some mM.cls := findClass_of_methodNamed B.named
  have hlocks := B.notSynchronized
  subst hsz
  have hD := hD0.self (sz := sS.heap.size)
  generalize hAe : va_A [(q0, .inr (1, [.int y1, .int y2, .int y3, .ref q1, .ref q2, .ref q3, .ref q4, .ref q5])), (q1, .inl (cI, 6, .inl sk2)), (q2, .inl (cI, 4, .inl sh2)), (q3, .inl (cI, 4, .inl ki2)), (q4, .inl (cI, 4, .inl st2)), (q5, .inl (cI, 4, .inl cl2)), (g0, .inr (1, [.int x1, .int x2, .int x3, .ref g1, .ref g2, .ref g3, .ref g4, .ref g5])), (g1, .inl (cI, 6, .inl sk)), (g2, .inl (cI, 4, .inl sh)), (g3, .inl (cI, 4, .inl ki)), (g4, .inl (cI, 4, .inl st)), (g5, .inl (cI, 4, .inl cl))] sS.heap.size = A at hD ⊢
  have hA : ∀ q : Nat, sS.heap.size ≤ q → A q := fun q h => by rw [← hAe]; exact Or.inr h
  have hS : va_S A sS.heap sS.heap [] := va_S.rf
  have hP : va_P D vwCl [(q0, .inr (1, [.int y1, .int y2, .int y3, .ref q1, .ref q2, .ref q3, .ref q4, .ref q5])), (q1, .inl (cI, 6, .inl sk2)), (q2, .inl (cI, 4, .inl sh2)), (q3, .inl (cI, 4, .inl ki2)), (q4, .inl (cI, 4, .inl st2)), (q5, .inl (cI, 4, .inl cl2)), (g0, .inr (1, [.int x1, .int x2, .int x3, .ref g1, .ref g2, .ref g3, .ref g4, .ref g5])), (g1, .inl (cI, 6, .inl sk)), (g2, .inl (cI, 4, .inl sh)), (g3, .inl (cI, 4, .inl ki)), (g4, .inl (cI, 4, .inl st)), (g5, .inl (cI, 4, .inl cl))] sS.heap := hP
  have hD : va_D A [(q0, .inr (1, [.int y1, .int y2, .int y3, .ref q1, .ref q2, .ref q3, .ref q4, .ref q5])), (q1, .inl (cI, 6, .inl sk2)), (q2, .inl (cI, 4, .inl sh2)), (q3, .inl (cI, 4, .inl ki2)), (q4, .inl (cI, 4, .inl st2)), (q5, .inl (cI, 4, .inl cl2)), (g0, .inr (1, [.int x1, .int x2, .int x3, .ref g1, .ref g2, .ref g3, .ref g4, .ref g5])), (g1, .inl (cI, 6, .inl sk)), (g2, .inl (cI, 4, .inl sh)), (g3, .inl (cI, 4, .inl ki)), (g4, .inl (cI, 4, .inl st)), (g5, .inl (cI, 4, .inl cl))] := hD
  have hf_9 := hts (.fieldLink RX2 9 "OldLamps$Ground" "spots" "I") (List.mem_of_getElem? (i := 1) rfl)
  have hf_15 := hts (.fieldLink RX2 15 "OldLamps$Ground" "lamps" "I") (List.mem_of_getElem? (i := 2) rfl)
  have hf_18 := hts (.fieldLink RX2 18 "OldLamps$Ground" "lightAge" "I") (List.mem_of_getElem? (i := 3) rfl)
  have hf_21 := hts (.fieldLink RX2 21 "OldLamps$Ground" "skies" "[I") (List.mem_of_getElem? (i := 4) rfl)
  have hf_25 := hts (.fieldLink RX2 25 "OldLamps$Ground" "shades" "[I") (List.mem_of_getElem? (i := 9) rfl)
  have hf_28 := hts (.fieldLink RX2 28 "OldLamps$Ground" "lampKinds" "[I") (List.mem_of_getElem? (i := 10) rfl)
  have hf_31 := hts (.fieldLink RX2 31 "OldLamps$Ground" "firstSpots" "[I") (List.mem_of_getElem? (i := 11) rfl)
  have hf_34 := hts (.fieldLink RX2 34 "OldLamps$Ground" "dayClouds" "[I") (List.mem_of_getElem? (i := 12) rfl)
  have hac1 := hts (.methodLink RX2 37 arraycopyName) (List.mem_of_getElem? (i := 5) rfl)
  have hac2 := hts (.native arraycopyName) (List.mem_of_getElem? (i := 6) rfl)
  have hac3 := hts (.static arraycopyName) (List.mem_of_getElem? (i := 7) rfl)
  have hac4 := hts (.initialized "java/lang/System") (List.mem_of_getElem? (i := 8) rfl)
  have hwX2 : ∀ w ∈ wsX20, w ∈ wsX2_become := fun _ h => List.mem_cons_of_mem _ (List.mem_append_right _ h)
  have hl := lv_entry ([.ref q0, .ref g0]) (n := 2) (Nat.le_of_ble_eq_true rfl)
  rw [lg_entry_eq]
  generalize (lg_sl ([.ref q0, .ref g0]) ++ List.replicate (2 - (lg_sl ([.ref q0, .ref g0])).length) Slot.unset).toArray = ls at hl ⊢
  have hl : lv_has ls 2 [(0, .ref q0), (1, .ref g0)] := hl
  obtain ⟨QQ, hQQ⟩ : ∃ QQ : State → Prop, QQ = MQ below (kQv D (fun u : (Nat → Int32) × (Nat → Int32) × (Nat → Int32) × (Nat → Int32) × (Nat → Int32) => (∀ j, j < 6 → u.1 j = sk j) ∧ (∀ j, j < 4 → u.2.1 j = sh j) ∧ (∀ j, j < 4 → u.2.2.1 j = ki j) ∧ (∀ j, j < 4 → u.2.2.2.1 j = st j) ∧ (∀ j, j < 4 → u.2.2.2.2 j = cl j)) (fun u : (Nat → Int32) × (Nat → Int32) × (Nat → Int32) × (Nat → Int32) × (Nat → Int32) => [(q0, .inr (1, [.int x1, .int x2, .int x3, .ref q1, .ref q2, .ref q3, .ref q4, .ref q5])), (q1, .inl (cI, 6, .inl u.1)), (q2, .inl (cI, 4, .inl u.2.1)), (q3, .inl (cI, 4, .inl u.2.2.1)), (q4, .inl (cI, 4, .inl u.2.2.2.1)), (q5, .inl (cI, 4, .inl u.2.2.2.2)), (g0, .inr (1, [.int x1, .int x2, .int x3, .ref g1, .ref g2, .ref g3, .ref g4, .ref g5])), (g1, .inl (cI, 6, .inl sk)), (g2, .inl (cI, 4, .inl sh)), (g3, .inl (cI, 4, .inl ki)), (g4, .inl (cI, 4, .inl st)), (g5, .inl (cI, 4, .inl cl))]) A) ([.ref q0, .ref g0]).toArray sS 0 0 A := ⟨_, rfl⟩
  refine kk_QQ hQQ.symm ?_
  refine lv_aload_n hx hb dX2_become_0 rfl (lv_at hl 0 rfl) ?_
  refine lv_aload_n hx hb dX2_become_1 rfl (lv_at hl 1 rfl) ?_
  refine va_get (D := D) (ci := 1) (v := .int x1) (C := RX2) (T := TX2) (N := 8) hx hb hts hwX2 hown hK hP 6 rfl rfl 0 (by decide) hf_9 (fun _ h9 => h9) rfl dX2_become_2 ?_
  refine va_put (D := D) (ci := 1) (v := .int x1) (ty := .int) (C := RX2) (T := TX2) (N := 8) hx hb hts hwX2 tyX2 tyX2_ok nmX2 hown hK hP hD hS 0 rfl rfl 0 (by decide) hf_9 (fun _ h9 => h9) rfl (by decide +kernel) rfl rfl (Nat.le_of_ble_eq_true rfl) dX2_become_5 (fun H locs hP hD hS => ?_)
  have hP : va_P D vwCl [(q0, .inr (1, [.int x1, .int y2, .int y3, .ref q1, .ref q2, .ref q3, .ref q4, .ref q5])), (q1, .inl (cI, 6, .inl sk2)), (q2, .inl (cI, 4, .inl sh2)), (q3, .inl (cI, 4, .inl ki2)), (q4, .inl (cI, 4, .inl st2)), (q5, .inl (cI, 4, .inl cl2)), (g0, .inr (1, [.int x1, .int x2, .int x3, .ref g1, .ref g2, .ref g3, .ref g4, .ref g5])), (g1, .inl (cI, 6, .inl sk)), (g2, .inl (cI, 4, .inl sh)), (g3, .inl (cI, 4, .inl ki)), (g4, .inl (cI, 4, .inl st)), (g5, .inl (cI, 4, .inl cl))] H := hP
  have hD : va_D A [(q0, .inr (1, [.int x1, .int y2, .int y3, .ref q1, .ref q2, .ref q3, .ref q4, .ref q5])), (q1, .inl (cI, 6, .inl sk2)), (q2, .inl (cI, 4, .inl sh2)), (q3, .inl (cI, 4, .inl ki2)), (q4, .inl (cI, 4, .inl st2)), (q5, .inl (cI, 4, .inl cl2)), (g0, .inr (1, [.int x1, .int x2, .int x3, .ref g1, .ref g2, .ref g3, .ref g4, .ref g5])), (g1, .inl (cI, 6, .inl sk)), (g2, .inl (cI, 4, .inl sh)), (g3, .inl (cI, 4, .inl ki)), (g4, .inl (cI, 4, .inl st)), (g5, .inl (cI, 4, .inl cl))] := hD
  refine lv_aload_n hx hb dX2_become_8 rfl (lv_at hl 0 rfl) ?_
  refine lv_aload_n hx hb dX2_become_9 rfl (lv_at hl 1 rfl) ?_
  refine va_get (D := D) (ci := 1) (v := .int x2) (C := RX2) (T := TX2) (N := 8) hx hb hts hwX2 hown hK hP 6 rfl rfl 1 (by decide) hf_15 (fun _ h9 => h9) rfl dX2_become_10 ?_
  refine va_put (D := D) (ci := 1) (v := .int x2) (ty := .int) (C := RX2) (T := TX2) (N := 8) hx hb hts hwX2 tyX2 tyX2_ok nmX2 hown hK hP hD hS 0 rfl rfl 1 (by decide) hf_15 (fun _ h9 => h9) rfl (by decide +kernel) rfl rfl (Nat.le_of_ble_eq_true rfl) dX2_become_13 (fun H locs hP hD hS => ?_)
  have hP : va_P D vwCl [(q0, .inr (1, [.int x1, .int x2, .int y3, .ref q1, .ref q2, .ref q3, .ref q4, .ref q5])), (q1, .inl (cI, 6, .inl sk2)), (q2, .inl (cI, 4, .inl sh2)), (q3, .inl (cI, 4, .inl ki2)), (q4, .inl (cI, 4, .inl st2)), (q5, .inl (cI, 4, .inl cl2)), (g0, .inr (1, [.int x1, .int x2, .int x3, .ref g1, .ref g2, .ref g3, .ref g4, .ref g5])), (g1, .inl (cI, 6, .inl sk)), (g2, .inl (cI, 4, .inl sh)), (g3, .inl (cI, 4, .inl ki)), (g4, .inl (cI, 4, .inl st)), (g5, .inl (cI, 4, .inl cl))] H := hP
  have hD : va_D A [(q0, .inr (1, [.int x1, .int x2, .int y3, .ref q1, .ref q2, .ref q3, .ref q4, .ref q5])), (q1, .inl (cI, 6, .inl sk2)), (q2, .inl (cI, 4, .inl sh2)), (q3, .inl (cI, 4, .inl ki2)), (q4, .inl (cI, 4, .inl st2)), (q5, .inl (cI, 4, .inl cl2)), (g0, .inr (1, [.int x1, .int x2, .int x3, .ref g1, .ref g2, .ref g3, .ref g4, .ref g5])), (g1, .inl (cI, 6, .inl sk)), (g2, .inl (cI, 4, .inl sh)), (g3, .inl (cI, 4, .inl ki)), (g4, .inl (cI, 4, .inl st)), (g5, .inl (cI, 4, .inl cl))] := hD
  refine lv_aload_n hx hb dX2_become_16 rfl (lv_at hl 0 rfl) ?_
  refine lv_aload_n hx hb dX2_become_17 rfl (lv_at hl 1 rfl) ?_
  refine va_get (D := D) (ci := 1) (v := .int x3) (C := RX2) (T := TX2) (N := 8) hx hb hts hwX2 hown hK hP 6 rfl rfl 2 (by decide) hf_18 (fun _ h9 => h9) rfl dX2_become_18 ?_
  refine va_put (D := D) (ci := 1) (v := .int x3) (ty := .int) (C := RX2) (T := TX2) (N := 8) hx hb hts hwX2 tyX2 tyX2_ok nmX2 hown hK hP hD hS 0 rfl rfl 2 (by decide) hf_18 (fun _ h9 => h9) rfl (by decide +kernel) rfl rfl (Nat.le_of_ble_eq_true rfl) dX2_become_21 (fun H locs hP hD hS => ?_)
  have hP : va_P D vwCl [(q0, .inr (1, [.int x1, .int x2, .int x3, .ref q1, .ref q2, .ref q3, .ref q4, .ref q5])), (q1, .inl (cI, 6, .inl sk2)), (q2, .inl (cI, 4, .inl sh2)), (q3, .inl (cI, 4, .inl ki2)), (q4, .inl (cI, 4, .inl st2)), (q5, .inl (cI, 4, .inl cl2)), (g0, .inr (1, [.int x1, .int x2, .int x3, .ref g1, .ref g2, .ref g3, .ref g4, .ref g5])), (g1, .inl (cI, 6, .inl sk)), (g2, .inl (cI, 4, .inl sh)), (g3, .inl (cI, 4, .inl ki)), (g4, .inl (cI, 4, .inl st)), (g5, .inl (cI, 4, .inl cl))] H := hP
  have hD : va_D A [(q0, .inr (1, [.int x1, .int x2, .int x3, .ref q1, .ref q2, .ref q3, .ref q4, .ref q5])), (q1, .inl (cI, 6, .inl sk2)), (q2, .inl (cI, 4, .inl sh2)), (q3, .inl (cI, 4, .inl ki2)), (q4, .inl (cI, 4, .inl st2)), (q5, .inl (cI, 4, .inl cl2)), (g0, .inr (1, [.int x1, .int x2, .int x3, .ref g1, .ref g2, .ref g3, .ref g4, .ref g5])), (g1, .inl (cI, 6, .inl sk)), (g2, .inl (cI, 4, .inl sh)), (g3, .inl (cI, 4, .inl ki)), (g4, .inl (cI, 4, .inl st)), (g5, .inl (cI, 4, .inl cl))] := hD
  refine lv_aload_n hx hb dX2_become_24 rfl (lv_at hl 1 rfl) ?_
  refine va_get (D := D) (ci := 1) (v := .ref g1) (C := RX2) (T := TX2) (N := 8) hx hb hts hwX2 hown hK hP 6 rfl rfl 3 (by decide) hf_21 (fun _ h9 => h9) rfl dX2_become_25 ?_
  refine lv_iconst (v := nI 0) hx hb dX2_become_28 (by decide +kernel) ?_
  refine lv_aload_n hx hb dX2_become_29 rfl (lv_at hl 0 rfl) ?_
  refine va_get (D := D) (ci := 1) (v := .ref q1) (C := RX2) (T := TX2) (N := 8) hx hb hts hwX2 hown hK hP 0 rfl rfl 3 (by decide) hf_21 (fun _ h9 => h9) rfl dX2_become_30 ?_
  refine lv_iconst (v := nI 0) hx hb dX2_become_33 (by decide +kernel) ?_
  refine lv_bipush (v := nI 6) hx hb dX2_become_34 (by decide +kernel) ?_
  refine kk_copyi hx hb (hml.trans hl.1.symm) hown hac1 hac2 hac3 hac4 hK hP hD hS 7 1 rfl rfl rfl (by omega) (by omega) (by decide) (by decide) (Nat.le_of_ble_eq_true rfl) (Nat.le_of_ble_eq_true rfl) dX2_become_36 (fun H locs hP hD hS => ?_)
  have hP : va_P D vwCl [(q0, .inr (1, [.int x1, .int x2, .int x3, .ref q1, .ref q2, .ref q3, .ref q4, .ref q5])), (q1, .inl (cI, 6, .inl (va_cpy sk sk2 0 0 6))), (q2, .inl (cI, 4, .inl sh2)), (q3, .inl (cI, 4, .inl ki2)), (q4, .inl (cI, 4, .inl st2)), (q5, .inl (cI, 4, .inl cl2)), (g0, .inr (1, [.int x1, .int x2, .int x3, .ref g1, .ref g2, .ref g3, .ref g4, .ref g5])), (g1, .inl (cI, 6, .inl sk)), (g2, .inl (cI, 4, .inl sh)), (g3, .inl (cI, 4, .inl ki)), (g4, .inl (cI, 4, .inl st)), (g5, .inl (cI, 4, .inl cl))] H := hP
  have hD : va_D A [(q0, .inr (1, [.int x1, .int x2, .int x3, .ref q1, .ref q2, .ref q3, .ref q4, .ref q5])), (q1, .inl (cI, 6, .inl (va_cpy sk sk2 0 0 6))), (q2, .inl (cI, 4, .inl sh2)), (q3, .inl (cI, 4, .inl ki2)), (q4, .inl (cI, 4, .inl st2)), (q5, .inl (cI, 4, .inl cl2)), (g0, .inr (1, [.int x1, .int x2, .int x3, .ref g1, .ref g2, .ref g3, .ref g4, .ref g5])), (g1, .inl (cI, 6, .inl sk)), (g2, .inl (cI, 4, .inl sh)), (g3, .inl (cI, 4, .inl ki)), (g4, .inl (cI, 4, .inl st)), (g5, .inl (cI, 4, .inl cl))] := hD
  refine lv_aload_n hx hb dX2_become_39 rfl (lv_at hl 1 rfl) ?_
  refine va_get (D := D) (ci := 1) (v := .ref g2) (C := RX2) (T := TX2) (N := 8) hx hb hts hwX2 hown hK hP 6 rfl rfl 4 (by decide) hf_25 (fun _ h9 => h9) rfl dX2_become_40 ?_
  refine lv_iconst (v := nI 0) hx hb dX2_become_43 (by decide +kernel) ?_
  refine lv_aload_n hx hb dX2_become_44 rfl (lv_at hl 0 rfl) ?_
  refine va_get (D := D) (ci := 1) (v := .ref q2) (C := RX2) (T := TX2) (N := 8) hx hb hts hwX2 hown hK hP 0 rfl rfl 4 (by decide) hf_25 (fun _ h9 => h9) rfl dX2_become_45 ?_
  refine lv_iconst (v := nI 0) hx hb dX2_become_48 (by decide +kernel) ?_
  refine lv_iconst (v := nI 4) hx hb dX2_become_49 (by decide +kernel) ?_
  refine kk_copyi hx hb (hml.trans hl.1.symm) hown hac1 hac2 hac3 hac4 hK hP hD hS 8 2 rfl rfl rfl (by omega) (by omega) (by decide) (by decide) (Nat.le_of_ble_eq_true rfl) (Nat.le_of_ble_eq_true rfl) dX2_become_50 (fun H locs hP hD hS => ?_)
  have hP : va_P D vwCl [(q0, .inr (1, [.int x1, .int x2, .int x3, .ref q1, .ref q2, .ref q3, .ref q4, .ref q5])), (q1, .inl (cI, 6, .inl (va_cpy sk sk2 0 0 6))), (q2, .inl (cI, 4, .inl (va_cpy sh sh2 0 0 4))), (q3, .inl (cI, 4, .inl ki2)), (q4, .inl (cI, 4, .inl st2)), (q5, .inl (cI, 4, .inl cl2)), (g0, .inr (1, [.int x1, .int x2, .int x3, .ref g1, .ref g2, .ref g3, .ref g4, .ref g5])), (g1, .inl (cI, 6, .inl sk)), (g2, .inl (cI, 4, .inl sh)), (g3, .inl (cI, 4, .inl ki)), (g4, .inl (cI, 4, .inl st)), (g5, .inl (cI, 4, .inl cl))] H := hP
  have hD : va_D A [(q0, .inr (1, [.int x1, .int x2, .int x3, .ref q1, .ref q2, .ref q3, .ref q4, .ref q5])), (q1, .inl (cI, 6, .inl (va_cpy sk sk2 0 0 6))), (q2, .inl (cI, 4, .inl (va_cpy sh sh2 0 0 4))), (q3, .inl (cI, 4, .inl ki2)), (q4, .inl (cI, 4, .inl st2)), (q5, .inl (cI, 4, .inl cl2)), (g0, .inr (1, [.int x1, .int x2, .int x3, .ref g1, .ref g2, .ref g3, .ref g4, .ref g5])), (g1, .inl (cI, 6, .inl sk)), (g2, .inl (cI, 4, .inl sh)), (g3, .inl (cI, 4, .inl ki)), (g4, .inl (cI, 4, .inl st)), (g5, .inl (cI, 4, .inl cl))] := hD
  refine lv_aload_n hx hb dX2_become_53 rfl (lv_at hl 1 rfl) ?_
  refine va_get (D := D) (ci := 1) (v := .ref g3) (C := RX2) (T := TX2) (N := 8) hx hb hts hwX2 hown hK hP 6 rfl rfl 5 (by decide) hf_28 (fun _ h9 => h9) rfl dX2_become_54 ?_
  refine lv_iconst (v := nI 0) hx hb dX2_become_57 (by decide +kernel) ?_
  refine lv_aload_n hx hb dX2_become_58 rfl (lv_at hl 0 rfl) ?_
  refine va_get (D := D) (ci := 1) (v := .ref q3) (C := RX2) (T := TX2) (N := 8) hx hb hts hwX2 hown hK hP 0 rfl rfl 5 (by decide) hf_28 (fun _ h9 => h9) rfl dX2_become_59 ?_
  refine lv_iconst (v := nI 0) hx hb dX2_become_62 (by decide +kernel) ?_
  refine lv_iconst (v := nI 4) hx hb dX2_become_63 (by decide +kernel) ?_
  refine kk_copyi hx hb (hml.trans hl.1.symm) hown hac1 hac2 hac3 hac4 hK hP hD hS 9 3 rfl rfl rfl (by omega) (by omega) (by decide) (by decide) (Nat.le_of_ble_eq_true rfl) (Nat.le_of_ble_eq_true rfl) dX2_become_64 (fun H locs hP hD hS => ?_)
  have hP : va_P D vwCl [(q0, .inr (1, [.int x1, .int x2, .int x3, .ref q1, .ref q2, .ref q3, .ref q4, .ref q5])), (q1, .inl (cI, 6, .inl (va_cpy sk sk2 0 0 6))), (q2, .inl (cI, 4, .inl (va_cpy sh sh2 0 0 4))), (q3, .inl (cI, 4, .inl (va_cpy ki ki2 0 0 4))), (q4, .inl (cI, 4, .inl st2)), (q5, .inl (cI, 4, .inl cl2)), (g0, .inr (1, [.int x1, .int x2, .int x3, .ref g1, .ref g2, .ref g3, .ref g4, .ref g5])), (g1, .inl (cI, 6, .inl sk)), (g2, .inl (cI, 4, .inl sh)), (g3, .inl (cI, 4, .inl ki)), (g4, .inl (cI, 4, .inl st)), (g5, .inl (cI, 4, .inl cl))] H := hP
  have hD : va_D A [(q0, .inr (1, [.int x1, .int x2, .int x3, .ref q1, .ref q2, .ref q3, .ref q4, .ref q5])), (q1, .inl (cI, 6, .inl (va_cpy sk sk2 0 0 6))), (q2, .inl (cI, 4, .inl (va_cpy sh sh2 0 0 4))), (q3, .inl (cI, 4, .inl (va_cpy ki ki2 0 0 4))), (q4, .inl (cI, 4, .inl st2)), (q5, .inl (cI, 4, .inl cl2)), (g0, .inr (1, [.int x1, .int x2, .int x3, .ref g1, .ref g2, .ref g3, .ref g4, .ref g5])), (g1, .inl (cI, 6, .inl sk)), (g2, .inl (cI, 4, .inl sh)), (g3, .inl (cI, 4, .inl ki)), (g4, .inl (cI, 4, .inl st)), (g5, .inl (cI, 4, .inl cl))] := hD
  refine lv_aload_n hx hb dX2_become_67 rfl (lv_at hl 1 rfl) ?_
  refine va_get (D := D) (ci := 1) (v := .ref g4) (C := RX2) (T := TX2) (N := 8) hx hb hts hwX2 hown hK hP 6 rfl rfl 6 (by decide) hf_31 (fun _ h9 => h9) rfl dX2_become_68 ?_
  refine lv_iconst (v := nI 0) hx hb dX2_become_71 (by decide +kernel) ?_
  refine lv_aload_n hx hb dX2_become_72 rfl (lv_at hl 0 rfl) ?_
  refine va_get (D := D) (ci := 1) (v := .ref q4) (C := RX2) (T := TX2) (N := 8) hx hb hts hwX2 hown hK hP 0 rfl rfl 6 (by decide) hf_31 (fun _ h9 => h9) rfl dX2_become_73 ?_
  refine lv_iconst (v := nI 0) hx hb dX2_become_76 (by decide +kernel) ?_
  refine lv_iconst (v := nI 4) hx hb dX2_become_77 (by decide +kernel) ?_
  refine kk_copyi hx hb (hml.trans hl.1.symm) hown hac1 hac2 hac3 hac4 hK hP hD hS 10 4 rfl rfl rfl (by omega) (by omega) (by decide) (by decide) (Nat.le_of_ble_eq_true rfl) (Nat.le_of_ble_eq_true rfl) dX2_become_78 (fun H locs hP hD hS => ?_)
  have hP : va_P D vwCl [(q0, .inr (1, [.int x1, .int x2, .int x3, .ref q1, .ref q2, .ref q3, .ref q4, .ref q5])), (q1, .inl (cI, 6, .inl (va_cpy sk sk2 0 0 6))), (q2, .inl (cI, 4, .inl (va_cpy sh sh2 0 0 4))), (q3, .inl (cI, 4, .inl (va_cpy ki ki2 0 0 4))), (q4, .inl (cI, 4, .inl (va_cpy st st2 0 0 4))), (q5, .inl (cI, 4, .inl cl2)), (g0, .inr (1, [.int x1, .int x2, .int x3, .ref g1, .ref g2, .ref g3, .ref g4, .ref g5])), (g1, .inl (cI, 6, .inl sk)), (g2, .inl (cI, 4, .inl sh)), (g3, .inl (cI, 4, .inl ki)), (g4, .inl (cI, 4, .inl st)), (g5, .inl (cI, 4, .inl cl))] H := hP
  have hD : va_D A [(q0, .inr (1, [.int x1, .int x2, .int x3, .ref q1, .ref q2, .ref q3, .ref q4, .ref q5])), (q1, .inl (cI, 6, .inl (va_cpy sk sk2 0 0 6))), (q2, .inl (cI, 4, .inl (va_cpy sh sh2 0 0 4))), (q3, .inl (cI, 4, .inl (va_cpy ki ki2 0 0 4))), (q4, .inl (cI, 4, .inl (va_cpy st st2 0 0 4))), (q5, .inl (cI, 4, .inl cl2)), (g0, .inr (1, [.int x1, .int x2, .int x3, .ref g1, .ref g2, .ref g3, .ref g4, .ref g5])), (g1, .inl (cI, 6, .inl sk)), (g2, .inl (cI, 4, .inl sh)), (g3, .inl (cI, 4, .inl ki)), (g4, .inl (cI, 4, .inl st)), (g5, .inl (cI, 4, .inl cl))] := hD
  refine lv_aload_n hx hb dX2_become_81 rfl (lv_at hl 1 rfl) ?_
  refine va_get (D := D) (ci := 1) (v := .ref g5) (C := RX2) (T := TX2) (N := 8) hx hb hts hwX2 hown hK hP 6 rfl rfl 7 (by decide) hf_34 (fun _ h9 => h9) rfl dX2_become_82 ?_
  refine lv_iconst (v := nI 0) hx hb dX2_become_85 (by decide +kernel) ?_
  refine lv_aload_n hx hb dX2_become_86 rfl (lv_at hl 0 rfl) ?_
  refine va_get (D := D) (ci := 1) (v := .ref q5) (C := RX2) (T := TX2) (N := 8) hx hb hts hwX2 hown hK hP 0 rfl rfl 7 (by decide) hf_34 (fun _ h9 => h9) rfl dX2_become_87 ?_
  refine lv_iconst (v := nI 0) hx hb dX2_become_90 (by decide +kernel) ?_
  refine lv_iconst (v := nI 4) hx hb dX2_become_91 (by decide +kernel) ?_
  refine kk_copyi hx hb (hml.trans hl.1.symm) hown hac1 hac2 hac3 hac4 hK hP hD hS 11 5 rfl rfl rfl (by omega) (by omega) (by decide) (by decide) (Nat.le_of_ble_eq_true rfl) (Nat.le_of_ble_eq_true rfl) dX2_become_92 (fun H locs hP hD hS => ?_)
  have hP : va_P D vwCl [(q0, .inr (1, [.int x1, .int x2, .int x3, .ref q1, .ref q2, .ref q3, .ref q4, .ref q5])), (q1, .inl (cI, 6, .inl (va_cpy sk sk2 0 0 6))), (q2, .inl (cI, 4, .inl (va_cpy sh sh2 0 0 4))), (q3, .inl (cI, 4, .inl (va_cpy ki ki2 0 0 4))), (q4, .inl (cI, 4, .inl (va_cpy st st2 0 0 4))), (q5, .inl (cI, 4, .inl (va_cpy cl cl2 0 0 4))), (g0, .inr (1, [.int x1, .int x2, .int x3, .ref g1, .ref g2, .ref g3, .ref g4, .ref g5])), (g1, .inl (cI, 6, .inl sk)), (g2, .inl (cI, 4, .inl sh)), (g3, .inl (cI, 4, .inl ki)), (g4, .inl (cI, 4, .inl st)), (g5, .inl (cI, 4, .inl cl))] H := hP
  have hD : va_D A [(q0, .inr (1, [.int x1, .int x2, .int x3, .ref q1, .ref q2, .ref q3, .ref q4, .ref q5])), (q1, .inl (cI, 6, .inl (va_cpy sk sk2 0 0 6))), (q2, .inl (cI, 4, .inl (va_cpy sh sh2 0 0 4))), (q3, .inl (cI, 4, .inl (va_cpy ki ki2 0 0 4))), (q4, .inl (cI, 4, .inl (va_cpy st st2 0 0 4))), (q5, .inl (cI, 4, .inl (va_cpy cl cl2 0 0 4))), (g0, .inr (1, [.int x1, .int x2, .int x3, .ref g1, .ref g2, .ref g3, .ref g4, .ref g5])), (g1, .inl (cI, 6, .inl sk)), (g2, .inl (cI, 4, .inl sh)), (g3, .inl (cI, 4, .inl ki)), (g4, .inl (cI, 4, .inl st)), (g5, .inl (cI, 4, .inl cl))] := hD
  have hq : (∀ j, j < 6 → (va_cpy sk sk2 0 0 6) j = sk j) ∧ (∀ j, j < 4 → (va_cpy sh sh2 0 0 4) j = sh j) ∧ (∀ j, j < 4 → (va_cpy ki ki2 0 0 4) j = ki j) ∧ (∀ j, j < 4 → (va_cpy st st2 0 0 4) j = st j) ∧ (∀ j, j < 4 → (va_cpy cl cl2 0 0 4) j = cl j) := by exact ⟨fun j h => sb_cpy0 h, fun j h => sb_cpy0 h, fun j h => sb_cpy0 h, fun j h => sb_cpy0 h, fun j h => sb_cpy0 h⟩
  refine kk_QQ hQQ ?_
  exact W.vret hx hb hr (fun t ht hW => ⟨⟨(va_cpy sk sk2 0 0 6, va_cpy sh sh2 0 0 4, va_cpy ki ki2 0 0 4, va_cpy st st2 0 0 4, va_cpy cl cl2 0 0 4), rfl, hq, by show va_P D vwCl _ t.heap; rw [ht]; exact hP⟩, hS.F ht⟩) hS.2.2 dX2_become_95

abbrev rmX2_makeNew : Room := { frames := 0, cells := 0, slots := 0, locals := 0 }
set_option maxHeartbeats 4000000 in
set_option maxRecDepth 100000 in
theorem c_X2_makeNew (lL : Launch) (D : va_G) (cI cS : ClassId) (sz : Nat) (q0 : Nat) (q1 : Nat) (q2 : Nat) (q3 : Nat) (q4 : Nat) (q5 : Nat) (y1 : Int32) (y2 : Int32) (y3 : Int32) (cl2 : Nat → Int32) : Met lL yX2_makeNew wsX2_makeNew rmX2_makeNew (va_Pc [.ref q0] (kB D cI cS [(q0, .inr (1, [.int y1, .int y2, .int y3, .ref q1, .ref q2, .ref q3, .ref q4, .ref q5])), (q5, .inl (cI, 4, .inl cl2))] sz)) (kQv D (fun u : (Nat → Int32) => ∀ d, d < 4 → u d = nI 0) (fun u : (Nat → Int32) => [(q0, .inr (1, [.int (nI 0), .int (nI 0), .int (nI 6), .ref q1, .ref q2, .ref q3, .ref q4, .ref q5])), (q5, .inl (cI, 4, .inl u))]) (va_A [(q0, .inr (1, [.int y1, .int y2, .int y3, .ref q1, .ref q2, .ref q3, .ref q4, .ref q5])), (q5, .inl (cI, 4, .inl cl2))] sz)) 0 0 (va_A [(q0, .inr (1, [.int y1, .int y2, .int y3, .ref q1, .ref q2, .ref q3, .ref q4, .ref q5])), (q5, .inl (cI, 4, .inl cl2))] sz) := by
  refine Met.ofW (cc := cX2_makeNew) (maxL := 2) (ret := none) (by decide) rfl ?_
  intro pP eE sS mM args below meth cC s₁ B hml hv
  obtain ⟨rfl, hsz, hP, hK, hD0⟩ := hv
  have hx := B.exec
  have hb := B.bytes
  have hr := B.returns
  have hts := atoms_spec (ws := wsX2_makeNew) B.pre
  have hown : sS.vm.findClass RX2 = some mM.cls := findClass_of_methodNamed B.named
  have hlocks := B.notSynchronized
  subst hsz
  have hD := hD0.self (sz := sS.heap.size)
  generalize hAe : va_A [(q0, .inr (1, [.int y1, .int y2, .int y3, .ref q1, .ref q2, .ref q3, .ref q4, .ref q5])), (q5, .inl (cI, 4, .inl cl2))] sS.heap.size = A at hD ⊢
  have hA : ∀ q : Nat, sS.heap.size ≤ q → A q := fun q h => by rw [← hAe]; exact Or.inr h
  have hS : va_S A sS.heap sS.heap [] := va_S.rf
  have hP : va_P D vwCl [(q0, .inr (1, [.int y1, .int y2, .int y3, .ref q1, .ref q2, .ref q3, .ref q4, .ref q5])), (q5, .inl (cI, 4, .inl cl2))] sS.heap := hP
  have hD : va_D A [(q0, .inr (1, [.int y1, .int y2, .int y3, .ref q1, .ref q2, .ref q3, .ref q4, .ref q5])), (q5, .inl (cI, 4, .inl cl2))] := hD
  have hf_9 := hts (.fieldLink RX2 9 "OldLamps$Ground" "spots" "I") (List.mem_of_getElem? (i := 1) rfl)
  have hf_15 := hts (.fieldLink RX2 15 "OldLamps$Ground" "lamps" "I") (List.mem_of_getElem? (i := 2) rfl)
  have hf_18 := hts (.fieldLink RX2 18 "OldLamps$Ground" "lightAge" "I") (List.mem_of_getElem? (i := 3) rfl)
  have hf_34 := hts (.fieldLink RX2 34 "OldLamps$Ground" "dayClouds" "[I") (List.mem_of_getElem? (i := 4) rfl)
  have hwX2 : ∀ w ∈ wsX20, w ∈ wsX2_makeNew := fun _ h => List.mem_cons_of_mem _ (List.mem_append_right _ h)
  have hl := lv_entry ([.ref q0]) (n := 2) (Nat.le_of_ble_eq_true rfl)
  rw [lg_entry_eq]
  generalize (lg_sl ([.ref q0]) ++ List.replicate (2 - (lg_sl ([.ref q0])).length) Slot.unset).toArray = ls at hl ⊢
  have hl : lv_has ls 2 [(0, .ref q0)] := hl
  obtain ⟨QQ, hQQ⟩ : ∃ QQ : State → Prop, QQ = MQ below (kQv D (fun u : (Nat → Int32) => ∀ d, d < 4 → u d = nI 0) (fun u : (Nat → Int32) => [(q0, .inr (1, [.int (nI 0), .int (nI 0), .int (nI 6), .ref q1, .ref q2, .ref q3, .ref q4, .ref q5])), (q5, .inl (cI, 4, .inl u))]) A) ([.ref q0]).toArray sS 0 0 A := ⟨_, rfl⟩
  refine kk_QQ hQQ.symm ?_
  refine lv_aload_n hx hb dX2_makeNew_0 rfl (lv_at hl 0 rfl) ?_
  refine lv_iconst (v := nI 0) hx hb dX2_makeNew_1 (by decide +kernel) ?_
  refine va_put (D := D) (ci := 1) (v := .int (nI 0)) (ty := .int) (C := RX2) (T := TX2) (N := 8) hx hb hts hwX2 tyX2 tyX2_ok nmX2 hown hK hP hD hS 0 rfl rfl 0 (by decide) hf_9 (fun _ h9 => h9) rfl (by decide +kernel) rfl rfl (Nat.le_of_ble_eq_true rfl) dX2_makeNew_2 (fun H locs hP hD hS => ?_)
  have hP : va_P D vwCl [(q0, .inr (1, [.int (nI 0), .int y2, .int y3, .ref q1, .ref q2, .ref q3, .ref q4, .ref q5])), (q5, .inl (cI, 4, .inl cl2))] H := hP
  have hD : va_D A [(q0, .inr (1, [.int (nI 0), .int y2, .int y3, .ref q1, .ref q2, .ref q3, .ref q4, .ref q5])), (q5, .inl (cI, 4, .inl cl2))] := hD
  refine lv_aload_n hx hb dX2_makeNew_5 rfl (lv_at hl 0 rfl) ?_
  refine lv_iconst (v := nI 0) hx hb dX2_makeNew_6 (by decide +kernel) ?_
  refine va_put (D := D) (ci := 1) (v := .int (nI 0)) (ty := .int) (C := RX2) (T := TX2) (N := 8) hx hb hts hwX2 tyX2 tyX2_ok nmX2 hown hK hP hD hS 0 rfl rfl 1 (by decide) hf_15 (fun _ h9 => h9) rfl (by decide +kernel) rfl rfl (Nat.le_of_ble_eq_true rfl) dX2_makeNew_7 (fun H locs hP hD hS => ?_)
  have hP : va_P D vwCl [(q0, .inr (1, [.int (nI 0), .int (nI 0), .int y3, .ref q1, .ref q2, .ref q3, .ref q4, .ref q5])), (q5, .inl (cI, 4, .inl cl2))] H := hP
  have hD : va_D A [(q0, .inr (1, [.int (nI 0), .int (nI 0), .int y3, .ref q1, .ref q2, .ref q3, .ref q4, .ref q5])), (q5, .inl (cI, 4, .inl cl2))] := hD
  refine lv_aload_n hx hb dX2_makeNew_10 rfl (lv_at hl 0 rfl) ?_
  refine lv_bipush (v := nI 6) hx hb dX2_makeNew_11 (by decide +kernel) ?_
  refine va_put (D := D) (ci := 1) (v := .int (nI 6)) (ty := .int) (C := RX2) (T := TX2) (N := 8) hx hb hts hwX2 tyX2 tyX2_ok nmX2 hown hK hP hD hS 0 rfl rfl 2 (by decide) hf_18 (fun _ h9 => h9) rfl (by decide +kernel) rfl rfl (Nat.le_of_ble_eq_true rfl) dX2_makeNew_13 (fun H locs hP hD hS => ?_)
  have hP : va_P D vwCl [(q0, .inr (1, [.int (nI 0), .int (nI 0), .int (nI 6), .ref q1, .ref q2, .ref q3, .ref q4, .ref q5])), (q5, .inl (cI, 4, .inl cl2))] H := hP
  have hD : va_D A [(q0, .inr (1, [.int (nI 0), .int (nI 0), .int (nI 6), .ref q1, .ref q2, .ref q3, .ref q4, .ref q5])), (q5, .inl (cI, 4, .inl cl2))] := hD
  refine lv_iconst (v := nI 0) hx hb dX2_makeNew_16 (by decide +kernel) ?_
  refine lv_istore_n (lv' := [(1, .int (nI 0)), (0, .ref q0)]) hx hb dX2_makeNew_17 rfl hl (by decide) rfl (fun ls hl => ?_)
  have L_18 : ∀ (n_18 : Nat) (d : Nat) (clX : Nat → Int32), (d ≤ 4) → (∀ j, j < d → clX j = nI 0) → 5 ≤ d + n_18 → ∀ (H : Heap) (locs : List Loc), va_P D vwCl [(q0, .inr (1, [.int (nI 0), .int (nI 0), .int (nI 6), .ref q1, .ref q2, .ref q3, .ref q4, .ref q5])), (q5, .inl (cI, 4, .inl clX))] H → va_D A [(q0, .inr (1, [.int (nI 0), .int (nI 0), .int (nI 6), .ref q1, .ref q2, .ref q3, .ref q4, .ref q5])), (q5, .inl (cI, 4, .inl clX))] → va_S A sS.heap H locs → ∀ (ls : Array Slot), lv_has ls 2 [(1, .int (nI d)), (0, .ref q0)] → W pP lL eE (headSpec wsX2_makeNew rmX2_makeNew).room sS mM ([.ref q0]).toArray below meth cC H locs 0 0 QQ (F0 mM 18 ls []) := by
    intro n_18
    induction n_18 with
    | zero =>
      intro d clX hd z1 hn_18 H locs hP hD hS ls hl
      exact absurd hn_18 (by omega)
    | succ n_18 ih_18 =>
      intro d clX hd z1 hn_18 H locs hP hD hS ls hl
      refine lv_iload_n hx hb dX2_makeNew_18 rfl (lv_at hl 0 rfl) ?_
      refine lv_iconst (v := nI 4) hx hb dX2_makeNew_19 (by decide +kernel) ?_
      refine kk_icmp_ge (tgt := 36) hx hb dX2_makeNew_20 (by decide) (by omega) (by omega) (fun c_1 => ?_) (fun c_1 => ?_)
      · skip
        have hq : ∀ d, d < 4 → clX d = nI 0 := by intro j h; exact z1 j (by omega)
        refine kk_QQ hQQ ?_
        exact W.vret hx hb hr (fun t ht hW => ⟨⟨clX, rfl, hq, by show va_P D vwCl _ t.heap; rw [ht]; exact hP⟩, hS.F ht⟩) hS.2.2 dX2_makeNew_36
      · skip
        refine lv_aload_n hx hb dX2_makeNew_23 rfl (lv_at hl 1 rfl) ?_
        refine va_get (D := D) (ci := 1) (v := .ref q5) (C := RX2) (T := TX2) (N := 8) hx hb hts hwX2 hown hK hP 0 rfl rfl 7 (by decide) hf_34 (fun _ h9 => h9) rfl dX2_makeNew_24 ?_
        refine lv_iload_n hx hb dX2_makeNew_27 rfl (lv_at hl 0 rfl) ?_
        refine lv_iconst (v := nI 0) hx hb dX2_makeNew_28 (by decide +kernel) ?_
        refine kk_iast hx hb hK hP hD hS 1 rfl rfl (i := d) (by omega) (by decide) dX2_makeNew_29 (fun H locs hP hD hS => ?_)
        have hP : va_P D vwCl [(q0, .inr (1, [.int (nI 0), .int (nI 0), .int (nI 6), .ref q1, .ref q2, .ref q3, .ref q4, .ref q5])), (q5, .inl (cI, 4, .inl (upd clX d (nI 0))))] H := hP
        have hD : va_D A [(q0, .inr (1, [.int (nI 0), .int (nI 0), .int (nI 6), .ref q1, .ref q2, .ref q3, .ref q4, .ref q5])), (q5, .inl (cI, 4, .inl (upd clX d (nI 0))))] := hD
        refine lv_iinc (v := nI (d + 1)) (lv' := [(1, .int (nI (d + 1))), (0, .ref q0)]) hx hb dX2_makeNew_30 hl (k := 0) rfl (nI_add d 1) (by decide) rfl (fun ls hl => ?_)
        refine lv_goto (tgt := 18) hx hb dX2_makeNew_33 (by decide) ?_
        have o_2 : (d + 1) ≤ 4 := by omega
        have o_3 : ∀ j, j < (d + 1) → (upd clX d (nI 0)) j = nI 0 := by
          intro j h
          by_cases e : j = d
          · subst e; exact up_at _ _ _
          · rw [up_ne _ _ e]; exact z1 j (by omega)
        have o_4 : 5 ≤ (d + 1) + n_18 := by omega
        exact ih_18 (d + 1) (upd clX d (nI 0)) o_2 o_3 o_4 _ _ hP hD hS ls (lv_sub hl [0, 1] rfl)
  have o_5 : 0 ≤ 4 := by omega
  have o_6 : ∀ j, j < 0 → cl2 j = nI 0 := by intro j h; omega
  have o_7 : 5 ≤ 0 + 5 := by omega
  exact L_18 5 0 cl2 o_5 o_6 o_7 _ _ hP hD hS ls (lv_sub hl [0, 1] rfl)

abbrev rmX8_become : Room := { frames := 1, cells := 0, slots := 0, locals := 60 }
set_option maxHeartbeats 4000000 in
set_option maxRecDepth 100000 in
theorem c_X8_become (lL : Launch) (D : va_G) (cI cS : ClassId) (sz : Nat) (h0 : Nat) (h1 : Nat) (h2 : Nat) (h3 : Nat) (h4 : Nat) (h5 : Nat) (i0 : Nat) (i1 : Nat) (i2 : Nat) (i3 : Nat) (i4 : Nat) (i5 : Nat) (pA : Nat → Int32) (gA : Nat → Int32) (fA : Nat → Int32) (dA : Nat → Int32) (lA : Nat → Int32) (pB : Nat → Int32) (gB : Nat → Int32) (fB : Nat → Int32) (dB : Nat → Int32) (lB : Nat → Int32) : Met lL yX8_become wsX8_become rmX8_become (va_Pc [.ref h0, .ref i0] (kB D cI cS [(h0, .inr (7, [.ref h1, .ref h2, .ref h3, .ref h4, .ref h5])), (h1, .inl (cI, 96, .inl pA)), (h2, .inl (cI, 96, .inl gA)), (h3, .inl (cI, 96, .inl fA)), (h4, .inl (cI, 96, .inl dA)), (h5, .inl (cI, 96, .inl lA)), (i0, .inr (7, [.ref i1, .ref i2, .ref i3, .ref i4, .ref i5])), (i1, .inl (cI, 96, .inl pB)), (i2, .inl (cI, 96, .inl gB)), (i3, .inl (cI, 96, .inl fB)), (i4, .inl (cI, 96, .inl dB)), (i5, .inl (cI, 96, .inl lB))] sz)) (kQv D (fun u : (Nat → Int32) × (Nat → Int32) × (Nat → Int32) × (Nat → Int32) × (Nat → Int32) => (∀ j, j < 96 → u.1 j = pB j) ∧ (∀ j, j < 96 → u.2.1 j = gB j) ∧ (∀ j, j < 96 → u.2.2.1 j = fB j) ∧ (∀ j, j < 96 → u.2.2.2.1 j = dB j) ∧ (∀ j, j < 96 → u.2.2.2.2 j = lB j)) (fun u : (Nat → Int32) × (Nat → Int32) × (Nat → Int32) × (Nat → Int32) × (Nat → Int32) => [(h0, .inr (7, [.ref h1, .ref h2, .ref h3, .ref h4, .ref h5])), (h1, .inl (cI, 96, .inl u.1)), (h2, .inl (cI, 96, .inl u.2.1)), (h3, .inl (cI, 96, .inl u.2.2.1)), (h4, .inl (cI, 96, .inl u.2.2.2.1)), (h5, .inl (cI, 96, .inl u.2.2.2.2)), (i0, .inr (7, [.ref i1, .ref i2, .ref i3, .ref i4, .ref i5])), (i1, .inl (cI, 96, .inl pB)), (i2, .inl (cI, 96, .inl gB)), (i3, .inl (cI, 96, .inl fB)), (i4, .inl (cI, 96, .inl dB)), (i5, .inl (cI, 96, .inl lB))]) (va_A [(h0, .inr (7, [.ref h1, .ref h2, .ref h3, .ref h4, .ref h5])), (h1, .inl (cI, 96, .inl pA)), (h2, .inl (cI, 96, .inl gA)), (h3, .inl (cI, 96, .inl fA)), (h4, .inl (cI, 96, .inl dA)), (h5, .inl (cI, 96, .inl lA)), (i0, .inr (7, [.ref i1, .ref i2, .ref i3, .ref i4, .ref i5])), (i1, .inl (cI, 96, .inl pB)), (i2, .inl (cI, 96, .inl gB)), (i3, .inl (cI, 96, .inl fB)), (i4, .inl (cI, 96, .inl dB)), (i5, .inl (cI, 96, .inl lB))] sz)) 0 0 (va_A [(h0, .inr (7, [.ref h1, .ref h2, .ref h3, .ref h4, .ref h5])), (h1, .inl (cI, 96, .inl pA)), (h2, .inl (cI, 96, .inl gA)), (h3, .inl (cI, 96, .inl fA)), (h4, .inl (cI, 96, .inl dA)), (h5, .inl (cI, 96, .inl lA)), (i0, .inr (7, [.ref i1, .ref i2, .ref i3, .ref i4, .ref i5])), (i1, .inl (cI, 96, .inl pB)), (i2, .inl (cI, 96, .inl gB)), (i3, .inl (cI, 96, .inl fB)), (i4, .inl (cI, 96, .inl dB)), (i5, .inl (cI, 96, .inl lB))] sz) := by
  refine Met.ofW (cc := cX8_become) (maxL := 2) (ret := none) (by decide) rfl ?_
  intro pP eE sS mM args below meth cC s₁ B hml hv
  obtain ⟨rfl, hsz, hP, hK, hD0⟩ := hv
  have hx := B.exec
  have hb := B.bytes
  have hr := B.returns
  have hts := atoms_spec (ws := wsX8_become) B.pre
  have hown : sS.vm.findClass RX8 = some mM.cls := findClass_of_methodNamed B.named
  have hlocks := B.notSynchronized
  subst hsz
  have hD := hD0.self (sz := sS.heap.size)
  generalize hAe : va_A [(h0, .inr (7, [.ref h1, .ref h2, .ref h3, .ref h4, .ref h5])), (h1, .inl (cI, 96, .inl pA)), (h2, .inl (cI, 96, .inl gA)), (h3, .inl (cI, 96, .inl fA)), (h4, .inl (cI, 96, .inl dA)), (h5, .inl (cI, 96, .inl lA)), (i0, .inr (7, [.ref i1, .ref i2, .ref i3, .ref i4, .ref i5])), (i1, .inl (cI, 96, .inl pB)), (i2, .inl (cI, 96, .inl gB)), (i3, .inl (cI, 96, .inl fB)), (i4, .inl (cI, 96, .inl dB)), (i5, .inl (cI, 96, .inl lB))] sS.heap.size = A at hD ⊢
  have hA : ∀ q : Nat, sS.heap.size ≤ q → A q := fun q h => by rw [← hAe]; exact Or.inr h
  have hS : va_S A sS.heap sS.heap [] := va_S.rf
  have hP : va_P D vwCl [(h0, .inr (7, [.ref h1, .ref h2, .ref h3, .ref h4, .ref h5])), (h1, .inl (cI, 96, .inl pA)), (h2, .inl (cI, 96, .inl gA)), (h3, .inl (cI, 96, .inl fA)), (h4, .inl (cI, 96, .inl dA)), (h5, .inl (cI, 96, .inl lA)), (i0, .inr (7, [.ref i1, .ref i2, .ref i3, .ref i4, .ref i5])), (i1, .inl (cI, 96, .inl pB)), (i2, .inl (cI, 96, .inl gB)), (i3, .inl (cI, 96, .inl fB)), (i4, .inl (cI, 96, .inl dB)), (i5, .inl (cI, 96, .inl lB))] sS.heap := hP
  have hD : va_D A [(h0, .inr (7, [.ref h1, .ref h2, .ref h3, .ref h4, .ref h5])), (h1, .inl (cI, 96, .inl pA)), (h2, .inl (cI, 96, .inl gA)), (h3, .inl (cI, 96, .inl fA)), (h4, .inl (cI, 96, .inl dA)), (h5, .inl (cI, 96, .inl lA)), (i0, .inr (7, [.ref i1, .ref i2, .ref i3, .ref i4, .ref i5])), (i1, .inl (cI, 96, .inl pB)), (i2, .inl (cI, 96, .inl gB)), (i3, .inl (cI, 96, .inl fB)), (i4, .inl (cI, 96, .inl dB)), (i5, .inl (cI, 96, .inl lB))] := hD
  have hf_11 := hts (.fieldLink RX8 11 "OldLamps$Watches" "places" "[I") (List.mem_of_getElem? (i := 1) rfl)
  have hf_15 := hts (.fieldLink RX8 15 "OldLamps$Watches" "given" "[I") (List.mem_of_getElem? (i := 6) rfl)
  have hf_18 := hts (.fieldLink RX8 18 "OldLamps$Watches" "fallen" "[I") (List.mem_of_getElem? (i := 7) rfl)
  have hf_21 := hts (.fieldLink RX8 21 "OldLamps$Watches" "days" "[I") (List.mem_of_getElem? (i := 8) rfl)
  have hf_24 := hts (.fieldLink RX8 24 "OldLamps$Watches" "lit" "[I") (List.mem_of_getElem? (i := 9) rfl)
  have hac1 := hts (.methodLink RX8 48 arraycopyName) (List.mem_of_getElem? (i := 2) rfl)
  have hac2 := hts (.native arraycopyName) (List.mem_of_getElem? (i := 3) rfl)
  have hac3 := hts (.static arraycopyName) (List.mem_of_getElem? (i := 4) rfl)
  have hac4 := hts (.initialized "java/lang/System") (List.mem_of_getElem? (i := 5) rfl)
  have hwX8 : ∀ w ∈ wsX80, w ∈ wsX8_become := fun _ h => List.mem_cons_of_mem _ (List.mem_append_right _ h)
  have hl := lv_entry ([.ref h0, .ref i0]) (n := 2) (Nat.le_of_ble_eq_true rfl)
  rw [lg_entry_eq]
  generalize (lg_sl ([.ref h0, .ref i0]) ++ List.replicate (2 - (lg_sl ([.ref h0, .ref i0])).length) Slot.unset).toArray = ls at hl ⊢
  have hl : lv_has ls 2 [(0, .ref h0), (1, .ref i0)] := hl
  obtain ⟨QQ, hQQ⟩ : ∃ QQ : State → Prop, QQ = MQ below (kQv D (fun u : (Nat → Int32) × (Nat → Int32) × (Nat → Int32) × (Nat → Int32) × (Nat → Int32) => (∀ j, j < 96 → u.1 j = pB j) ∧ (∀ j, j < 96 → u.2.1 j = gB j) ∧ (∀ j, j < 96 → u.2.2.1 j = fB j) ∧ (∀ j, j < 96 → u.2.2.2.1 j = dB j) ∧ (∀ j, j < 96 → u.2.2.2.2 j = lB j)) (fun u : (Nat → Int32) × (Nat → Int32) × (Nat → Int32) × (Nat → Int32) × (Nat → Int32) => [(h0, .inr (7, [.ref h1, .ref h2, .ref h3, .ref h4, .ref h5])), (h1, .inl (cI, 96, .inl u.1)), (h2, .inl (cI, 96, .inl u.2.1)), (h3, .inl (cI, 96, .inl u.2.2.1)), (h4, .inl (cI, 96, .inl u.2.2.2.1)), (h5, .inl (cI, 96, .inl u.2.2.2.2)), (i0, .inr (7, [.ref i1, .ref i2, .ref i3, .ref i4, .ref i5])), (i1, .inl (cI, 96, .inl pB)), (i2, .inl (cI, 96, .inl gB)), (i3, .inl (cI, 96, .inl fB)), (i4, .inl (cI, 96, .inl dB)), (i5, .inl (cI, 96, .inl lB))]) A) ([.ref h0, .ref i0]).toArray sS 0 0 A := ⟨_, rfl⟩
  refine kk_QQ hQQ.symm ?_
  refine lv_aload_n hx hb dX8_become_0 rfl (lv_at hl 1 rfl) ?_
  refine va_get (D := D) (ci := 7) (v := .ref i1) (C := RX8) (T := TX8) (N := 5) hx hb hts hwX8 hown hK hP 6 rfl rfl 0 (by decide) hf_11 (fun _ h9 => h9) rfl dX8_become_1 ?_
  refine lv_iconst (v := nI 0) hx hb dX8_become_4 (by decide +kernel) ?_
  refine lv_aload_n hx hb dX8_become_5 rfl (lv_at hl 0 rfl) ?_
  refine va_get (D := D) (ci := 7) (v := .ref h1) (C := RX8) (T := TX8) (N := 5) hx hb hts hwX8 hown hK hP 0 rfl rfl 0 (by decide) hf_11 (fun _ h9 => h9) rfl dX8_become_6 ?_
  refine lv_iconst (v := nI 0) hx hb dX8_become_9 (by decide +kernel) ?_
  refine lv_bipush (v := nI 96) hx hb dX8_become_10 (by decide +kernel) ?_
  refine kk_copyi hx hb (hml.trans hl.1.symm) hown hac1 hac2 hac3 hac4 hK hP hD hS 7 1 rfl rfl rfl (by omega) (by omega) (by decide) (by decide) (Nat.le_of_ble_eq_true rfl) (Nat.le_of_ble_eq_true rfl) dX8_become_12 (fun H locs hP hD hS => ?_)
  have hP : va_P D vwCl [(h0, .inr (7, [.ref h1, .ref h2, .ref h3, .ref h4, .ref h5])), (h1, .inl (cI, 96, .inl (va_cpy pB pA 0 0 96))), (h2, .inl (cI, 96, .inl gA)), (h3, .inl (cI, 96, .inl fA)), (h4, .inl (cI, 96, .inl dA)), (h5, .inl (cI, 96, .inl lA)), (i0, .inr (7, [.ref i1, .ref i2, .ref i3, .ref i4, .ref i5])), (i1, .inl (cI, 96, .inl pB)), (i2, .inl (cI, 96, .inl gB)), (i3, .inl (cI, 96, .inl fB)), (i4, .inl (cI, 96, .inl dB)), (i5, .inl (cI, 96, .inl lB))] H := hP
  have hD : va_D A [(h0, .inr (7, [.ref h1, .ref h2, .ref h3, .ref h4, .ref h5])), (h1, .inl (cI, 96, .inl (va_cpy pB pA 0 0 96))), (h2, .inl (cI, 96, .inl gA)), (h3, .inl (cI, 96, .inl fA)), (h4, .inl (cI, 96, .inl dA)), (h5, .inl (cI, 96, .inl lA)), (i0, .inr (7, [.ref i1, .ref i2, .ref i3, .ref i4, .ref i5])), (i1, .inl (cI, 96, .inl pB)), (i2, .inl (cI, 96, .inl gB)), (i3, .inl (cI, 96, .inl fB)), (i4, .inl (cI, 96, .inl dB)), (i5, .inl (cI, 96, .inl lB))] := hD
  refine lv_aload_n hx hb dX8_become_15 rfl (lv_at hl 1 rfl) ?_
  refine va_get (D := D) (ci := 7) (v := .ref i2) (C := RX8) (T := TX8) (N := 5) hx hb hts hwX8 hown hK hP 6 rfl rfl 1 (by decide) hf_15 (fun _ h9 => h9) rfl dX8_become_16 ?_
  refine lv_iconst (v := nI 0) hx hb dX8_become_19 (by decide +kernel) ?_
  refine lv_aload_n hx hb dX8_become_20 rfl (lv_at hl 0 rfl) ?_
  refine va_get (D := D) (ci := 7) (v := .ref h2) (C := RX8) (T := TX8) (N := 5) hx hb hts hwX8 hown hK hP 0 rfl rfl 1 (by decide) hf_15 (fun _ h9 => h9) rfl dX8_become_21 ?_
  refine lv_iconst (v := nI 0) hx hb dX8_become_24 (by decide +kernel) ?_
  refine lv_bipush (v := nI 96) hx hb dX8_become_25 (by decide +kernel) ?_
  refine kk_copyi hx hb (hml.trans hl.1.symm) hown hac1 hac2 hac3 hac4 hK hP hD hS 8 2 rfl rfl rfl (by omega) (by omega) (by decide) (by decide) (Nat.le_of_ble_eq_true rfl) (Nat.le_of_ble_eq_true rfl) dX8_become_27 (fun H locs hP hD hS => ?_)
  have hP : va_P D vwCl [(h0, .inr (7, [.ref h1, .ref h2, .ref h3, .ref h4, .ref h5])), (h1, .inl (cI, 96, .inl (va_cpy pB pA 0 0 96))), (h2, .inl (cI, 96, .inl (va_cpy gB gA 0 0 96))), (h3, .inl (cI, 96, .inl fA)), (h4, .inl (cI, 96, .inl dA)), (h5, .inl (cI, 96, .inl lA)), (i0, .inr (7, [.ref i1, .ref i2, .ref i3, .ref i4, .ref i5])), (i1, .inl (cI, 96, .inl pB)), (i2, .inl (cI, 96, .inl gB)), (i3, .inl (cI, 96, .inl fB)), (i4, .inl (cI, 96, .inl dB)), (i5, .inl (cI, 96, .inl lB))] H := hP
  have hD : va_D A [(h0, .inr (7, [.ref h1, .ref h2, .ref h3, .ref h4, .ref h5])), (h1, .inl (cI, 96, .inl (va_cpy pB pA 0 0 96))), (h2, .inl (cI, 96, .inl (va_cpy gB gA 0 0 96))), (h3, .inl (cI, 96, .inl fA)), (h4, .inl (cI, 96, .inl dA)), (h5, .inl (cI, 96, .inl lA)), (i0, .inr (7, [.ref i1, .ref i2, .ref i3, .ref i4, .ref i5])), (i1, .inl (cI, 96, .inl pB)), (i2, .inl (cI, 96, .inl gB)), (i3, .inl (cI, 96, .inl fB)), (i4, .inl (cI, 96, .inl dB)), (i5, .inl (cI, 96, .inl lB))] := hD
  refine lv_aload_n hx hb dX8_become_30 rfl (lv_at hl 1 rfl) ?_
  refine va_get (D := D) (ci := 7) (v := .ref i3) (C := RX8) (T := TX8) (N := 5) hx hb hts hwX8 hown hK hP 6 rfl rfl 2 (by decide) hf_18 (fun _ h9 => h9) rfl dX8_become_31 ?_
  refine lv_iconst (v := nI 0) hx hb dX8_become_34 (by decide +kernel) ?_
  refine lv_aload_n hx hb dX8_become_35 rfl (lv_at hl 0 rfl) ?_
  refine va_get (D := D) (ci := 7) (v := .ref h3) (C := RX8) (T := TX8) (N := 5) hx hb hts hwX8 hown hK hP 0 rfl rfl 2 (by decide) hf_18 (fun _ h9 => h9) rfl dX8_become_36 ?_
  refine lv_iconst (v := nI 0) hx hb dX8_become_39 (by decide +kernel) ?_
  refine lv_bipush (v := nI 96) hx hb dX8_become_40 (by decide +kernel) ?_
  refine kk_copyi hx hb (hml.trans hl.1.symm) hown hac1 hac2 hac3 hac4 hK hP hD hS 9 3 rfl rfl rfl (by omega) (by omega) (by decide) (by decide) (Nat.le_of_ble_eq_true rfl) (Nat.le_of_ble_eq_true rfl) dX8_become_42 (fun H locs hP hD hS => ?_)
  have hP : va_P D vwCl [(h0, .inr (7, [.ref h1, .ref h2, .ref h3, .ref h4, .ref h5])), (h1, .inl (cI, 96, .inl (va_cpy pB pA 0 0 96))), (h2, .inl (cI, 96, .inl (va_cpy gB gA 0 0 96))), (h3, .inl (cI, 96, .inl (va_cpy fB fA 0 0 96))), (h4, .inl (cI, 96, .inl dA)), (h5, .inl (cI, 96, .inl lA)), (i0, .inr (7, [.ref i1, .ref i2, .ref i3, .ref i4, .ref i5])), (i1, .inl (cI, 96, .inl pB)), (i2, .inl (cI, 96, .inl gB)), (i3, .inl (cI, 96, .inl fB)), (i4, .inl (cI, 96, .inl dB)), (i5, .inl (cI, 96, .inl lB))] H := hP
  have hD : va_D A [(h0, .inr (7, [.ref h1, .ref h2, .ref h3, .ref h4, .ref h5])), (h1, .inl (cI, 96, .inl (va_cpy pB pA 0 0 96))), (h2, .inl (cI, 96, .inl (va_cpy gB gA 0 0 96))), (h3, .inl (cI, 96, .inl (va_cpy fB fA 0 0 96))), (h4, .inl (cI, 96, .inl dA)), (h5, .inl (cI, 96, .inl lA)), (i0, .inr (7, [.ref i1, .ref i2, .ref i3, .ref i4, .ref i5])), (i1, .inl (cI, 96, .inl pB)), (i2, .inl (cI, 96, .inl gB)), (i3, .inl (cI, 96, .inl fB)), (i4, .inl (cI, 96, .inl dB)), (i5, .inl (cI, 96, .inl lB))] := hD
  refine lv_aload_n hx hb dX8_become_45 rfl (lv_at hl 1 rfl) ?_
  refine va_get (D := D) (ci := 7) (v := .ref i4) (C := RX8) (T := TX8) (N := 5) hx hb hts hwX8 hown hK hP 6 rfl rfl 3 (by decide) hf_21 (fun _ h9 => h9) rfl dX8_become_46 ?_
  refine lv_iconst (v := nI 0) hx hb dX8_become_49 (by decide +kernel) ?_
  refine lv_aload_n hx hb dX8_become_50 rfl (lv_at hl 0 rfl) ?_
  refine va_get (D := D) (ci := 7) (v := .ref h4) (C := RX8) (T := TX8) (N := 5) hx hb hts hwX8 hown hK hP 0 rfl rfl 3 (by decide) hf_21 (fun _ h9 => h9) rfl dX8_become_51 ?_
  refine lv_iconst (v := nI 0) hx hb dX8_become_54 (by decide +kernel) ?_
  refine lv_bipush (v := nI 96) hx hb dX8_become_55 (by decide +kernel) ?_
  refine kk_copyi hx hb (hml.trans hl.1.symm) hown hac1 hac2 hac3 hac4 hK hP hD hS 10 4 rfl rfl rfl (by omega) (by omega) (by decide) (by decide) (Nat.le_of_ble_eq_true rfl) (Nat.le_of_ble_eq_true rfl) dX8_become_57 (fun H locs hP hD hS => ?_)
  have hP : va_P D vwCl [(h0, .inr (7, [.ref h1, .ref h2, .ref h3, .ref h4, .ref h5])), (h1, .inl (cI, 96, .inl (va_cpy pB pA 0 0 96))), (h2, .inl (cI, 96, .inl (va_cpy gB gA 0 0 96))), (h3, .inl (cI, 96, .inl (va_cpy fB fA 0 0 96))), (h4, .inl (cI, 96, .inl (va_cpy dB dA 0 0 96))), (h5, .inl (cI, 96, .inl lA)), (i0, .inr (7, [.ref i1, .ref i2, .ref i3, .ref i4, .ref i5])), (i1, .inl (cI, 96, .inl pB)), (i2, .inl (cI, 96, .inl gB)), (i3, .inl (cI, 96, .inl fB)), (i4, .inl (cI, 96, .inl dB)), (i5, .inl (cI, 96, .inl lB))] H := hP
  have hD : va_D A [(h0, .inr (7, [.ref h1, .ref h2, .ref h3, .ref h4, .ref h5])), (h1, .inl (cI, 96, .inl (va_cpy pB pA 0 0 96))), (h2, .inl (cI, 96, .inl (va_cpy gB gA 0 0 96))), (h3, .inl (cI, 96, .inl (va_cpy fB fA 0 0 96))), (h4, .inl (cI, 96, .inl (va_cpy dB dA 0 0 96))), (h5, .inl (cI, 96, .inl lA)), (i0, .inr (7, [.ref i1, .ref i2, .ref i3, .ref i4, .ref i5])), (i1, .inl (cI, 96, .inl pB)), (i2, .inl (cI, 96, .inl gB)), (i3, .inl (cI, 96, .inl fB)), (i4, .inl (cI, 96, .inl dB)), (i5, .inl (cI, 96, .inl lB))] := hD
  refine lv_aload_n hx hb dX8_become_60 rfl (lv_at hl 1 rfl) ?_
  refine va_get (D := D) (ci := 7) (v := .ref i5) (C := RX8) (T := TX8) (N := 5) hx hb hts hwX8 hown hK hP 6 rfl rfl 4 (by decide) hf_24 (fun _ h9 => h9) rfl dX8_become_61 ?_
  refine lv_iconst (v := nI 0) hx hb dX8_become_64 (by decide +kernel) ?_
  refine lv_aload_n hx hb dX8_become_65 rfl (lv_at hl 0 rfl) ?_
  refine va_get (D := D) (ci := 7) (v := .ref h5) (C := RX8) (T := TX8) (N := 5) hx hb hts hwX8 hown hK hP 0 rfl rfl 4 (by decide) hf_24 (fun _ h9 => h9) rfl dX8_become_66 ?_
  refine lv_iconst (v := nI 0) hx hb dX8_become_69 (by decide +kernel) ?_
  refine lv_bipush (v := nI 96) hx hb dX8_become_70 (by decide +kernel) ?_
  refine kk_copyi hx hb (hml.trans hl.1.symm) hown hac1 hac2 hac3 hac4 hK hP hD hS 11 5 rfl rfl rfl (by omega) (by omega) (by decide) (by decide) (Nat.le_of_ble_eq_true rfl) (Nat.le_of_ble_eq_true rfl) dX8_become_72 (fun H locs hP hD hS => ?_)
  have hP : va_P D vwCl [(h0, .inr (7, [.ref h1, .ref h2, .ref h3, .ref h4, .ref h5])), (h1, .inl (cI, 96, .inl (va_cpy pB pA 0 0 96))), (h2, .inl (cI, 96, .inl (va_cpy gB gA 0 0 96))), (h3, .inl (cI, 96, .inl (va_cpy fB fA 0 0 96))), (h4, .inl (cI, 96, .inl (va_cpy dB dA 0 0 96))), (h5, .inl (cI, 96, .inl (va_cpy lB lA 0 0 96))), (i0, .inr (7, [.ref i1, .ref i2, .ref i3, .ref i4, .ref i5])), (i1, .inl (cI, 96, .inl pB)), (i2, .inl (cI, 96, .inl gB)), (i3, .inl (cI, 96, .inl fB)), (i4, .inl (cI, 96, .inl dB)), (i5, .inl (cI, 96, .inl lB))] H := hP
  have hD : va_D A [(h0, .inr (7, [.ref h1, .ref h2, .ref h3, .ref h4, .ref h5])), (h1, .inl (cI, 96, .inl (va_cpy pB pA 0 0 96))), (h2, .inl (cI, 96, .inl (va_cpy gB gA 0 0 96))), (h3, .inl (cI, 96, .inl (va_cpy fB fA 0 0 96))), (h4, .inl (cI, 96, .inl (va_cpy dB dA 0 0 96))), (h5, .inl (cI, 96, .inl (va_cpy lB lA 0 0 96))), (i0, .inr (7, [.ref i1, .ref i2, .ref i3, .ref i4, .ref i5])), (i1, .inl (cI, 96, .inl pB)), (i2, .inl (cI, 96, .inl gB)), (i3, .inl (cI, 96, .inl fB)), (i4, .inl (cI, 96, .inl dB)), (i5, .inl (cI, 96, .inl lB))] := hD
  have hq : (∀ j, j < 96 → (va_cpy pB pA 0 0 96) j = pB j) ∧ (∀ j, j < 96 → (va_cpy gB gA 0 0 96) j = gB j) ∧ (∀ j, j < 96 → (va_cpy fB fA 0 0 96) j = fB j) ∧ (∀ j, j < 96 → (va_cpy dB dA 0 0 96) j = dB j) ∧ (∀ j, j < 96 → (va_cpy lB lA 0 0 96) j = lB j) := by exact ⟨fun j h => sb_cpy0 h, fun j h => sb_cpy0 h, fun j h => sb_cpy0 h, fun j h => sb_cpy0 h, fun j h => sb_cpy0 h⟩
  refine kk_QQ hQQ ?_
  exact W.vret hx hb hr (fun t ht hW => ⟨⟨(va_cpy pB pA 0 0 96, va_cpy gB gA 0 0 96, va_cpy fB fA 0 0 96, va_cpy dB dA 0 0 96, va_cpy lB lA 0 0 96), rfl, hq, by show va_P D vwCl _ t.heap; rw [ht]; exact hP⟩, hS.F ht⟩) hS.2.2 dX8_become_75

abbrev rmX8_placeAt : Room := { frames := 1, cells := 0, slots := 0, locals := 21 }
set_option maxHeartbeats 4000000 in
set_option maxRecDepth 100000 in
theorem c_X8_placeAt (lL : Launch) (D : va_G) (cI cS : ClassId) (sz : Nat) (h0 : Nat) (h1 : Nat) (h2 : Nat) (h3 : Nat) (h4 : Nat) (h5 : Nat) (pA : Nat → Int32) (k : Nat) (s : Nat) (a : Nat) (b : Nat) (hk : k < 4) (hb0 : b ≤ 24) (hab : a ≤ b) : Met lL yX8_placeAt wsX8_placeAt rmX8_placeAt (va_Pc [.ref h0, .int (nI k), .int (nI s), .int (nI a), .int (nI b)] (kB D cI cS [(h0, .inr (7, [.ref h1, .ref h2, .ref h3, .ref h4, .ref h5])), (h1, .inl (cI, 96, .inl pA))] sz)) (kQv D (fun u : (Nat → Int32) => ∀ w j, j < 4 → u (w * 4 + j) = if j = k ∧ a ≤ w ∧ w < b then nI s else pA (w * 4 + j)) (fun u : (Nat → Int32) => [(h0, .inr (7, [.ref h1, .ref h2, .ref h3, .ref h4, .ref h5])), (h1, .inl (cI, 96, .inl u))]) (va_A [(h0, .inr (7, [.ref h1, .ref h2, .ref h3, .ref h4, .ref h5])), (h1, .inl (cI, 96, .inl pA))] sz)) 0 0 (va_A [(h0, .inr (7, [.ref h1, .ref h2, .ref h3, .ref h4, .ref h5])), (h1, .inl (cI, 96, .inl pA))] sz) := by
  refine Met.ofW (cc := cX8_placeAt) (maxL := 6) (ret := none) (by decide) rfl ?_
  intro pP eE sS mM args below meth cC s₁ B hml hv
  obtain ⟨rfl, hsz, hP, hK, hD0⟩ := hv
  have hx := B.exec
  have hb := B.bytes
  have hr := B.returns
  have hts := atoms_spec (ws := wsX8_placeAt) B.pre
  have hown : sS.vm.findClass RX8 = some mM.cls := findClass_of_methodNamed B.named
  have hlocks := B.notSynchronized
  subst hsz
  have hD := hD0.self (sz := sS.heap.size)
  generalize hAe : va_A [(h0, .inr (7, [.ref h1, .ref h2, .ref h3, .ref h4, .ref h5])), (h1, .inl (cI, 96, .inl pA))] sS.heap.size = A at hD ⊢
  have hA : ∀ q : Nat, sS.heap.size ≤ q → A q := fun q h => by rw [← hAe]; exact Or.inr h
  have hS : va_S A sS.heap sS.heap [] := va_S.rf
  have hP : va_P D vwCl [(h0, .inr (7, [.ref h1, .ref h2, .ref h3, .ref h4, .ref h5])), (h1, .inl (cI, 96, .inl pA))] sS.heap := hP
  have hD : va_D A [(h0, .inr (7, [.ref h1, .ref h2, .ref h3, .ref h4, .ref h5])), (h1, .inl (cI, 96, .inl pA))] := hD
  have hf_11 := hts (.fieldLink RX8 11 "OldLamps$Watches" "places" "[I") (List.mem_of_getElem? (i := 1) rfl)
  have hwX8 : ∀ w ∈ wsX80, w ∈ wsX8_placeAt := fun _ h => List.mem_cons_of_mem _ (List.mem_append_right _ h)
  have hl := lv_entry ([.ref h0, .int (nI k), .int (nI s), .int (nI a), .int (nI b)]) (n := 6) (Nat.le_of_ble_eq_true rfl)
  rw [lg_entry_eq]
  generalize (lg_sl ([.ref h0, .int (nI k), .int (nI s), .int (nI a), .int (nI b)]) ++ List.replicate (6 - (lg_sl ([.ref h0, .int (nI k), .int (nI s), .int (nI a), .int (nI b)])).length) Slot.unset).toArray = ls at hl ⊢
  have hl : lv_has ls 6 [(0, .ref h0), (1, .int (nI k)), (2, .int (nI s)), (3, .int (nI a)), (4, .int (nI b))] := hl
  obtain ⟨QQ, hQQ⟩ : ∃ QQ : State → Prop, QQ = MQ below (kQv D (fun u : (Nat → Int32) => ∀ w j, j < 4 → u (w * 4 + j) = if j = k ∧ a ≤ w ∧ w < b then nI s else pA (w * 4 + j)) (fun u : (Nat → Int32) => [(h0, .inr (7, [.ref h1, .ref h2, .ref h3, .ref h4, .ref h5])), (h1, .inl (cI, 96, .inl u))]) A) ([.ref h0, .int (nI k), .int (nI s), .int (nI a), .int (nI b)]).toArray sS 0 0 A := ⟨_, rfl⟩
  refine kk_QQ hQQ.symm ?_
  refine lv_iload_n hx hb dX8_placeAt_0 rfl (lv_at hl 3 rfl) ?_
  refine lv_istore (lv' := [(5, .int (nI a)), (0, .ref h0), (1, .int (nI k)), (2, .int (nI s)), (3, .int (nI a)), (4, .int (nI b))]) hx hb dX8_placeAt_1 hl (by decide) rfl (fun ls hl => ?_)
  have L_3 : ∀ (n_3 : Nat) (v : Nat) (pX : Nat → Int32), (a ≤ v) → (v ≤ b) → (∀ w j, j < 4 → pX (w * 4 + j) = if j = k ∧ a ≤ w ∧ w < v then nI s else pA (w * 4 + j)) → b + 1 ≤ v + n_3 → ∀ (H : Heap) (locs : List Loc), va_P D vwCl [(h0, .inr (7, [.ref h1, .ref h2, .ref h3, .ref h4, .ref h5])), (h1, .inl (cI, 96, .inl pX))] H → va_D A [(h0, .inr (7, [.ref h1, .ref h2, .ref h3, .ref h4, .ref h5])), (h1, .inl (cI, 96, .inl pX))] → va_S A sS.heap H locs → ∀ (ls : Array Slot), lv_has ls 6 [(5, .int (nI v)), (0, .ref h0), (1, .int (nI k)), (2, .int (nI s)), (3, .int (nI a)), (4, .int (nI b))] → W pP lL eE (headSpec wsX8_placeAt rmX8_placeAt).room sS mM ([.ref h0, .int (nI k), .int (nI s), .int (nI a), .int (nI b)]).toArray below meth cC H locs 0 0 QQ (F0 mM 3 ls []) := by
    intro n_3
    induction n_3 with
    | zero =>
      intro v pX hv1 hv2 z1 hn_3 H locs hP hD hS ls hl
      exact absurd hn_3 (by omega)
    | succ n_3 ih_3 =>
      intro v pX hv1 hv2 z1 hn_3 H locs hP hD hS ls hl
      refine lv_iload hx hb dX8_placeAt_3 (lv_at hl 0 rfl) ?_
      refine lv_iload hx hb dX8_placeAt_5 (lv_at hl 5 rfl) ?_
      refine kk_icmp_ge (tgt := 28) hx hb dX8_placeAt_7 (by decide) (by omega) (by omega) (fun c_1 => ?_) (fun c_1 => ?_)
      · skip
        have hq : ∀ w j, j < 4 → pX (w * 4 + j) = if j = k ∧ a ≤ w ∧ w < b then nI s else pA (w * 4 + j) := by rw [show b = v by omega]; exact z1
        refine kk_QQ hQQ ?_
        exact W.vret hx hb hr (fun t ht hW => ⟨⟨pX, rfl, hq, by show va_P D vwCl _ t.heap; rw [ht]; exact hP⟩, hS.F ht⟩) hS.2.2 dX8_placeAt_28
      · skip
        refine lv_aload_n hx hb dX8_placeAt_10 rfl (lv_at hl 1 rfl) ?_
        refine va_get (D := D) (ci := 7) (v := .ref h1) (C := RX8) (T := TX8) (N := 5) hx hb hts hwX8 hown hK hP 0 rfl rfl 0 (by decide) hf_11 (fun _ h9 => h9) rfl dX8_placeAt_11 ?_
        refine lv_iload hx hb dX8_placeAt_14 (lv_at hl 0 rfl) ?_
        refine lv_iload_n hx hb dX8_placeAt_16 rfl (lv_at hl 2 rfl) ?_
        refine vp_callSi (W.runS (As := [.int (nI v), .int (nI k)]) (rest := [.ref h1]) ⟨hx, hb, hml, hown, hts⟩ (c_X8_at lL D cI cS v k) (va_cwS 2 hts gX8_placeAt_X8_at rfl rfl rfl cd_X8_at ⟨Nat.le_of_ble_eq_true rfl, Nat.le_of_ble_eq_true rfl⟩) ⟨kBp_blind, fun U hU hW => ⟨rfl, by rw [hU]; exact hP.sub [] rfl, va_K.moved hW.alike hK⟩⟩ rfl rfl hl.1 rfl (lv_room (Nat.le_of_ble_eq_true rfl)) dX8_placeAt_17 ⟨Nat.le_of_ble_eq_true rfl, Nat.le_of_ble_eq_true rfl⟩) (fun r_2 hw_2 => ?_)
        obtain rfl : r_2 = nI (v * 4 + k) := hw_2
        refine lv_iload_n hx hb dX8_placeAt_20 rfl (lv_at hl 3 rfl) ?_
        refine kk_iast hx hb hK hP hD hS 1 rfl rfl (i := v * 4 + k) (by omega) (by decide) dX8_placeAt_21 (fun H locs hP hD hS => ?_)
        have hP : va_P D vwCl [(h0, .inr (7, [.ref h1, .ref h2, .ref h3, .ref h4, .ref h5])), (h1, .inl (cI, 96, .inl (upd pX (v * 4 + k) (nI s))))] H := hP
        have hD : va_D A [(h0, .inr (7, [.ref h1, .ref h2, .ref h3, .ref h4, .ref h5])), (h1, .inl (cI, 96, .inl (upd pX (v * 4 + k) (nI s))))] := hD
        refine lv_iinc (v := nI (v + 1)) (lv' := [(5, .int (nI (v + 1))), (0, .ref h0), (1, .int (nI k)), (2, .int (nI s)), (3, .int (nI a)), (4, .int (nI b))]) hx hb dX8_placeAt_22 hl (k := 0) rfl (nI_add v 1) (by decide) rfl (fun ls hl => ?_)
        refine lv_goto (tgt := 3) hx hb dX8_placeAt_25 (by decide) ?_
        have o_3 : a ≤ (v + 1) := by omega
        have o_4 : (v + 1) ≤ b := by omega
        have o_5 : ∀ w j, j < 4 → (upd pX (v * 4 + k) (nI s)) (w * 4 + j) = if j = k ∧ a ≤ w ∧ w < (v + 1) then nI s else pA (w * 4 + j) := by
          intro w j h
          by_cases e : w * 4 + j = v * 4 + k
          · rw [e, up_at, if_pos (by omega)]
          · rw [up_ne _ _ e, z1 w j h]
            by_cases e2 : j = k ∧ a ≤ w ∧ w < v
            · rw [if_pos e2, if_pos (by omega)]
            · rw [if_neg e2, if_neg (by omega)]
        have o_6 : b + 1 ≤ (v + 1) + n_3 := by omega
        exact ih_3 (v + 1) (upd pX (v * 4 + k) (nI s)) o_3 o_4 o_5 o_6 _ _ hP hD hS ls (lv_sub hl [0, 1, 2, 3, 4, 5] rfl)
  have o_7 : a ≤ a := by omega
  have o_8 : a ≤ b := by omega
  have o_9 : ∀ w j, j < 4 → pA (w * 4 + j) = if j = k ∧ a ≤ w ∧ w < a then nI s else pA (w * 4 + j) := by intro w j h; rw [if_neg (by omega)]
  have o_10 : b + 1 ≤ a + (b + 1) := by omega
  exact L_3 (b + 1) a pA o_7 o_8 o_9 o_10 _ _ hP hD hS ls (lv_sub hl [0, 1, 2, 3, 4, 5] rfl)

abbrev rmX8_placeLamps : Room := { frames := 1, cells := 0, slots := 0, locals := 21 }
set_option maxHeartbeats 4000000 in
set_option maxRecDepth 100000 in
theorem c_X8_placeLamps (lL : Launch) (D : va_G) (cI cS : ClassId) (sz : Nat) (C : Co) (M : Mv) (h0 : Nat) (h1 : Nat) (h2 : Nat) (h3 : Nat) (h4 : Nat) (h5 : Nat) (g0 : Nat) (g1 : Nat) (g2 : Nat) (g3 : Nat) (g4 : Nat) (g5 : Nat) (e0 : Nat) (e1 : Nat) (e2 : Nat) (e3 : Nat) (wf : Nat → Int32) (tf : Nat → Int32) (vf : Nat → Int32) (pA : Nat → Int32) (st : Nat → Int32) (w : Nat) (hC : okC C) (hM : okM C M) (hst : ∀ k, k < cLa C → st k = nI (cSt C k)) (hrM : repM M wf tf vf) (hw : w < 24) (tP0 : tP C (plc M (cSt C)) pA 0 w) : Met lL yX8_placeLamps wsX8_placeLamps rmX8_placeLamps (va_Pc [.ref h0, .ref g0, .ref e0, .int (nI w)] (kB D cI cS [(h0, .inr (7, [.ref h1, .ref h2, .ref h3, .ref h4, .ref h5])), (h1, .inl (cI, 96, .inl pA)), (g0, .inr (1, [.int (nI (cSp C)), .int (nI (cLa C)), .int (nI (cAg C)), .ref g1, .ref g2, .ref g3, .ref g4, .ref g5])), (g4, .inl (cI, 4, .inl st)), (e0, .inr (0, [.int (nI (mN M)), .ref e1, .ref e2, .ref e3])), (e1, .inl (cI, 8, .inl wf)), (e2, .inl (cI, 8, .inl tf)), (e3, .inl (cI, 8, .inl vf))] sz)) (kQv D (fun u : (Nat → Int32) => tP C (plc M (cSt C)) u 0 (w + 1)) (fun u : (Nat → Int32) => [(h0, .inr (7, [.ref h1, .ref h2, .ref h3, .ref h4, .ref h5])), (h1, .inl (cI, 96, .inl u)), (g0, .inr (1, [.int (nI (cSp C)), .int (nI (cLa C)), .int (nI (cAg C)), .ref g1, .ref g2, .ref g3, .ref g4, .ref g5])), (g4, .inl (cI, 4, .inl st)), (e0, .inr (0, [.int (nI (mN M)), .ref e1, .ref e2, .ref e3])), (e1, .inl (cI, 8, .inl wf)), (e2, .inl (cI, 8, .inl tf)), (e3, .inl (cI, 8, .inl vf))]) (va_A [(h0, .inr (7, [.ref h1, .ref h2, .ref h3, .ref h4, .ref h5])), (h1, .inl (cI, 96, .inl pA)), (g0, .inr (1, [.int (nI (cSp C)), .int (nI (cLa C)), .int (nI (cAg C)), .ref g1, .ref g2, .ref g3, .ref g4, .ref g5])), (g4, .inl (cI, 4, .inl st)), (e0, .inr (0, [.int (nI (mN M)), .ref e1, .ref e2, .ref e3])), (e1, .inl (cI, 8, .inl wf)), (e2, .inl (cI, 8, .inl tf)), (e3, .inl (cI, 8, .inl vf))] sz)) 0 0 (va_A [(h0, .inr (7, [.ref h1, .ref h2, .ref h3, .ref h4, .ref h5])), (h1, .inl (cI, 96, .inl pA)), (g0, .inr (1, [.int (nI (cSp C)), .int (nI (cLa C)), .int (nI (cAg C)), .ref g1, .ref g2, .ref g3, .ref g4, .ref g5])), (g4, .inl (cI, 4, .inl st)), (e0, .inr (0, [.int (nI (mN M)), .ref e1, .ref e2, .ref e3])), (e1, .inl (cI, 8, .inl wf)), (e2, .inl (cI, 8, .inl tf)), (e3, .inl (cI, 8, .inl vf))] sz) := by
  refine Met.ofW (cc := cX8_placeLamps) (maxL := 5) (ret := none) (by decide) rfl ?_
  intro pP eE sS mM args below meth cC s₁ B hml hv
  obtain ⟨rfl, hsz, hP, hK, hD0⟩ := hv
  have hx := B.exec
  have hb := B.bytes
  have hr := B.returns
  have hts := atoms_spec (ws := wsX8_placeLamps) B.pre
  have hown : sS.vm.findClass RX8 = some mM.cls := findClass_of_methodNamed B.named
  have hlocks := B.notSynchronized
  subst hsz
  have hD := hD0.self (sz := sS.heap.size)
  generalize hAe : va_A [(h0, .inr (7, [.ref h1, .ref h2, .ref h3, .ref h4, .ref h5])), (h1, .inl (cI, 96, .inl pA)), (g0, .inr (1, [.int (nI (cSp C)), .int (nI (cLa C)), .int (nI (cAg C)), .ref g1, .ref g2, .ref g3, .ref g4, .ref g5])), (g4, .inl (cI, 4, .inl st)), (e0, .inr (0, [.int (nI (mN M)), .ref e1, .ref e2, .ref e3])), (e1, .inl (cI, 8, .inl wf)), (e2, .inl (cI, 8, .inl tf)), (e3, .inl (cI, 8, .inl vf))] sS.heap.size = A at hD ⊢
  have hA : ∀ q : Nat, sS.heap.size ≤ q → A q := fun q h => by rw [← hAe]; exact Or.inr h
  have hS : va_S A sS.heap sS.heap [] := va_S.rf
  have hP : va_P D vwCl [(h0, .inr (7, [.ref h1, .ref h2, .ref h3, .ref h4, .ref h5])), (h1, .inl (cI, 96, .inl pA)), (g0, .inr (1, [.int (nI (cSp C)), .int (nI (cLa C)), .int (nI (cAg C)), .ref g1, .ref g2, .ref g3, .ref g4, .ref g5])), (g4, .inl (cI, 4, .inl st)), (e0, .inr (0, [.int (nI (mN M)), .ref e1, .ref e2, .ref e3])), (e1, .inl (cI, 8, .inl wf)), (e2, .inl (cI, 8, .inl tf)), (e3, .inl (cI, 8, .inl vf))] sS.heap := hP
  have hD : va_D A [(h0, .inr (7, [.ref h1, .ref h2, .ref h3, .ref h4, .ref h5])), (h1, .inl (cI, 96, .inl pA)), (g0, .inr (1, [.int (nI (cSp C)), .int (nI (cLa C)), .int (nI (cAg C)), .ref g1, .ref g2, .ref g3, .ref g4, .ref g5])), (g4, .inl (cI, 4, .inl st)), (e0, .inr (0, [.int (nI (mN M)), .ref e1, .ref e2, .ref e3])), (e1, .inl (cI, 8, .inl wf)), (e2, .inl (cI, 8, .inl tf)), (e3, .inl (cI, 8, .inl vf))] := hD
  have hf_11 := hts (.fieldLink RX8 11 "OldLamps$Watches" "places" "[I") (List.mem_of_getElem? (i := 2) rfl)
  have hf_57 := hts (.fieldLink RX8 57 "OldLamps$Ground" "lamps" "I") (List.mem_of_getElem? (i := 1) rfl)
  have hf_71 := hts (.fieldLink RX8 71 "OldLamps$Ground" "firstSpots" "[I") (List.mem_of_getElem? (i := 3) rfl)
  have hf_74 := hts (.fieldLink RX8 74 "OldLamps$Entries" "count" "I") (List.mem_of_getElem? (i := 4) rfl)
  have hf_79 := hts (.fieldLink RX8 79 "OldLamps$Entries" "watches" "[I") (List.mem_of_getElem? (i := 5) rfl)
  have hf_82 := hts (.fieldLink RX8 82 "OldLamps$Entries" "whos" "[I") (List.mem_of_getElem? (i := 6) rfl)
  have hf_85 := hts (.fieldLink RX8 85 "OldLamps$Entries" "values" "[I") (List.mem_of_getElem? (i := 7) rfl)
  have hwX1 : ∀ w ∈ wsX10, w ∈ wsX8_placeLamps := fun _ h => List.mem_cons_of_mem _ (List.mem_append_right _ h)
  have hwX2 : ∀ w ∈ wsX20, w ∈ wsX8_placeLamps := fun _ h => List.mem_cons_of_mem _ (List.mem_append_left _ (List.mem_append_left _ (List.mem_append_right _ h)))
  have hwX8 : ∀ w ∈ wsX80, w ∈ wsX8_placeLamps := fun _ h => List.mem_cons_of_mem _ (List.mem_append_left _ (List.mem_append_right _ h))
  have hl := lv_entry ([.ref h0, .ref g0, .ref e0, .int (nI w)]) (n := 5) (Nat.le_of_ble_eq_true rfl)
  rw [lg_entry_eq]
  generalize (lg_sl ([.ref h0, .ref g0, .ref e0, .int (nI w)]) ++ List.replicate (5 - (lg_sl ([.ref h0, .ref g0, .ref e0, .int (nI w)])).length) Slot.unset).toArray = ls at hl ⊢
  have hl : lv_has ls 5 [(0, .ref h0), (1, .ref g0), (2, .ref e0), (3, .int (nI w))] := hl
  obtain ⟨QQ, hQQ⟩ : ∃ QQ : State → Prop, QQ = MQ below (kQv D (fun u : (Nat → Int32) => tP C (plc M (cSt C)) u 0 (w + 1)) (fun u : (Nat → Int32) => [(h0, .inr (7, [.ref h1, .ref h2, .ref h3, .ref h4, .ref h5])), (h1, .inl (cI, 96, .inl u)), (g0, .inr (1, [.int (nI (cSp C)), .int (nI (cLa C)), .int (nI (cAg C)), .ref g1, .ref g2, .ref g3, .ref g4, .ref g5])), (g4, .inl (cI, 4, .inl st)), (e0, .inr (0, [.int (nI (mN M)), .ref e1, .ref e2, .ref e3])), (e1, .inl (cI, 8, .inl wf)), (e2, .inl (cI, 8, .inl tf)), (e3, .inl (cI, 8, .inl vf))]) A) ([.ref h0, .ref g0, .ref e0, .int (nI w)]).toArray sS 0 0 A := ⟨_, rfl⟩
  refine kk_QQ hQQ.symm ?_
  obtain ⟨hC1, hC2, hC3, hC4, hC5, hC6, hC7, hC8⟩ := id hC
  obtain ⟨hM1, hM2⟩ := id hM
  refine lv_iconst (v := nI 0) hx hb dX8_placeLamps_0 (by decide +kernel) ?_
  refine lv_istore (lv' := [(4, .int (nI 0)), (0, .ref h0), (1, .ref g0), (2, .ref e0), (3, .int (nI w))]) hx hb dX8_placeLamps_1 hl (by decide) rfl (fun ls hl => ?_)
  have L_3 : ∀ (n_3 : Nat) (k : Nat) (pX : Nat → Int32), (k ≤ cLa C) → (kpt pA pX (w * 4)) → (∀ j, j < k → pX (w * 4 + j) = nI (plP M (cSt C) j w)) → cLa C + 1 ≤ k + n_3 → ∀ (H : Heap) (locs : List Loc), va_P D vwCl [(h0, .inr (7, [.ref h1, .ref h2, .ref h3, .ref h4, .ref h5])), (h1, .inl (cI, 96, .inl pX)), (g0, .inr (1, [.int (nI (cSp C)), .int (nI (cLa C)), .int (nI (cAg C)), .ref g1, .ref g2, .ref g3, .ref g4, .ref g5])), (g4, .inl (cI, 4, .inl st)), (e0, .inr (0, [.int (nI (mN M)), .ref e1, .ref e2, .ref e3])), (e1, .inl (cI, 8, .inl wf)), (e2, .inl (cI, 8, .inl tf)), (e3, .inl (cI, 8, .inl vf))] H → va_D A [(h0, .inr (7, [.ref h1, .ref h2, .ref h3, .ref h4, .ref h5])), (h1, .inl (cI, 96, .inl pX)), (g0, .inr (1, [.int (nI (cSp C)), .int (nI (cLa C)), .int (nI (cAg C)), .ref g1, .ref g2, .ref g3, .ref g4, .ref g5])), (g4, .inl (cI, 4, .inl st)), (e0, .inr (0, [.int (nI (mN M)), .ref e1, .ref e2, .ref e3])), (e1, .inl (cI, 8, .inl wf)), (e2, .inl (cI, 8, .inl tf)), (e3, .inl (cI, 8, .inl vf))] → va_S A sS.heap H locs → ∀ (ls : Array Slot), lv_has ls 5 [(4, .int (nI k)), (0, .ref h0), (1, .ref g0), (2, .ref e0), (3, .int (nI w))] → W pP lL eE (headSpec wsX8_placeLamps rmX8_placeLamps).room sS mM ([.ref h0, .ref g0, .ref e0, .int (nI w)]).toArray below meth cC H locs 0 0 QQ (F0 mM 3 ls []) := by
    intro n_3
    induction n_3 with
    | zero =>
      intro k pX hk k1 z1 hn_3 H locs hP hD hS ls hl
      exact absurd hn_3 (by omega)
    | succ n_3 ih_3 =>
      intro k pX hk k1 z1 hn_3 H locs hP hD hS ls hl
      refine lv_iload hx hb dX8_placeLamps_3 (lv_at hl 0 rfl) ?_
      refine lv_aload_n hx hb dX8_placeLamps_5 rfl (lv_at hl 2 rfl) ?_
      refine va_get (D := D) (ci := 1) (v := .int (nI (cLa C))) (C := RX2) (T := TX2) (N := 8) hx hb hts hwX2 hown hK hP 2 rfl rfl 1 (by decide) hf_57 (fun _ h9 => h9) rfl dX8_placeLamps_6 ?_
      refine kk_icmp_ge (tgt := 56) hx hb dX8_placeLamps_9 (by decide) (by omega) (by omega) (fun c_1 => ?_) (fun c_1 => ?_)
      · skip
        refine lv_iconst (v := nI 0) hx hb dX8_placeLamps_56 (by decide +kernel) ?_
        refine lv_istore (lv' := [(4, .int (nI 0)), (0, .ref h0), (1, .ref g0), (2, .ref e0), (3, .int (nI w))]) hx hb dX8_placeLamps_57 hl (by decide) rfl (fun ls hl => ?_)
        have L_59 : ∀ (n_59 : Nat) (i : Nat) (pY : Nat → Int32), (i ≤ mN M) → (kpt pA pY (w * 4)) → (∀ j, j < cLa C → pY (w * 4 + j) = nI (plAt M j w (plP M (cSt C) j w) i)) → mN M + 1 ≤ i + n_59 → ∀ (H : Heap) (locs : List Loc), va_P D vwCl [(h0, .inr (7, [.ref h1, .ref h2, .ref h3, .ref h4, .ref h5])), (h1, .inl (cI, 96, .inl pY)), (g0, .inr (1, [.int (nI (cSp C)), .int (nI (cLa C)), .int (nI (cAg C)), .ref g1, .ref g2, .ref g3, .ref g4, .ref g5])), (g4, .inl (cI, 4, .inl st)), (e0, .inr (0, [.int (nI (mN M)), .ref e1, .ref e2, .ref e3])), (e1, .inl (cI, 8, .inl wf)), (e2, .inl (cI, 8, .inl tf)), (e3, .inl (cI, 8, .inl vf))] H → va_D A [(h0, .inr (7, [.ref h1, .ref h2, .ref h3, .ref h4, .ref h5])), (h1, .inl (cI, 96, .inl pY)), (g0, .inr (1, [.int (nI (cSp C)), .int (nI (cLa C)), .int (nI (cAg C)), .ref g1, .ref g2, .ref g3, .ref g4, .ref g5])), (g4, .inl (cI, 4, .inl st)), (e0, .inr (0, [.int (nI (mN M)), .ref e1, .ref e2, .ref e3])), (e1, .inl (cI, 8, .inl wf)), (e2, .inl (cI, 8, .inl tf)), (e3, .inl (cI, 8, .inl vf))] → va_S A sS.heap H locs → ∀ (ls : Array Slot), lv_has ls 5 [(4, .int (nI i)), (0, .ref h0), (1, .ref g0), (2, .ref e0), (3, .int (nI w))] → W pP lL eE (headSpec wsX8_placeLamps rmX8_placeLamps).room sS mM ([.ref h0, .ref g0, .ref e0, .int (nI w)]).toArray below meth cC H locs 0 0 QQ (F0 mM 59 ls []) := by
          intro n_59
          induction n_59 with
          | zero =>
            intro i pY hi k2 z2 hn_59 H locs hP hD hS ls hl
            exact absurd hn_59 (by omega)
          | succ n_59 ih_59 =>
            intro i pY hi k2 z2 hn_59 H locs hP hD hS ls hl
            refine lv_iload hx hb dX8_placeLamps_59 (lv_at hl 0 rfl) ?_
            refine lv_aload_n hx hb dX8_placeLamps_61 rfl (lv_at hl 3 rfl) ?_
            refine va_get (D := D) (ci := 0) (v := .int (nI (mN M))) (C := RX1) (T := TX1) (N := 4) hx hb hts hwX1 hown hK hP 4 rfl rfl 0 (by decide) hf_74 (fun _ h9 => h9) rfl dX8_placeLamps_62 ?_
            refine kk_icmp_ge (tgt := 108) hx hb dX8_placeLamps_65 (by decide) (by omega) (by omega) (fun c_2 => ?_) (fun c_2 => ?_)
            · skip
              have hq : tP C (plc M (cSt C)) pY 0 (w + 1) := by
                intro v h1 h2 k hk
                by_cases e : v = w
                · subst e; rw [z2 k hk, show i = mN M by omega, plc_P]
                · rw [k2 _ (by omega)]; exact tP0 v h1 (by omega) k hk
              refine kk_QQ hQQ ?_
              exact W.vret hx hb hr (fun t ht hW => ⟨⟨pY, rfl, hq, by show va_P D vwCl _ t.heap; rw [ht]; exact hP⟩, hS.F ht⟩) hS.2.2 dX8_placeLamps_108
            · skip
              refine lv_aload_n hx hb dX8_placeLamps_68 rfl (lv_at hl 3 rfl) ?_
              refine va_get (D := D) (ci := 0) (v := .ref e2) (C := RX1) (T := TX1) (N := 4) hx hb hts hwX1 hown hK hP 4 rfl rfl 2 (by decide) hf_79 (fun _ h9 => h9) rfl dX8_placeLamps_69 ?_
              refine lv_iload hx hb dX8_placeLamps_72 (lv_at hl 0 rfl) ?_
              refine kk_iald hx hb hK hP 6 rfl rfl (i := i) (by omega) (by decide) dX8_placeLamps_74 ?_
              refine kk_top (y := nI (mT M i)) ((hrM i (by omega)).2.1) ?_
              have hmi := hM2 i (by omega)
              refine lv_iload_n hx hb dX8_placeLamps_75 rfl (lv_at hl 4 rfl) ?_
              refine kk_icmp_ne (tgt := 102) hx hb dX8_placeLamps_76 (by decide) (by omega) (by omega) (fun c_3 => ?_) (fun c_3 => ?_)
              · skip
                refine lv_iinc (v := nI (i + 1)) (lv' := [(4, .int (nI (i + 1))), (0, .ref h0), (1, .ref g0), (2, .ref e0), (3, .int (nI w))]) hx hb dX8_placeLamps_102 hl (k := 0) rfl (nI_add i 1) (by decide) rfl (fun ls hl => ?_)
                refine lv_goto (tgt := 59) hx hb dX8_placeLamps_105 (by decide) ?_
                have o_4 : (i + 1) ≤ mN M := by omega
                have o_5 : kpt pA pY (w * 4) := by exact k2
                have o_6 : ∀ j, j < cLa C → pY (w * 4 + j) = nI (plAt M j w (plP M (cSt C) j w) (i + 1)) := by
                  intro j h
                  rw [plAt_s, if_neg (by omega)]; exact z2 j h
                have o_7 : mN M + 1 ≤ (i + 1) + n_59 := by omega
                exact ih_59 (i + 1) pY o_4 o_5 o_6 o_7 _ _ hP hD hS ls (lv_sub hl [0, 1, 2, 3, 4] rfl)
              · skip
                refine lv_aload_n hx hb dX8_placeLamps_79 rfl (lv_at hl 1 rfl) ?_
                refine va_get (D := D) (ci := 7) (v := .ref h1) (C := RX8) (T := TX8) (N := 5) hx hb hts hwX8 hown hK hP 0 rfl rfl 0 (by decide) hf_11 (fun _ h9 => h9) rfl dX8_placeLamps_80 ?_
                refine lv_iload_n hx hb dX8_placeLamps_83 rfl (lv_at hl 4 rfl) ?_
                refine lv_aload_n hx hb dX8_placeLamps_84 rfl (lv_at hl 3 rfl) ?_
                refine va_get (D := D) (ci := 0) (v := .ref e1) (C := RX1) (T := TX1) (N := 4) hx hb hts hwX1 hown hK hP 4 rfl rfl 1 (by decide) hf_82 (fun _ h9 => h9) rfl dX8_placeLamps_85 ?_
                refine lv_iload hx hb dX8_placeLamps_88 (lv_at hl 0 rfl) ?_
                refine kk_iald hx hb hK hP 5 rfl rfl (i := i) (by omega) (by decide) dX8_placeLamps_90 ?_
                refine kk_top (y := nI (mW M i)) ((hrM i (by omega)).1) ?_
                refine vp_callSi (W.runS (As := [.int (nI w), .int (nI (mW M i))]) (rest := [.ref h1]) ⟨hx, hb, hml, hown, hts⟩ (c_X8_at lL D cI cS w (mW M i)) (va_cwS 2 hts gX8_placeLamps_X8_at rfl rfl rfl cd_X8_at ⟨Nat.le_of_ble_eq_true rfl, Nat.le_of_ble_eq_true rfl⟩) ⟨kBp_blind, fun U hU hW => ⟨rfl, by rw [hU]; exact hP.sub [] rfl, va_K.moved hW.alike hK⟩⟩ rfl rfl hl.1 rfl (lv_room (Nat.le_of_ble_eq_true rfl)) dX8_placeLamps_91 ⟨Nat.le_of_ble_eq_true rfl, Nat.le_of_ble_eq_true rfl⟩) (fun r_8 hw_8 => ?_)
                obtain rfl : r_8 = nI (w * 4 + (mW M i)) := hw_8
                refine lv_aload_n hx hb dX8_placeLamps_94 rfl (lv_at hl 3 rfl) ?_
                refine va_get (D := D) (ci := 0) (v := .ref e3) (C := RX1) (T := TX1) (N := 4) hx hb hts hwX1 hown hK hP 4 rfl rfl 3 (by decide) hf_85 (fun _ h9 => h9) rfl dX8_placeLamps_95 ?_
                refine lv_iload hx hb dX8_placeLamps_98 (lv_at hl 0 rfl) ?_
                refine kk_iald hx hb hK hP 7 rfl rfl (i := i) (by omega) (by decide) dX8_placeLamps_100 ?_
                refine kk_top (y := nI (mV M i)) ((hrM i (by omega)).2.2) ?_
                refine kk_iast hx hb hK hP hD hS 1 rfl rfl (i := w * 4 + (mW M i)) (by omega) (by decide) dX8_placeLamps_101 (fun H locs hP hD hS => ?_)
                have hP : va_P D vwCl [(h0, .inr (7, [.ref h1, .ref h2, .ref h3, .ref h4, .ref h5])), (h1, .inl (cI, 96, .inl (upd pY (w * 4 + (mW M i)) (nI (mV M i))))), (g0, .inr (1, [.int (nI (cSp C)), .int (nI (cLa C)), .int (nI (cAg C)), .ref g1, .ref g2, .ref g3, .ref g4, .ref g5])), (g4, .inl (cI, 4, .inl st)), (e0, .inr (0, [.int (nI (mN M)), .ref e1, .ref e2, .ref e3])), (e1, .inl (cI, 8, .inl wf)), (e2, .inl (cI, 8, .inl tf)), (e3, .inl (cI, 8, .inl vf))] H := hP
                have hD : va_D A [(h0, .inr (7, [.ref h1, .ref h2, .ref h3, .ref h4, .ref h5])), (h1, .inl (cI, 96, .inl (upd pY (w * 4 + (mW M i)) (nI (mV M i))))), (g0, .inr (1, [.int (nI (cSp C)), .int (nI (cLa C)), .int (nI (cAg C)), .ref g1, .ref g2, .ref g3, .ref g4, .ref g5])), (g4, .inl (cI, 4, .inl st)), (e0, .inr (0, [.int (nI (mN M)), .ref e1, .ref e2, .ref e3])), (e1, .inl (cI, 8, .inl wf)), (e2, .inl (cI, 8, .inl tf)), (e3, .inl (cI, 8, .inl vf))] := hD
                refine lv_iinc (v := nI (i + 1)) (lv' := [(4, .int (nI (i + 1))), (0, .ref h0), (1, .ref g0), (2, .ref e0), (3, .int (nI w))]) hx hb dX8_placeLamps_102 hl (k := 0) rfl (nI_add i 1) (by decide) rfl (fun ls hl => ?_)
                refine lv_goto (tgt := 59) hx hb dX8_placeLamps_105 (by decide) ?_
                have o_9 : (i + 1) ≤ mN M := by omega
                have o_10 : kpt pA (upd pY (w * 4 + (mW M i)) (nI (mV M i))) (w * 4) := by exact kpt_up k2 (by omega)
                have o_11 : ∀ j, j < cLa C → (upd pY (w * 4 + (mW M i)) (nI (mV M i))) (w * 4 + j) = nI (plAt M j w (plP M (cSt C) j w) (i + 1)) := by
                  intro j h
                  rw [plAt_s]
                  by_cases e : mW M i = j
                  · subst e; rw [up_at, if_pos ⟨by omega, rfl⟩]
                  · rw [up_ne _ _ (by omega), if_neg (by omega)]; exact z2 j h
                have o_12 : mN M + 1 ≤ (i + 1) + n_59 := by omega
                exact ih_59 (i + 1) (upd pY (w * 4 + (mW M i)) (nI (mV M i))) o_9 o_10 o_11 o_12 _ _ hP hD hS ls (lv_sub hl [0, 1, 2, 3, 4] rfl)
        have o_13 : 0 ≤ mN M := by omega
        have o_14 : kpt pA pX (w * 4) := by exact k1
        have o_15 : ∀ j, j < cLa C → pX (w * 4 + j) = nI (plAt M j w (plP M (cSt C) j w) 0) := by intro j h; exact z1 j (by omega)
        have o_16 : mN M + 1 ≤ 0 + (mN M + 1) := by omega
        exact L_59 (mN M + 1) 0 pX o_13 o_14 o_15 o_16 _ _ hP hD hS ls (lv_sub hl [0, 1, 2, 3, 4] rfl)
      · skip
        refine lv_aload_n hx hb dX8_placeLamps_12 rfl (lv_at hl 1 rfl) ?_
        refine va_get (D := D) (ci := 7) (v := .ref h1) (C := RX8) (T := TX8) (N := 5) hx hb hts hwX8 hown hK hP 0 rfl rfl 0 (by decide) hf_11 (fun _ h9 => h9) rfl dX8_placeLamps_13 ?_
        refine lv_iload_n hx hb dX8_placeLamps_16 rfl (lv_at hl 4 rfl) ?_
        refine lv_iload hx hb dX8_placeLamps_17 (lv_at hl 0 rfl) ?_
        refine vp_callSi (W.runS (As := [.int (nI w), .int (nI k)]) (rest := [.ref h1]) ⟨hx, hb, hml, hown, hts⟩ (c_X8_at lL D cI cS w k) (va_cwS 2 hts gX8_placeLamps_X8_at rfl rfl rfl cd_X8_at ⟨Nat.le_of_ble_eq_true rfl, Nat.le_of_ble_eq_true rfl⟩) ⟨kBp_blind, fun U hU hW => ⟨rfl, by rw [hU]; exact hP.sub [] rfl, va_K.moved hW.alike hK⟩⟩ rfl rfl hl.1 rfl (lv_room (Nat.le_of_ble_eq_true rfl)) dX8_placeLamps_19 ⟨Nat.le_of_ble_eq_true rfl, Nat.le_of_ble_eq_true rfl⟩) (fun r_17 hw_17 => ?_)
        obtain rfl : r_17 = nI (w * 4 + k) := hw_17
        refine lv_iload_n hx hb dX8_placeLamps_22 rfl (lv_at hl 4 rfl) ?_
        refine kk_if_ne (tgt := 36) hx hb dX8_placeLamps_23 (by decide) (by omega) (fun c_18 => ?_) (fun c_18 => ?_)
        · skip
          refine lv_aload_n hx hb dX8_placeLamps_36 rfl (lv_at hl 1 rfl) ?_
          refine va_get (D := D) (ci := 7) (v := .ref h1) (C := RX8) (T := TX8) (N := 5) hx hb hts hwX8 hown hK hP 0 rfl rfl 0 (by decide) hf_11 (fun _ h9 => h9) rfl dX8_placeLamps_37 ?_
          refine lv_iload_n hx hb dX8_placeLamps_40 rfl (lv_at hl 4 rfl) ?_
          refine lv_iconst (v := nI 1) hx hb dX8_placeLamps_41 (by decide +kernel) ?_
          refine kk_isub hx hb dX8_placeLamps_42 (by omega) ?_
          refine lv_iload hx hb dX8_placeLamps_43 (lv_at hl 0 rfl) ?_
          refine vp_callSi (W.runS (As := [.int (nI (w - 1)), .int (nI k)]) (rest := [.ref h1, .int (nI (w * 4 + k)), .ref h1]) ⟨hx, hb, hml, hown, hts⟩ (c_X8_at lL D cI cS (w - 1) k) (va_cwS 2 hts gX8_placeLamps_X8_at rfl rfl rfl cd_X8_at ⟨Nat.le_of_ble_eq_true rfl, Nat.le_of_ble_eq_true rfl⟩) ⟨kBp_blind, fun U hU hW => ⟨rfl, by rw [hU]; exact hP.sub [] rfl, va_K.moved hW.alike hK⟩⟩ rfl rfl hl.1 rfl (lv_room (Nat.le_of_ble_eq_true rfl)) dX8_placeLamps_45 ⟨Nat.le_of_ble_eq_true rfl, Nat.le_of_ble_eq_true rfl⟩) (fun r_19 hw_19 => ?_)
          obtain rfl : r_19 = nI ((w - 1) * 4 + k) := hw_19
          refine kk_iald hx hb hK hP 1 rfl rfl (i := (w - 1) * 4 + k) (by omega) (by decide) dX8_placeLamps_48 ?_
          refine kk_top (y := nI (plP M (cSt C) k w)) ((by rw [k1 _ (by omega), tP0 (w - 1) (by omega) (by omega) k (by omega), plP_s _ _ _ c_18])) ?_
          refine kk_iast hx hb hK hP hD hS 1 rfl rfl (i := w * 4 + k) (by omega) (by decide) dX8_placeLamps_49 (fun H locs hP hD hS => ?_)
          have hP : va_P D vwCl [(h0, .inr (7, [.ref h1, .ref h2, .ref h3, .ref h4, .ref h5])), (h1, .inl (cI, 96, .inl (upd pX (w * 4 + k) (nI (plP M (cSt C) k w))))), (g0, .inr (1, [.int (nI (cSp C)), .int (nI (cLa C)), .int (nI (cAg C)), .ref g1, .ref g2, .ref g3, .ref g4, .ref g5])), (g4, .inl (cI, 4, .inl st)), (e0, .inr (0, [.int (nI (mN M)), .ref e1, .ref e2, .ref e3])), (e1, .inl (cI, 8, .inl wf)), (e2, .inl (cI, 8, .inl tf)), (e3, .inl (cI, 8, .inl vf))] H := hP
          have hD : va_D A [(h0, .inr (7, [.ref h1, .ref h2, .ref h3, .ref h4, .ref h5])), (h1, .inl (cI, 96, .inl (upd pX (w * 4 + k) (nI (plP M (cSt C) k w))))), (g0, .inr (1, [.int (nI (cSp C)), .int (nI (cLa C)), .int (nI (cAg C)), .ref g1, .ref g2, .ref g3, .ref g4, .ref g5])), (g4, .inl (cI, 4, .inl st)), (e0, .inr (0, [.int (nI (mN M)), .ref e1, .ref e2, .ref e3])), (e1, .inl (cI, 8, .inl wf)), (e2, .inl (cI, 8, .inl tf)), (e3, .inl (cI, 8, .inl vf))] := hD
          refine lv_iinc (v := nI (k + 1)) (lv' := [(4, .int (nI (k + 1))), (0, .ref h0), (1, .ref g0), (2, .ref e0), (3, .int (nI w))]) hx hb dX8_placeLamps_50 hl (k := 0) rfl (nI_add k 1) (by decide) rfl (fun ls hl => ?_)
          refine lv_goto (tgt := 3) hx hb dX8_placeLamps_53 (by decide) ?_
          have o_20 : (k + 1) ≤ cLa C := by omega
          have o_21 : kpt pA (upd pX (w * 4 + k) (nI (plP M (cSt C) k w))) (w * 4) := by exact kpt_up k1 (by omega)
          have o_22 : ∀ j, j < (k + 1) → (upd pX (w * 4 + k) (nI (plP M (cSt C) k w))) (w * 4 + j) = nI (plP M (cSt C) j w) := by
            intro j h
            by_cases e : j = k
            · subst e; exact up_at _ _ _
            · rw [up_ne _ _ (by omega)]; exact z1 j (by omega)
          have o_23 : cLa C + 1 ≤ (k + 1) + n_3 := by omega
          exact ih_3 (k + 1) (upd pX (w * 4 + k) (nI (plP M (cSt C) k w))) o_20 o_21 o_22 o_23 _ _ hP hD hS ls (lv_sub hl [0, 1, 2, 3, 4] rfl)
        · skip
          refine lv_aload_n hx hb dX8_placeLamps_26 rfl (lv_at hl 2 rfl) ?_
          refine va_get (D := D) (ci := 1) (v := .ref g4) (C := RX2) (T := TX2) (N := 8) hx hb hts hwX2 hown hK hP 2 rfl rfl 6 (by decide) hf_71 (fun _ h9 => h9) rfl dX8_placeLamps_27 ?_
          refine lv_iload hx hb dX8_placeLamps_30 (lv_at hl 0 rfl) ?_
          refine kk_iald hx hb hK hP 3 rfl rfl (i := k) (by omega) (by decide) dX8_placeLamps_32 ?_
          refine kk_top (y := nI (plP M (cSt C) k w)) ((by rw [hst k (by omega), plP_0 _ _ _ c_18])) ?_
          refine lv_goto (tgt := 49) hx hb dX8_placeLamps_33 (by decide) ?_
          refine kk_iast hx hb hK hP hD hS 1 rfl rfl (i := w * 4 + k) (by omega) (by decide) dX8_placeLamps_49 (fun H locs hP hD hS => ?_)
          have hP : va_P D vwCl [(h0, .inr (7, [.ref h1, .ref h2, .ref h3, .ref h4, .ref h5])), (h1, .inl (cI, 96, .inl (upd pX (w * 4 + k) (nI (plP M (cSt C) k w))))), (g0, .inr (1, [.int (nI (cSp C)), .int (nI (cLa C)), .int (nI (cAg C)), .ref g1, .ref g2, .ref g3, .ref g4, .ref g5])), (g4, .inl (cI, 4, .inl st)), (e0, .inr (0, [.int (nI (mN M)), .ref e1, .ref e2, .ref e3])), (e1, .inl (cI, 8, .inl wf)), (e2, .inl (cI, 8, .inl tf)), (e3, .inl (cI, 8, .inl vf))] H := hP
          have hD : va_D A [(h0, .inr (7, [.ref h1, .ref h2, .ref h3, .ref h4, .ref h5])), (h1, .inl (cI, 96, .inl (upd pX (w * 4 + k) (nI (plP M (cSt C) k w))))), (g0, .inr (1, [.int (nI (cSp C)), .int (nI (cLa C)), .int (nI (cAg C)), .ref g1, .ref g2, .ref g3, .ref g4, .ref g5])), (g4, .inl (cI, 4, .inl st)), (e0, .inr (0, [.int (nI (mN M)), .ref e1, .ref e2, .ref e3])), (e1, .inl (cI, 8, .inl wf)), (e2, .inl (cI, 8, .inl tf)), (e3, .inl (cI, 8, .inl vf))] := hD
          refine lv_iinc (v := nI (k + 1)) (lv' := [(4, .int (nI (k + 1))), (0, .ref h0), (1, .ref g0), (2, .ref e0), (3, .int (nI w))]) hx hb dX8_placeLamps_50 hl (k := 0) rfl (nI_add k 1) (by decide) rfl (fun ls hl => ?_)
          refine lv_goto (tgt := 3) hx hb dX8_placeLamps_53 (by decide) ?_
          have o_24 : (k + 1) ≤ cLa C := by omega
          have o_25 : kpt pA (upd pX (w * 4 + k) (nI (plP M (cSt C) k w))) (w * 4) := by exact kpt_up k1 (by omega)
          have o_26 : ∀ j, j < (k + 1) → (upd pX (w * 4 + k) (nI (plP M (cSt C) k w))) (w * 4 + j) = nI (plP M (cSt C) j w) := by
            intro j h
            by_cases e : j = k
            · subst e; exact up_at _ _ _
            · rw [up_ne _ _ (by omega)]; exact z1 j (by omega)
          have o_27 : cLa C + 1 ≤ (k + 1) + n_3 := by omega
          exact ih_3 (k + 1) (upd pX (w * 4 + k) (nI (plP M (cSt C) k w))) o_24 o_25 o_26 o_27 _ _ hP hD hS ls (lv_sub hl [0, 1, 2, 3, 4] rfl)
  have o_28 : 0 ≤ cLa C := by omega
  have o_29 : kpt pA pA (w * 4) := by exact kpt_rf _ _
  have o_30 : ∀ j, j < 0 → pA (w * 4 + j) = nI (plP M (cSt C) j w) := by intro j h; omega
  have o_31 : cLa C + 1 ≤ 0 + (cLa C + 1) := by omega
  exact L_3 (cLa C + 1) 0 pA o_28 o_29 o_30 o_31 _ _ hP hD hS ls (lv_sub hl [0, 1, 2, 3, 4] rfl)

abbrev rmX8_reckon : Room := { frames := 3, cells := 0, slots := 0, locals := 90 }
set_option maxHeartbeats 4000000 in
set_option maxRecDepth 100000 in
theorem c_X8_reckon (lL : Launch) (D : va_G) (cI cS : ClassId) (sz : Nat) (C : Co) (M : Mv) (h0 : Nat) (h1 : Nat) (h2 : Nat) (h3 : Nat) (h4 : Nat) (h5 : Nat) (g0 : Nat) (g1 : Nat) (g2 : Nat) (g3 : Nat) (g4 : Nat) (g5 : Nat) (e0 : Nat) (e1 : Nat) (e2 : Nat) (e3 : Nat) (wf : Nat → Int32) (tf : Nat → Int32) (vf : Nat → Int32) (pA : Nat → Int32) (gA : Nat → Int32) (fA : Nat → Int32) (dA : Nat → Int32) (lA : Nat → Int32) (sk : Nat → Int32) (sh : Nat → Int32) (ki : Nat → Int32) (st : Nat → Int32) (cl : Nat → Int32) (hC : okC C) (hM : okM C M) (hrC : repC C sk sh ki st cl) (hrM : repM M wf tf vf) : Met lL yX8_reckon wsX8_reckon rmX8_reckon (va_Pc [.ref h0, .ref g0, .ref e0] (kB D cI cS [(h0, .inr (7, [.ref h1, .ref h2, .ref h3, .ref h4, .ref h5])), (h1, .inl (cI, 96, .inl pA)), (h2, .inl (cI, 96, .inl gA)), (h3, .inl (cI, 96, .inl fA)), (h4, .inl (cI, 96, .inl dA)), (h5, .inl (cI, 96, .inl lA)), (g0, .inr (1, [.int (nI (cSp C)), .int (nI (cLa C)), .int (nI (cAg C)), .ref g1, .ref g2, .ref g3, .ref g4, .ref g5])), (g1, .inl (cI, 6, .inl sk)), (g2, .inl (cI, 4, .inl sh)), (g3, .inl (cI, 4, .inl ki)), (g4, .inl (cI, 4, .inl st)), (g5, .inl (cI, 4, .inl cl)), (e0, .inr (0, [.int (nI (mN M)), .ref e1, .ref e2, .ref e3])), (e1, .inl (cI, 8, .inl wf)), (e2, .inl (cI, 8, .inl tf)), (e3, .inl (cI, 8, .inl vf))] sz)) (kQv D (fun u : (Nat → Int32) × (Nat → Int32) × (Nat → Int32) × (Nat → Int32) × (Nat → Int32) => tP C (plc M (cSt C)) u.1 0 24 ∧ tG C (plc M (cSt C)) u.2.1 0 24 ∧ tF C (plc M (cSt C)) u.2.2.1 0 24 ∧ tD C u.2.2.2.1 0 24 ∧ tL C (plc M (cSt C)) u.2.2.2.2 0 24) (fun u : (Nat → Int32) × (Nat → Int32) × (Nat → Int32) × (Nat → Int32) × (Nat → Int32) => [(h0, .inr (7, [.ref h1, .ref h2, .ref h3, .ref h4, .ref h5])), (h1, .inl (cI, 96, .inl u.1)), (h2, .inl (cI, 96, .inl u.2.1)), (h3, .inl (cI, 96, .inl u.2.2.1)), (h4, .inl (cI, 96, .inl u.2.2.2.1)), (h5, .inl (cI, 96, .inl u.2.2.2.2)), (g0, .inr (1, [.int (nI (cSp C)), .int (nI (cLa C)), .int (nI (cAg C)), .ref g1, .ref g2, .ref g3, .ref g4, .ref g5])), (g1, .inl (cI, 6, .inl sk)), (g2, .inl (cI, 4, .inl sh)), (g3, .inl (cI, 4, .inl ki)), (g4, .inl (cI, 4, .inl st)), (g5, .inl (cI, 4, .inl cl)), (e0, .inr (0, [.int (nI (mN M)), .ref e1, .ref e2, .ref e3])), (e1, .inl (cI, 8, .inl wf)), (e2, .inl (cI, 8, .inl tf)), (e3, .inl (cI, 8, .inl vf))]) (va_A [(h0, .inr (7, [.ref h1, .ref h2, .ref h3, .ref h4, .ref h5])), (h1, .inl (cI, 96, .inl pA)), (h2, .inl (cI, 96, .inl gA)), (h3, .inl (cI, 96, .inl fA)), (h4, .inl (cI, 96, .inl dA)), (h5, .inl (cI, 96, .inl lA)), (g0, .inr (1, [.int (nI (cSp C)), .int (nI (cLa C)), .int (nI (cAg C)), .ref g1, .ref g2, .ref g3, .ref g4, .ref g5])), (g1, .inl (cI, 6, .inl sk)), (g2, .inl (cI, 4, .inl sh)), (g3, .inl (cI, 4, .inl ki)), (g4, .inl (cI, 4, .inl st)), (g5, .inl (cI, 4, .inl cl)), (e0, .inr (0, [.int (nI (mN M)), .ref e1, .ref e2, .ref e3])), (e1, .inl (cI, 8, .inl wf)), (e2, .inl (cI, 8, .inl tf)), (e3, .inl (cI, 8, .inl vf))] sz)) 0 0 (va_A [(h0, .inr (7, [.ref h1, .ref h2, .ref h3, .ref h4, .ref h5])), (h1, .inl (cI, 96, .inl pA)), (h2, .inl (cI, 96, .inl gA)), (h3, .inl (cI, 96, .inl fA)), (h4, .inl (cI, 96, .inl dA)), (h5, .inl (cI, 96, .inl lA)), (g0, .inr (1, [.int (nI (cSp C)), .int (nI (cLa C)), .int (nI (cAg C)), .ref g1, .ref g2, .ref g3, .ref g4, .ref g5])), (g1, .inl (cI, 6, .inl sk)), (g2, .inl (cI, 4, .inl sh)), (g3, .inl (cI, 4, .inl ki)), (g4, .inl (cI, 4, .inl st)), (g5, .inl (cI, 4, .inl cl)), (e0, .inr (0, [.int (nI (mN M)), .ref e1, .ref e2, .ref e3])), (e1, .inl (cI, 8, .inl wf)), (e2, .inl (cI, 8, .inl tf)), (e3, .inl (cI, 8, .inl vf))] sz) := by
  refine Met.ofW (cc := cX8_reckon) (maxL := 5) (ret := none) (by decide) rfl ?_
  intro pP eE sS mM args below meth cC s₁ B hml hv
  obtain ⟨rfl, hsz, hP, hK, hD0⟩ := hv
  have hx := B.exec
  have hb := B.bytes
  have hr := B.returns
  have hts := atoms_spec (ws := wsX8_reckon) B.pre
  have hown : sS.vm.findClass RX8 = some mM.cls := findClass_of_methodNamed B.named
  have hlocks := B.notSynchronized
  subst hsz
  have hD := hD0.self (sz := sS.heap.size)
  generalize hAe : va_A [(h0, .inr (7, [.ref h1, .ref h2, .ref h3, .ref h4, .ref h5])), (h1, .inl (cI, 96, .inl pA)), (h2, .inl (cI, 96, .inl gA)), (h3, .inl (cI, 96, .inl fA)), (h4, .inl (cI, 96, .inl dA)), (h5, .inl (cI, 96, .inl lA)), (g0, .inr (1, [.int (nI (cSp C)), .int (nI (cLa C)), .int (nI (cAg C)), .ref g1, .ref g2, .ref g3, .ref g4, .ref g5])), (g1, .inl (cI, 6, .inl sk)), (g2, .inl (cI, 4, .inl sh)), (g3, .inl (cI, 4, .inl ki)), (g4, .inl (cI, 4, .inl st)), (g5, .inl (cI, 4, .inl cl)), (e0, .inr (0, [.int (nI (mN M)), .ref e1, .ref e2, .ref e3])), (e1, .inl (cI, 8, .inl wf)), (e2, .inl (cI, 8, .inl tf)), (e3, .inl (cI, 8, .inl vf))] sS.heap.size = A at hD ⊢
  have hA : ∀ q : Nat, sS.heap.size ≤ q → A q := fun q h => by rw [← hAe]; exact Or.inr h
  have hS : va_S A sS.heap sS.heap [] := va_S.rf
  have hP : va_P D vwCl [(h0, .inr (7, [.ref h1, .ref h2, .ref h3, .ref h4, .ref h5])), (h1, .inl (cI, 96, .inl pA)), (h2, .inl (cI, 96, .inl gA)), (h3, .inl (cI, 96, .inl fA)), (h4, .inl (cI, 96, .inl dA)), (h5, .inl (cI, 96, .inl lA)), (g0, .inr (1, [.int (nI (cSp C)), .int (nI (cLa C)), .int (nI (cAg C)), .ref g1, .ref g2, .ref g3, .ref g4, .ref g5])), (g1, .inl (cI, 6, .inl sk)), (g2, .inl (cI, 4, .inl sh)), (g3, .inl (cI, 4, .inl ki)), (g4, .inl (cI, 4, .inl st)), (g5, .inl (cI, 4, .inl cl)), (e0, .inr (0, [.int (nI (mN M)), .ref e1, .ref e2, .ref e3])), (e1, .inl (cI, 8, .inl wf)), (e2, .inl (cI, 8, .inl tf)), (e3, .inl (cI, 8, .inl vf))] sS.heap := hP
  have hD : va_D A [(h0, .inr (7, [.ref h1, .ref h2, .ref h3, .ref h4, .ref h5])), (h1, .inl (cI, 96, .inl pA)), (h2, .inl (cI, 96, .inl gA)), (h3, .inl (cI, 96, .inl fA)), (h4, .inl (cI, 96, .inl dA)), (h5, .inl (cI, 96, .inl lA)), (g0, .inr (1, [.int (nI (cSp C)), .int (nI (cLa C)), .int (nI (cAg C)), .ref g1, .ref g2, .ref g3, .ref g4, .ref g5])), (g1, .inl (cI, 6, .inl sk)), (g2, .inl (cI, 4, .inl sh)), (g3, .inl (cI, 4, .inl ki)), (g4, .inl (cI, 4, .inl st)), (g5, .inl (cI, 4, .inl cl)), (e0, .inr (0, [.int (nI (mN M)), .ref e1, .ref e2, .ref e3])), (e1, .inl (cI, 8, .inl wf)), (e2, .inl (cI, 8, .inl tf)), (e3, .inl (cI, 8, .inl vf))] := hD
  have hf_21 := hts (.fieldLink RX8 21 "OldLamps$Watches" "days" "[I") (List.mem_of_getElem? (i := 2) rfl)
  have hf_35 := hts (.fieldLink RX8 35 "OldLamps$Ground" "spots" "I") (List.mem_of_getElem? (i := 1) rfl)
  have hwX2 : ∀ w ∈ wsX20, w ∈ wsX8_reckon := fun _ h => List.mem_cons_of_mem _ (List.mem_append_left _ (List.mem_append_left _ (List.mem_append_right _ h)))
  have hwX8 : ∀ w ∈ wsX80, w ∈ wsX8_reckon := fun _ h => List.mem_cons_of_mem _ (List.mem_append_left _ (List.mem_append_right _ h))
  have hl := lv_entry ([.ref h0, .ref g0, .ref e0]) (n := 5) (Nat.le_of_ble_eq_true rfl)
  rw [lg_entry_eq]
  generalize (lg_sl ([.ref h0, .ref g0, .ref e0]) ++ List.replicate (5 - (lg_sl ([.ref h0, .ref g0, .ref e0])).length) Slot.unset).toArray = ls at hl ⊢
  have hl : lv_has ls 5 [(0, .ref h0), (1, .ref g0), (2, .ref e0)] := hl
  obtain ⟨QQ, hQQ⟩ : ∃ QQ : State → Prop, QQ = MQ below (kQv D (fun u : (Nat → Int32) × (Nat → Int32) × (Nat → Int32) × (Nat → Int32) × (Nat → Int32) => tP C (plc M (cSt C)) u.1 0 24 ∧ tG C (plc M (cSt C)) u.2.1 0 24 ∧ tF C (plc M (cSt C)) u.2.2.1 0 24 ∧ tD C u.2.2.2.1 0 24 ∧ tL C (plc M (cSt C)) u.2.2.2.2 0 24) (fun u : (Nat → Int32) × (Nat → Int32) × (Nat → Int32) × (Nat → Int32) × (Nat → Int32) => [(h0, .inr (7, [.ref h1, .ref h2, .ref h3, .ref h4, .ref h5])), (h1, .inl (cI, 96, .inl u.1)), (h2, .inl (cI, 96, .inl u.2.1)), (h3, .inl (cI, 96, .inl u.2.2.1)), (h4, .inl (cI, 96, .inl u.2.2.2.1)), (h5, .inl (cI, 96, .inl u.2.2.2.2)), (g0, .inr (1, [.int (nI (cSp C)), .int (nI (cLa C)), .int (nI (cAg C)), .ref g1, .ref g2, .ref g3, .ref g4, .ref g5])), (g1, .inl (cI, 6, .inl sk)), (g2, .inl (cI, 4, .inl sh)), (g3, .inl (cI, 4, .inl ki)), (g4, .inl (cI, 4, .inl st)), (g5, .inl (cI, 4, .inl cl)), (e0, .inr (0, [.int (nI (mN M)), .ref e1, .ref e2, .ref e3])), (e1, .inl (cI, 8, .inl wf)), (e2, .inl (cI, 8, .inl tf)), (e3, .inl (cI, 8, .inl vf))]) A) ([.ref h0, .ref g0, .ref e0]).toArray sS 0 0 A := ⟨_, rfl⟩
  refine kk_QQ hQQ.symm ?_
  obtain ⟨hC1, hC2, hC3, hC4, hC5, hC6, hC7, hC8⟩ := id hC
  obtain ⟨hM1, hM2⟩ := id hM
  obtain ⟨hR1, hR2, hR3, hR4, hR5⟩ := id hrC
  refine lv_iconst (v := nI 0) hx hb dX8_reckon_0 (by decide +kernel) ?_
  refine lv_istore_n (lv' := [(3, .int (nI 0)), (0, .ref h0), (1, .ref g0), (2, .ref e0)]) hx hb dX8_reckon_1 rfl hl (by decide) rfl (fun ls hl => ?_)
  have L_2 : ∀ (n_2 : Nat) (w : Nat) (pX : Nat → Int32) (dX : Nat → Int32), (w ≤ 24) → (tP C (plc M (cSt C)) pX 0 w) → (tD C dX 0 w) → 25 ≤ w + n_2 → ∀ (H : Heap) (locs : List Loc), va_P D vwCl [(h0, .inr (7, [.ref h1, .ref h2, .ref h3, .ref h4, .ref h5])), (h1, .inl (cI, 96, .inl pX)), (h2, .inl (cI, 96, .inl gA)), (h3, .inl (cI, 96, .inl fA)), (h4, .inl (cI, 96, .inl dX)), (h5, .inl (cI, 96, .inl lA)), (g0, .inr (1, [.int (nI (cSp C)), .int (nI (cLa C)), .int (nI (cAg C)), .ref g1, .ref g2, .ref g3, .ref g4, .ref g5])), (g1, .inl (cI, 6, .inl sk)), (g2, .inl (cI, 4, .inl sh)), (g3, .inl (cI, 4, .inl ki)), (g4, .inl (cI, 4, .inl st)), (g5, .inl (cI, 4, .inl cl)), (e0, .inr (0, [.int (nI (mN M)), .ref e1, .ref e2, .ref e3])), (e1, .inl (cI, 8, .inl wf)), (e2, .inl (cI, 8, .inl tf)), (e3, .inl (cI, 8, .inl vf))] H → va_D A [(h0, .inr (7, [.ref h1, .ref h2, .ref h3, .ref h4, .ref h5])), (h1, .inl (cI, 96, .inl pX)), (h2, .inl (cI, 96, .inl gA)), (h3, .inl (cI, 96, .inl fA)), (h4, .inl (cI, 96, .inl dX)), (h5, .inl (cI, 96, .inl lA)), (g0, .inr (1, [.int (nI (cSp C)), .int (nI (cLa C)), .int (nI (cAg C)), .ref g1, .ref g2, .ref g3, .ref g4, .ref g5])), (g1, .inl (cI, 6, .inl sk)), (g2, .inl (cI, 4, .inl sh)), (g3, .inl (cI, 4, .inl ki)), (g4, .inl (cI, 4, .inl st)), (g5, .inl (cI, 4, .inl cl)), (e0, .inr (0, [.int (nI (mN M)), .ref e1, .ref e2, .ref e3])), (e1, .inl (cI, 8, .inl wf)), (e2, .inl (cI, 8, .inl tf)), (e3, .inl (cI, 8, .inl vf))] → va_S A sS.heap H locs → ∀ (ls : Array Slot), lv_has ls 5 [(3, .int (nI w)), (0, .ref h0), (1, .ref g0), (2, .ref e0)] → W pP lL eE (headSpec wsX8_reckon rmX8_reckon).room sS mM ([.ref h0, .ref g0, .ref e0]).toArray below meth cC H locs 0 0 QQ (F0 mM 2 ls []) := by
    intro n_2
    induction n_2 with
    | zero =>
      intro w pX dX hw P1 D1 hn_2 H locs hP hD hS ls hl
      exact absurd hn_2 (by omega)
    | succ n_2 ih_2 =>
      intro w pX dX hw P1 D1 hn_2 H locs hP hD hS ls hl
      refine lv_iload_n hx hb dX8_reckon_2 rfl (lv_at hl 0 rfl) ?_
      refine lv_bipush (v := nI 24) hx hb dX8_reckon_3 (by decide +kernel) ?_
      refine kk_icmp_ge (tgt := 57) hx hb dX8_reckon_5 (by decide) (by omega) (by omega) (fun c_1 => ?_) (fun c_1 => ?_)
      · skip
        have e_w : w = 24 := by omega
        subst e_w
        refine lv_aload_n hx hb dX8_reckon_57 rfl (lv_at hl 1 rfl) ?_
        refine lv_aload_n hx hb dX8_reckon_58 rfl (lv_at hl 2 rfl) ?_
        refine lv_iconst (v := nI 0) hx hb dX8_reckon_59 (by decide +kernel) ?_
        refine lv_bipush (v := nI 23) hx hb dX8_reckon_60 (by decide +kernel) ?_
        have o_2 : okC C := by assumption
        have o_3 : ∀ k, k < cLa C → ki k = nI (cKi C k) := by assumption
        have o_4 : ∀ k, k < cLa C → ∀ w, w < 24 → (plc M (cSt C)) k w < cSp C := by exact fun k hk w _ => plc_lt hC hM hk w
        have o_5 : 23 < 24 := by omega
        have o_6 : 0 ≤ 23 + 1 := by omega
        have o_7 : tP C (plc M (cSt C)) pX 0 (23 + 1) := by exact P1
        have o_8 : tD C dX 0 (23 + 1) := by exact D1
        have o_9 : tF C (plc M (cSt C)) fA 0 0 := by intro v h1 h2; omega
        have hF := va_free (wc := [(h0, .inr (7, [.ref h1, .ref h2, .ref h3, .ref h4, .ref h5])), (h1, .inl (cI, 96, .inl pX)), (h2, .inl (cI, 96, .inl gA)), (h3, .inl (cI, 96, .inl fA)), (h4, .inl (cI, 96, .inl dX)), (h5, .inl (cI, 96, .inl lA)), (g0, .inr (1, [.int (nI (cSp C)), .int (nI (cLa C)), .int (nI (cAg C)), .ref g1, .ref g2, .ref g3, .ref g4, .ref g5])), (g3, .inl (cI, 4, .inl ki))]) hD hS hA [0, 1, 2, 3, 4, 5, 6, 9] rfl
        refine va_callv (va_runV (As := [.ref g0, .int (nI 0), .int (nI 23)]) (rest := []) ⟨hx, hb, hml, hown, hts⟩ (c_X8_reckonLight lL D cI cS _ C (plc M (cSt C)) h0 h1 h2 h3 h4 h5 g0 g1 g2 g3 g4 g5 pX gA fA dX lA ki 0 23 o_2 o_3 o_4 o_5 o_6 o_7 o_8 o_9) (cwV 3 hts gX8_reckon_X8_reckonLight rfl rfl rfl cd_X8_reckonLight ⟨Nat.le_of_ble_eq_true rfl, Nat.le_of_ble_eq_true rfl⟩) ⟨kB_blind, va_recv hK hP (ci := 7) (q0 := 0) rfl rfl, fun U hU hW => ⟨rfl, by rw [hU], by rw [hU]; exact hP.sub [0, 1, 2, 3, 4, 5, 6, 9] rfl, va_K.moved hW.alike hK, (hD.sub [0, 1, 2, 3, 4, 5, 6, 9] (by decide) rfl).weaken (fun _ _ _ _ => trivial)⟩⟩ rfl rfl hl.1 rfl (lv_room (Nat.le_of_ble_eq_true rfl)) dX8_reckon_62 ⟨Nat.le_of_ble_eq_true rfl, Nat.le_of_ble_eq_true rfl⟩) hS (fun q _ h => hF q h) hF (fun u_10 t H1 locs ht hvm hw_10 hB hz1 hk1 hS => ?_)
        obtain ⟨gg_10, ff_10, ll_10⟩ := u_10
        obtain ⟨hP, hD⟩ := kk_join (wc := [(h0, .inr (7, [.ref h1, .ref h2, .ref h3, .ref h4, .ref h5])), (h1, .inl (cI, 96, .inl pX)), (h2, .inl (cI, 96, .inl gA)), (h3, .inl (cI, 96, .inl fA)), (h4, .inl (cI, 96, .inl dX)), (h5, .inl (cI, 96, .inl lA)), (g0, .inr (1, [.int (nI (cSp C)), .int (nI (cLa C)), .int (nI (cAg C)), .ref g1, .ref g2, .ref g3, .ref g4, .ref g5])), (g3, .inl (cI, 4, .inl ki))]) (w1 := [(h0, .inr (7, [.ref h1, .ref h2, .ref h3, .ref h4, .ref h5])), (h1, .inl (cI, 96, .inl pX)), (h2, .inl (cI, 96, .inl gg_10)), (h3, .inl (cI, 96, .inl ff_10)), (h4, .inl (cI, 96, .inl dX)), (h5, .inl (cI, 96, .inl ll_10)), (g0, .inr (1, [.int (nI (cSp C)), .int (nI (cLa C)), .int (nI (cAg C)), .ref g1, .ref g2, .ref g3, .ref g4, .ref g5])), (g3, .inl (cI, 4, .inl ki))]) (H1 := H1) hP hD [0, 1, 2, 3, 4, 5, 6, 9] rfl [h0, h1, h2, h3, h4, h5, g0, g3] rfl rfl hk1 (by rw [← ht]; exact hB)
        have hw_10 : kpt gA gg_10 (0 * 4) ∧ kpt fA ff_10 (0 * 4) ∧ kpt lA ll_10 (0 * 4) ∧ tG C (plc M (cSt C)) gg_10 0 (23 + 1) ∧ tF C (plc M (cSt C)) ff_10 0 (23 + 1) ∧ tL C (plc M (cSt C)) ll_10 0 (23 + 1) := hw_10
        clear hF hB hk1 hz1 hvm
        clear ht
        generalize H1 = H at hP hS ⊢
        have hP : va_P D vwCl [(h0, .inr (7, [.ref h1, .ref h2, .ref h3, .ref h4, .ref h5])), (h1, .inl (cI, 96, .inl pX)), (h2, .inl (cI, 96, .inl gg_10)), (h3, .inl (cI, 96, .inl ff_10)), (h4, .inl (cI, 96, .inl dX)), (h5, .inl (cI, 96, .inl ll_10)), (g0, .inr (1, [.int (nI (cSp C)), .int (nI (cLa C)), .int (nI (cAg C)), .ref g1, .ref g2, .ref g3, .ref g4, .ref g5])), (g1, .inl (cI, 6, .inl sk)), (g2, .inl (cI, 4, .inl sh)), (g3, .inl (cI, 4, .inl ki)), (g4, .inl (cI, 4, .inl st)), (g5, .inl (cI, 4, .inl cl)), (e0, .inr (0, [.int (nI (mN M)), .ref e1, .ref e2, .ref e3])), (e1, .inl (cI, 8, .inl wf)), (e2, .inl (cI, 8, .inl tf)), (e3, .inl (cI, 8, .inl vf))] H := hP
        have hD : va_D A [(h0, .inr (7, [.ref h1, .ref h2, .ref h3, .ref h4, .ref h5])), (h1, .inl (cI, 96, .inl pX)), (h2, .inl (cI, 96, .inl gg_10)), (h3, .inl (cI, 96, .inl ff_10)), (h4, .inl (cI, 96, .inl dX)), (h5, .inl (cI, 96, .inl ll_10)), (g0, .inr (1, [.int (nI (cSp C)), .int (nI (cLa C)), .int (nI (cAg C)), .ref g1, .ref g2, .ref g3, .ref g4, .ref g5])), (g1, .inl (cI, 6, .inl sk)), (g2, .inl (cI, 4, .inl sh)), (g3, .inl (cI, 4, .inl ki)), (g4, .inl (cI, 4, .inl st)), (g5, .inl (cI, 4, .inl cl)), (e0, .inr (0, [.int (nI (mN M)), .ref e1, .ref e2, .ref e3])), (e1, .inl (cI, 8, .inl wf)), (e2, .inl (cI, 8, .inl tf)), (e3, .inl (cI, 8, .inl vf))] := hD
        have hq : tP C (plc M (cSt C)) pX 0 24 ∧ tG C (plc M (cSt C)) gg_10 0 24 ∧ tF C (plc M (cSt C)) ff_10 0 24 ∧ tD C dX 0 24 ∧ tL C (plc M (cSt C)) ll_10 0 24 := by exact ⟨P1, hw_10.2.2.2.1, hw_10.2.2.2.2.1, D1, hw_10.2.2.2.2.2⟩
        refine kk_QQ hQQ ?_
        exact W.vret hx hb hr (fun t ht hW => ⟨⟨(pX, gg_10, ff_10, dX, ll_10), rfl, hq, by show va_P D vwCl _ t.heap; rw [ht]; exact hP⟩, hS.F ht⟩) hS.2.2 dX8_reckon_65
      · skip
        refine lv_aload_n hx hb dX8_reckon_8 rfl (lv_at hl 1 rfl) ?_
        refine lv_aload_n hx hb dX8_reckon_9 rfl (lv_at hl 2 rfl) ?_
        refine lv_aload_n hx hb dX8_reckon_10 rfl (lv_at hl 3 rfl) ?_
        refine lv_iload_n hx hb dX8_reckon_11 rfl (lv_at hl 0 rfl) ?_
        have o_11 : okC C := by assumption
        have o_12 : okM C M := by assumption
        have o_13 : ∀ k, k < cLa C → st k = nI (cSt C k) := by omega
        have o_14 : repM M wf tf vf := by assumption
        have o_15 : w < 24 := by omega
        have o_16 : tP C (plc M (cSt C)) pX 0 w := by assumption
        have hF := va_free (wc := [(h0, .inr (7, [.ref h1, .ref h2, .ref h3, .ref h4, .ref h5])), (h1, .inl (cI, 96, .inl pX)), (g0, .inr (1, [.int (nI (cSp C)), .int (nI (cLa C)), .int (nI (cAg C)), .ref g1, .ref g2, .ref g3, .ref g4, .ref g5])), (g4, .inl (cI, 4, .inl st)), (e0, .inr (0, [.int (nI (mN M)), .ref e1, .ref e2, .ref e3])), (e1, .inl (cI, 8, .inl wf)), (e2, .inl (cI, 8, .inl tf)), (e3, .inl (cI, 8, .inl vf))]) hD hS hA [0, 1, 6, 10, 12, 13, 14, 15] rfl
        refine va_callv (va_runV (As := [.ref g0, .ref e0, .int (nI w)]) (rest := []) ⟨hx, hb, hml, hown, hts⟩ (c_X8_placeLamps lL D cI cS _ C M h0 h1 h2 h3 h4 h5 g0 g1 g2 g3 g4 g5 e0 e1 e2 e3 wf tf vf pX st w o_11 o_12 o_13 o_14 o_15 o_16) (cwV 3 hts gX8_reckon_X8_placeLamps rfl rfl rfl cd_X8_placeLamps ⟨Nat.le_of_ble_eq_true rfl, Nat.le_of_ble_eq_true rfl⟩) ⟨kB_blind, va_recv hK hP (ci := 7) (q0 := 0) rfl rfl, fun U hU hW => ⟨rfl, by rw [hU], by rw [hU]; exact hP.sub [0, 1, 6, 10, 12, 13, 14, 15] rfl, va_K.moved hW.alike hK, (hD.sub [0, 1, 6, 10, 12, 13, 14, 15] (by decide) rfl).weaken (fun _ _ _ _ => trivial)⟩⟩ rfl rfl hl.1 rfl (lv_room (Nat.le_of_ble_eq_true rfl)) dX8_reckon_12 ⟨Nat.le_of_ble_eq_true rfl, Nat.le_of_ble_eq_true rfl⟩) hS (fun q _ h => hF q h) hF (fun u_17 t H1 locs ht hvm hw_17 hB hz1 hk1 hS => ?_)
        obtain ⟨hP, hD⟩ := kk_join (wc := [(h0, .inr (7, [.ref h1, .ref h2, .ref h3, .ref h4, .ref h5])), (h1, .inl (cI, 96, .inl pX)), (g0, .inr (1, [.int (nI (cSp C)), .int (nI (cLa C)), .int (nI (cAg C)), .ref g1, .ref g2, .ref g3, .ref g4, .ref g5])), (g4, .inl (cI, 4, .inl st)), (e0, .inr (0, [.int (nI (mN M)), .ref e1, .ref e2, .ref e3])), (e1, .inl (cI, 8, .inl wf)), (e2, .inl (cI, 8, .inl tf)), (e3, .inl (cI, 8, .inl vf))]) (w1 := [(h0, .inr (7, [.ref h1, .ref h2, .ref h3, .ref h4, .ref h5])), (h1, .inl (cI, 96, .inl u_17)), (g0, .inr (1, [.int (nI (cSp C)), .int (nI (cLa C)), .int (nI (cAg C)), .ref g1, .ref g2, .ref g3, .ref g4, .ref g5])), (g4, .inl (cI, 4, .inl st)), (e0, .inr (0, [.int (nI (mN M)), .ref e1, .ref e2, .ref e3])), (e1, .inl (cI, 8, .inl wf)), (e2, .inl (cI, 8, .inl tf)), (e3, .inl (cI, 8, .inl vf))]) (H1 := H1) hP hD [0, 1, 6, 10, 12, 13, 14, 15] rfl [h0, h1, g0, g4, e0, e1, e2, e3] rfl rfl hk1 (by rw [← ht]; exact hB)
        have hw_17 : tP C (plc M (cSt C)) u_17 0 (w + 1) := hw_17
        clear hF hB hk1 hz1 hvm
        clear ht
        generalize H1 = H at hP hS ⊢
        have hP : va_P D vwCl [(h0, .inr (7, [.ref h1, .ref h2, .ref h3, .ref h4, .ref h5])), (h1, .inl (cI, 96, .inl u_17)), (h2, .inl (cI, 96, .inl gA)), (h3, .inl (cI, 96, .inl fA)), (h4, .inl (cI, 96, .inl dX)), (h5, .inl (cI, 96, .inl lA)), (g0, .inr (1, [.int (nI (cSp C)), .int (nI (cLa C)), .int (nI (cAg C)), .ref g1, .ref g2, .ref g3, .ref g4, .ref g5])), (g1, .inl (cI, 6, .inl sk)), (g2, .inl (cI, 4, .inl sh)), (g3, .inl (cI, 4, .inl ki)), (g4, .inl (cI, 4, .inl st)), (g5, .inl (cI, 4, .inl cl)), (e0, .inr (0, [.int (nI (mN M)), .ref e1, .ref e2, .ref e3])), (e1, .inl (cI, 8, .inl wf)), (e2, .inl (cI, 8, .inl tf)), (e3, .inl (cI, 8, .inl vf))] H := hP
        have hD : va_D A [(h0, .inr (7, [.ref h1, .ref h2, .ref h3, .ref h4, .ref h5])), (h1, .inl (cI, 96, .inl u_17)), (h2, .inl (cI, 96, .inl gA)), (h3, .inl (cI, 96, .inl fA)), (h4, .inl (cI, 96, .inl dX)), (h5, .inl (cI, 96, .inl lA)), (g0, .inr (1, [.int (nI (cSp C)), .int (nI (cLa C)), .int (nI (cAg C)), .ref g1, .ref g2, .ref g3, .ref g4, .ref g5])), (g1, .inl (cI, 6, .inl sk)), (g2, .inl (cI, 4, .inl sh)), (g3, .inl (cI, 4, .inl ki)), (g4, .inl (cI, 4, .inl st)), (g5, .inl (cI, 4, .inl cl)), (e0, .inr (0, [.int (nI (mN M)), .ref e1, .ref e2, .ref e3])), (e1, .inl (cI, 8, .inl wf)), (e2, .inl (cI, 8, .inl tf)), (e3, .inl (cI, 8, .inl vf))] := hD
        refine lv_iconst (v := nI 0) hx hb dX8_reckon_15 (by decide +kernel) ?_
        refine lv_istore (lv' := [(4, .int (nI 0)), (3, .int (nI w)), (0, .ref h0), (1, .ref g0), (2, .ref e0)]) hx hb dX8_reckon_16 hl (by decide) rfl (fun ls hl => ?_)
        have L_18 : ∀ (n_18 : Nat) (s : Nat) (dY : Nat → Int32), (s ≤ cSp C) → (kpt dX dY (w * 4)) → (∀ j, j < s → dY (w * 4 + j) = nI (day C j w)) → cSp C + 1 ≤ s + n_18 → ∀ (H : Heap) (locs : List Loc), va_P D vwCl [(h0, .inr (7, [.ref h1, .ref h2, .ref h3, .ref h4, .ref h5])), (h1, .inl (cI, 96, .inl u_17)), (h2, .inl (cI, 96, .inl gA)), (h3, .inl (cI, 96, .inl fA)), (h4, .inl (cI, 96, .inl dY)), (h5, .inl (cI, 96, .inl lA)), (g0, .inr (1, [.int (nI (cSp C)), .int (nI (cLa C)), .int (nI (cAg C)), .ref g1, .ref g2, .ref g3, .ref g4, .ref g5])), (g1, .inl (cI, 6, .inl sk)), (g2, .inl (cI, 4, .inl sh)), (g3, .inl (cI, 4, .inl ki)), (g4, .inl (cI, 4, .inl st)), (g5, .inl (cI, 4, .inl cl)), (e0, .inr (0, [.int (nI (mN M)), .ref e1, .ref e2, .ref e3])), (e1, .inl (cI, 8, .inl wf)), (e2, .inl (cI, 8, .inl tf)), (e3, .inl (cI, 8, .inl vf))] H → va_D A [(h0, .inr (7, [.ref h1, .ref h2, .ref h3, .ref h4, .ref h5])), (h1, .inl (cI, 96, .inl u_17)), (h2, .inl (cI, 96, .inl gA)), (h3, .inl (cI, 96, .inl fA)), (h4, .inl (cI, 96, .inl dY)), (h5, .inl (cI, 96, .inl lA)), (g0, .inr (1, [.int (nI (cSp C)), .int (nI (cLa C)), .int (nI (cAg C)), .ref g1, .ref g2, .ref g3, .ref g4, .ref g5])), (g1, .inl (cI, 6, .inl sk)), (g2, .inl (cI, 4, .inl sh)), (g3, .inl (cI, 4, .inl ki)), (g4, .inl (cI, 4, .inl st)), (g5, .inl (cI, 4, .inl cl)), (e0, .inr (0, [.int (nI (mN M)), .ref e1, .ref e2, .ref e3])), (e1, .inl (cI, 8, .inl wf)), (e2, .inl (cI, 8, .inl tf)), (e3, .inl (cI, 8, .inl vf))] → va_S A sS.heap H locs → ∀ (ls : Array Slot), lv_has ls 5 [(4, .int (nI s)), (3, .int (nI w)), (0, .ref h0), (1, .ref g0), (2, .ref e0)] → W pP lL eE (headSpec wsX8_reckon rmX8_reckon).room sS mM ([.ref h0, .ref g0, .ref e0]).toArray below meth cC H locs 0 0 QQ (F0 mM 18 ls []) := by
          intro n_18
          induction n_18 with
          | zero =>
            intro s dY hs k1 z1 hn_18 H locs hP hD hS ls hl
            exact absurd hn_18 (by omega)
          | succ n_18 ih_18 =>
            intro s dY hs k1 z1 hn_18 H locs hP hD hS ls hl
            refine lv_iload hx hb dX8_reckon_18 (lv_at hl 0 rfl) ?_
            refine lv_aload_n hx hb dX8_reckon_20 rfl (lv_at hl 3 rfl) ?_
            refine va_get (D := D) (ci := 1) (v := .int (nI (cSp C))) (C := RX2) (T := TX2) (N := 8) hx hb hts hwX2 hown hK hP 6 rfl rfl 0 (by decide) hf_35 (fun _ h9 => h9) rfl dX8_reckon_21 ?_
            refine kk_icmp_ge (tgt := 51) hx hb dX8_reckon_24 (by decide) (by omega) (by omega) (fun c_18 => ?_) (fun c_18 => ?_)
            · skip
              refine lv_iinc (v := nI (w + 1)) (lv' := [(3, .int (nI (w + 1))), (4, .int (nI s)), (0, .ref h0), (1, .ref g0), (2, .ref e0)]) hx hb dX8_reckon_51 hl (k := 1) rfl (nI_add w 1) (by decide) rfl (fun ls hl => ?_)
              refine lv_goto (tgt := 2) hx hb dX8_reckon_54 (by decide) ?_
              have o_19 : (w + 1) ≤ 24 := by omega
              have o_20 : tP C (plc M (cSt C)) u_17 0 (w + 1) := by exact hw_17
              have o_21 : tD C dY 0 (w + 1) := by
                intro v h1 h2 s hs
                by_cases e : v = w
                · subst e; exact z1 s (by omega)
                · rw [k1 _ (by omega)]; exact D1 v h1 (by omega) s hs
              have o_22 : 25 ≤ (w + 1) + n_2 := by omega
              exact ih_2 (w + 1) u_17 dY o_19 o_20 o_21 o_22 _ _ hP hD hS ls (lv_sub hl [0, 2, 3, 4] rfl)
            · skip
              refine lv_aload_n hx hb dX8_reckon_27 rfl (lv_at hl 2 rfl) ?_
              refine va_get (D := D) (ci := 7) (v := .ref h4) (C := RX8) (T := TX8) (N := 5) hx hb hts hwX8 hown hK hP 0 rfl rfl 3 (by decide) hf_21 (fun _ h9 => h9) rfl dX8_reckon_28 ?_
              refine lv_iload_n hx hb dX8_reckon_31 rfl (lv_at hl 1 rfl) ?_
              refine lv_iload hx hb dX8_reckon_32 (lv_at hl 0 rfl) ?_
              refine vp_callSi (W.runS (As := [.int (nI w), .int (nI s)]) (rest := [.ref h4]) ⟨hx, hb, hml, hown, hts⟩ (c_X8_at lL D cI cS w s) (va_cwS 2 hts gX8_reckon_X8_at rfl rfl rfl cd_X8_at ⟨Nat.le_of_ble_eq_true rfl, Nat.le_of_ble_eq_true rfl⟩) ⟨kBp_blind, fun U hU hW => ⟨rfl, by rw [hU]; exact hP.sub [] rfl, va_K.moved hW.alike hK⟩⟩ rfl rfl hl.1 rfl (lv_room (Nat.le_of_ble_eq_true rfl)) dX8_reckon_34 ⟨Nat.le_of_ble_eq_true rfl, Nat.le_of_ble_eq_true rfl⟩) (fun r_23 hw_23 => ?_)
              obtain rfl : r_23 = nI (w * 4 + s) := hw_23
              refine lv_aload_n hx hb dX8_reckon_37 rfl (lv_at hl 3 rfl) ?_
              refine lv_iload hx hb dX8_reckon_38 (lv_at hl 0 rfl) ?_
              refine lv_iload_n hx hb dX8_reckon_40 rfl (lv_at hl 1 rfl) ?_
              have o_24 : okC C := by omega
              have o_25 : ∀ w, w < 6 → sk w = nI (cSk C w) := by omega
              have o_26 : ∀ s, s < cSp C → sh s = nI (cSh C s) := by omega
              have o_27 : ∀ d, d < 4 → cl d = nI (cCl C d) := by omega
              have o_28 : s < cSp C := by omega
              have o_29 : w < 24 := by omega
              refine vp_callSi (W.runV (As := [.int (nI s), .int (nI w)]) (rest := [.int (nI (w * 4 + s)), .ref h4]) ⟨hx, hb, hml, hown, hts⟩ (c_X2_daylight lL D cI cS C g0 g1 g2 g3 g4 g5 sk sh cl s w o_24 o_25 o_26 o_27 o_28 o_29) (cwV 2 hts gX8_reckon_X2_daylight rfl rfl rfl cd_X2_daylight ⟨Nat.le_of_ble_eq_true rfl, Nat.le_of_ble_eq_true rfl⟩) ⟨kBp_blind, va_recv hK hP (ci := 1) (q0 := 6) rfl rfl, fun U hU hW => ⟨rfl, by rw [hU]; exact hP.sub [6, 7, 8, 11] rfl, va_K.moved hW.alike hK⟩⟩ rfl rfl hl.1 rfl (lv_room (Nat.le_of_ble_eq_true rfl)) dX8_reckon_41 ⟨Nat.le_of_ble_eq_true rfl, Nat.le_of_ble_eq_true rfl⟩) (fun r_30 hw_30 => ?_)
              obtain rfl : r_30 = nI (day C s w) := hw_30
              refine kk_iast hx hb hK hP hD hS 4 rfl rfl (i := w * 4 + s) (by omega) (by decide) dX8_reckon_44 (fun H locs hP hD hS => ?_)
              have hP : va_P D vwCl [(h0, .inr (7, [.ref h1, .ref h2, .ref h3, .ref h4, .ref h5])), (h1, .inl (cI, 96, .inl u_17)), (h2, .inl (cI, 96, .inl gA)), (h3, .inl (cI, 96, .inl fA)), (h4, .inl (cI, 96, .inl (upd dY (w * 4 + s) (nI (day C s w))))), (h5, .inl (cI, 96, .inl lA)), (g0, .inr (1, [.int (nI (cSp C)), .int (nI (cLa C)), .int (nI (cAg C)), .ref g1, .ref g2, .ref g3, .ref g4, .ref g5])), (g1, .inl (cI, 6, .inl sk)), (g2, .inl (cI, 4, .inl sh)), (g3, .inl (cI, 4, .inl ki)), (g4, .inl (cI, 4, .inl st)), (g5, .inl (cI, 4, .inl cl)), (e0, .inr (0, [.int (nI (mN M)), .ref e1, .ref e2, .ref e3])), (e1, .inl (cI, 8, .inl wf)), (e2, .inl (cI, 8, .inl tf)), (e3, .inl (cI, 8, .inl vf))] H := hP
              have hD : va_D A [(h0, .inr (7, [.ref h1, .ref h2, .ref h3, .ref h4, .ref h5])), (h1, .inl (cI, 96, .inl u_17)), (h2, .inl (cI, 96, .inl gA)), (h3, .inl (cI, 96, .inl fA)), (h4, .inl (cI, 96, .inl (upd dY (w * 4 + s) (nI (day C s w))))), (h5, .inl (cI, 96, .inl lA)), (g0, .inr (1, [.int (nI (cSp C)), .int (nI (cLa C)), .int (nI (cAg C)), .ref g1, .ref g2, .ref g3, .ref g4, .ref g5])), (g1, .inl (cI, 6, .inl sk)), (g2, .inl (cI, 4, .inl sh)), (g3, .inl (cI, 4, .inl ki)), (g4, .inl (cI, 4, .inl st)), (g5, .inl (cI, 4, .inl cl)), (e0, .inr (0, [.int (nI (mN M)), .ref e1, .ref e2, .ref e3])), (e1, .inl (cI, 8, .inl wf)), (e2, .inl (cI, 8, .inl tf)), (e3, .inl (cI, 8, .inl vf))] := hD
              refine lv_iinc (v := nI (s + 1)) (lv' := [(4, .int (nI (s + 1))), (3, .int (nI w)), (0, .ref h0), (1, .ref g0), (2, .ref e0)]) hx hb dX8_reckon_45 hl (k := 0) rfl (nI_add s 1) (by decide) rfl (fun ls hl => ?_)
              refine lv_goto (tgt := 18) hx hb dX8_reckon_48 (by decide) ?_
              have o_31 : (s + 1) ≤ cSp C := by omega
              have o_32 : kpt dX (upd dY (w * 4 + s) (nI (day C s w))) (w * 4) := by exact kpt_up k1 (by omega)
              have o_33 : ∀ j, j < (s + 1) → (upd dY (w * 4 + s) (nI (day C s w))) (w * 4 + j) = nI (day C j w) := by
                intro j h
                by_cases e : j = s
                · subst e; exact up_at _ _ _
                · rw [up_ne _ _ (by omega)]; exact z1 j (by omega)
              have o_34 : cSp C + 1 ≤ (s + 1) + n_18 := by omega
              exact ih_18 (s + 1) (upd dY (w * 4 + s) (nI (day C s w))) o_31 o_32 o_33 o_34 _ _ hP hD hS ls (lv_sub hl [0, 1, 2, 3, 4] rfl)
        have o_35 : 0 ≤ cSp C := by omega
        have o_36 : kpt dX dX (w * 4) := by exact kpt_rf _ _
        have o_37 : ∀ j, j < 0 → dX (w * 4 + j) = nI (day C j w) := by intro j h; omega
        have o_38 : cSp C + 1 ≤ 0 + (cSp C + 1) := by omega
        exact L_18 (cSp C + 1) 0 dX o_35 o_36 o_37 o_38 _ _ hP hD hS ls (lv_sub hl [0, 1, 2, 3, 4] rfl)
  have o_39 : 0 ≤ 24 := by omega
  have o_40 : tP C (plc M (cSt C)) pA 0 0 := by intro v h1 h2; omega
  have o_41 : tD C dA 0 0 := by intro v h1 h2; omega
  have o_42 : 25 ≤ 0 + 25 := by omega
  exact L_2 25 0 pA dA o_39 o_40 o_41 o_42 _ _ hP hD hS ls (lv_sub hl [0, 1, 2, 3] rfl)
