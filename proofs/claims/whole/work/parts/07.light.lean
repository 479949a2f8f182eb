theorem cd_X8_at : yX8_at.cls ≠ "java/lang/invoke/MethodHandle" ∧ yX8_at.cls ≠ "java/lang/invoke/VarHandle" ∧ (parseMethodDescriptor yX8_at.desc).map (fun d => d.parameters.length) = some 2 := by decide +kernel
theorem cd_X8_glow : yX8_glow.cls ≠ "java/lang/invoke/MethodHandle" ∧ yX8_glow.cls ≠ "java/lang/invoke/VarHandle" ∧ (parseMethodDescriptor yX8_glow.desc).map (fun d => d.parameters.length) = some 2 := by decide +kernel
abbrev rmX8_glow : Room := { frames := 1, cells := 0, slots := 0, locals := 40 }
set_option maxHeartbeats 4000000 in
set_option maxRecDepth 100000 in
theorem c_X8_glow (lL : Launch) (D : va_G) (cI cS : ClassId) (kind : Nat) (fell : Nat) (hk : kind ≤ 3) (hf : fell ≤ 999) : Met lL yX8_glow wsX8_glow rmX8_glow (va_Pc [.int (nI kind), .int (nI fell)] (kBp D cI cS [])) (vp_Si (fun r : Int32 => r = nI (glow kind fell))) 0 0 (fun _ => False) := by
  refine Met.ofW (cc := cX8_glow) (maxL := 3) (ret := (some .int)) (by decide) rfl ?_
  intro pP eE sS mM args below meth cC s₁ B hml hv
  obtain ⟨rfl, hP, hK⟩ := hv
  have hx := B.exec
  have hb := B.bytes
  have hr := B.returns
  have hts := atoms_spec (ws := wsX8_glow) B.pre
  have hown : sS.vm.findClass RX8 = some mM.cls := findClass_of_methodNamed B.named
  have hlocks := B.notSynchronized
  have hP : va_P D vwCl [] sS.heap := hP
  have hm1_min := hts (.methodLink RX8 66 Lib.Math.min.name) (List.mem_of_getElem? (i := 1) rfl)
  have hm2_min := hts (.static Lib.Math.min.name) (List.mem_of_getElem? (i := 2) rfl)
  have hm3 := hts (.initialized "java/lang/Math") (List.mem_of_getElem? (i := 3) rfl)
  have hm4_min := hts (.code Lib.Math.min.name Lib.Math.min.code 2 (some .int)) (List.mem_of_getElem? (i := 4) rfl)
  have hl := lv_entry ([.int (nI kind), .int (nI fell)]) (n := 3) (Nat.le_of_ble_eq_true rfl)
  rw [lg_entry_eq]
  generalize (lg_sl ([.int (nI kind), .int (nI fell)]) ++ List.replicate (3 - (lg_sl ([.int (nI kind), .int (nI fell)])).length) Slot.unset).toArray = ls at hl ⊢
  have hl : lv_has ls 3 [(0, .int (nI kind)), (1, .int (nI fell))] := hl
  obtain ⟨QQ, hQQ⟩ : ∃ QQ : State → Prop, QQ = MQ below (vp_Si (fun r : Int32 => r = nI (glow kind fell))) ([.int (nI kind), .int (nI fell)]).toArray sS 0 0 (fun _ => False) := ⟨_, rfl⟩
  refine kk_QQ hQQ.symm ?_
  refine lv_iload_n hx hb dX8_glow_0 rfl (lv_at hl 1 rfl) ?_
  refine kk_if_eq (tgt := 9) hx hb dX8_glow_1 (by decide) (by omega) (fun c_1 => ?_) (fun c_1 => ?_)
  · skip
    refine lv_iconst (v := nI 0) hx hb dX8_glow_9 (by decide +kernel) ?_
    have hq : nI 0 = nI (glow kind fell) := by unfold glow; congr 1; split <;> (try split) <;> (try split) <;> omega
    refine kk_QQ hQQ ?_
    exact W.iret (v := nI 0) hx hb hr (fun t ht hW => ⟨nI 0, rfl, hq, ht⟩) (fun q h => by cases h) dX8_glow_10
  · skip
    refine lv_iload_n hx hb dX8_glow_4 rfl (lv_at hl 0 rfl) ?_
    refine lv_iconst (v := nI 3) hx hb dX8_glow_5 (by decide +kernel) ?_
    refine kk_icmp_ne (tgt := 11) hx hb dX8_glow_6 (by decide) (by omega) (by omega) (fun c_2 => ?_) (fun c_2 => ?_)
    · skip
      refine lv_iload_n hx hb dX8_glow_11 rfl (lv_at hl 0 rfl) ?_
      refine kk_if_ne (tgt := 22) hx hb dX8_glow_12 (by decide) (by omega) (fun c_3 => ?_) (fun c_3 => ?_)
      · skip
        refine lv_iload_n hx hb dX8_glow_22 rfl (lv_at hl 1 rfl) ?_
        refine lv_iconst (v := nI 1) hx hb dX8_glow_23 (by decide +kernel) ?_
        refine kk_iadd hx hb dX8_glow_24 ?_
        refine lv_istore_n (lv' := [(2, .int (nI (fell + 1))), (0, .int (nI kind)), (1, .int (nI fell))]) hx hb dX8_glow_25 rfl hl (by decide) rfl (fun ls hl => ?_)
        refine lv_bipush (v := nI 99) hx hb dX8_glow_26 (by decide +kernel) ?_
        refine lv_iload_n hx hb dX8_glow_28 rfl (lv_at hl 1 rfl) ?_
        refine lv_iconst (v := nI 2) hx hb dX8_glow_29 (by decide +kernel) ?_
        refine kk_icmp_ne (tgt := 39) hx hb dX8_glow_30 (by decide) (by omega) (by omega) (fun c_4 => ?_) (fun c_4 => ?_)
        · skip
          refine lv_iload_n hx hb dX8_glow_39 rfl (lv_at hl 0 rfl) ?_
          refine va_mmin hx hb (hml.trans hl.1.symm) hown hm1_min hm2_min hm3 hm4_min (Nat.le_of_ble_eq_true rfl) (Nat.le_of_ble_eq_true rfl) (Nat.zero_le _) (Nat.zero_le _) dX8_glow_40 ?_
          refine kk_top (y := nI (min 99 (fell + 1))) (kk_min (by omega) (by omega)) ?_
          have hq : nI (min 99 (fell + 1)) = nI (glow kind fell) := by unfold glow; congr 1; split <;> (try split) <;> (try split) <;> omega
          refine kk_QQ hQQ ?_
          exact W.iret (v := nI (min 99 (fell + 1))) hx hb hr (fun t ht hW => ⟨nI (min 99 (fell + 1)), rfl, hq, ht⟩) (fun q h => by cases h) dX8_glow_43
        · skip
          refine lv_iconst (v := nI 2) hx hb dX8_glow_33 (by decide +kernel) ?_
          refine lv_iload_n hx hb dX8_glow_34 rfl (lv_at hl 0 rfl) ?_
          refine kk_imul hx hb dX8_glow_35 ?_
          refine lv_goto (tgt := 40) hx hb dX8_glow_36 (by decide) ?_
          refine va_mmin hx hb (hml.trans hl.1.symm) hown hm1_min hm2_min hm3 hm4_min (Nat.le_of_ble_eq_true rfl) (Nat.le_of_ble_eq_true rfl) (Nat.zero_le _) (Nat.zero_le _) dX8_glow_40 ?_
          refine kk_top (y := nI (min 99 (2 * (fell + 1)))) (kk_min (by omega) (by omega)) ?_
          have hq : nI (min 99 (2 * (fell + 1))) = nI (glow kind fell) := by unfold glow; congr 1; split <;> (try split) <;> (try split) <;> omega
          refine kk_QQ hQQ ?_
          exact W.iret (v := nI (min 99 (2 * (fell + 1)))) hx hb hr (fun t ht hW => ⟨nI (min 99 (2 * (fell + 1))), rfl, hq, ht⟩) (fun q h => by cases h) dX8_glow_43
      · skip
        refine lv_bipush (v := nI 99) hx hb dX8_glow_15 (by decide +kernel) ?_
        refine lv_iload_n hx hb dX8_glow_17 rfl (lv_at hl 1 rfl) ?_
        refine va_mmin hx hb (hml.trans hl.1.symm) hown hm1_min hm2_min hm3 hm4_min (Nat.le_of_ble_eq_true rfl) (Nat.le_of_ble_eq_true rfl) (Nat.zero_le _) (Nat.zero_le _) dX8_glow_18 ?_
        refine kk_top (y := nI (min 99 fell)) (kk_min (by omega) (by omega)) ?_
        have hq : nI (min 99 fell) = nI (glow kind fell) := by unfold glow; congr 1; split <;> (try split) <;> (try split) <;> omega
        refine kk_QQ hQQ ?_
        exact W.iret (v := nI (min 99 fell)) hx hb hr (fun t ht hW => ⟨nI (min 99 fell), rfl, hq, ht⟩) (fun q h => by cases h) dX8_glow_21
    · skip
      refine lv_iconst (v := nI 0) hx hb dX8_glow_9 (by decide +kernel) ?_
      have hq : nI 0 = nI (glow kind fell) := by unfold glow; congr 1; split <;> (try split) <;> (try split) <;> omega
      refine kk_QQ hQQ ?_
      exact W.iret (v := nI 0) hx hb hr (fun t ht hW => ⟨nI 0, rfl, hq, ht⟩) (fun q h => by cases h) dX8_glow_10

abbrev rmX2_daylight : Room := { frames := 1, cells := 0, slots := 0, locals := 40 }
set_option maxHeartbeats 4000000 in
set_option maxRecDepth 100000 in
theorem c_X2_daylight (lL : Launch) (D : va_G) (cI cS : ClassId) (C : Co) (g0 : Nat) (g1 : Nat) (g2 : Nat) (g3 : Nat) (g4 : Nat) (g5 : Nat) (sk : Nat → Int32) (sh : Nat → Int32) (cl : Nat → Int32) (s : Nat) (w : Nat) (hC : okC C) (hsk : ∀ w, w < 6 → sk w = nI (cSk C w)) (hsh : ∀ s, s < cSp C → sh s = nI (cSh C s)) (hcl : ∀ d, d < 4 → cl d = nI (cCl C d)) (hs : s < cSp C) (hw : w < 24) : Met lL yX2_daylight wsX2_daylight rmX2_daylight (va_Pc [.ref g0, .int (nI s), .int (nI w)] (kBp D cI cS [(g0, .inr (1, [.int (nI (cSp C)), .int (nI (cLa C)), .int (nI (cAg C)), .ref g1, .ref g2, .ref g3, .ref g4, .ref g5])), (g1, .inl (cI, 6, .inl sk)), (g2, .inl (cI, 4, .inl sh)), (g5, .inl (cI, 4, .inl cl))])) (vp_Si (fun r : Int32 => r = nI (day C s w))) 0 0 (fun _ => False) := by
  refine Met.ofW (cc := cX2_daylight) (maxL := 3) (ret := (some .int)) (by decide) rfl ?_
  intro pP eE sS mM args below meth cC s₁ B hml hv
  obtain ⟨rfl, hP, hK⟩ := hv
  have hx := B.exec
  have hb := B.bytes
  have hr := B.returns
  have hts := atoms_spec (ws := wsX2_daylight) B.pre
  have hown : sS.vm.findClass RX2 = some mM.cls := findClass_of_methodNamed B.named
  have hlocks := B.notSynchronized
  have hP : va_P D vwCl [(g0, .inr (1, [.int (nI (cSp C)), .int (nI (cLa C)), .int (nI (cAg C)), .ref g1, .ref g2, .ref g3, .ref g4, .ref g5])), (g1, .inl (cI, 6, .inl sk)), (g2, .inl (cI, 4, .inl sh)), (g5, .inl (cI, 4, .inl cl))] sS.heap := hP
  have hf_21 := hts (.fieldLink RX2 21 "OldLamps$Ground" "skies" "[I") (List.mem_of_getElem? (i := 1) rfl)
  have hf_25 := hts (.fieldLink RX2 25 "OldLamps$Ground" "shades" "[I") (List.mem_of_getElem? (i := 2) rfl)
  have hf_34 := hts (.fieldLink RX2 34 "OldLamps$Ground" "dayClouds" "[I") (List.mem_of_getElem? (i := 3) rfl)
  have hm1_max := hts (.methodLink RX2 43 Lib.Math.max.name) (List.mem_of_getElem? (i := 4) rfl)
  have hm2_max := hts (.static Lib.Math.max.name) (List.mem_of_getElem? (i := 5) rfl)
  have hm3 := hts (.initialized "java/lang/Math") (List.mem_of_getElem? (i := 6) rfl)
  have hm4_max := hts (.code Lib.Math.max.name Lib.Math.max.code 2 (some .int)) (List.mem_of_getElem? (i := 7) rfl)
  have hwX2 : ∀ w ∈ wsX20, w ∈ wsX2_daylight := fun _ h => List.mem_cons_of_mem _ (List.mem_append_right _ h)
  have hl := lv_entry ([.ref g0, .int (nI s), .int (nI w)]) (n := 3) (Nat.le_of_ble_eq_true rfl)
  rw [lg_entry_eq]
  generalize (lg_sl ([.ref g0, .int (nI s), .int (nI w)]) ++ List.replicate (3 - (lg_sl ([.ref g0, .int (nI s), .int (nI w)])).length) Slot.unset).toArray = ls at hl ⊢
  have hl : lv_has ls 3 [(0, .ref g0), (1, .int (nI s)), (2, .int (nI w))] := hl
  obtain ⟨QQ, hQQ⟩ : ∃ QQ : State → Prop, QQ = MQ below (vp_Si (fun r : Int32 => r = nI (day C s w))) ([.ref g0, .int (nI s), .int (nI w)]).toArray sS 0 0 (fun _ => False) := ⟨_, rfl⟩
  refine kk_QQ hQQ.symm ?_
  obtain ⟨hC1, hC2, hC3, hC4, hC5, hC6, hC7, hC8⟩ := id hC
  have e1 := hsk (w % 6) (by omega)
  have e2 := hsh s hs
  have e3 := hcl (w / 6) (by omega)
  have b1 := hC5 (w % 6) (by omega)
  have b2 := hC7 s hs
  have b3 := hC8 (w / 6) (by omega)
  refine lv_iconst (v := nI 0) hx hb dX2_daylight_0 (by decide +kernel) ?_
  refine lv_aload_n hx hb dX2_daylight_1 rfl (lv_at hl 0 rfl) ?_
  refine va_get (D := D) (ci := 1) (v := .ref g1) (C := RX2) (T := TX2) (N := 8) hx hb hts hwX2 hown hK hP 0 rfl rfl 3 (by decide) hf_21 (fun _ h9 => h9) rfl dX2_daylight_2 ?_
  refine lv_iload_n hx hb dX2_daylight_5 rfl (lv_at hl 2 rfl) ?_
  refine lv_bipush (v := nI 6) hx hb dX2_daylight_6 (by decide +kernel) ?_
  refine kk_irem hx hb dX2_daylight_8 (by omega) (by omega) (by omega) ?_
  refine kk_iald hx hb hK hP 1 rfl rfl (i := w % 6) (by omega) (by decide) dX2_daylight_9 ?_
  refine kk_top (y := nI (cSk C (w % 6))) (e1) ?_
  refine lv_aload_n hx hb dX2_daylight_10 rfl (lv_at hl 0 rfl) ?_
  refine va_get (D := D) (ci := 1) (v := .ref g2) (C := RX2) (T := TX2) (N := 8) hx hb hts hwX2 hown hK hP 0 rfl rfl 4 (by decide) hf_25 (fun _ h9 => h9) rfl dX2_daylight_11 ?_
  refine lv_iload_n hx hb dX2_daylight_14 rfl (lv_at hl 1 rfl) ?_
  refine kk_iald hx hb hK hP 2 rfl rfl (i := s) (by omega) (by decide) dX2_daylight_15 ?_
  refine kk_top (y := nI (cSh C s)) (e2) ?_
  refine lv_isub hx hb dX2_daylight_16 ?_
  refine lv_aload_n hx hb dX2_daylight_17 rfl (lv_at hl 0 rfl) ?_
  refine va_get (D := D) (ci := 1) (v := .ref g5) (C := RX2) (T := TX2) (N := 8) hx hb hts hwX2 hown hK hP 0 rfl rfl 7 (by decide) hf_34 (fun _ h9 => h9) rfl dX2_daylight_18 ?_
  refine lv_iload_n hx hb dX2_daylight_21 rfl (lv_at hl 2 rfl) ?_
  refine lv_bipush (v := nI 6) hx hb dX2_daylight_22 (by decide +kernel) ?_
  refine kk_idiv hx hb dX2_daylight_24 (by omega) (by omega) (by omega) ?_
  refine kk_iald hx hb hK hP 3 rfl rfl (i := w / 6) (by omega) (by decide) dX2_daylight_25 ?_
  refine kk_top (y := nI (cCl C (w / 6))) (e3) ?_
  refine lv_isub hx hb dX2_daylight_26 ?_
  refine va_mmax hx hb (hml.trans hl.1.symm) hown hm1_max hm2_max hm3 hm4_max (Nat.le_of_ble_eq_true rfl) (Nat.le_of_ble_eq_true rfl) (Nat.zero_le _) (Nat.zero_le _) dX2_daylight_27 ?_
  refine kk_top (y := nI (cSk C (w % 6) - cSh C s - cCl C (w / 6))) (kk_day _ (by omega) _ (by omega) _ (by omega)) ?_
  have hq : nI (cSk C (w % 6) - cSh C s - cCl C (w / 6)) = nI (day C s w) := by rfl
  refine kk_QQ hQQ ?_
  exact W.iret (v := nI (cSk C (w % 6) - cSh C s - cCl C (w / 6))) hx hb hr (fun t ht hW => ⟨nI (cSk C (w % 6) - cSh C s - cCl C (w / 6)), rfl, hq, ht⟩) (fun q h => by cases h) dX2_daylight_30

abbrev rmX8_reckonLight : Room := { frames := 2, cells := 0, slots := 0, locals := 62 }
set_option maxHeartbeats 4000000 in
set_option maxRecDepth 100000 in
theorem c_X8_reckonLight (lL : Launch) (D : va_G) (cI cS : ClassId) (sz : Nat) (C : Co) (pl : Nat → Nat → Nat) (h0 : Nat) (h1 : Nat) (h2 : Nat) (h3 : Nat) (h4 : Nat) (h5 : Nat) (g0 : Nat) (g1 : Nat) (g2 : Nat) (g3 : Nat) (g4 : Nat) (g5 : Nat) (pA : Nat → Int32) (gA : Nat → Int32) (fA : Nat → Int32) (dA : Nat → Int32) (lA : Nat → Int32) (ki : Nat → Int32) (a : Nat) (b : Nat) (hC : okC C) (hki : ∀ k, k < cLa C → ki k = nI (cKi C k)) (hpl : ∀ k, k < cLa C → ∀ w, w < 24 → pl k w < cSp C) (hbn : b < 24) (hab : a ≤ b + 1) (tP0 : tP C pl pA a (b + 1)) (tD0 : tD C dA a (b + 1)) (tF0 : tF C pl fA 0 a) : Met lL yX8_reckonLight wsX8_reckonLight rmX8_reckonLight (va_Pc [.ref h0, .ref g0, .int (nI a), .int (nI b)] (kB D cI cS [(h0, .inr (7, [.ref h1, .ref h2, .ref h3, .ref h4, .ref h5])), (h1, .inl (cI, 96, .inl pA)), (h2, .inl (cI, 96, .inl gA)), (h3, .inl (cI, 96, .inl fA)), (h4, .inl (cI, 96, .inl dA)), (h5, .inl (cI, 96, .inl lA)), (g0, .inr (1, [.int (nI (cSp C)), .int (nI (cLa C)), .int (nI (cAg C)), .ref g1, .ref g2, .ref g3, .ref g4, .ref g5])), (g3, .inl (cI, 4, .inl ki))] sz)) (kQv D (fun u : (Nat → Int32) × (Nat → Int32) × (Nat → Int32) => kpt gA u.1 (a * 4) ∧ kpt fA u.2.1 (a * 4) ∧ kpt lA u.2.2 (a * 4) ∧ tG C pl u.1 a (b + 1) ∧ tF C pl u.2.1 0 (b + 1) ∧ tL C pl u.2.2 a (b + 1)) (fun u : (Nat → Int32) × (Nat → Int32) × (Nat → Int32) => [(h0, .inr (7, [.ref h1, .ref h2, .ref h3, .ref h4, .ref h5])), (h1, .inl (cI, 96, .inl pA)), (h2, .inl (cI, 96, .inl u.1)), (h3, .inl (cI, 96, .inl u.2.1)), (h4, .inl (cI, 96, .inl dA)), (h5, .inl (cI, 96, .inl u.2.2)), (g0, .inr (1, [.int (nI (cSp C)), .int (nI (cLa C)), .int (nI (cAg C)), .ref g1, .ref g2, .ref g3, .ref g4, .ref g5])), (g3, .inl (cI, 4, .inl ki))]) (va_A [(h0, .inr (7, [.ref h1, .ref h2, .ref h3, .ref h4, .ref h5])), (h1, .inl (cI, 96, .inl pA)), (h2, .inl (cI, 96, .inl gA)), (h3, .inl (cI, 96, .inl fA)), (h4, .inl (cI, 96, .inl dA)), (h5, .inl (cI, 96, .inl lA)), (g0, .inr (1, [.int (nI (cSp C)), .int (nI (cLa C)), .int (nI (cAg C)), .ref g1, .ref g2, .ref g3, .ref g4, .ref g5])), (g3, .inl (cI, 4, .inl ki))] sz)) 0 0 (va_A [(h0, .inr (7, [.ref h1, .ref h2, .ref h3, .ref h4, .ref h5])), (h1, .inl (cI, 96, .inl pA)), (h2, .inl (cI, 96, .inl gA)), (h3, .inl (cI, 96, .inl fA)), (h4, .inl (cI, 96, .inl dA)), (h5, .inl (cI, 96, .inl lA)), (g0, .inr (1, [.int (nI (cSp C)), .int (nI (cLa C)), .int (nI (cAg C)), .ref g1, .ref g2, .ref g3, .ref g4, .ref g5])), (g3, .inl (cI, 4, .inl ki))] sz) := by
  refine Met.ofW (cc := cX8_reckonLight) (maxL := 9) (ret := none) (by decide) rfl ?_
  intro pP eE sS mM args below meth cC s₁ B hml hv
  obtain ⟨rfl, hsz, hP, hK, hD0⟩ := hv
  have hx := B.exec
  have hb := B.bytes
  have hr := B.returns
  have hts := atoms_spec (ws := wsX8_reckonLight) B.pre
  have hown : sS.vm.findClass RX8 = some mM.cls := findClass_of_methodNamed B.named
  have hlocks := B.notSynchronized
  subst hsz
  have hD := hD0.self (sz := sS.heap.size)
  generalize hAe : va_A [(h0, .inr (7, [.ref h1, .ref h2, .ref h3, .ref h4, .ref h5])), (h1, .inl (cI, 96, .inl pA)), (h2, .inl (cI, 96, .inl gA)), (h3, .inl (cI, 96, .inl fA)), (h4, .inl (cI, 96, .inl dA)), (h5, .inl (cI, 96, .inl lA)), (g0, .inr (1, [.int (nI (cSp C)), .int (nI (cLa C)), .int (nI (cAg C)), .ref g1, .ref g2, .ref g3, .ref g4, .ref g5])), (g3, .inl (cI, 4, .inl ki))] sS.heap.size = A at hD ⊢
  have hA : ∀ q : Nat, sS.heap.size ≤ q → A q := fun q h => by rw [← hAe]; exact Or.inr h
  have hS : va_S A sS.heap sS.heap [] := va_S.rf
  have hP : va_P D vwCl [(h0, .inr (7, [.ref h1, .ref h2, .ref h3, .ref h4, .ref h5])), (h1, .inl (cI, 96, .inl pA)), (h2, .inl (cI, 96, .inl gA)), (h3, .inl (cI, 96, .inl fA)), (h4, .inl (cI, 96, .inl dA)), (h5, .inl (cI, 96, .inl lA)), (g0, .inr (1, [.int (nI (cSp C)), .int (nI (cLa C)), .int (nI (cAg C)), .ref g1, .ref g2, .ref g3, .ref g4, .ref g5])), (g3, .inl (cI, 4, .inl ki))] sS.heap := hP
  have hD : va_D A [(h0, .inr (7, [.ref h1, .ref h2, .ref h3, .ref h4, .ref h5])), (h1, .inl (cI, 96, .inl pA)), (h2, .inl (cI, 96, .inl gA)), (h3, .inl (cI, 96, .inl fA)), (h4, .inl (cI, 96, .inl dA)), (h5, .inl (cI, 96, .inl lA)), (g0, .inr (1, [.int (nI (cSp C)), .int (nI (cLa C)), .int (nI (cAg C)), .ref g1, .ref g2, .ref g3, .ref g4, .ref g5])), (g3, .inl (cI, 4, .inl ki))] := hD
  have hf_11 := hts (.fieldLink RX8 11 "OldLamps$Watches" "places" "[I") (List.mem_of_getElem? (i := 12) rfl)
  have hf_15 := hts (.fieldLink RX8 15 "OldLamps$Watches" "given" "[I") (List.mem_of_getElem? (i := 11) rfl)
  have hf_18 := hts (.fieldLink RX8 18 "OldLamps$Watches" "fallen" "[I") (List.mem_of_getElem? (i := 10) rfl)
  have hf_21 := hts (.fieldLink RX8 21 "OldLamps$Watches" "days" "[I") (List.mem_of_getElem? (i := 2) rfl)
  have hf_24 := hts (.fieldLink RX8 24 "OldLamps$Watches" "lit" "[I") (List.mem_of_getElem? (i := 3) rfl)
  have hf_54 := hts (.fieldLink RX8 54 "OldLamps$Ground" "lightAge" "I") (List.mem_of_getElem? (i := 1) rfl)
  have hf_57 := hts (.fieldLink RX8 57 "OldLamps$Ground" "lamps" "I") (List.mem_of_getElem? (i := 8) rfl)
  have hf_60 := hts (.fieldLink RX8 60 "OldLamps$Ground" "lampKinds" "[I") (List.mem_of_getElem? (i := 9) rfl)
  have hac1 := hts (.methodLink RX8 48 arraycopyName) (List.mem_of_getElem? (i := 4) rfl)
  have hac2 := hts (.native arraycopyName) (List.mem_of_getElem? (i := 5) rfl)
  have hac3 := hts (.static arraycopyName) (List.mem_of_getElem? (i := 6) rfl)
  have hac4 := hts (.initialized "java/lang/System") (List.mem_of_getElem? (i := 7) rfl)
  have hm1_min := hts (.methodLink RX8 66 Lib.Math.min.name) (List.mem_of_getElem? (i := 13) rfl)
  have hm2_min := hts (.static Lib.Math.min.name) (List.mem_of_getElem? (i := 14) rfl)
  have hm3 := hts (.initialized "java/lang/Math") (List.mem_of_getElem? (i := 15) rfl)
  have hm4_min := hts (.code Lib.Math.min.name Lib.Math.min.code 2 (some .int)) (List.mem_of_getElem? (i := 16) rfl)
  have hwX2 : ∀ w ∈ wsX20, w ∈ wsX8_reckonLight := fun _ h => List.mem_cons_of_mem _ (List.mem_append_left _ (List.mem_append_right _ h))
  have hwX8 : ∀ w ∈ wsX80, w ∈ wsX8_reckonLight := fun _ h => List.mem_cons_of_mem _ (List.mem_append_right _ h)
  have hl := lv_entry ([.ref h0, .ref g0, .int (nI a), .int (nI b)]) (n := 9) (Nat.le_of_ble_eq_true rfl)
  rw [lg_entry_eq]
  generalize (lg_sl ([.ref h0, .ref g0, .int (nI a), .int (nI b)]) ++ List.replicate (9 - (lg_sl ([.ref h0, .ref g0, .int (nI a), .int (nI b)])).length) Slot.unset).toArray = ls at hl ⊢
  have hl : lv_has ls 9 [(0, .ref h0), (1, .ref g0), (2, .int (nI a)), (3, .int (nI b))] := hl
  obtain ⟨QQ, hQQ⟩ : ∃ QQ : State → Prop, QQ = MQ below (kQv D (fun u : (Nat → Int32) × (Nat → Int32) × (Nat → Int32) => kpt gA u.1 (a * 4) ∧ kpt fA u.2.1 (a * 4) ∧ kpt lA u.2.2 (a * 4) ∧ tG C pl u.1 a (b + 1) ∧ tF C pl u.2.1 0 (b + 1) ∧ tL C pl u.2.2 a (b + 1)) (fun u : (Nat → Int32) × (Nat → Int32) × (Nat → Int32) => [(h0, .inr (7, [.ref h1, .ref h2, .ref h3, .ref h4, .ref h5])), (h1, .inl (cI, 96, .inl pA)), (h2, .inl (cI, 96, .inl u.1)), (h3, .inl (cI, 96, .inl u.2.1)), (h4, .inl (cI, 96, .inl dA)), (h5, .inl (cI, 96, .inl u.2.2)), (g0, .inr (1, [.int (nI (cSp C)), .int (nI (cLa C)), .int (nI (cAg C)), .ref g1, .ref g2, .ref g3, .ref g4, .ref g5])), (g3, .inl (cI, 4, .inl ki))]) A) ([.ref h0, .ref g0, .int (nI a), .int (nI b)]).toArray sS 0 0 A := ⟨_, rfl⟩
  refine kk_QQ hQQ.symm ?_
  obtain ⟨hC1, hC2, hC3, hC4, hC5, hC6, hC7, hC8⟩ := id hC
  refine lv_iload_n hx hb dX8_reckonLight_0 rfl (lv_at hl 2 rfl) ?_
  refine lv_istore (lv' := [(4, .int (nI a)), (0, .ref h0), (1, .ref g0), (2, .int (nI a)), (3, .int (nI b))]) hx hb dX8_reckonLight_1 hl (by decide) rfl (fun ls hl => ?_)
  have L_3 : ∀ (n_3 : Nat) (w : Nat) (gX : Nat → Int32) (fX : Nat → Int32) (lX : Nat → Int32), (a ≤ w) → (w ≤ b + 1) → (kpt gA gX (a * 4)) → (kpt fA fX (a * 4)) → (kpt lA lX (a * 4)) → (tG C pl gX a w) → (tF C pl fX 0 w) → (tL C pl lX a w) → b + 2 ≤ w + n_3 → ∀ (H : Heap) (locs : List Loc), va_P D vwCl [(h0, .inr (7, [.ref h1, .ref h2, .ref h3, .ref h4, .ref h5])), (h1, .inl (cI, 96, .inl pA)), (h2, .inl (cI, 96, .inl gX)), (h3, .inl (cI, 96, .inl fX)), (h4, .inl (cI, 96, .inl dA)), (h5, .inl (cI, 96, .inl lX)), (g0, .inr (1, [.int (nI (cSp C)), .int (nI (cLa C)), .int (nI (cAg C)), .ref g1, .ref g2, .ref g3, .ref g4, .ref g5])), (g3, .inl (cI, 4, .inl ki))] H → va_D A [(h0, .inr (7, [.ref h1, .ref h2, .ref h3, .ref h4, .ref h5])), (h1, .inl (cI, 96, .inl pA)), (h2, .inl (cI, 96, .inl gX)), (h3, .inl (cI, 96, .inl fX)), (h4, .inl (cI, 96, .inl dA)), (h5, .inl (cI, 96, .inl lX)), (g0, .inr (1, [.int (nI (cSp C)), .int (nI (cLa C)), .int (nI (cAg C)), .ref g1, .ref g2, .ref g3, .ref g4, .ref g5])), (g3, .inl (cI, 4, .inl ki))] → va_S A sS.heap H locs → ∀ (ls : Array Slot), lv_has ls 9 [(4, .int (nI w)), (0, .ref h0), (1, .ref g0), (2, .int (nI a)), (3, .int (nI b))] → W pP lL eE (headSpec wsX8_reckonLight rmX8_reckonLight).room sS mM ([.ref h0, .ref g0, .int (nI a), .int (nI b)]).toArray below meth cC H locs 0 0 QQ (F0 mM 3 ls []) := by
    intro n_3
    induction n_3 with
    | zero =>
      intro w gX fX lX hw1 hw2 k1 k2 k3 G1 F1 L1 hn_3 H locs hP hD hS ls hl
      exact absurd hn_3 (by omega)
    | succ n_3 ih_3 =>
      intro w gX fX lX hw1 hw2 k1 k2 k3 G1 F1 L1 hn_3 H locs hP hD hS ls hl
      refine lv_iload hx hb dX8_reckonLight_3 (lv_at hl 0 rfl) ?_
      refine lv_iload_n hx hb dX8_reckonLight_5 rfl (lv_at hl 4 rfl) ?_
      refine kk_icmp_gt (tgt := 197) hx hb dX8_reckonLight_6 (by decide) (by omega) (by omega) (fun c_1 => ?_) (fun c_1 => ?_)
      · skip
        have hq : kpt gA gX (a * 4) ∧ kpt fA fX (a * 4) ∧ kpt lA lX (a * 4) ∧ tG C pl gX a (b + 1) ∧ tF C pl fX 0 (b + 1) ∧ tL C pl lX a (b + 1) := by refine ⟨k1, k2, k3, ?_, ?_, ?_⟩ <;> (rw [show b + 1 = w by omega]; assumption)
        refine kk_QQ hQQ ?_
        exact W.vret hx hb hr (fun t ht hW => ⟨⟨(gX, fX, lX), rfl, hq, by show va_P D vwCl _ t.heap; rw [ht]; exact hP⟩, hS.F ht⟩) hS.2.2 dX8_reckonLight_197
      · skip
        refine lv_iload hx hb dX8_reckonLight_9 (lv_at hl 0 rfl) ?_
        refine lv_iconst (v := nI 0) hx hb dX8_reckonLight_11 (by decide +kernel) ?_
        refine vp_callSi (W.runS (As := [.int (nI w), .int (nI 0)]) (rest := []) ⟨hx, hb, hml, hown, hts⟩ (c_X8_at lL D cI cS w 0) (va_cwS 2 hts gX8_reckonLight_X8_at rfl rfl rfl cd_X8_at ⟨Nat.le_of_ble_eq_true rfl, Nat.le_of_ble_eq_true rfl⟩) ⟨kBp_blind, fun U hU hW => ⟨rfl, by rw [hU]; exact hP.sub [] rfl, va_K.moved hW.alike hK⟩⟩ rfl rfl hl.1 rfl (lv_room (Nat.le_of_ble_eq_true rfl)) dX8_reckonLight_12 ⟨Nat.le_of_ble_eq_true rfl, Nat.le_of_ble_eq_true rfl⟩) (fun r_2 hw_2 => ?_)
        obtain rfl : r_2 = nI (w * 4 + 0) := hw_2
        refine kk_top (y := nI (w * 4)) (rfl) ?_
        refine lv_istore (lv' := [(5, .int (nI (w * 4))), (4, .int (nI w)), (0, .ref h0), (1, .ref g0), (2, .int (nI a)), (3, .int (nI b))]) hx hb dX8_reckonLight_15 hl (by decide) rfl (fun ls hl => ?_)
        refine lv_iload hx hb dX8_reckonLight_17 (lv_at hl 1 rfl) ?_
        refine lv_aload_n hx hb dX8_reckonLight_19 rfl (lv_at hl 3 rfl) ?_
        refine va_get (D := D) (ci := 1) (v := .int (nI (cAg C))) (C := RX2) (T := TX2) (N := 8) hx hb hts hwX2 hown hK hP 6 rfl rfl 2 (by decide) hf_54 (fun _ h9 => h9) rfl dX8_reckonLight_20 ?_
        refine lv_isub hx hb dX8_reckonLight_23 ?_
        refine lv_istore (lv' := [(6, .int ((nI w) - (nI (cAg C)))), (5, .int (nI (w * 4))), (4, .int (nI w)), (0, .ref h0), (1, .ref g0), (2, .int (nI a)), (3, .int (nI b))]) hx hb dX8_reckonLight_24 hl (by decide) rfl (fun ls hl => ?_)
        refine lv_aload_n hx hb dX8_reckonLight_26 rfl (lv_at hl 3 rfl) ?_
        refine va_get (D := D) (ci := 7) (v := .ref h4) (C := RX8) (T := TX8) (N := 5) hx hb hts hwX8 hown hK hP 0 rfl rfl 3 (by decide) hf_21 (fun _ h9 => h9) rfl dX8_reckonLight_27 ?_
        refine lv_iload hx hb dX8_reckonLight_30 (lv_at hl 1 rfl) ?_
        refine lv_aload_n hx hb dX8_reckonLight_32 rfl (lv_at hl 3 rfl) ?_
        refine va_get (D := D) (ci := 7) (v := .ref h5) (C := RX8) (T := TX8) (N := 5) hx hb hts hwX8 hown hK hP 0 rfl rfl 4 (by decide) hf_24 (fun _ h9 => h9) rfl dX8_reckonLight_33 ?_
        refine lv_iload hx hb dX8_reckonLight_36 (lv_at hl 1 rfl) ?_
        refine lv_iconst (v := nI 4) hx hb dX8_reckonLight_38 (by decide +kernel) ?_
        refine kk_copyi hx hb (hml.trans hl.1.symm) hown hac1 hac2 hac3 hac4 hK hP hD hS 4 5 rfl rfl rfl (by omega) (by omega) (by decide) (by decide) (Nat.le_of_ble_eq_true rfl) (Nat.le_of_ble_eq_true rfl) dX8_reckonLight_39 (fun H locs hP hD hS => ?_)
        have hP : va_P D vwCl [(h0, .inr (7, [.ref h1, .ref h2, .ref h3, .ref h4, .ref h5])), (h1, .inl (cI, 96, .inl pA)), (h2, .inl (cI, 96, .inl gX)), (h3, .inl (cI, 96, .inl fX)), (h4, .inl (cI, 96, .inl dA)), (h5, .inl (cI, 96, .inl (va_cpy dA lX (w * 4) (w * 4) 4))), (g0, .inr (1, [.int (nI (cSp C)), .int (nI (cLa C)), .int (nI (cAg C)), .ref g1, .ref g2, .ref g3, .ref g4, .ref g5])), (g3, .inl (cI, 4, .inl ki))] H := hP
        have hD : va_D A [(h0, .inr (7, [.ref h1, .ref h2, .ref h3, .ref h4, .ref h5])), (h1, .inl (cI, 96, .inl pA)), (h2, .inl (cI, 96, .inl gX)), (h3, .inl (cI, 96, .inl fX)), (h4, .inl (cI, 96, .inl dA)), (h5, .inl (cI, 96, .inl (va_cpy dA lX (w * 4) (w * 4) 4))), (g0, .inr (1, [.int (nI (cSp C)), .int (nI (cLa C)), .int (nI (cAg C)), .ref g1, .ref g2, .ref g3, .ref g4, .ref g5])), (g3, .inl (cI, 4, .inl ki))] := hD
        refine lv_iconst (v := nI 0) hx hb dX8_reckonLight_42 (by decide +kernel) ?_
        refine lv_istore (lv' := [(7, .int (nI 0)), (6, .int ((nI w) - (nI (cAg C)))), (5, .int (nI (w * 4))), (4, .int (nI w)), (0, .ref h0), (1, .ref g0), (2, .int (nI a)), (3, .int (nI b))]) hx hb dX8_reckonLight_43 hl (by decide) rfl (fun ls hl => ?_)
        have L_45 : ∀ (n_45 : Nat) (k : Nat) (gY : Nat → Int32) (lY : Nat → Int32), (k ≤ cLa C) → (rG C pl gY w k) → (rL C pl lY w k) → (kpt gX gY (w * 4)) → (kpt lX lY (w * 4)) → cLa C + 1 ≤ k + n_45 → ∀ (H : Heap) (locs : List Loc), va_P D vwCl [(h0, .inr (7, [.ref h1, .ref h2, .ref h3, .ref h4, .ref h5])), (h1, .inl (cI, 96, .inl pA)), (h2, .inl (cI, 96, .inl gY)), (h3, .inl (cI, 96, .inl fX)), (h4, .inl (cI, 96, .inl dA)), (h5, .inl (cI, 96, .inl lY)), (g0, .inr (1, [.int (nI (cSp C)), .int (nI (cLa C)), .int (nI (cAg C)), .ref g1, .ref g2, .ref g3, .ref g4, .ref g5])), (g3, .inl (cI, 4, .inl ki))] H → va_D A [(h0, .inr (7, [.ref h1, .ref h2, .ref h3, .ref h4, .ref h5])), (h1, .inl (cI, 96, .inl pA)), (h2, .inl (cI, 96, .inl gY)), (h3, .inl (cI, 96, .inl fX)), (h4, .inl (cI, 96, .inl dA)), (h5, .inl (cI, 96, .inl lY)), (g0, .inr (1, [.int (nI (cSp C)), .int (nI (cLa C)), .int (nI (cAg C)), .ref g1, .ref g2, .ref g3, .ref g4, .ref g5])), (g3, .inl (cI, 4, .inl ki))] → va_S A sS.heap H locs → ∀ (ls : Array Slot), lv_has ls 9 [(7, .int (nI k)), (6, .int ((nI w) - (nI (cAg C)))), (5, .int (nI (w * 4))), (4, .int (nI w)), (0, .ref h0), (1, .ref g0), (2, .int (nI a)), (3, .int (nI b))] → W pP lL eE (headSpec wsX8_reckonLight rmX8_reckonLight).room sS mM ([.ref h0, .ref g0, .int (nI a), .int (nI b)]).toArray below meth cC H locs 0 0 QQ (F0 mM 45 ls []) := by
          intro n_45
          induction n_45 with
          | zero =>
            intro k gY lY hk rg2 rl2 k4 k5 hn_45 H locs hP hD hS ls hl
            exact absurd hn_45 (by omega)
          | succ n_45 ih_45 =>
            intro k gY lY hk rg2 rl2 k4 k5 hn_45 H locs hP hD hS ls hl
            refine lv_iload hx hb dX8_reckonLight_45 (lv_at hl 0 rfl) ?_
            refine lv_aload_n hx hb dX8_reckonLight_47 rfl (lv_at hl 5 rfl) ?_
            refine va_get (D := D) (ci := 1) (v := .int (nI (cLa C))) (C := RX2) (T := TX2) (N := 8) hx hb hts hwX2 hown hK hP 6 rfl rfl 1 (by decide) hf_57 (fun _ h9 => h9) rfl dX8_reckonLight_48 ?_
            refine kk_icmp_ge (tgt := 128) hx hb dX8_reckonLight_51 (by decide) (by omega) (by omega) (fun c_3 => ?_) (fun c_3 => ?_)
            · skip
              refine lv_iconst (v := nI 0) hx hb dX8_reckonLight_128 (by decide +kernel) ?_
              refine lv_istore (lv' := [(7, .int (nI 0)), (6, .int ((nI w) - (nI (cAg C)))), (5, .int (nI (w * 4))), (4, .int (nI w)), (0, .ref h0), (1, .ref g0), (2, .int (nI a)), (3, .int (nI b))]) hx hb dX8_reckonLight_129 hl (by decide) rfl (fun ls hl => ?_)
              have L_131 : ∀ (n_131 : Nat) (kz : Nat) (fZ : Nat → Int32), (kz ≤ cLa C) → (rF C pl fZ w kz) → (kpt fX fZ (w * 4)) → cLa C + 1 ≤ kz + n_131 → ∀ (H : Heap) (locs : List Loc), va_P D vwCl [(h0, .inr (7, [.ref h1, .ref h2, .ref h3, .ref h4, .ref h5])), (h1, .inl (cI, 96, .inl pA)), (h2, .inl (cI, 96, .inl gY)), (h3, .inl (cI, 96, .inl fZ)), (h4, .inl (cI, 96, .inl dA)), (h5, .inl (cI, 96, .inl lY)), (g0, .inr (1, [.int (nI (cSp C)), .int (nI (cLa C)), .int (nI (cAg C)), .ref g1, .ref g2, .ref g3, .ref g4, .ref g5])), (g3, .inl (cI, 4, .inl ki))] H → va_D A [(h0, .inr (7, [.ref h1, .ref h2, .ref h3, .ref h4, .ref h5])), (h1, .inl (cI, 96, .inl pA)), (h2, .inl (cI, 96, .inl gY)), (h3, .inl (cI, 96, .inl fZ)), (h4, .inl (cI, 96, .inl dA)), (h5, .inl (cI, 96, .inl lY)), (g0, .inr (1, [.int (nI (cSp C)), .int (nI (cLa C)), .int (nI (cAg C)), .ref g1, .ref g2, .ref g3, .ref g4, .ref g5])), (g3, .inl (cI, 4, .inl ki))] → va_S A sS.heap H locs → ∀ (ls : Array Slot), lv_has ls 9 [(7, .int (nI kz)), (6, .int ((nI w) - (nI (cAg C)))), (5, .int (nI (w * 4))), (4, .int (nI w)), (0, .ref h0), (1, .ref g0), (2, .int (nI a)), (3, .int (nI b))] → W pP lL eE (headSpec wsX8_reckonLight rmX8_reckonLight).room sS mM ([.ref h0, .ref g0, .int (nI a), .int (nI b)]).toArray below meth cC H locs 0 0 QQ (F0 mM 131 ls []) := by
                intro n_131
                induction n_131 with
                | zero =>
                  intro kz fZ hk3 rf3 k6 hn_131 H locs hP hD hS ls hl
                  exact absurd hn_131 (by omega)
                | succ n_131 ih_131 =>
                  intro kz fZ hk3 rf3 k6 hn_131 H locs hP hD hS ls hl
                  have rl2e : rL C pl lY w (cLa C) := by rw [show cLa C = k by omega]; exact rl2
                  refine lv_iload hx hb dX8_reckonLight_131 (lv_at hl 0 rfl) ?_
                  refine lv_aload_n hx hb dX8_reckonLight_133 rfl (lv_at hl 5 rfl) ?_
                  refine va_get (D := D) (ci := 1) (v := .int (nI (cLa C))) (C := RX2) (T := TX2) (N := 8) hx hb hts hwX2 hown hK hP 6 rfl rfl 1 (by decide) hf_57 (fun _ h9 => h9) rfl dX8_reckonLight_134 ?_
                  refine kk_icmp_ge (tgt := 191) hx hb dX8_reckonLight_137 (by decide) (by omega) (by omega) (fun c_4 => ?_) (fun c_4 => ?_)
                  · skip
                    refine lv_iinc (v := nI (w + 1)) (lv' := [(4, .int (nI (w + 1))), (7, .int (nI kz)), (6, .int ((nI w) - (nI (cAg C)))), (5, .int (nI (w * 4))), (0, .ref h0), (1, .ref g0), (2, .int (nI a)), (3, .int (nI b))]) hx hb dX8_reckonLight_191 hl (k := 3) rfl (nI_add w 1) (by decide) rfl (fun ls hl => ?_)
                    refine lv_goto (tgt := 3) hx hb dX8_reckonLight_194 (by decide) ?_
                    have o_5 : a ≤ (w + 1) := by omega
                    have o_6 : (w + 1) ≤ b + 1 := by omega
                    have o_7 : kpt gA gY (a * 4) := by exact kpt_tr k1 (kpt_le k4 (by omega))
                    have o_8 : kpt fA fZ (a * 4) := by exact kpt_tr k2 (kpt_le k6 (by omega))
                    have o_9 : kpt lA lY (a * 4) := by exact kpt_tr k3 (kpt_le k5 (by omega))
                    have o_10 : tG C pl gY a (w + 1) := by exact tG_row (tG_kpt hC2 G1 k4 (by omega)) (by rw [show cLa C = k by omega]; exact rg2)
                    have o_11 : tF C pl fZ 0 (w + 1) := by exact tF_row (tF_kpt hC2 F1 k6 (by omega)) (by rw [show cLa C = kz by omega]; exact rf3)
                    have o_12 : tL C pl lY a (w + 1) := by exact tL_row (tL_kpt hC1 L1 k5 (by omega)) rl2e
                    have o_13 : b + 2 ≤ (w + 1) + n_3 := by omega
                    exact ih_3 (w + 1) gY fZ lY o_5 o_6 o_7 o_8 o_9 o_10 o_11 o_12 o_13 _ _ hP hD hS ls (lv_sub hl [0, 4, 5, 6, 7] rfl)
                  · skip
                    have hpk := hpl kz (by omega) w (by omega)
                    have hle := (Fa_Li (C := C) (pl := pl) hC3 w kz (by omega)).1
                    rw [Li_Ls] at hle
                    have hll := Ls_le hC pl (pl kz w) w hC2
                    refine lv_aload_n hx hb dX8_reckonLight_140 rfl (lv_at hl 4 rfl) ?_
                    refine va_get (D := D) (ci := 7) (v := .ref h3) (C := RX8) (T := TX8) (N := 5) hx hb hts hwX8 hown hK hP 0 rfl rfl 2 (by decide) hf_18 (fun _ h9 => h9) rfl dX8_reckonLight_141 ?_
                    refine lv_iload hx hb dX8_reckonLight_144 (lv_at hl 2 rfl) ?_
                    refine lv_iload hx hb dX8_reckonLight_146 (lv_at hl 0 rfl) ?_
                    refine kk_iadd hx hb dX8_reckonLight_148 ?_
                    refine lv_sipush (v := nI 999) hx hb dX8_reckonLight_149 (by decide +kernel) ?_
                    refine lv_aload_n hx hb dX8_reckonLight_152 rfl (lv_at hl 4 rfl) ?_
                    refine va_get (D := D) (ci := 7) (v := .ref h5) (C := RX8) (T := TX8) (N := 5) hx hb hts hwX8 hown hK hP 0 rfl rfl 4 (by decide) hf_24 (fun _ h9 => h9) rfl dX8_reckonLight_153 ?_
                    refine lv_iload hx hb dX8_reckonLight_156 (lv_at hl 2 rfl) ?_
                    refine lv_aload_n hx hb dX8_reckonLight_158 rfl (lv_at hl 4 rfl) ?_
                    refine va_get (D := D) (ci := 7) (v := .ref h1) (C := RX8) (T := TX8) (N := 5) hx hb hts hwX8 hown hK hP 0 rfl rfl 0 (by decide) hf_11 (fun _ h9 => h9) rfl dX8_reckonLight_159 ?_
                    refine lv_iload hx hb dX8_reckonLight_162 (lv_at hl 2 rfl) ?_
                    refine lv_iload hx hb dX8_reckonLight_164 (lv_at hl 0 rfl) ?_
                    refine kk_iadd hx hb dX8_reckonLight_166 ?_
                    refine kk_iald hx hb hK hP 1 rfl rfl (i := (w * 4) + kz) (by omega) (by decide) dX8_reckonLight_167 ?_
                    refine kk_top (y := nI (pl kz w)) (tP0 w (by omega) (by omega) kz (by omega)) ?_
                    refine kk_iadd hx hb dX8_reckonLight_168 ?_
                    refine kk_iald hx hb hK hP 5 rfl rfl (i := (w * 4) + (pl kz w)) (by omega) (by decide) dX8_reckonLight_169 ?_
                    refine kk_top (y := nI (Ls C pl (pl kz w) w (cLa C))) (rl2e (pl kz w) hpk) ?_
                    refine lv_aload_n hx hb dX8_reckonLight_170 rfl (lv_at hl 4 rfl) ?_
                    refine va_get (D := D) (ci := 7) (v := .ref h2) (C := RX8) (T := TX8) (N := 5) hx hb hts hwX8 hown hK hP 0 rfl rfl 1 (by decide) hf_15 (fun _ h9 => h9) rfl dX8_reckonLight_171 ?_
                    refine lv_iload hx hb dX8_reckonLight_174 (lv_at hl 2 rfl) ?_
                    refine lv_iload hx hb dX8_reckonLight_176 (lv_at hl 0 rfl) ?_
                    refine kk_iadd hx hb dX8_reckonLight_178 ?_
                    refine kk_iald hx hb hK hP 2 rfl rfl (i := (w * 4) + kz) (by omega) (by decide) dX8_reckonLight_179 ?_
                    refine kk_top (y := nI (Gi C pl w kz)) (rg2 kz (by omega)) ?_
                    refine kk_isub hx hb dX8_reckonLight_180 (by omega) ?_
                    refine va_mmin hx hb (hml.trans hl.1.symm) hown hm1_min hm2_min hm3 hm4_min (Nat.le_of_ble_eq_true rfl) (Nat.le_of_ble_eq_true rfl) (Nat.zero_le _) (Nat.zero_le _) dX8_reckonLight_181 ?_
                    refine kk_top (y := nI (min 999 ((Ls C pl (pl kz w) w (cLa C)) - (Gi C pl w kz)))) (kk_min (by omega) (by omega)) ?_
                    refine kk_iast hx hb hK hP hD hS 3 rfl rfl (i := (w * 4) + kz) (by omega) (by decide) dX8_reckonLight_184 (fun H locs hP hD hS => ?_)
                    have hP : va_P D vwCl [(h0, .inr (7, [.ref h1, .ref h2, .ref h3, .ref h4, .ref h5])), (h1, .inl (cI, 96, .inl pA)), (h2, .inl (cI, 96, .inl gY)), (h3, .inl (cI, 96, .inl (upd fZ ((w * 4) + kz) (nI (min 999 ((Ls C pl (pl kz w) w (cLa C)) - (Gi C pl w kz))))))), (h4, .inl (cI, 96, .inl dA)), (h5, .inl (cI, 96, .inl lY)), (g0, .inr (1, [.int (nI (cSp C)), .int (nI (cLa C)), .int (nI (cAg C)), .ref g1, .ref g2, .ref g3, .ref g4, .ref g5])), (g3, .inl (cI, 4, .inl ki))] H := hP
                    have hD : va_D A [(h0, .inr (7, [.ref h1, .ref h2, .ref h3, .ref h4, .ref h5])), (h1, .inl (cI, 96, .inl pA)), (h2, .inl (cI, 96, .inl gY)), (h3, .inl (cI, 96, .inl (upd fZ ((w * 4) + kz) (nI (min 999 ((Ls C pl (pl kz w) w (cLa C)) - (Gi C pl w kz))))))), (h4, .inl (cI, 96, .inl dA)), (h5, .inl (cI, 96, .inl lY)), (g0, .inr (1, [.int (nI (cSp C)), .int (nI (cLa C)), .int (nI (cAg C)), .ref g1, .ref g2, .ref g3, .ref g4, .ref g5])), (g3, .inl (cI, 4, .inl ki))] := hD
                    refine lv_iinc (v := nI (kz + 1)) (lv' := [(7, .int (nI (kz + 1))), (6, .int ((nI w) - (nI (cAg C)))), (5, .int (nI (w * 4))), (4, .int (nI w)), (0, .ref h0), (1, .ref g0), (2, .int (nI a)), (3, .int (nI b))]) hx hb dX8_reckonLight_185 hl (k := 0) rfl (nI_add kz 1) (by decide) rfl (fun ls hl => ?_)
                    refine lv_goto (tgt := 131) hx hb dX8_reckonLight_188 (by decide) ?_
                    have o_14 : (kz + 1) ≤ cLa C := by omega
                    have o_15 : rF C pl (upd fZ ((w * 4) + kz) (nI (min 999 ((Ls C pl (pl kz w) w (cLa C)) - (Gi C pl w kz))))) w (kz + 1) := by exact rF_up rf3 (by rw [(Fa_Li hC3 w kz (by omega)).2, Li_Ls])
                    have o_16 : kpt fX (upd fZ ((w * 4) + kz) (nI (min 999 ((Ls C pl (pl kz w) w (cLa C)) - (Gi C pl w kz))))) (w * 4) := by exact kpt_up k6 (by omega)
                    have o_17 : cLa C + 1 ≤ (kz + 1) + n_131 := by omega
                    exact ih_131 (kz + 1) (upd fZ ((w * 4) + kz) (nI (min 999 ((Ls C pl (pl kz w) w (cLa C)) - (Gi C pl w kz))))) o_14 o_15 o_16 o_17 _ _ hP hD hS ls (lv_sub hl [0, 1, 2, 3, 4, 5, 6, 7] rfl)
              have o_18 : 0 ≤ cLa C := by omega
              have o_19 : rF C pl fX w 0 := by intro k h; omega
              have o_20 : kpt fX fX (w * 4) := by exact kpt_rf _ _
              have o_21 : cLa C + 1 ≤ 0 + (cLa C + 1) := by omega
              exact L_131 (cLa C + 1) 0 fX o_18 o_19 o_20 o_21 _ _ hP hD hS ls (lv_sub hl [0, 1, 2, 3, 4, 5, 6, 7] rfl)
            · skip
              refine lv_iload hx hb dX8_reckonLight_54 (lv_at hl 1 rfl) ?_
              refine lv_if_ge (tgt := 63) hx hb dX8_reckonLight_56 (by decide) (fun c_22 => ?_) (fun c_22 => ?_)
              · skip
                have hge := kk_sub_ge (by omega) (by omega) c_22
                refine lv_aload_n hx hb dX8_reckonLight_63 rfl (lv_at hl 5 rfl) ?_
                refine va_get (D := D) (ci := 1) (v := .ref g3) (C := RX2) (T := TX2) (N := 8) hx hb hts hwX2 hown hK hP 6 rfl rfl 5 (by decide) hf_60 (fun _ h9 => h9) rfl dX8_reckonLight_64 ?_
                refine lv_iload hx hb dX8_reckonLight_67 (lv_at hl 0 rfl) ?_
                refine kk_iald hx hb hK hP 7 rfl rfl (i := k) (by omega) (by decide) dX8_reckonLight_69 ?_
                refine kk_top (y := nI (cKi C k)) (hki k (by omega)) ?_
                have hkk := (hC6 k (by omega)).1
                refine lv_aload_n hx hb dX8_reckonLight_70 rfl (lv_at hl 4 rfl) ?_
                refine va_get (D := D) (ci := 7) (v := .ref h3) (C := RX8) (T := TX8) (N := 5) hx hb hts hwX8 hown hK hP 0 rfl rfl 2 (by decide) hf_18 (fun _ h9 => h9) rfl dX8_reckonLight_71 ?_
                refine lv_iload hx hb dX8_reckonLight_74 (lv_at hl 1 rfl) ?_
                refine kk_top (y := nI (w - cAg C)) (pk_sub hge) ?_
                refine lv_iload hx hb dX8_reckonLight_76 (lv_at hl 0 rfl) ?_
                refine vp_callSi (W.runS (As := [.int (nI (w - cAg C)), .int (nI k)]) (rest := [.ref h3, .int (nI (cKi C k))]) ⟨hx, hb, hml, hown, hts⟩ (c_X8_at lL D cI cS (w - cAg C) k) (va_cwS 2 hts gX8_reckonLight_X8_at rfl rfl rfl cd_X8_at ⟨Nat.le_of_ble_eq_true rfl, Nat.le_of_ble_eq_true rfl⟩) ⟨kBp_blind, fun U hU hW => ⟨rfl, by rw [hU]; exact hP.sub [] rfl, va_K.moved hW.alike hK⟩⟩ rfl rfl hl.1 rfl (lv_room (Nat.le_of_ble_eq_true rfl)) dX8_reckonLight_78 ⟨Nat.le_of_ble_eq_true rfl, Nat.le_of_ble_eq_true rfl⟩) (fun r_23 hw_23 => ?_)
                obtain rfl : r_23 = nI ((w - cAg C) * 4 + k) := hw_23
                refine kk_iald hx hb hK hP 3 rfl rfl (i := (w - cAg C) * 4 + k) (by omega) (by decide) dX8_reckonLight_81 ?_
                refine kk_top (y := nI (Fa C pl (w - cAg C) k)) (F1 (w - cAg C) (by omega) (by omega) k (by omega)) ?_
                have hfl := Fa_le (C := C) (pl := pl) hC3 (w - cAg C) k
                have o_24 : (cKi C k) ≤ 3 := by omega
                have o_25 : (Fa C pl (w - cAg C) k) ≤ 999 := by omega
                refine vp_callSi (W.runS (As := [.int (nI (cKi C k)), .int (nI (Fa C pl (w - cAg C) k))]) (rest := []) ⟨hx, hb, hml, hown, hts⟩ (c_X8_glow lL D cI cS (cKi C k) (Fa C pl (w - cAg C) k) o_24 o_25) (va_cwS 2 hts gX8_reckonLight_X8_glow rfl rfl rfl cd_X8_glow ⟨Nat.le_of_ble_eq_true rfl, Nat.le_of_ble_eq_true rfl⟩) ⟨kBp_blind, fun U hU hW => ⟨rfl, by rw [hU]; exact hP.sub [] rfl, va_K.moved hW.alike hK⟩⟩ rfl rfl hl.1 rfl (lv_room (Nat.le_of_ble_eq_true rfl)) dX8_reckonLight_82 ⟨Nat.le_of_ble_eq_true rfl, Nat.le_of_ble_eq_true rfl⟩) (fun r_26 hw_26 => ?_)
                obtain rfl : r_26 = nI (glow (cKi C k) (Fa C pl (w - cAg C) k)) := hw_26
                refine kk_top (y := nI (Gi C pl w k)) ((by rw [Gi, if_neg (by omega)])) ?_
                refine lv_istore (lv' := [(8, .int (nI (Gi C pl w k))), (7, .int (nI k)), (6, .int ((nI w) - (nI (cAg C)))), (5, .int (nI (w * 4))), (4, .int (nI w)), (0, .ref h0), (1, .ref g0), (2, .int (nI a)), (3, .int (nI b))]) hx hb dX8_reckonLight_85 hl (by decide) rfl (fun ls hl => ?_)
                refine lv_aload_n hx hb dX8_reckonLight_87 rfl (lv_at hl 5 rfl) ?_
                refine va_get (D := D) (ci := 7) (v := .ref h2) (C := RX8) (T := TX8) (N := 5) hx hb hts hwX8 hown hK hP 0 rfl rfl 1 (by decide) hf_15 (fun _ h9 => h9) rfl dX8_reckonLight_88 ?_
                refine lv_iload hx hb dX8_reckonLight_91 (lv_at hl 3 rfl) ?_
                refine lv_iload hx hb dX8_reckonLight_93 (lv_at hl 1 rfl) ?_
                refine kk_iadd hx hb dX8_reckonLight_95 ?_
                refine lv_iload hx hb dX8_reckonLight_96 (lv_at hl 0 rfl) ?_
                refine kk_iast hx hb hK hP hD hS 2 rfl rfl (i := (w * 4) + k) (by omega) (by decide) dX8_reckonLight_98 (fun H locs hP hD hS => ?_)
                have hP : va_P D vwCl [(h0, .inr (7, [.ref h1, .ref h2, .ref h3, .ref h4, .ref h5])), (h1, .inl (cI, 96, .inl pA)), (h2, .inl (cI, 96, .inl (upd gY ((w * 4) + k) (nI (Gi C pl w k))))), (h3, .inl (cI, 96, .inl fX)), (h4, .inl (cI, 96, .inl dA)), (h5, .inl (cI, 96, .inl lY)), (g0, .inr (1, [.int (nI (cSp C)), .int (nI (cLa C)), .int (nI (cAg C)), .ref g1, .ref g2, .ref g3, .ref g4, .ref g5])), (g3, .inl (cI, 4, .inl ki))] H := hP
                have hD : va_D A [(h0, .inr (7, [.ref h1, .ref h2, .ref h3, .ref h4, .ref h5])), (h1, .inl (cI, 96, .inl pA)), (h2, .inl (cI, 96, .inl (upd gY ((w * 4) + k) (nI (Gi C pl w k))))), (h3, .inl (cI, 96, .inl fX)), (h4, .inl (cI, 96, .inl dA)), (h5, .inl (cI, 96, .inl lY)), (g0, .inr (1, [.int (nI (cSp C)), .int (nI (cLa C)), .int (nI (cAg C)), .ref g1, .ref g2, .ref g3, .ref g4, .ref g5])), (g3, .inl (cI, 4, .inl ki))] := hD
                refine lv_aload_n hx hb dX8_reckonLight_99 rfl (lv_at hl 5 rfl) ?_
                refine va_get (D := D) (ci := 7) (v := .ref h5) (C := RX8) (T := TX8) (N := 5) hx hb hts hwX8 hown hK hP 0 rfl rfl 4 (by decide) hf_24 (fun _ h9 => h9) rfl dX8_reckonLight_100 ?_
                refine lv_iload hx hb dX8_reckonLight_103 (lv_at hl 3 rfl) ?_
                refine lv_aload_n hx hb dX8_reckonLight_105 rfl (lv_at hl 5 rfl) ?_
                refine va_get (D := D) (ci := 7) (v := .ref h1) (C := RX8) (T := TX8) (N := 5) hx hb hts hwX8 hown hK hP 0 rfl rfl 0 (by decide) hf_11 (fun _ h9 => h9) rfl dX8_reckonLight_106 ?_
                refine lv_iload hx hb dX8_reckonLight_109 (lv_at hl 3 rfl) ?_
                refine lv_iload hx hb dX8_reckonLight_111 (lv_at hl 1 rfl) ?_
                refine kk_iadd hx hb dX8_reckonLight_113 ?_
                refine kk_iald hx hb hK hP 1 rfl rfl (i := (w * 4) + k) (by omega) (by decide) dX8_reckonLight_114 ?_
                refine kk_top (y := nI (pl k w)) (tP0 w (by omega) (by omega) k (by omega)) ?_
                have hpk := hpl k (by omega) w (by omega)
                refine kk_iadd hx hb dX8_reckonLight_115 ?_
                refine lv_dup2_11 hx hb dX8_reckonLight_116 rfl rfl ?_
                refine kk_iald hx hb hK hP 5 rfl rfl (i := (w * 4) + (pl k w)) (by omega) (by decide) dX8_reckonLight_117 ?_
                refine kk_top (y := nI (Ls C pl (pl k w) w k)) (rl2 (pl k w) hpk) ?_
                refine lv_iload hx hb dX8_reckonLight_118 (lv_at hl 0 rfl) ?_
                refine kk_iadd hx hb dX8_reckonLight_120 ?_
                refine kk_iast hx hb hK hP hD hS 5 rfl rfl (i := (w * 4) + (pl k w)) (by omega) (by decide) dX8_reckonLight_121 (fun H locs hP hD hS => ?_)
                have hP : va_P D vwCl [(h0, .inr (7, [.ref h1, .ref h2, .ref h3, .ref h4, .ref h5])), (h1, .inl (cI, 96, .inl pA)), (h2, .inl (cI, 96, .inl (upd gY ((w * 4) + k) (nI (Gi C pl w k))))), (h3, .inl (cI, 96, .inl fX)), (h4, .inl (cI, 96, .inl dA)), (h5, .inl (cI, 96, .inl (upd lY ((w * 4) + (pl k w)) (nI ((Ls C pl (pl k w) w k) + (Gi C pl w k)))))), (g0, .inr (1, [.int (nI (cSp C)), .int (nI (cLa C)), .int (nI (cAg C)), .ref g1, .ref g2, .ref g3, .ref g4, .ref g5])), (g3, .inl (cI, 4, .inl ki))] H := hP
                have hD : va_D A [(h0, .inr (7, [.ref h1, .ref h2, .ref h3, .ref h4, .ref h5])), (h1, .inl (cI, 96, .inl pA)), (h2, .inl (cI, 96, .inl (upd gY ((w * 4) + k) (nI (Gi C pl w k))))), (h3, .inl (cI, 96, .inl fX)), (h4, .inl (cI, 96, .inl dA)), (h5, .inl (cI, 96, .inl (upd lY ((w * 4) + (pl k w)) (nI ((Ls C pl (pl k w) w k) + (Gi C pl w k)))))), (g0, .inr (1, [.int (nI (cSp C)), .int (nI (cLa C)), .int (nI (cAg C)), .ref g1, .ref g2, .ref g3, .ref g4, .ref g5])), (g3, .inl (cI, 4, .inl ki))] := hD
                refine lv_iinc (v := nI (k + 1)) (lv' := [(7, .int (nI (k + 1))), (8, .int (nI (Gi C pl w k))), (6, .int ((nI w) - (nI (cAg C)))), (5, .int (nI (w * 4))), (4, .int (nI w)), (0, .ref h0), (1, .ref g0), (2, .int (nI a)), (3, .int (nI b))]) hx hb dX8_reckonLight_122 hl (k := 1) rfl (nI_add k 1) (by decide) rfl (fun ls hl => ?_)
                refine lv_goto (tgt := 45) hx hb dX8_reckonLight_125 (by decide) ?_
                have o_27 : (k + 1) ≤ cLa C := by omega
                have o_28 : rG C pl (upd gY ((w * 4) + k) (nI (Gi C pl w k))) w (k + 1) := by exact rG_up rg2 rfl
                have o_29 : rL C pl (upd lY ((w * 4) + (pl k w)) (nI ((Ls C pl (pl k w) w k) + (Gi C pl w k)))) w (k + 1) := by exact rL_up rl2 rfl
                have o_30 : kpt gX (upd gY ((w * 4) + k) (nI (Gi C pl w k))) (w * 4) := by exact kpt_up k4 (by omega)
                have o_31 : kpt lX (upd lY ((w * 4) + (pl k w)) (nI ((Ls C pl (pl k w) w k) + (Gi C pl w k)))) (w * 4) := by exact kpt_up k5 (by omega)
                have o_32 : cLa C + 1 ≤ (k + 1) + n_45 := by omega
                exact ih_45 (k + 1) (upd gY ((w * 4) + k) (nI (Gi C pl w k))) (upd lY ((w * 4) + (pl k w)) (nI ((Ls C pl (pl k w) w k) + (Gi C pl w k)))) o_27 o_28 o_29 o_30 o_31 o_32 _ _ hP hD hS ls (lv_sub hl [0, 2, 3, 4, 5, 6, 7, 8] rfl)
              · skip
                have hlt := kk_sub_lt (by omega) (by omega) c_22
                refine lv_iconst (v := nI 0) hx hb dX8_reckonLight_59 (by decide +kernel) ?_
                refine lv_goto (tgt := 85) hx hb dX8_reckonLight_60 (by decide) ?_
                refine kk_top (y := nI (Gi C pl w k)) ((by rw [Gi, if_pos hlt])) ?_
                refine lv_istore (lv' := [(8, .int (nI (Gi C pl w k))), (7, .int (nI k)), (6, .int ((nI w) - (nI (cAg C)))), (5, .int (nI (w * 4))), (4, .int (nI w)), (0, .ref h0), (1, .ref g0), (2, .int (nI a)), (3, .int (nI b))]) hx hb dX8_reckonLight_85 hl (by decide) rfl (fun ls hl => ?_)
                refine lv_aload_n hx hb dX8_reckonLight_87 rfl (lv_at hl 5 rfl) ?_
                refine va_get (D := D) (ci := 7) (v := .ref h2) (C := RX8) (T := TX8) (N := 5) hx hb hts hwX8 hown hK hP 0 rfl rfl 1 (by decide) hf_15 (fun _ h9 => h9) rfl dX8_reckonLight_88 ?_
                refine lv_iload hx hb dX8_reckonLight_91 (lv_at hl 3 rfl) ?_
                refine lv_iload hx hb dX8_reckonLight_93 (lv_at hl 1 rfl) ?_
                refine kk_iadd hx hb dX8_reckonLight_95 ?_
                refine lv_iload hx hb dX8_reckonLight_96 (lv_at hl 0 rfl) ?_
                refine kk_iast hx hb hK hP hD hS 2 rfl rfl (i := (w * 4) + k) (by omega) (by decide) dX8_reckonLight_98 (fun H locs hP hD hS => ?_)
                have hP : va_P D vwCl [(h0, .inr (7, [.ref h1, .ref h2, .ref h3, .ref h4, .ref h5])), (h1, .inl (cI, 96, .inl pA)), (h2, .inl (cI, 96, .inl (upd gY ((w * 4) + k) (nI (Gi C pl w k))))), (h3, .inl (cI, 96, .inl fX)), (h4, .inl (cI, 96, .inl dA)), (h5, .inl (cI, 96, .inl lY)), (g0, .inr (1, [.int (nI (cSp C)), .int (nI (cLa C)), .int (nI (cAg C)), .ref g1, .ref g2, .ref g3, .ref g4, .ref g5])), (g3, .inl (cI, 4, .inl ki))] H := hP
                have hD : va_D A [(h0, .inr (7, [.ref h1, .ref h2, .ref h3, .ref h4, .ref h5])), (h1, .inl (cI, 96, .inl pA)), (h2, .inl (cI, 96, .inl (upd gY ((w * 4) + k) (nI (Gi C pl w k))))), (h3, .inl (cI, 96, .inl fX)), (h4, .inl (cI, 96, .inl dA)), (h5, .inl (cI, 96, .inl lY)), (g0, .inr (1, [.int (nI (cSp C)), .int (nI (cLa C)), .int (nI (cAg C)), .ref g1, .ref g2, .ref g3, .ref g4, .ref g5])), (g3, .inl (cI, 4, .inl ki))] := hD
                refine lv_aload_n hx hb dX8_reckonLight_99 rfl (lv_at hl 5 rfl) ?_
                refine va_get (D := D) (ci := 7) (v := .ref h5) (C := RX8) (T := TX8) (N := 5) hx hb hts hwX8 hown hK hP 0 rfl rfl 4 (by decide) hf_24 (fun _ h9 => h9) rfl dX8_reckonLight_100 ?_
                refine lv_iload hx hb dX8_reckonLight_103 (lv_at hl 3 rfl) ?_
                refine lv_aload_n hx hb dX8_reckonLight_105 rfl (lv_at hl 5 rfl) ?_
                refine va_get (D := D) (ci := 7) (v := .ref h1) (C := RX8) (T := TX8) (N := 5) hx hb hts hwX8 hown hK hP 0 rfl rfl 0 (by decide) hf_11 (fun _ h9 => h9) rfl dX8_reckonLight_106 ?_
                refine lv_iload hx hb dX8_reckonLight_109 (lv_at hl 3 rfl) ?_
                refine lv_iload hx hb dX8_reckonLight_111 (lv_at hl 1 rfl) ?_
                refine kk_iadd hx hb dX8_reckonLight_113 ?_
                refine kk_iald hx hb hK hP 1 rfl rfl (i := (w * 4) + k) (by omega) (by decide) dX8_reckonLight_114 ?_
                refine kk_top (y := nI (pl k w)) (tP0 w (by omega) (by omega) k (by omega)) ?_
                have hpk := hpl k (by omega) w (by omega)
                refine kk_iadd hx hb dX8_reckonLight_115 ?_
                refine lv_dup2_11 hx hb dX8_reckonLight_116 rfl rfl ?_
                refine kk_iald hx hb hK hP 5 rfl rfl (i := (w * 4) + (pl k w)) (by omega) (by decide) dX8_reckonLight_117 ?_
                refine kk_top (y := nI (Ls C pl (pl k w) w k)) (rl2 (pl k w) hpk) ?_
                refine lv_iload hx hb dX8_reckonLight_118 (lv_at hl 0 rfl) ?_
                refine kk_iadd hx hb dX8_reckonLight_120 ?_
                refine kk_iast hx hb hK hP hD hS 5 rfl rfl (i := (w * 4) + (pl k w)) (by omega) (by decide) dX8_reckonLight_121 (fun H locs hP hD hS => ?_)
                have hP : va_P D vwCl [(h0, .inr (7, [.ref h1, .ref h2, .ref h3, .ref h4, .ref h5])), (h1, .inl (cI, 96, .inl pA)), (h2, .inl (cI, 96, .inl (upd gY ((w * 4) + k) (nI (Gi C pl w k))))), (h3, .inl (cI, 96, .inl fX)), (h4, .inl (cI, 96, .inl dA)), (h5, .inl (cI, 96, .inl (upd lY ((w * 4) + (pl k w)) (nI ((Ls C pl (pl k w) w k) + (Gi C pl w k)))))), (g0, .inr (1, [.int (nI (cSp C)), .int (nI (cLa C)), .int (nI (cAg C)), .ref g1, .ref g2, .ref g3, .ref g4, .ref g5])), (g3, .inl (cI, 4, .inl ki))] H := hP
                have hD : va_D A [(h0, .inr (7, [.ref h1, .ref h2, .ref h3, .ref h4, .ref h5])), (h1, .inl (cI, 96, .inl pA)), (h2, .inl (cI, 96, .inl (upd gY ((w * 4) + k) (nI (Gi C pl w k))))), (h3, .inl (cI, 96, .inl fX)), (h4, .inl (cI, 96, .inl dA)), (h5, .inl (cI, 96, .inl (upd lY ((w * 4) + (pl k w)) (nI ((Ls C pl (pl k w) w k) + (Gi C pl w k)))))), (g0, .inr (1, [.int (nI (cSp C)), .int (nI (cLa C)), .int (nI (cAg C)), .ref g1, .ref g2, .ref g3, .ref g4, .ref g5])), (g3, .inl (cI, 4, .inl ki))] := hD
                refine lv_iinc (v := nI (k + 1)) (lv' := [(7, .int (nI (k + 1))), (8, .int (nI (Gi C pl w k))), (6, .int ((nI w) - (nI (cAg C)))), (5, .int (nI (w * 4))), (4, .int (nI w)), (0, .ref h0), (1, .ref g0), (2, .int (nI a)), (3, .int (nI b))]) hx hb dX8_reckonLight_122 hl (k := 1) rfl (nI_add k 1) (by decide) rfl (fun ls hl => ?_)
                refine lv_goto (tgt := 45) hx hb dX8_reckonLight_125 (by decide) ?_
                have o_33 : (k + 1) ≤ cLa C := by omega
                have o_34 : rG C pl (upd gY ((w * 4) + k) (nI (Gi C pl w k))) w (k + 1) := by exact rG_up rg2 rfl
                have o_35 : rL C pl (upd lY ((w * 4) + (pl k w)) (nI ((Ls C pl (pl k w) w k) + (Gi C pl w k)))) w (k + 1) := by exact rL_up rl2 rfl
                have o_36 : kpt gX (upd gY ((w * 4) + k) (nI (Gi C pl w k))) (w * 4) := by exact kpt_up k4 (by omega)
                have o_37 : kpt lX (upd lY ((w * 4) + (pl k w)) (nI ((Ls C pl (pl k w) w k) + (Gi C pl w k)))) (w * 4) := by exact kpt_up k5 (by omega)
                have o_38 : cLa C + 1 ≤ (k + 1) + n_45 := by omega
                exact ih_45 (k + 1) (upd gY ((w * 4) + k) (nI (Gi C pl w k))) (upd lY ((w * 4) + (pl k w)) (nI ((Ls C pl (pl k w) w k) + (Gi C pl w k)))) o_33 o_34 o_35 o_36 o_37 o_38 _ _ hP hD hS ls (lv_sub hl [0, 2, 3, 4, 5, 6, 7, 8] rfl)
        have o_39 : 0 ≤ cLa C := by omega
        have o_40 : rG C pl gX w 0 := by intro k h; omega
        have o_41 : rL C pl (va_cpy dA lX (w * 4) (w * 4) 4) w 0 := by exact rL_0 hC1 tD0 hw1 (by omega)
        have o_42 : kpt gX gX (w * 4) := by exact kpt_rf _ _
        have o_43 : kpt lX (va_cpy dA lX (w * 4) (w * 4) 4) (w * 4) := by exact kpt_cpy _ _ _ _
        have o_44 : cLa C + 1 ≤ 0 + (cLa C + 1) := by omega
        exact L_45 (cLa C + 1) 0 gX (va_cpy dA lX (w * 4) (w * 4) 4) o_39 o_40 o_41 o_42 o_43 o_44 _ _ hP hD hS ls (lv_sub hl [0, 1, 2, 3, 4, 5, 6, 7] rfl)
  have o_45 : a ≤ a := by omega
  have o_46 : a ≤ b + 1 := by omega
  have o_47 : kpt gA gA (a * 4) := by exact kpt_rf _ _
  have o_48 : kpt fA fA (a * 4) := by exact kpt_rf _ _
  have o_49 : kpt lA lA (a * 4) := by exact kpt_rf _ _
  have o_50 : tG C pl gA a a := by intro w h1 h2; omega
  have o_51 : tF C pl fA 0 a := by exact tF0
  have o_52 : tL C pl lA a a := by intro w h1 h2; omega
  have o_53 : b + 2 ≤ a + (b + 2) := by omega
  exact L_3 (b + 2) a gA fA lA o_45 o_46 o_47 o_48 o_49 o_50 o_51 o_52 o_53 _ _ hP hD hS ls (lv_sub hl [0, 1, 2, 3, 4] rfl)
