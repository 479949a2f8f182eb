def hasC (len : Nat) (x y : Int32) : Bool := decide (0 ≤ x.toInt ∧ x.toInt ≤ (len : Int) ∧ 0 ≤ y.toInt ∧ y.toInt ≤ (len : Int) - x.toInt)
def cutL (rl v : Int32) : Int32 := if rl = 0 then v.toInt8.toInt32 else if rl = nI 1 then v.toInt16.toInt32 else v
def lostC : Int64 := -9223372036854775808
def trc (tr : Int32) (n : Nat) : Int32 := nI 31 * tr + nI n
theorem kk_le_of2 {x : Int32} {n : Nat} (h1 : ¬ x < 0) (h2 : ¬ nI n < x) (hn : n < 2 ^ 31) : ∃ k, k ≤ n ∧ x = nI k := by
  rw [kk_0] at h1
  rw [kk_gt hn] at h2
  obtain ⟨h3, h4⟩ := kk_ofInt (x := x) (by omega)
  exact ⟨x.toInt.toNat, by omega, h4⟩
theorem cd_X8_countBelow : yX8_countBelow.cls = RX8 ∧ yX8_countBelow.cls ≠ "java/lang/invoke/MethodHandle" ∧ yX8_countBelow.cls ≠ "java/lang/invoke/VarHandle" ∧ (parseMethodDescriptor yX8_countBelow.desc).map (fun d => d.parameters.length) = some 2 := by decide +kernel
theorem cd_X8_lightOf : yX8_lightOf.cls = RX8 ∧ yX8_lightOf.cls ≠ "java/lang/invoke/MethodHandle" ∧ yX8_lightOf.cls ≠ "java/lang/invoke/VarHandle" ∧ (parseMethodDescriptor yX8_lightOf.desc).map (fun d => d.parameters.length) = some 2 := by decide +kernel
theorem cd_X9_isWithin : yX9_isWithin.cls ≠ "java/lang/invoke/MethodHandle" ∧ yX9_isWithin.cls ≠ "java/lang/invoke/VarHandle" ∧ (parseMethodDescriptor yX9_isWithin.desc).map (fun d => d.parameters.length) = some 3 := by decide +kernel
theorem cd_X9_leave : yX9_leave.cls = RX9 ∧ yX9_leave.cls ≠ "java/lang/invoke/MethodHandle" ∧ yX9_leave.cls ≠ "java/lang/invoke/VarHandle" ∧ (parseMethodDescriptor yX9_leave.desc).map (fun d => d.parameters.length) = some 1 := by decide +kernel
theorem cd_X9_tellAsLamp : yX9_tellAsLamp.cls = RX9 ∧ yX9_tellAsLamp.cls ≠ "java/lang/invoke/MethodHandle" ∧ yX9_tellAsLamp.cls ≠ "java/lang/invoke/VarHandle" ∧ (parseMethodDescriptor yX9_tellAsLamp.desc).map (fun d => d.parameters.length) = some 1 := by decide +kernel
theorem cd_X9_tellAsMirrored : yX9_tellAsMirrored.cls = RX9 ∧ yX9_tellAsMirrored.cls ≠ "java/lang/invoke/MethodHandle" ∧ yX9_tellAsMirrored.cls ≠ "java/lang/invoke/VarHandle" ∧ (parseMethodDescriptor yX9_tellAsMirrored.desc).map (fun d => d.parameters.length) = some 1 := by decide +kernel
abbrev rmX6_isNothing : Room := { frames := 0, cells := 0, slots := 0, locals := 0 }
set_option maxHeartbeats 4000000 in
set_option maxRecDepth 100000 in
theorem c_X6_isNothing (lL : Launch) (D : va_G) (cI cS : ClassId) (s0 : Nat) (c0 : Nat) (len : Nat) (rl : Int32) : Met lL yX6_isNothing wsX6_isNothing rmX6_isNothing (va_Pc [.ref s0] (kBp D cI cS [(s0, .inr (5, [.ref c0, .int (nI len), .int rl]))])) (vp_Si (fun r : Int32 => r = kb (decide (rl = (-1 : Int32))))) 0 0 (fun _ => False) := by
  refine Met.ofW (cc := cX6_isNothing) (maxL := 1) (ret := (some .boolean)) (by decide) rfl ?_
  intro pP eE sS mM args below meth cC s₁ B hml hv
  obtain ⟨rfl, hP, hK⟩ := hv
  have hx := B.exec
  have hb := B.bytes
  have hr := B.returns
  have hts := atoms_spec (ws := wsX6_isNothing) B.pre
  have hown : sS.vm.findClass RX6 = some mM.cls := findClass_of_methodNamed B.named
  have hlocks := B.notSynchronized
  have hP : va_P D vwCl [(s0, .inr (5, [.ref c0, .int (nI len), .int rl]))] sS.heap := hP
  have hf_19 := hts (.fieldLink RX6 19 "OldLamps$Sheet" "rowLane" "I") (List.mem_of_getElem? (i := 1) rfl)
  have hwX6 : ∀ w ∈ wsX60, w ∈ wsX6_isNothing := fun _ h => List.mem_cons_of_mem _ (List.mem_append_right _ h)
  have hl := lv_entry ([.ref s0]) (n := 1) (Nat.le_of_ble_eq_true rfl)
  rw [lg_entry_eq]
  generalize (lg_sl ([.ref s0]) ++ List.replicate (1 - (lg_sl ([.ref s0])).length) Slot.unset).toArray = ls at hl ⊢
  have hl : lv_has ls 1 [(0, .ref s0)] := hl
  obtain ⟨QQ, hQQ⟩ : ∃ QQ : State → Prop, QQ = MQ below (vp_Si (fun r : Int32 => r = kb (decide (rl = (-1 : Int32))))) ([.ref s0]).toArray sS 0 0 (fun _ => False) := ⟨_, rfl⟩
  refine kk_QQ hQQ.symm ?_
  refine lv_aload_n hx hb dX6_isNothing_0 rfl (lv_at hl 0 rfl) ?_
  refine va_get (D := D) (ci := 5) (v := .int rl) (C := RX6) (T := TX6) (N := 3) hx hb hts hwX6 hown hK hP 0 rfl rfl 2 (by decide) hf_19 (fun _ h9 => h9) rfl dX6_isNothing_1 ?_
  refine lv_iconst (v := (-1 : Int32)) hx hb dX6_isNothing_4 (by decide +kernel) ?_
  refine lv_icmp_ne (tgt := 12) hx hb dX6_isNothing_5 (by decide) (fun c_1 => ?_) (fun c_1 => ?_)
  · skip
    refine lv_iconst (v := nI 0) hx hb dX6_isNothing_12 (by decide +kernel) ?_
    have hq : nI 0 = kb (decide (rl = (-1 : Int32))) := by rw [decide_eq_false c_1]; rfl
    refine kk_QQ hQQ ?_
    exact W.zret (v := nI 0) (ty := .boolean) hx hb hr (by decide +kernel) (fun t ht hW => ⟨nI 0, rfl, hq, ht⟩) (fun q h => by cases h) dX6_isNothing_13
  · skip
    refine lv_iconst (v := nI 1) hx hb dX6_isNothing_8 (by decide +kernel) ?_
    refine lv_goto (tgt := 13) hx hb dX6_isNothing_9 (by decide) ?_
    have hq : nI 1 = kb (decide (rl = (-1 : Int32))) := by rw [decide_eq_true c_1]; rfl
    refine kk_QQ hQQ ?_
    exact W.zret (v := nI 1) (ty := .boolean) hx hb hr (by decide +kernel) (fun t ht hW => ⟨nI 1, rfl, hq, ht⟩) (fun q h => by cases h) dX6_isNothing_13

abbrev rmX6_isOfAnotherLane : Room := { frames := 0, cells := 0, slots := 0, locals := 0 }
set_option maxHeartbeats 4000000 in
set_option maxRecDepth 100000 in
theorem c_X6_isOfAnotherLane (lL : Launch) (D : va_G) (cI cS : ClassId) (s0 : Nat) (c0 : Nat) (len : Nat) (rl : Int32) (x : Int32) : Met lL yX6_isOfAnotherLane wsX6_isOfAnotherLane rmX6_isOfAnotherLane (va_Pc [.ref s0, .int x] (kBp D cI cS [(s0, .inr (5, [.ref c0, .int (nI len), .int rl]))])) (vp_Si (fun r : Int32 => r = kb (decide (rl ≠ (-1 : Int32) ∧ rl ≠ x)))) 0 0 (fun _ => False) := by
  refine Met.ofW (cc := cX6_isOfAnotherLane) (maxL := 2) (ret := (some .boolean)) (by decide) rfl ?_
  intro pP eE sS mM args below meth cC s₁ B hml hv
  obtain ⟨rfl, hP, hK⟩ := hv
  have hx := B.exec
  have hb := B.bytes
  have hr := B.returns
  have hts := atoms_spec (ws := wsX6_isOfAnotherLane) B.pre
  have hown : sS.vm.findClass RX6 = some mM.cls := findClass_of_methodNamed B.named
  have hlocks := B.notSynchronized
  have hP : va_P D vwCl [(s0, .inr (5, [.ref c0, .int (nI len), .int rl]))] sS.heap := hP
  have hf_19 := hts (.fieldLink RX6 19 "OldLamps$Sheet" "rowLane" "I") (List.mem_of_getElem? (i := 1) rfl)
  have hwX6 : ∀ w ∈ wsX60, w ∈ wsX6_isOfAnotherLane := fun _ h => List.mem_cons_of_mem _ (List.mem_append_right _ h)
  have hl := lv_entry ([.ref s0, .int x]) (n := 2) (Nat.le_of_ble_eq_true rfl)
  rw [lg_entry_eq]
  generalize (lg_sl ([.ref s0, .int x]) ++ List.replicate (2 - (lg_sl ([.ref s0, .int x])).length) Slot.unset).toArray = ls at hl ⊢
  have hl : lv_has ls 2 [(0, .ref s0), (1, .int x)] := hl
  obtain ⟨QQ, hQQ⟩ : ∃ QQ : State → Prop, QQ = MQ below (vp_Si (fun r : Int32 => r = kb (decide (rl ≠ (-1 : Int32) ∧ rl ≠ x)))) ([.ref s0, .int x]).toArray sS 0 0 (fun _ => False) := ⟨_, rfl⟩
  refine kk_QQ hQQ.symm ?_
  refine lv_aload_n hx hb dX6_isOfAnotherLane_0 rfl (lv_at hl 0 rfl) ?_
  refine va_get (D := D) (ci := 5) (v := .int rl) (C := RX6) (T := TX6) (N := 3) hx hb hts hwX6 hown hK hP 0 rfl rfl 2 (by decide) hf_19 (fun _ h9 => h9) rfl dX6_isOfAnotherLane_1 ?_
  refine lv_iconst (v := (-1 : Int32)) hx hb dX6_isOfAnotherLane_4 (by decide +kernel) ?_
  refine lv_icmp_eq (tgt := 20) hx hb dX6_isOfAnotherLane_5 (by decide) (fun c_1 => ?_) (fun c_1 => ?_)
  · skip
    refine lv_iconst (v := nI 0) hx hb dX6_isOfAnotherLane_20 (by decide +kernel) ?_
    have hq : nI 0 = kb (decide (rl ≠ (-1 : Int32) ∧ rl ≠ x)) := by rw [decide_eq_false (fun h => h.1 c_1)]; rfl
    refine kk_QQ hQQ ?_
    exact W.zret (v := nI 0) (ty := .boolean) hx hb hr (by decide +kernel) (fun t ht hW => ⟨nI 0, rfl, hq, ht⟩) (fun q h => by cases h) dX6_isOfAnotherLane_21
  · skip
    refine lv_aload_n hx hb dX6_isOfAnotherLane_8 rfl (lv_at hl 0 rfl) ?_
    refine va_get (D := D) (ci := 5) (v := .int rl) (C := RX6) (T := TX6) (N := 3) hx hb hts hwX6 hown hK hP 0 rfl rfl 2 (by decide) hf_19 (fun _ h9 => h9) rfl dX6_isOfAnotherLane_9 ?_
    refine lv_iload_n hx hb dX6_isOfAnotherLane_12 rfl (lv_at hl 1 rfl) ?_
    refine lv_icmp_eq (tgt := 20) hx hb dX6_isOfAnotherLane_13 (by decide) (fun c_2 => ?_) (fun c_2 => ?_)
    · skip
      refine lv_iconst (v := nI 0) hx hb dX6_isOfAnotherLane_20 (by decide +kernel) ?_
      have hq : nI 0 = kb (decide (rl ≠ (-1 : Int32) ∧ rl ≠ x)) := by rw [decide_eq_false (fun h => h.2 c_2)]; rfl
      refine kk_QQ hQQ ?_
      exact W.zret (v := nI 0) (ty := .boolean) hx hb hr (by decide +kernel) (fun t ht hW => ⟨nI 0, rfl, hq, ht⟩) (fun q h => by cases h) dX6_isOfAnotherLane_21
    · skip
      refine lv_iconst (v := nI 1) hx hb dX6_isOfAnotherLane_16 (by decide +kernel) ?_
      refine lv_goto (tgt := 21) hx hb dX6_isOfAnotherLane_17 (by decide) ?_
      have hq : nI 1 = kb (decide (rl ≠ (-1 : Int32) ∧ rl ≠ x)) := by rw [decide_eq_true ⟨c_1, c_2⟩]; rfl
      refine kk_QQ hQQ ?_
      exact W.zret (v := nI 1) (ty := .boolean) hx hb hr (by decide +kernel) (fun t ht hW => ⟨nI 1, rfl, hq, ht⟩) (fun q h => by cases h) dX6_isOfAnotherLane_21

abbrev rmX6_hasCells : Room := { frames := 0, cells := 0, slots := 0, locals := 0 }
set_option maxHeartbeats 4000000 in
set_option maxRecDepth 100000 in
theorem c_X6_hasCells (lL : Launch) (D : va_G) (cI cS : ClassId) (s0 : Nat) (c0 : Nat) (len : Nat) (rl : Int32) (x : Int32) (y : Int32) (hlen : len ≤ 60) : Met lL yX6_hasCells wsX6_hasCells rmX6_hasCells (va_Pc [.ref s0, .int x, .int y] (kBp D cI cS [(s0, .inr (5, [.ref c0, .int (nI len), .int rl]))])) (vp_Si (fun r : Int32 => r = kb (hasC len x y))) 0 0 (fun _ => False) := by
  refine Met.ofW (cc := cX6_hasCells) (maxL := 3) (ret := (some .boolean)) (by decide) rfl ?_
  intro pP eE sS mM args below meth cC s₁ B hml hv
  obtain ⟨rfl, hP, hK⟩ := hv
  have hx := B.exec
  have hb := B.bytes
  have hr := B.returns
  have hts := atoms_spec (ws := wsX6_hasCells) B.pre
  have hown : sS.vm.findClass RX6 = some mM.cls := findClass_of_methodNamed B.named
  have hlocks := B.notSynchronized
  have hP : va_P D vwCl [(s0, .inr (5, [.ref c0, .int (nI len), .int rl]))] sS.heap := hP
  have hf_15 := hts (.fieldLink RX6 15 "OldLamps$Sheet" "length" "I") (List.mem_of_getElem? (i := 1) rfl)
  have hwX6 : ∀ w ∈ wsX60, w ∈ wsX6_hasCells := fun _ h => List.mem_cons_of_mem _ (List.mem_append_right _ h)
  have hl := lv_entry ([.ref s0, .int x, .int y]) (n := 3) (Nat.le_of_ble_eq_true rfl)
  rw [lg_entry_eq]
  generalize (lg_sl ([.ref s0, .int x, .int y]) ++ List.replicate (3 - (lg_sl ([.ref s0, .int x, .int y])).length) Slot.unset).toArray = ls at hl ⊢
  have hl : lv_has ls 3 [(0, .ref s0), (1, .int x), (2, .int y)] := hl
  obtain ⟨QQ, hQQ⟩ : ∃ QQ : State → Prop, QQ = MQ below (vp_Si (fun r : Int32 => r = kb (hasC len x y))) ([.ref s0, .int x, .int y]).toArray sS 0 0 (fun _ => False) := ⟨_, rfl⟩
  refine kk_QQ hQQ.symm ?_
  refine lv_iload_n hx hb dX6_hasCells_0 rfl (lv_at hl 1 rfl) ?_
  refine lv_if_lt (tgt := 30) hx hb dX6_hasCells_1 (by decide) (fun c_1 => ?_) (fun c_1 => ?_)
  · skip
    refine lv_iconst (v := nI 0) hx hb dX6_hasCells_30 (by decide +kernel) ?_
    have hq : nI 0 = kb (hasC len x y) := by
      rw [kk_0] at c_1
      exact (congrArg kb (show hasC len x y = false from decide_eq_false (by omega))).symm
    refine kk_QQ hQQ ?_
    exact W.zret (v := nI 0) (ty := .boolean) hx hb hr (by decide +kernel) (fun t ht hW => ⟨nI 0, rfl, hq, ht⟩) (fun q h => by cases h) dX6_hasCells_31
  · skip
    refine lv_iload_n hx hb dX6_hasCells_4 rfl (lv_at hl 1 rfl) ?_
    refine lv_aload_n hx hb dX6_hasCells_5 rfl (lv_at hl 0 rfl) ?_
    refine va_get (D := D) (ci := 5) (v := .int (nI len)) (C := RX6) (T := TX6) (N := 3) hx hb hts hwX6 hown hK hP 0 rfl rfl 1 (by decide) hf_15 (fun _ h9 => h9) rfl dX6_hasCells_6 ?_
    refine lv_icmp_gt (tgt := 30) hx hb dX6_hasCells_9 (by decide) (fun c_2 => ?_) (fun c_2 => ?_)
    · skip
      refine lv_iconst (v := nI 0) hx hb dX6_hasCells_30 (by decide +kernel) ?_
      have hq : nI 0 = kb (hasC len x y) := by
        rw [kk_gt (by omega)] at c_2
        exact (congrArg kb (show hasC len x y = false from decide_eq_false (by omega))).symm
      refine kk_QQ hQQ ?_
      exact W.zret (v := nI 0) (ty := .boolean) hx hb hr (by decide +kernel) (fun t ht hW => ⟨nI 0, rfl, hq, ht⟩) (fun q h => by cases h) dX6_hasCells_31
    · skip
      obtain ⟨xN, hxN, rfl⟩ := kk_le_of2 c_1 c_2 (by omega)
      have t_x := nI_clamp (show xN < 2 ^ 31 by omega)
      refine lv_iload_n hx hb dX6_hasCells_12 rfl (lv_at hl 2 rfl) ?_
      refine lv_if_lt (tgt := 30) hx hb dX6_hasCells_13 (by decide) (fun c_3 => ?_) (fun c_3 => ?_)
      · skip
        refine lv_iconst (v := nI 0) hx hb dX6_hasCells_30 (by decide +kernel) ?_
        have hq : nI 0 = kb (hasC len (nI xN) y) := by
          have e := nI_toInt (show xN < 2 ^ 31 by omega)
          rw [kk_0] at c_3
          exact (congrArg kb (show hasC len (nI xN) y = false from decide_eq_false (by rw [e]; omega))).symm
        refine kk_QQ hQQ ?_
        exact W.zret (v := nI 0) (ty := .boolean) hx hb hr (by decide +kernel) (fun t ht hW => ⟨nI 0, rfl, hq, ht⟩) (fun q h => by cases h) dX6_hasCells_31
      · skip
        refine lv_iload_n hx hb dX6_hasCells_16 rfl (lv_at hl 2 rfl) ?_
        refine lv_aload_n hx hb dX6_hasCells_17 rfl (lv_at hl 0 rfl) ?_
        refine va_get (D := D) (ci := 5) (v := .int (nI len)) (C := RX6) (T := TX6) (N := 3) hx hb hts hwX6 hown hK hP 0 rfl rfl 1 (by decide) hf_15 (fun _ h9 => h9) rfl dX6_hasCells_18 ?_
        refine lv_iload_n hx hb dX6_hasCells_21 rfl (lv_at hl 1 rfl) ?_
        refine kk_isub hx hb dX6_hasCells_22 (by omega) ?_
        refine lv_icmp_gt (tgt := 30) hx hb dX6_hasCells_23 (by decide) (fun c_4 => ?_) (fun c_4 => ?_)
        · skip
          refine lv_iconst (v := nI 0) hx hb dX6_hasCells_30 (by decide +kernel) ?_
          have hq : nI 0 = kb (hasC len (nI xN) y) := by
            have e := nI_toInt (show xN < 2 ^ 31 by omega)
            rw [kk_gt (by omega)] at c_4
            exact (congrArg kb (show hasC len (nI xN) y = false from decide_eq_false (by rw [e]; omega))).symm
          refine kk_QQ hQQ ?_
          exact W.zret (v := nI 0) (ty := .boolean) hx hb hr (by decide +kernel) (fun t ht hW => ⟨nI 0, rfl, hq, ht⟩) (fun q h => by cases h) dX6_hasCells_31
        · skip
          refine lv_iconst (v := nI 1) hx hb dX6_hasCells_26 (by decide +kernel) ?_
          refine lv_goto (tgt := 31) hx hb dX6_hasCells_27 (by decide) ?_
          have hq : nI 1 = kb (hasC len (nI xN) y) := by
            have e := nI_toInt (show xN < 2 ^ 31 by omega)
            rw [kk_gt (by omega)] at c_4
            rw [kk_0] at c_3
            exact (congrArg kb (show hasC len (nI xN) y = true from decide_eq_true (by rw [e]; omega))).symm
          refine kk_QQ hQQ ?_
          exact W.zret (v := nI 1) (ty := .boolean) hx hb hr (by decide +kernel) (fun t ht hW => ⟨nI 1, rfl, hq, ht⟩) (fun q h => by cases h) dX6_hasCells_31

abbrev rmX6_cutToLane : Room := { frames := 0, cells := 0, slots := 0, locals := 0 }
set_option maxHeartbeats 4000000 in
set_option maxRecDepth 100000 in
theorem c_X6_cutToLane (lL : Launch) (D : va_G) (cI cS : ClassId) (s0 : Nat) (c0 : Nat) (len : Nat) (rl : Int32) (v : Int32) : Met lL yX6_cutToLane wsX6_cutToLane rmX6_cutToLane (va_Pc [.ref s0, .int v] (kBp D cI cS [(s0, .inr (5, [.ref c0, .int (nI len), .int rl]))])) (vp_Si (fun r : Int32 => r = cutL rl v)) 0 0 (fun _ => False) := by
  refine Met.ofW (cc := cX6_cutToLane) (maxL := 2) (ret := (some .int)) (by decide) rfl ?_
  intro pP eE sS mM args below meth cC s₁ B hml hv
  obtain ⟨rfl, hP, hK⟩ := hv
  have hx := B.exec
  have hb := B.bytes
  have hr := B.returns
  have hts := atoms_spec (ws := wsX6_cutToLane) B.pre
  have hown : sS.vm.findClass RX6 = some mM.cls := findClass_of_methodNamed B.named
  have hlocks := B.notSynchronized
  have hP : va_P D vwCl [(s0, .inr (5, [.ref c0, .int (nI len), .int rl]))] sS.heap := hP
  have hf_19 := hts (.fieldLink RX6 19 "OldLamps$Sheet" "rowLane" "I") (List.mem_of_getElem? (i := 1) rfl)
  have hwX6 : ∀ w ∈ wsX60, w ∈ wsX6_cutToLane := fun _ h => List.mem_cons_of_mem _ (List.mem_append_right _ h)
  have hl := lv_entry ([.ref s0, .int v]) (n := 2) (Nat.le_of_ble_eq_true rfl)
  rw [lg_entry_eq]
  generalize (lg_sl ([.ref s0, .int v]) ++ List.replicate (2 - (lg_sl ([.ref s0, .int v])).length) Slot.unset).toArray = ls at hl ⊢
  have hl : lv_has ls 2 [(0, .ref s0), (1, .int v)] := hl
  obtain ⟨QQ, hQQ⟩ : ∃ QQ : State → Prop, QQ = MQ below (vp_Si (fun r : Int32 => r = cutL rl v)) ([.ref s0, .int v]).toArray sS 0 0 (fun _ => False) := ⟨_, rfl⟩
  refine kk_QQ hQQ.symm ?_
  refine lv_aload_n hx hb dX6_cutToLane_0 rfl (lv_at hl 0 rfl) ?_
  refine va_get (D := D) (ci := 5) (v := .int rl) (C := RX6) (T := TX6) (N := 3) hx hb hts hwX6 hown hK hP 0 rfl rfl 2 (by decide) hf_19 (fun _ h9 => h9) rfl dX6_cutToLane_1 ?_
  refine lv_if_ne (tgt := 10) hx hb dX6_cutToLane_4 (by decide) (fun c_1 => ?_) (fun c_1 => ?_)
  · skip
    refine lv_aload_n hx hb dX6_cutToLane_10 rfl (lv_at hl 0 rfl) ?_
    refine va_get (D := D) (ci := 5) (v := .int rl) (C := RX6) (T := TX6) (N := 3) hx hb hts hwX6 hown hK hP 0 rfl rfl 2 (by decide) hf_19 (fun _ h9 => h9) rfl dX6_cutToLane_11 ?_
    refine lv_iconst (v := nI 1) hx hb dX6_cutToLane_14 (by decide +kernel) ?_
    refine lv_icmp_ne (tgt := 23) hx hb dX6_cutToLane_15 (by decide) (fun c_2 => ?_) (fun c_2 => ?_)
    · skip
      refine lv_iload_n hx hb dX6_cutToLane_23 rfl (lv_at hl 1 rfl) ?_
      have hq : v = cutL rl v := by unfold cutL; rw [if_neg c_1, if_neg c_2]
      refine kk_QQ hQQ ?_
      exact W.iret (v := v) hx hb hr (fun t ht hW => ⟨v, rfl, hq, ht⟩) (fun q h => by cases h) dX6_cutToLane_24
    · skip
      refine lv_iload_n hx hb dX6_cutToLane_18 rfl (lv_at hl 1 rfl) ?_
      refine lv_i2s (v := v.toInt16.toInt32) hx hb dX6_cutToLane_19 rfl ?_
      refine lv_goto (tgt := 24) hx hb dX6_cutToLane_20 (by decide) ?_
      have hq : v.toInt16.toInt32 = cutL rl v := by unfold cutL; rw [if_neg c_1, if_pos c_2]
      refine kk_QQ hQQ ?_
      exact W.iret (v := v.toInt16.toInt32) hx hb hr (fun t ht hW => ⟨v.toInt16.toInt32, rfl, hq, ht⟩) (fun q h => by cases h) dX6_cutToLane_24
  · skip
    refine lv_iload_n hx hb dX6_cutToLane_7 rfl (lv_at hl 1 rfl) ?_
    refine lv_i2b (v := v.toInt8.toInt32) hx hb dX6_cutToLane_8 rfl ?_
    have hq : v.toInt8.toInt32 = cutL rl v := by exact (if_pos c_1).symm
    refine kk_QQ hQQ ?_
    exact W.iret (v := v.toInt8.toInt32) hx hb hr (fun t ht hW => ⟨v.toInt8.toInt32, rfl, hq, ht⟩) (fun q h => by cases h) dX6_cutToLane_9

abbrev rmX6_makeRow : Room := { frames := 0, cells := 0, slots := 0, locals := 0 }
set_option maxHeartbeats 4000000 in
set_option maxRecDepth 100000 in
theorem c_X6_makeRow (lL : Launch) (D : va_G) (cI cS : ClassId) (sz : Nat) (s0 : Nat) (c0 : Nat) (len : Nat) (rl : Int32) (cf : Nat → Int32) (x : Int32) (m : Nat) (hm : m ≤ 60) : Met lL yX6_makeRow wsX6_makeRow rmX6_makeRow (va_Pc [.ref s0, .int x, .int (nI m)] (kB D cI cS [(s0, .inr (5, [.ref c0, .int (nI len), .int rl])), (c0, .inl (cI, 60, .inl cf))] sz)) (kQv D (fun u : (Nat → Int32) => ∀ j, j < m → u j = nI 0) (fun u : (Nat → Int32) => [(s0, .inr (5, [.ref c0, .int (nI m), .int x])), (c0, .inl (cI, 60, .inl u))]) (va_A [(s0, .inr (5, [.ref c0, .int (nI len), .int rl])), (c0, .inl (cI, 60, .inl cf))] sz)) 0 0 (va_A [(s0, .inr (5, [.ref c0, .int (nI len), .int rl])), (c0, .inl (cI, 60, .inl cf))] sz) := by
  refine Met.ofW (cc := cX6_makeRow) (maxL := 4) (ret := none) (by decide) rfl ?_
  intro pP eE sS mM args below meth cC s₁ B hml hv
  obtain ⟨rfl, hsz, hP, hK, hD0⟩ := hv
  have hx := B.exec
  have hb := B.bytes
  have hr := B.returns
  have hts := atoms_spec (ws := wsX6_makeRow) B.pre
  have hown : sS.vm.findClass RX6 = some mM.cls := findClass_of_methodNamed B.named
  have hlocks := B.notSynchronized
  subst hsz
  have hD := hD0.self (sz := sS.heap.size)
  generalize hAe : va_A [(s0, .inr (5, [.ref c0, .int (nI len), .int rl])), (c0, .inl (cI, 60, .inl cf))] sS.heap.size = A at hD ⊢
  have hA : ∀ q : Nat, sS.heap.size ≤ q → A q := fun q h => by rw [← hAe]; exact Or.inr h
  have hS : va_S A sS.heap sS.heap [] := va_S.rf
  have hP : va_P D vwCl [(s0, .inr (5, [.ref c0, .int (nI len), .int rl])), (c0, .inl (cI, 60, .inl cf))] sS.heap := hP
  have hD : va_D A [(s0, .inr (5, [.ref c0, .int (nI len), .int rl])), (c0, .inl (cI, 60, .inl cf))] := hD
  have hf_9 := hts (.fieldLink RX6 9 "OldLamps$Sheet" "cells" "[I") (List.mem_of_getElem? (i := 3) rfl)
  have hf_15 := hts (.fieldLink RX6 15 "OldLamps$Sheet" "length" "I") (List.mem_of_getElem? (i := 2) rfl)
  have hf_19 := hts (.fieldLink RX6 19 "OldLamps$Sheet" "rowLane" "I") (List.mem_of_getElem? (i := 1) rfl)
  have hwX6 : ∀ w ∈ wsX60, w ∈ wsX6_makeRow := fun _ h => List.mem_cons_of_mem _ (List.mem_append_right _ h)
  have hl := lv_entry ([.ref s0, .int x, .int (nI m)]) (n := 4) (Nat.le_of_ble_eq_true rfl)
  rw [lg_entry_eq]
  generalize (lg_sl ([.ref s0, .int x, .int (nI m)]) ++ List.replicate (4 - (lg_sl ([.ref s0, .int x, .int (nI m)])).length) Slot.unset).toArray = ls at hl ⊢
  have hl : lv_has ls 4 [(0, .ref s0), (1, .int x), (2, .int (nI m))] := hl
  obtain ⟨QQ, hQQ⟩ : ∃ QQ : State → Prop, QQ = MQ below (kQv D (fun u : (Nat → Int32) => ∀ j, j < m → u j = nI 0) (fun u : (Nat → Int32) => [(s0, .inr (5, [.ref c0, .int (nI m), .int x])), (c0, .inl (cI, 60, .inl u))]) A) ([.ref s0, .int x, .int (nI m)]).toArray sS 0 0 A := ⟨_, rfl⟩
  refine kk_QQ hQQ.symm ?_
  refine lv_aload_n hx hb dX6_makeRow_0 rfl (lv_at hl 0 rfl) ?_
  refine lv_iload_n hx hb dX6_makeRow_1 rfl (lv_at hl 1 rfl) ?_
  refine va_put (D := D) (ci := 5) (v := .int x) (ty := .int) (C := RX6) (T := TX6) (N := 3) hx hb hts hwX6 tyX6 tyX6_ok nmX6 hown hK hP hD hS 0 rfl rfl 2 (by decide) hf_19 (fun _ h9 => h9) rfl (by decide +kernel) rfl rfl (Nat.le_of_ble_eq_true rfl) dX6_makeRow_2 (fun H locs hP hD hS => ?_)
  have hP : va_P D vwCl [(s0, .inr (5, [.ref c0, .int (nI len), .int x])), (c0, .inl (cI, 60, .inl cf))] H := hP
  have hD : va_D A [(s0, .inr (5, [.ref c0, .int (nI len), .int x])), (c0, .inl (cI, 60, .inl cf))] := hD
  refine lv_aload_n hx hb dX6_makeRow_5 rfl (lv_at hl 0 rfl) ?_
  refine lv_iload_n hx hb dX6_makeRow_6 rfl (lv_at hl 2 rfl) ?_
  refine va_put (D := D) (ci := 5) (v := .int (nI m)) (ty := .int) (C := RX6) (T := TX6) (N := 3) hx hb hts hwX6 tyX6 tyX6_ok nmX6 hown hK hP hD hS 0 rfl rfl 1 (by decide) hf_15 (fun _ h9 => h9) rfl (by decide +kernel) rfl rfl (Nat.le_of_ble_eq_true rfl) dX6_makeRow_7 (fun H locs hP hD hS => ?_)
  have hP : va_P D vwCl [(s0, .inr (5, [.ref c0, .int (nI m), .int x])), (c0, .inl (cI, 60, .inl cf))] H := hP
  have hD : va_D A [(s0, .inr (5, [.ref c0, .int (nI m), .int x])), (c0, .inl (cI, 60, .inl cf))] := hD
  refine lv_iconst (v := nI 0) hx hb dX6_makeRow_10 (by decide +kernel) ?_
  refine lv_istore_n (lv' := [(3, .int (nI 0)), (0, .ref s0), (1, .int x), (2, .int (nI m))]) hx hb dX6_makeRow_11 rfl hl (by decide) rfl (fun ls hl => ?_)
  have L_12 : ∀ (n_12 : Nat) (i : Nat) (cX : Nat → Int32), (i ≤ m) → (∀ j, j < i → cX j = nI 0) → m + 1 ≤ i + n_12 → ∀ (H : Heap) (locs : List Loc), va_P D vwCl [(s0, .inr (5, [.ref c0, .int (nI m), .int x])), (c0, .inl (cI, 60, .inl cX))] H → va_D A [(s0, .inr (5, [.ref c0, .int (nI m), .int x])), (c0, .inl (cI, 60, .inl cX))] → va_S A sS.heap H locs → ∀ (ls : Array Slot), lv_has ls 4 [(3, .int (nI i)), (0, .ref s0), (1, .int x), (2, .int (nI m))] → W pP lL eE (headSpec wsX6_makeRow rmX6_makeRow).room sS mM ([.ref s0, .int x, .int (nI m)]).toArray below meth cC H locs 0 0 QQ (F0 mM 12 ls []) := by
    intro n_12
    induction n_12 with
    | zero =>
      intro i cX hi z1 hn_12 H locs hP hD hS ls hl
      exact absurd hn_12 (by omega)
    | succ n_12 ih_12 =>
      intro i cX hi z1 hn_12 H locs hP hD hS ls hl
      refine lv_iload_n hx hb dX6_makeRow_12 rfl (lv_at hl 0 rfl) ?_
      refine lv_iload_n hx hb dX6_makeRow_13 rfl (lv_at hl 3 rfl) ?_
      refine kk_icmp_ge (tgt := 30) hx hb dX6_makeRow_14 (by decide) (by omega) (by omega) (fun c_1 => ?_) (fun c_1 => ?_)
      · skip
        have hq : ∀ j, j < m → cX j = nI 0 := by intro j h; exact z1 j (by omega)
        refine kk_QQ hQQ ?_
        exact W.vret hx hb hr (fun t ht hW => ⟨⟨cX, rfl, hq, by show va_P D vwCl _ t.heap; rw [ht]; exact hP⟩, hS.F ht⟩) hS.2.2 dX6_makeRow_30
      · skip
        refine lv_aload_n hx hb dX6_makeRow_17 rfl (lv_at hl 1 rfl) ?_
        refine va_get (D := D) (ci := 5) (v := .ref c0) (C := RX6) (T := TX6) (N := 3) hx hb hts hwX6 hown hK hP 0 rfl rfl 0 (by decide) hf_9 (fun _ h9 => h9) rfl dX6_makeRow_18 ?_
        refine lv_iload_n hx hb dX6_makeRow_21 rfl (lv_at hl 0 rfl) ?_
        refine lv_iconst (v := nI 0) hx hb dX6_makeRow_22 (by decide +kernel) ?_
        refine kk_iast hx hb hK hP hD hS 1 rfl rfl (i := i) (by omega) (by decide) dX6_makeRow_23 (fun H locs hP hD hS => ?_)
        have hP : va_P D vwCl [(s0, .inr (5, [.ref c0, .int (nI m), .int x])), (c0, .inl (cI, 60, .inl (upd cX i (nI 0))))] H := hP
        have hD : va_D A [(s0, .inr (5, [.ref c0, .int (nI m), .int x])), (c0, .inl (cI, 60, .inl (upd cX i (nI 0))))] := hD
        refine lv_iinc (v := nI (i + 1)) (lv' := [(3, .int (nI (i + 1))), (0, .ref s0), (1, .int x), (2, .int (nI m))]) hx hb dX6_makeRow_24 hl (k := 0) rfl (nI_add i 1) (by decide) rfl (fun ls hl => ?_)
        refine lv_goto (tgt := 12) hx hb dX6_makeRow_27 (by decide) ?_
        have o_2 : (i + 1) ≤ m := by omega
        have o_3 : ∀ j, j < (i + 1) → (upd cX i (nI 0)) j = nI 0 := by
          intro j h
          by_cases e : j = i
          · subst e; exact up_at _ _ _
          · rw [up_ne _ _ e]; exact z1 j (by omega)
        have o_4 : m + 1 ≤ (i + 1) + n_12 := by omega
        exact ih_12 (i + 1) (upd cX i (nI 0)) o_2 o_3 o_4 _ _ hP hD hS ls (lv_sub hl [0, 1, 2, 3] rfl)
  have o_5 : 0 ≤ m := by omega
  have o_6 : ∀ j, j < 0 → cf j = nI 0 := by intro j h; omega
  have o_7 : m + 1 ≤ 0 + (m + 1) := by omega
  exact L_12 (m + 1) 0 cf o_5 o_6 o_7 _ _ hP hD hS ls (lv_sub hl [0, 1, 2, 3] rfl)

abbrev rmX6_makeNothing : Room := { frames := 0, cells := 0, slots := 0, locals := 0 }
set_option maxHeartbeats 4000000 in
set_option maxRecDepth 100000 in
theorem c_X6_makeNothing (lL : Launch) (D : va_G) (cI cS : ClassId) (sz : Nat) (s0 : Nat) (c0 : Nat) (len : Nat) (rl : Int32) : Met lL yX6_makeNothing wsX6_makeNothing rmX6_makeNothing (va_Pc [.ref s0] (kB D cI cS [(s0, .inr (5, [.ref c0, .int (nI len), .int rl]))] sz)) (kQv D (fun u : Unit => True) (fun u : Unit => [(s0, .inr (5, [.ref c0, .int (nI 0), .int (-1 : Int32)]))]) (va_A [(s0, .inr (5, [.ref c0, .int (nI len), .int rl]))] sz)) 0 0 (va_A [(s0, .inr (5, [.ref c0, .int (nI len), .int rl]))] sz) := by
  refine Met.ofW (cc := cX6_makeNothing) (maxL := 1) (ret := none) (by decide) rfl ?_
  intro pP eE sS mM args below meth cC s₁ B hml hv
  obtain ⟨rfl, hsz, hP, hK, hD0⟩ := hv
  have hx := B.exec
  have hb := B.bytes
  have hr := B.returns
  have hts := atoms_spec (ws := wsX6_makeNothing) B.pre
  have hown : sS.vm.findClass RX6 = some mM.cls := findClass_of_methodNamed B.named
  have hlocks := B.notSynchronized
  subst hsz
  have hD := hD0.self (sz := sS.heap.size)
  generalize hAe : va_A [(s0, .inr (5, [.ref c0, .int (nI len), .int rl]))] sS.heap.size = A at hD ⊢
  have hA : ∀ q : Nat, sS.heap.size ≤ q → A q := fun q h => by rw [← hAe]; exact Or.inr h
  have hS : va_S A sS.heap sS.heap [] := va_S.rf
  have hP : va_P D vwCl [(s0, .inr (5, [.ref c0, .int (nI len), .int rl]))] sS.heap := hP
  have hD : va_D A [(s0, .inr (5, [.ref c0, .int (nI len), .int rl]))] := hD
  have hf_15 := hts (.fieldLink RX6 15 "OldLamps$Sheet" "length" "I") (List.mem_of_getElem? (i := 2) rfl)
  have hf_19 := hts (.fieldLink RX6 19 "OldLamps$Sheet" "rowLane" "I") (List.mem_of_getElem? (i := 1) rfl)
  have hwX6 : ∀ w ∈ wsX60, w ∈ wsX6_makeNothing := fun _ h => List.mem_cons_of_mem _ (List.mem_append_right _ h)
  have hl := lv_entry ([.ref s0]) (n := 1) (Nat.le_of_ble_eq_true rfl)
  rw [lg_entry_eq]
  generalize (lg_sl ([.ref s0]) ++ List.replicate (1 - (lg_sl ([.ref s0])).length) Slot.unset).toArray = ls at hl ⊢
  have hl : lv_has ls 1 [(0, .ref s0)] := hl
  obtain ⟨QQ, hQQ⟩ : ∃ QQ : State → Prop, QQ = MQ below (kQv D (fun u : Unit => True) (fun u : Unit => [(s0, .inr (5, [.ref c0, .int (nI 0), .int (-1 : Int32)]))]) A) ([.ref s0]).toArray sS 0 0 A := ⟨_, rfl⟩
  refine kk_QQ hQQ.symm ?_
  refine lv_aload_n hx hb dX6_makeNothing_0 rfl (lv_at hl 0 rfl) ?_
  refine lv_iconst (v := (-1 : Int32)) hx hb dX6_makeNothing_1 (by decide +kernel) ?_
  refine va_put (D := D) (ci := 5) (v := .int (-1 : Int32)) (ty := .int) (C := RX6) (T := TX6) (N := 3) hx hb hts hwX6 tyX6 tyX6_ok nmX6 hown hK hP hD hS 0 rfl rfl 2 (by decide) hf_19 (fun _ h9 => h9) rfl (by decide +kernel) rfl rfl (Nat.le_of_ble_eq_true rfl) dX6_makeNothing_2 (fun H locs hP hD hS => ?_)
  have hP : va_P D vwCl [(s0, .inr (5, [.ref c0, .int (nI len), .int (-1 : Int32)]))] H := hP
  have hD : va_D A [(s0, .inr (5, [.ref c0, .int (nI len), .int (-1 : Int32)]))] := hD
  refine lv_aload_n hx hb dX6_makeNothing_5 rfl (lv_at hl 0 rfl) ?_
  refine lv_iconst (v := nI 0) hx hb dX6_makeNothing_6 (by decide +kernel) ?_
  refine va_put (D := D) (ci := 5) (v := .int (nI 0)) (ty := .int) (C := RX6) (T := TX6) (N := 3) hx hb hts hwX6 tyX6 tyX6_ok nmX6 hown hK hP hD hS 0 rfl rfl 1 (by decide) hf_15 (fun _ h9 => h9) rfl (by decide +kernel) rfl rfl (Nat.le_of_ble_eq_true rfl) dX6_makeNothing_7 (fun H locs hP hD hS => ?_)
  have hP : va_P D vwCl [(s0, .inr (5, [.ref c0, .int (nI 0), .int (-1 : Int32)]))] H := hP
  have hD : va_D A [(s0, .inr (5, [.ref c0, .int (nI 0), .int (-1 : Int32)]))] := hD
  have hq : True := by trivial
  refine kk_QQ hQQ ?_
  exact W.vret hx hb hr (fun t ht hW => ⟨⟨(), rfl, hq, by show va_P D vwCl _ t.heap; rw [ht]; exact hP⟩, hS.F ht⟩) hS.2.2 dX6_makeNothing_10

abbrev rmX9_isWithin : Room := { frames := 0, cells := 0, slots := 0, locals := 0 }
set_option maxHeartbeats 4000000 in
set_option maxRecDepth 100000 in
theorem c_X9_isWithin (lL : Launch) (D : va_G) (cI cS : ClassId) (x : Int32) (a : Nat) (b : Nat) (ha : a < 2 ^ 31) (hb0 : b < 2 ^ 31) : Met lL yX9_isWithin wsX9_isWithin rmX9_isWithin (va_Pc [.int x, .int (nI a), .int (nI b)] (kBp D cI cS [])) (vp_Si (fun r : Int32 => r = kb (wB x a b))) 0 0 (fun _ => False) := by
  refine Met.ofW (cc := cX9_isWithin) (maxL := 3) (ret := (some .boolean)) (by decide) rfl ?_
  intro pP eE sS mM args below meth cC s₁ B hml hv
  obtain ⟨rfl, hP, hK⟩ := hv
  have hx := B.exec
  have hb := B.bytes
  have hr := B.returns
  have hts := atoms_spec (ws := wsX9_isWithin) B.pre
  have hown : sS.vm.findClass RX9 = some mM.cls := findClass_of_methodNamed B.named
  have hlocks := B.notSynchronized
  have hP : va_P D vwCl [] sS.heap := hP
  have hl := lv_entry ([.int x, .int (nI a), .int (nI b)]) (n := 3) (Nat.le_of_ble_eq_true rfl)
  rw [lg_entry_eq]
  generalize (lg_sl ([.int x, .int (nI a), .int (nI b)]) ++ List.replicate (3 - (lg_sl ([.int x, .int (nI a), .int (nI b)])).length) Slot.unset).toArray = ls at hl ⊢
  have hl : lv_has ls 3 [(0, .int x), (1, .int (nI a)), (2, .int (nI b))] := hl
  obtain ⟨QQ, hQQ⟩ : ∃ QQ : State → Prop, QQ = MQ below (vp_Si (fun r : Int32 => r = kb (wB x a b))) ([.int x, .int (nI a), .int (nI b)]).toArray sS 0 0 (fun _ => False) := ⟨_, rfl⟩
  refine kk_QQ hQQ.symm ?_
  refine lv_iload_n hx hb dX9_isWithin_0 rfl (lv_at hl 0 rfl) ?_
  refine lv_iload_n hx hb dX9_isWithin_1 rfl (lv_at hl 1 rfl) ?_
  refine lv_icmp_lt (tgt := 14) hx hb dX9_isWithin_2 (by decide) (fun c_1 => ?_) (fun c_1 => ?_)
  · skip
    refine lv_iconst (v := nI 0) hx hb dX9_isWithin_14 (by decide +kernel) ?_
    have hq : nI 0 = kb (wB x a b) := by
      rw [kk_lt ha] at c_1
      exact (congrArg kb (show wB x a b = false from decide_eq_false (by omega))).symm
    refine kk_QQ hQQ ?_
    exact W.zret (v := nI 0) (ty := .boolean) hx hb hr (by decide +kernel) (fun t ht hW => ⟨nI 0, rfl, hq, ht⟩) (fun q h => by cases h) dX9_isWithin_15
  · skip
    refine lv_iload_n hx hb dX9_isWithin_5 rfl (lv_at hl 0 rfl) ?_
    refine lv_iload_n hx hb dX9_isWithin_6 rfl (lv_at hl 2 rfl) ?_
    refine lv_icmp_gt (tgt := 14) hx hb dX9_isWithin_7 (by decide) (fun c_2 => ?_) (fun c_2 => ?_)
    · skip
      refine lv_iconst (v := nI 0) hx hb dX9_isWithin_14 (by decide +kernel) ?_
      have hq : nI 0 = kb (wB x a b) := by
        rw [kk_gt hb0] at c_2
        exact (congrArg kb (show wB x a b = false from decide_eq_false (by omega))).symm
      refine kk_QQ hQQ ?_
      exact W.zret (v := nI 0) (ty := .boolean) hx hb hr (by decide +kernel) (fun t ht hW => ⟨nI 0, rfl, hq, ht⟩) (fun q h => by cases h) dX9_isWithin_15
    · skip
      refine lv_iconst (v := nI 1) hx hb dX9_isWithin_10 (by decide +kernel) ?_
      refine lv_goto (tgt := 15) hx hb dX9_isWithin_11 (by decide) ?_
      have hq : nI 1 = kb (wB x a b) := by
        rw [kk_gt hb0] at c_2
        rw [kk_lt ha] at c_1
        exact (congrArg kb (show wB x a b = true from decide_eq_true (by omega))).symm
      refine kk_QQ hQQ ?_
      exact W.zret (v := nI 1) (ty := .boolean) hx hb hr (by decide +kernel) (fun t ht hW => ⟨nI 1, rfl, hq, ht⟩) (fun q h => by cases h) dX9_isWithin_15

abbrev rmX9_isWatch : Room := { frames := 1, cells := 0, slots := 0, locals := 22 }
set_option maxHeartbeats 4000000 in
set_option maxRecDepth 100000 in
theorem c_X9_isWatch (lL : Launch) (D : va_G) (cI cS : ClassId) (x : Int32) : Met lL yX9_isWatch wsX9_isWatch rmX9_isWatch (va_Pc [.int x] (kBp D cI cS [])) (vp_Si (fun r : Int32 => r = kb (inB x 24))) 0 0 (fun _ => False) := by
  refine Met.ofW (cc := cX9_isWatch) (maxL := 1) (ret := (some .boolean)) (by decide) rfl ?_
  intro pP eE sS mM args below meth cC s₁ B hml hv
  obtain ⟨rfl, hP, hK⟩ := hv
  have hx := B.exec
  have hb := B.bytes
  have hr := B.returns
  have hts := atoms_spec (ws := wsX9_isWatch) B.pre
  have hown : sS.vm.findClass RX9 = some mM.cls := findClass_of_methodNamed B.named
  have hlocks := B.notSynchronized
  have hP : va_P D vwCl [] sS.heap := hP
  have hl := lv_entry ([.int x]) (n := 1) (Nat.le_of_ble_eq_true rfl)
  rw [lg_entry_eq]
  generalize (lg_sl ([.int x]) ++ List.replicate (1 - (lg_sl ([.int x])).length) Slot.unset).toArray = ls at hl ⊢
  have hl : lv_has ls 1 [(0, .int x)] := hl
  obtain ⟨QQ, hQQ⟩ : ∃ QQ : State → Prop, QQ = MQ below (vp_Si (fun r : Int32 => r = kb (inB x 24))) ([.int x]).toArray sS 0 0 (fun _ => False) := ⟨_, rfl⟩
  refine kk_QQ hQQ.symm ?_
  refine lv_iload_n hx hb dX9_isWatch_0 rfl (lv_at hl 0 rfl) ?_
  refine lv_iconst (v := nI 0) hx hb dX9_isWatch_1 (by decide +kernel) ?_
  refine lv_bipush (v := nI 23) hx hb dX9_isWatch_2 (by decide +kernel) ?_
  have o_1 : 0 < 2 ^ 31 := by omega
  have o_2 : 23 < 2 ^ 31 := by omega
  refine vp_callSi (W.runS (As := [.int x, .int (nI 0), .int (nI 23)]) (rest := []) ⟨hx, hb, hml, hown, hts⟩ (c_X9_isWithin lL D cI cS x 0 23 o_1 o_2) (va_cwS 3 hts gX9_isWatch_X9_isWithin rfl rfl rfl cd_X9_isWithin ⟨Nat.le_of_ble_eq_true rfl, Nat.le_of_ble_eq_true rfl⟩) ⟨kBp_blind, fun U hU hW => ⟨rfl, by rw [hU]; exact hP.sub [] rfl, va_K.moved hW.alike hK⟩⟩ rfl rfl hl.1 rfl (lv_room (Nat.le_of_ble_eq_true rfl)) dX9_isWatch_4 ⟨Nat.le_of_ble_eq_true rfl, Nat.le_of_ble_eq_true rfl⟩) (fun r_3 hw_3 => ?_)
  obtain rfl : r_3 = kb (wB x 0 23) := hw_3
  have hq : kb (wB x 0 23) = kb (inB x 24) := by rw [wB_in]
  refine kk_QQ hQQ ?_
  exact W.zret (v := kb (wB x 0 23)) (ty := .boolean) hx hb hr (kk_nar _) (fun t ht hW => ⟨kb (wB x 0 23), rfl, hq, ht⟩) (fun q h => by cases h) dX9_isWatch_7

abbrev rmX9_isDay : Room := { frames := 1, cells := 0, slots := 0, locals := 22 }
set_option maxHeartbeats 4000000 in
set_option maxRecDepth 100000 in
theorem c_X9_isDay (lL : Launch) (D : va_G) (cI cS : ClassId) (x : Int32) : Met lL yX9_isDay wsX9_isDay rmX9_isDay (va_Pc [.int x] (kBp D cI cS [])) (vp_Si (fun r : Int32 => r = kb (inB x 4))) 0 0 (fun _ => False) := by
  refine Met.ofW (cc := cX9_isDay) (maxL := 1) (ret := (some .boolean)) (by decide) rfl ?_
  intro pP eE sS mM args below meth cC s₁ B hml hv
  obtain ⟨rfl, hP, hK⟩ := hv
  have hx := B.exec
  have hb := B.bytes
  have hr := B.returns
  have hts := atoms_spec (ws := wsX9_isDay) B.pre
  have hown : sS.vm.findClass RX9 = some mM.cls := findClass_of_methodNamed B.named
  have hlocks := B.notSynchronized
  have hP : va_P D vwCl [] sS.heap := hP
  have hl := lv_entry ([.int x]) (n := 1) (Nat.le_of_ble_eq_true rfl)
  rw [lg_entry_eq]
  generalize (lg_sl ([.int x]) ++ List.replicate (1 - (lg_sl ([.int x])).length) Slot.unset).toArray = ls at hl ⊢
  have hl : lv_has ls 1 [(0, .int x)] := hl
  obtain ⟨QQ, hQQ⟩ : ∃ QQ : State → Prop, QQ = MQ below (vp_Si (fun r : Int32 => r = kb (inB x 4))) ([.int x]).toArray sS 0 0 (fun _ => False) := ⟨_, rfl⟩
  refine kk_QQ hQQ.symm ?_
  refine lv_iload_n hx hb dX9_isDay_0 rfl (lv_at hl 0 rfl) ?_
  refine lv_iconst (v := nI 0) hx hb dX9_isDay_1 (by decide +kernel) ?_
  refine lv_iconst (v := nI 3) hx hb dX9_isDay_2 (by decide +kernel) ?_
  have o_1 : 0 < 2 ^ 31 := by omega
  have o_2 : 3 < 2 ^ 31 := by omega
  refine vp_callSi (W.runS (As := [.int x, .int (nI 0), .int (nI 3)]) (rest := []) ⟨hx, hb, hml, hown, hts⟩ (c_X9_isWithin lL D cI cS x 0 3 o_1 o_2) (va_cwS 3 hts gX9_isDay_X9_isWithin rfl rfl rfl cd_X9_isWithin ⟨Nat.le_of_ble_eq_true rfl, Nat.le_of_ble_eq_true rfl⟩) ⟨kBp_blind, fun U hU hW => ⟨rfl, by rw [hU]; exact hP.sub [] rfl, va_K.moved hW.alike hK⟩⟩ rfl rfl hl.1 rfl (lv_room (Nat.le_of_ble_eq_true rfl)) dX9_isDay_3 ⟨Nat.le_of_ble_eq_true rfl, Nat.le_of_ble_eq_true rfl⟩) (fun r_3 hw_3 => ?_)
  obtain rfl : r_3 = kb (wB x 0 3) := hw_3
  have hq : kb (wB x 0 3) = kb (inB x 4) := by rw [wB_in]
  refine kk_QQ hQQ ?_
  exact W.zret (v := kb (wB x 0 3)) (ty := .boolean) hx hb hr (kk_nar _) (fun t ht hW => ⟨kb (wB x 0 3), rfl, hq, ht⟩) (fun q h => by cases h) dX9_isDay_6

abbrev rmX9_isSheet : Room := { frames := 1, cells := 0, slots := 0, locals := 22 }
set_option maxHeartbeats 4000000 in
set_option maxRecDepth 100000 in
theorem c_X9_isSheet (lL : Launch) (D : va_G) (cI cS : ClassId) (x : Int32) : Met lL yX9_isSheet wsX9_isSheet rmX9_isSheet (va_Pc [.int x] (kBp D cI cS [])) (vp_Si (fun r : Int32 => r = kb (inB x 4))) 0 0 (fun _ => False) := by
  refine Met.ofW (cc := cX9_isSheet) (maxL := 1) (ret := (some .boolean)) (by decide) rfl ?_
  intro pP eE sS mM args below meth cC s₁ B hml hv
  obtain ⟨rfl, hP, hK⟩ := hv
  have hx := B.exec
  have hb := B.bytes
  have hr := B.returns
  have hts := atoms_spec (ws := wsX9_isSheet) B.pre
  have hown : sS.vm.findClass RX9 = some mM.cls := findClass_of_methodNamed B.named
  have hlocks := B.notSynchronized
  have hP : va_P D vwCl [] sS.heap := hP
  have hl := lv_entry ([.int x]) (n := 1) (Nat.le_of_ble_eq_true rfl)
  rw [lg_entry_eq]
  generalize (lg_sl ([.int x]) ++ List.replicate (1 - (lg_sl ([.int x])).length) Slot.unset).toArray = ls at hl ⊢
  have hl : lv_has ls 1 [(0, .int x)] := hl
  obtain ⟨QQ, hQQ⟩ : ∃ QQ : State → Prop, QQ = MQ below (vp_Si (fun r : Int32 => r = kb (inB x 4))) ([.int x]).toArray sS 0 0 (fun _ => False) := ⟨_, rfl⟩
  refine kk_QQ hQQ.symm ?_
  refine lv_iload_n hx hb dX9_isSheet_0 rfl (lv_at hl 0 rfl) ?_
  refine lv_iconst (v := nI 0) hx hb dX9_isSheet_1 (by decide +kernel) ?_
  refine lv_iconst (v := nI 3) hx hb dX9_isSheet_2 (by decide +kernel) ?_
  have o_1 : 0 < 2 ^ 31 := by omega
  have o_2 : 3 < 2 ^ 31 := by omega
  refine vp_callSi (W.runS (As := [.int x, .int (nI 0), .int (nI 3)]) (rest := []) ⟨hx, hb, hml, hown, hts⟩ (c_X9_isWithin lL D cI cS x 0 3 o_1 o_2) (va_cwS 3 hts gX9_isSheet_X9_isWithin rfl rfl rfl cd_X9_isWithin ⟨Nat.le_of_ble_eq_true rfl, Nat.le_of_ble_eq_true rfl⟩) ⟨kBp_blind, fun U hU hW => ⟨rfl, by rw [hU]; exact hP.sub [] rfl, va_K.moved hW.alike hK⟩⟩ rfl rfl hl.1 rfl (lv_room (Nat.le_of_ble_eq_true rfl)) dX9_isSheet_3 ⟨Nat.le_of_ble_eq_true rfl, Nat.le_of_ble_eq_true rfl⟩) (fun r_3 hw_3 => ?_)
  obtain rfl : r_3 = kb (wB x 0 3) := hw_3
  have hq : kb (wB x 0 3) = kb (inB x 4) := by rw [wB_in]
  refine kk_QQ hQQ ?_
  exact W.zret (v := kb (wB x 0 3)) (ty := .boolean) hx hb hr (kk_nar _) (fun t ht hW => ⟨kb (wB x 0 3), rfl, hq, ht⟩) (fun q h => by cases h) dX9_isSheet_6

abbrev rmX9_isLane : Room := { frames := 1, cells := 0, slots := 0, locals := 22 }
set_option maxHeartbeats 4000000 in
set_option maxRecDepth 100000 in
theorem c_X9_isLane (lL : Launch) (D : va_G) (cI cS : ClassId) (x : Int32) : Met lL yX9_isLane wsX9_isLane rmX9_isLane (va_Pc [.int x] (kBp D cI cS [])) (vp_Si (fun r : Int32 => r = kb (inB x 3))) 0 0 (fun _ => False) := by
  refine Met.ofW (cc := cX9_isLane) (maxL := 1) (ret := (some .boolean)) (by decide) rfl ?_
  intro pP eE sS mM args below meth cC s₁ B hml hv
  obtain ⟨rfl, hP, hK⟩ := hv
  have hx := B.exec
  have hb := B.bytes
  have hr := B.returns
  have hts := atoms_spec (ws := wsX9_isLane) B.pre
  have hown : sS.vm.findClass RX9 = some mM.cls := findClass_of_methodNamed B.named
  have hlocks := B.notSynchronized
  have hP : va_P D vwCl [] sS.heap := hP
  have hl := lv_entry ([.int x]) (n := 1) (Nat.le_of_ble_eq_true rfl)
  rw [lg_entry_eq]
  generalize (lg_sl ([.int x]) ++ List.replicate (1 - (lg_sl ([.int x])).length) Slot.unset).toArray = ls at hl ⊢
  have hl : lv_has ls 1 [(0, .int x)] := hl
  obtain ⟨QQ, hQQ⟩ : ∃ QQ : State → Prop, QQ = MQ below (vp_Si (fun r : Int32 => r = kb (inB x 3))) ([.int x]).toArray sS 0 0 (fun _ => False) := ⟨_, rfl⟩
  refine kk_QQ hQQ.symm ?_
  refine lv_iload_n hx hb dX9_isLane_0 rfl (lv_at hl 0 rfl) ?_
  refine lv_iconst (v := nI 0) hx hb dX9_isLane_1 (by decide +kernel) ?_
  refine lv_iconst (v := nI 2) hx hb dX9_isLane_2 (by decide +kernel) ?_
  have o_1 : 0 < 2 ^ 31 := by omega
  have o_2 : 2 < 2 ^ 31 := by omega
  refine vp_callSi (W.runS (As := [.int x, .int (nI 0), .int (nI 2)]) (rest := []) ⟨hx, hb, hml, hown, hts⟩ (c_X9_isWithin lL D cI cS x 0 2 o_1 o_2) (va_cwS 3 hts gX9_isLane_X9_isWithin rfl rfl rfl cd_X9_isWithin ⟨Nat.le_of_ble_eq_true rfl, Nat.le_of_ble_eq_true rfl⟩) ⟨kBp_blind, fun U hU hW => ⟨rfl, by rw [hU]; exact hP.sub [] rfl, va_K.moved hW.alike hK⟩⟩ rfl rfl hl.1 rfl (lv_room (Nat.le_of_ble_eq_true rfl)) dX9_isLane_3 ⟨Nat.le_of_ble_eq_true rfl, Nat.le_of_ble_eq_true rfl⟩) (fun r_3 hw_3 => ?_)
  obtain rfl : r_3 = kb (wB x 0 2) := hw_3
  have hq : kb (wB x 0 2) = kb (inB x 3) := by rw [wB_in]
  refine kk_QQ hQQ ?_
  exact W.zret (v := kb (wB x 0 2)) (ty := .boolean) hx hb hr (kk_nar _) (fun t ht hW => ⟨kb (wB x 0 2), rfl, hq, ht⟩) (fun q h => by cases h) dX9_isLane_6

abbrev rmX9_faulted : Room := { frames := 0, cells := 0, slots := 0, locals := 0 }
set_option maxHeartbeats 4000000 in
set_option maxRecDepth 100000 in
theorem c_X9_faulted (lL : Launch) (D : va_G) (cI cS : ClassId) (sz : Nat) (x0 : Nat) (v0 : Value) (v1 : Value) (v2 : Value) (v3 : Value) (v4 : Value) (v5 : Value) (v6 : Value) (v7 : Value) (v8 : Value) (tr : Int32) (ft : Int32) (w : Nat) : Met lL yX9_faulted wsX9_faulted rmX9_faulted (va_Pc [.ref x0, .int (nI w)] (kB D cI cS [(x0, .inr (8, [v0, v1, v2, v3, v4, v5, v6, v7, v8, .int tr, .int ft]))] sz)) (kQi D (fun (r : Int32) (u : Unit) => r = (-10 : Int32) - nI w ∧ True) (fun u : Unit => [(x0, .inr (8, [v0, v1, v2, v3, v4, v5, v6, v7, v8, .int tr, .int (nI w)]))]) (va_A [(x0, .inr (8, [v0, v1, v2, v3, v4, v5, v6, v7, v8, .int tr, .int ft]))] sz)) 0 0 (va_A [(x0, .inr (8, [v0, v1, v2, v3, v4, v5, v6, v7, v8, .int tr, .int ft]))] sz) := by
  refine Met.ofW (cc := cX9_faulted) (maxL := 2) (ret := (some .int)) (by decide) rfl ?_
  intro pP eE sS mM args below meth cC s₁ B hml hv
  obtain ⟨rfl, hsz, hP, hK, hD0⟩ := hv
  have hx := B.exec
  have hb := B.bytes
  have hr := B.returns
  have hts := atoms_spec (ws := wsX9_faulted) B.pre
  have hown : sS.vm.findClass RX9 = some mM.cls := findClass_of_methodNamed B.named
  have hlocks := B.notSynchronized
  subst hsz
  have hD := hD0.self (sz := sS.heap.size)
  generalize hAe : va_A [(x0, .inr (8, [v0, v1, v2, v3, v4, v5, v6, v7, v8, .int tr, .int ft]))] sS.heap.size = A at hD ⊢
  have hA : ∀ q : Nat, sS.heap.size ≤ q → A q := fun q h => by rw [← hAe]; exact Or.inr h
  have hS : va_S A sS.heap sS.heap [] := va_S.rf
  have hP : va_P D vwCl [(x0, .inr (8, [v0, v1, v2, v3, v4, v5, v6, v7, v8, .int tr, .int ft]))] sS.heap := hP
  have hD : va_D A [(x0, .inr (8, [v0, v1, v2, v3, v4, v5, v6, v7, v8, .int tr, .int ft]))] := hD
  have hf_61 := hts (.fieldLink RX9 61 "OldLamps" "latestFault" "I") (List.mem_of_getElem? (i := 1) rfl)
  have hwX9 : ∀ w ∈ wsX90, w ∈ wsX9_faulted := fun _ h => List.mem_cons_of_mem _ (List.mem_append_right _ h)
  have hl := lv_entry ([.ref x0, .int (nI w)]) (n := 2) (Nat.le_of_ble_eq_true rfl)
  rw [lg_entry_eq]
  generalize (lg_sl ([.ref x0, .int (nI w)]) ++ List.replicate (2 - (lg_sl ([.ref x0, .int (nI w)])).length) Slot.unset).toArray = ls at hl ⊢
  have hl : lv_has ls 2 [(0, .ref x0), (1, .int (nI w))] := hl
  obtain ⟨QQ, hQQ⟩ : ∃ QQ : State → Prop, QQ = MQ below (kQi D (fun (r : Int32) (u : Unit) => r = (-10 : Int32) - nI w ∧ True) (fun u : Unit => [(x0, .inr (8, [v0, v1, v2, v3, v4, v5, v6, v7, v8, .int tr, .int (nI w)]))]) A) ([.ref x0, .int (nI w)]).toArray sS 0 0 A := ⟨_, rfl⟩
  refine kk_QQ hQQ.symm ?_
  refine lv_aload_n hx hb dX9_faulted_0 rfl (lv_at hl 0 rfl) ?_
  refine lv_iload_n hx hb dX9_faulted_1 rfl (lv_at hl 1 rfl) ?_
  refine va_put (D := D) (ci := 8) (v := .int (nI w)) (ty := .int) (C := RX9) (T := TX9) (N := 11) hx hb hts hwX9 tyX9 tyX9_ok nmX9 hown hK hP hD hS 0 rfl rfl 10 (by decide) hf_61 (fun _ h9 => h9) rfl (by decide +kernel) rfl rfl (Nat.le_of_ble_eq_true rfl) dX9_faulted_2 (fun H locs hP hD hS => ?_)
  have hP : va_P D vwCl [(x0, .inr (8, [v0, v1, v2, v3, v4, v5, v6, v7, v8, .int tr, .int (nI w)]))] H := hP
  have hD : va_D A [(x0, .inr (8, [v0, v1, v2, v3, v4, v5, v6, v7, v8, .int tr, .int (nI w)]))] := hD
  refine lv_bipush (v := (-10 : Int32)) hx hb dX9_faulted_5 (by decide +kernel) ?_
  refine lv_iload_n hx hb dX9_faulted_7 rfl (lv_at hl 1 rfl) ?_
  refine lv_isub hx hb dX9_faulted_8 ?_
  have hq : ((-10 : Int32) - (nI w)) = (-10 : Int32) - nI w ∧ True := by exact ⟨rfl, trivial⟩
  refine kk_QQ hQQ ?_
  exact W.iret (v := (-10 : Int32) - (nI w)) hx hb hr (fun t ht hW => ⟨⟨(-10 : Int32) - (nI w), (), rfl, hq, by show va_P D vwCl _ t.heap; rw [ht]; exact hP⟩, hS.F ht⟩) hS.2.2 dX9_faulted_9

abbrev rmX9_lostTo : Room := { frames := 0, cells := 0, slots := 0, locals := 0 }
set_option maxHeartbeats 4000000 in
set_option maxRecDepth 100000 in
theorem c_X9_lostTo (lL : Launch) (D : va_G) (cI cS : ClassId) (sz : Nat) (x0 : Nat) (v0 : Value) (v1 : Value) (v2 : Value) (v3 : Value) (v4 : Value) (v5 : Value) (v6 : Value) (v7 : Value) (v8 : Value) (tr : Int32) (ft : Int32) (w : Nat) : Met lL yX9_lostTo wsX9_lostTo rmX9_lostTo (va_Pc [.ref x0, .int (nI w)] (kB D cI cS [(x0, .inr (8, [v0, v1, v2, v3, v4, v5, v6, v7, v8, .int tr, .int ft]))] sz)) (kQl D (fun (r : Int64) (u : Unit) => r = lostC ∧ True) (fun u : Unit => [(x0, .inr (8, [v0, v1, v2, v3, v4, v5, v6, v7, v8, .int tr, .int (nI w)]))]) (va_A [(x0, .inr (8, [v0, v1, v2, v3, v4, v5, v6, v7, v8, .int tr, .int ft]))] sz)) 0 0 (va_A [(x0, .inr (8, [v0, v1, v2, v3, v4, v5, v6, v7, v8, .int tr, .int ft]))] sz) := by
  refine Met.ofW (cc := cX9_lostTo) (maxL := 2) (ret := (some .long)) (by decide) rfl ?_
  intro pP eE sS mM args below meth cC s₁ B hml hv
  obtain ⟨rfl, hsz, hP, hK, hD0⟩ := hv
  have hx := B.exec
  have hb := B.bytes
  have hr := B.returns
  have hts := atoms_spec (ws := wsX9_lostTo) B.pre
  have hown : sS.vm.findClass RX9 = some mM.cls := findClass_of_methodNamed B.named
  have hlocks := B.notSynchronized
  subst hsz
  have hD := hD0.self (sz := sS.heap.size)
  generalize hAe : va_A [(x0, .inr (8, [v0, v1, v2, v3, v4, v5, v6, v7, v8, .int tr, .int ft]))] sS.heap.size = A at hD ⊢
  have hA : ∀ q : Nat, sS.heap.size ≤ q → A q := fun q h => by rw [← hAe]; exact Or.inr h
  have hS : va_S A sS.heap sS.heap [] := va_S.rf
  have hP : va_P D vwCl [(x0, .inr (8, [v0, v1, v2, v3, v4, v5, v6, v7, v8, .int tr, .int ft]))] sS.heap := hP
  have hD : va_D A [(x0, .inr (8, [v0, v1, v2, v3, v4, v5, v6, v7, v8, .int tr, .int ft]))] := hD
  have hf_61 := hts (.fieldLink RX9 61 "OldLamps" "latestFault" "I") (List.mem_of_getElem? (i := 1) rfl)
  have hk_204 := hts (.constantLong RX9 204 (-9223372036854775808)) (List.mem_of_getElem? (i := 2) rfl)
  have hwX9 : ∀ w ∈ wsX90, w ∈ wsX9_lostTo := fun _ h => List.mem_cons_of_mem _ (List.mem_append_right _ h)
  have hl := lv_entry ([.ref x0, .int (nI w)]) (n := 2) (Nat.le_of_ble_eq_true rfl)
  rw [lg_entry_eq]
  generalize (lg_sl ([.ref x0, .int (nI w)]) ++ List.replicate (2 - (lg_sl ([.ref x0, .int (nI w)])).length) Slot.unset).toArray = ls at hl ⊢
  have hl : lv_has ls 2 [(0, .ref x0), (1, .int (nI w))] := hl
  obtain ⟨QQ, hQQ⟩ : ∃ QQ : State → Prop, QQ = MQ below (kQl D (fun (r : Int64) (u : Unit) => r = lostC ∧ True) (fun u : Unit => [(x0, .inr (8, [v0, v1, v2, v3, v4, v5, v6, v7, v8, .int tr, .int (nI w)]))]) A) ([.ref x0, .int (nI w)]).toArray sS 0 0 A := ⟨_, rfl⟩
  refine kk_QQ hQQ.symm ?_
  refine lv_aload_n hx hb dX9_lostTo_0 rfl (lv_at hl 0 rfl) ?_
  refine lv_iload_n hx hb dX9_lostTo_1 rfl (lv_at hl 1 rfl) ?_
  refine va_put (D := D) (ci := 8) (v := .int (nI w)) (ty := .int) (C := RX9) (T := TX9) (N := 11) hx hb hts hwX9 tyX9 tyX9_ok nmX9 hown hK hP hD hS 0 rfl rfl 10 (by decide) hf_61 (fun _ h9 => h9) rfl (by decide +kernel) rfl rfl (Nat.le_of_ble_eq_true rfl) dX9_lostTo_2 (fun H locs hP hD hS => ?_)
  have hP : va_P D vwCl [(x0, .inr (8, [v0, v1, v2, v3, v4, v5, v6, v7, v8, .int tr, .int (nI w)]))] H := hP
  have hD : va_D A [(x0, .inr (8, [v0, v1, v2, v3, v4, v5, v6, v7, v8, .int tr, .int (nI w)]))] := hD
  refine lv_ldc2 (v := (-9223372036854775808 : Int64)) hx hb hown hk_204 dX9_lostTo_5 ?_
  have hq : (-9223372036854775808 : Int64) = lostC ∧ True := by exact ⟨rfl, trivial⟩
  refine kk_QQ hQQ ?_
  exact W.lret (v := (-9223372036854775808 : Int64)) hx hb hr (fun t ht hW => ⟨⟨(-9223372036854775808 : Int64), (), rfl, hq, by show va_P D vwCl _ t.heap; rw [ht]; exact hP⟩, hS.F ht⟩) hS.2.2 dX9_lostTo_8

abbrev rmX9_leave : Room := { frames := 0, cells := 0, slots := 0, locals := 0 }
set_option maxHeartbeats 4000000 in
set_option maxRecDepth 100000 in
theorem c_X9_leave (lL : Launch) (D : va_G) (cI cS : ClassId) (sz : Nat) (x0 : Nat) (v0 : Value) (v1 : Value) (v2 : Value) (v3 : Value) (v4 : Value) (v5 : Value) (v6 : Value) (v7 : Value) (v8 : Value) (tr : Int32) (ft : Int32) (n : Nat) : Met lL yX9_leave wsX9_leave rmX9_leave (va_Pc [.ref x0, .int (nI n)] (kB D cI cS [(x0, .inr (8, [v0, v1, v2, v3, v4, v5, v6, v7, v8, .int tr, .int ft]))] sz)) (kQv D (fun u : Unit => True) (fun u : Unit => [(x0, .inr (8, [v0, v1, v2, v3, v4, v5, v6, v7, v8, .int (trc tr n), .int ft]))]) (va_A [(x0, .inr (8, [v0, v1, v2, v3, v4, v5, v6, v7, v8, .int tr, .int ft]))] sz)) 0 0 (va_A [(x0, .inr (8, [v0, v1, v2, v3, v4, v5, v6, v7, v8, .int tr, .int ft]))] sz) := by
  refine Met.ofW (cc := cX9_leave) (maxL := 2) (ret := none) (by decide) rfl ?_
  intro pP eE sS mM args below meth cC s₁ B hml hv
  obtain ⟨rfl, hsz, hP, hK, hD0⟩ := hv
  have hx := B.exec
  have hb := B.bytes
  have hr := B.returns
  have hts := atoms_spec (ws := wsX9_leave) B.pre
  have hown : sS.vm.findClass RX9 = some mM.cls := findClass_of_methodNamed B.named
  have hlocks := B.notSynchronized
  subst hsz
  have hD := hD0.self (sz := sS.heap.size)
  generalize hAe : va_A [(x0, .inr (8, [v0, v1, v2, v3, v4, v5, v6, v7, v8, .int tr, .int ft]))] sS.heap.size = A at hD ⊢
  have hA : ∀ q : Nat, sS.heap.size ≤ q → A q := fun q h => by rw [← hAe]; exact Or.inr h
  have hS : va_S A sS.heap sS.heap [] := va_S.rf
  have hP : va_P D vwCl [(x0, .inr (8, [v0, v1, v2, v3, v4, v5, v6, v7, v8, .int tr, .int ft]))] sS.heap := hP
  have hD : va_D A [(x0, .inr (8, [v0, v1, v2, v3, v4, v5, v6, v7, v8, .int tr, .int ft]))] := hD
  have hf_57 := hts (.fieldLink RX9 57 "OldLamps" "traced" "I") (List.mem_of_getElem? (i := 1) rfl)
  have hwX9 : ∀ w ∈ wsX90, w ∈ wsX9_leave := fun _ h => List.mem_cons_of_mem _ (List.mem_append_right _ h)
  have hl := lv_entry ([.ref x0, .int (nI n)]) (n := 2) (Nat.le_of_ble_eq_true rfl)
  rw [lg_entry_eq]
  generalize (lg_sl ([.ref x0, .int (nI n)]) ++ List.replicate (2 - (lg_sl ([.ref x0, .int (nI n)])).length) Slot.unset).toArray = ls at hl ⊢
  have hl : lv_has ls 2 [(0, .ref x0), (1, .int (nI n))] := hl
  obtain ⟨QQ, hQQ⟩ : ∃ QQ : State → Prop, QQ = MQ below (kQv D (fun u : Unit => True) (fun u : Unit => [(x0, .inr (8, [v0, v1, v2, v3, v4, v5, v6, v7, v8, .int (trc tr n), .int ft]))]) A) ([.ref x0, .int (nI n)]).toArray sS 0 0 A := ⟨_, rfl⟩
  refine kk_QQ hQQ.symm ?_
  refine lv_aload_n hx hb dX9_leave_0 rfl (lv_at hl 0 rfl) ?_
  refine lv_bipush (v := nI 31) hx hb dX9_leave_1 (by decide +kernel) ?_
  refine lv_aload_n hx hb dX9_leave_3 rfl (lv_at hl 0 rfl) ?_
  refine va_get (D := D) (ci := 8) (v := .int tr) (C := RX9) (T := TX9) (N := 11) hx hb hts hwX9 hown hK hP 0 rfl rfl 9 (by decide) hf_57 (fun _ h9 => h9) rfl dX9_leave_4 ?_
  refine lv_imul hx hb dX9_leave_7 ?_
  refine lv_iload_n hx hb dX9_leave_8 rfl (lv_at hl 1 rfl) ?_
  refine lv_iadd hx hb dX9_leave_9 ?_
  refine va_put (D := D) (ci := 8) (v := .int (((nI 31) * tr) + (nI n))) (ty := .int) (C := RX9) (T := TX9) (N := 11) hx hb hts hwX9 tyX9 tyX9_ok nmX9 hown hK hP hD hS 0 rfl rfl 9 (by decide) hf_57 (fun _ h9 => h9) rfl (by decide +kernel) rfl rfl (Nat.le_of_ble_eq_true rfl) dX9_leave_10 (fun H locs hP hD hS => ?_)
  have hP : va_P D vwCl [(x0, .inr (8, [v0, v1, v2, v3, v4, v5, v6, v7, v8, .int (((nI 31) * tr) + (nI n)), .int ft]))] H := hP
  have hD : va_D A [(x0, .inr (8, [v0, v1, v2, v3, v4, v5, v6, v7, v8, .int (((nI 31) * tr) + (nI n)), .int ft]))] := hD
  have hq : True := by trivial
  refine kk_QQ hQQ ?_
  exact W.vret hx hb hr (fun t ht hW => ⟨⟨(), rfl, hq, by show va_P D vwCl _ t.heap; rw [ht]; exact hP⟩, hS.F ht⟩) hS.2.2 dX9_leave_13

abbrev rmX9_tellAsLamp : Room := { frames := 1, cells := 0, slots := 0, locals := 21 }
set_option maxHeartbeats 4000000 in
set_option maxRecDepth 100000 in
theorem c_X9_tellAsLamp (lL : Launch) (D : va_G) (cI cS : ClassId) (sz : Nat) (x0 : Nat) (v1 : Value) (v2 : Value) (v3 : Value) (v4 : Value) (v5 : Value) (v6 : Value) (v7 : Value) (v8 : Value) (tr : Int32) (ft : Int32) (g0 : Nat) (g1 : Nat) (g2 : Nat) (g3 : Nat) (g4 : Nat) (g5 : Nat) (C : Co) (st : Nat → Int32) (k : Nat) (hC : okC C) (hst : ∀ k, k < cLa C → st k = nI (cSt C k)) (hk : k < cLa C) : Met lL yX9_tellAsLamp wsX9_tellAsLamp rmX9_tellAsLamp (va_Pc [.ref x0, .int (nI k)] (kB D cI cS [(x0, .inr (8, [.ref g0, v1, v2, v3, v4, v5, v6, v7, v8, .int tr, .int ft])), (g0, .inr (1, [.int (nI (cSp C)), .int (nI (cLa C)), .int (nI (cAg C)), .ref g1, .ref g2, .ref g3, .ref g4, .ref g5])), (g4, .inl (cI, 4, .inl st))] sz)) (kQi D (fun (r : Int32) (u : Unit) => r = nI (cSt C k) ∧ True) (fun u : Unit => [(x0, .inr (8, [.ref g0, v1, v2, v3, v4, v5, v6, v7, v8, .int (trc tr 1), .int ft])), (g0, .inr (1, [.int (nI (cSp C)), .int (nI (cLa C)), .int (nI (cAg C)), .ref g1, .ref g2, .ref g3, .ref g4, .ref g5])), (g4, .inl (cI, 4, .inl st))]) (va_A [(x0, .inr (8, [.ref g0, v1, v2, v3, v4, v5, v6, v7, v8, .int tr, .int ft])), (g0, .inr (1, [.int (nI (cSp C)), .int (nI (cLa C)), .int (nI (cAg C)), .ref g1, .ref g2, .ref g3, .ref g4, .ref g5])), (g4, .inl (cI, 4, .inl st))] sz)) 0 0 (va_A [(x0, .inr (8, [.ref g0, v1, v2, v3, v4, v5, v6, v7, v8, .int tr, .int ft])), (g0, .inr (1, [.int (nI (cSp C)), .int (nI (cLa C)), .int (nI (cAg C)), .ref g1, .ref g2, .ref g3, .ref g4, .ref g5])), (g4, .inl (cI, 4, .inl st))] sz) := by
  refine Met.ofW (cc := cX9_tellAsLamp) (maxL := 2) (ret := (some .int)) (by decide) rfl ?_
  intro pP eE sS mM args below meth cC s₁ B hml hv
  obtain ⟨rfl, hsz, hP, hK, hD0⟩ := hv
  have hx := B.exec
  have hb := B.bytes
  have hr := B.returns
  have hts := atoms_spec (ws := wsX9_tellAsLamp) B.pre
  have hown : sS.vm.findClass RX9 = some mM.cls := findClass_of_methodNamed B.named
  have hlocks := B.notSynchronized
  subst hsz
  have hD := hD0.self (sz := sS.heap.size)
  generalize hAe : va_A [(x0, .inr (8, [.ref g0, v1, v2, v3, v4, v5, v6, v7, v8, .int tr, .int ft])), (g0, .inr (1, [.int (nI (cSp C)), .int (nI (cLa C)), .int (nI (cAg C)), .ref g1, .ref g2, .ref g3, .ref g4, .ref g5])), (g4, .inl (cI, 4, .inl st))] sS.heap.size = A at hD ⊢
  have hA : ∀ q : Nat, sS.heap.size ≤ q → A q := fun q h => by rw [← hAe]; exact Or.inr h
  have hS : va_S A sS.heap sS.heap [] := va_S.rf
  have hP : va_P D vwCl [(x0, .inr (8, [.ref g0, v1, v2, v3, v4, v5, v6, v7, v8, .int tr, .int ft])), (g0, .inr (1, [.int (nI (cSp C)), .int (nI (cLa C)), .int (nI (cAg C)), .ref g1, .ref g2, .ref g3, .ref g4, .ref g5])), (g4, .inl (cI, 4, .inl st))] sS.heap := hP
  have hD : va_D A [(x0, .inr (8, [.ref g0, v1, v2, v3, v4, v5, v6, v7, v8, .int tr, .int ft])), (g0, .inr (1, [.int (nI (cSp C)), .int (nI (cLa C)), .int (nI (cAg C)), .ref g1, .ref g2, .ref g3, .ref g4, .ref g5])), (g4, .inl (cI, 4, .inl st))] := hD
  have hf_14 := hts (.fieldLink RX9 14 "OldLamps" "ground" "LOldLamps$Ground;") (List.mem_of_getElem? (i := 1) rfl)
  have hf_132 := hts (.fieldLink RX9 132 "OldLamps$Ground" "firstSpots" "[I") (List.mem_of_getElem? (i := 2) rfl)
  have hwX2 : ∀ w ∈ wsX20, w ∈ wsX9_tellAsLamp := fun _ h => List.mem_cons_of_mem _ (List.mem_append_right _ h)
  have hwX9 : ∀ w ∈ wsX90, w ∈ wsX9_tellAsLamp := fun _ h => List.mem_cons_of_mem _ (List.mem_append_left _ (List.mem_append_right _ h))
  have hl := lv_entry ([.ref x0, .int (nI k)]) (n := 2) (Nat.le_of_ble_eq_true rfl)
  rw [lg_entry_eq]
  generalize (lg_sl ([.ref x0, .int (nI k)]) ++ List.replicate (2 - (lg_sl ([.ref x0, .int (nI k)])).length) Slot.unset).toArray = ls at hl ⊢
  have hl : lv_has ls 2 [(0, .ref x0), (1, .int (nI k))] := hl
  obtain ⟨QQ, hQQ⟩ : ∃ QQ : State → Prop, QQ = MQ below (kQi D (fun (r : Int32) (u : Unit) => r = nI (cSt C k) ∧ True) (fun u : Unit => [(x0, .inr (8, [.ref g0, v1, v2, v3, v4, v5, v6, v7, v8, .int (trc tr 1), .int ft])), (g0, .inr (1, [.int (nI (cSp C)), .int (nI (cLa C)), .int (nI (cAg C)), .ref g1, .ref g2, .ref g3, .ref g4, .ref g5])), (g4, .inl (cI, 4, .inl st))]) A) ([.ref x0, .int (nI k)]).toArray sS 0 0 A := ⟨_, rfl⟩
  refine kk_QQ hQQ.symm ?_
  obtain ⟨hC1, hC2, hC3, hC4, hC5, hC6, hC7, hC8⟩ := id hC
  refine lv_aload_n hx hb dX9_tellAsLamp_0 rfl (lv_at hl 0 rfl) ?_
  refine lv_iconst (v := nI 1) hx hb dX9_tellAsLamp_1 (by decide +kernel) ?_
  have hF := va_free (wc := [(x0, .inr (8, [.ref g0, (v1), (v2), (v3), (v4), (v5), (v6), (v7), (v8), .int tr, .int ft]))]) hD hS hA [0] rfl
  refine va_callv (va_runV (As := [.int (nI 1)]) (rest := []) ⟨hx, hb, hml, hown, hts⟩ (c_X9_leave lL D cI cS _ x0 (.ref g0) (v1) (v2) (v3) (v4) (v5) (v6) (v7) (v8) tr ft 1) (cwV 1 hts gX9_tellAsLamp_X9_leave rfl rfl rfl cd_X9_leave ⟨Nat.le_of_ble_eq_true rfl, Nat.le_of_ble_eq_true rfl⟩) ⟨kB_blind, va_recv hK hP (ci := 8) (q0 := 0) rfl rfl, fun U hU hW => ⟨rfl, by rw [hU], by rw [hU]; exact hP.sub [0] rfl, va_K.moved hW.alike hK, (hD.sub [0] (by decide) rfl).weaken (fun _ _ _ _ => trivial)⟩⟩ rfl rfl hl.1 rfl (lv_room (Nat.le_of_ble_eq_true rfl)) dX9_tellAsLamp_2 ⟨Nat.le_of_ble_eq_true rfl, Nat.le_of_ble_eq_true rfl⟩) hS (fun q _ h => hF q h) hF (fun u_1 t H1 locs ht hvm hw_1 hB hz1 hk1 hS => ?_)
  obtain ⟨hP, hD⟩ := kk_join (wc := [(x0, .inr (8, [.ref g0, (v1), (v2), (v3), (v4), (v5), (v6), (v7), (v8), .int tr, .int ft]))]) (w1 := [(x0, .inr (8, [.ref g0, (v1), (v2), (v3), (v4), (v5), (v6), (v7), (v8), .int (trc tr 1), .int ft]))]) (H1 := H1) hP hD [0] rfl [x0] rfl rfl hk1 (by rw [← ht]; exact hB)
  have hw_1 : True := hw_1
  clear hF hB hk1 hz1 hvm
  clear ht
  generalize H1 = H at hP hS ⊢
  have hP : va_P D vwCl [(x0, .inr (8, [.ref g0, (v1), (v2), (v3), (v4), (v5), (v6), (v7), (v8), .int (trc tr 1), .int ft])), (g0, .inr (1, [.int (nI (cSp C)), .int (nI (cLa C)), .int (nI (cAg C)), .ref g1, .ref g2, .ref g3, .ref g4, .ref g5])), (g4, .inl (cI, 4, .inl st))] H := hP
  have hD : va_D A [(x0, .inr (8, [.ref g0, (v1), (v2), (v3), (v4), (v5), (v6), (v7), (v8), .int (trc tr 1), .int ft])), (g0, .inr (1, [.int (nI (cSp C)), .int (nI (cLa C)), .int (nI (cAg C)), .ref g1, .ref g2, .ref g3, .ref g4, .ref g5])), (g4, .inl (cI, 4, .inl st))] := hD
  refine lv_aload_n hx hb dX9_tellAsLamp_5 rfl (lv_at hl 0 rfl) ?_
  refine va_get (D := D) (ci := 8) (v := .ref g0) (C := RX9) (T := TX9) (N := 11) hx hb hts hwX9 hown hK hP 0 rfl rfl 0 (by decide) hf_14 (fun _ h9 => h9) rfl dX9_tellAsLamp_6 ?_
  refine va_get (D := D) (ci := 1) (v := .ref g4) (C := RX2) (T := TX2) (N := 8) hx hb hts hwX2 hown hK hP 1 rfl rfl 6 (by decide) hf_132 (fun _ h9 => h9) rfl dX9_tellAsLamp_9 ?_
  refine lv_iload_n hx hb dX9_tellAsLamp_12 rfl (lv_at hl 1 rfl) ?_
  refine kk_iald hx hb hK hP 2 rfl rfl (i := k) (by omega) (by decide) dX9_tellAsLamp_13 ?_
  refine kk_top (y := nI (cSt C k)) (hst k hk) ?_
  have hq : (nI (cSt C k)) = nI (cSt C k) ∧ True := by exact ⟨rfl, trivial⟩
  refine kk_QQ hQQ ?_
  exact W.iret (v := nI (cSt C k)) hx hb hr (fun t ht hW => ⟨⟨nI (cSt C k), (), rfl, hq, by show va_P D vwCl _ t.heap; rw [ht]; exact hP⟩, hS.F ht⟩) hS.2.2 dX9_tellAsLamp_14

abbrev rmX9_tellAsMirrored : Room := { frames := 2, cells := 0, slots := 0, locals := 42 }
set_option maxHeartbeats 4000000 in
set_option maxRecDepth 100000 in
theorem c_X9_tellAsMirrored (lL : Launch) (D : va_G) (cI cS : ClassId) (sz : Nat) (x0 : Nat) (v1 : Value) (v2 : Value) (v3 : Value) (v4 : Value) (v5 : Value) (v6 : Value) (v7 : Value) (v8 : Value) (tr : Int32) (ft : Int32) (g0 : Nat) (g1 : Nat) (g2 : Nat) (g3 : Nat) (g4 : Nat) (g5 : Nat) (C : Co) (st : Nat → Int32) (k : Nat) (hC : okC C) (hst : ∀ k, k < cLa C → st k = nI (cSt C k)) (hk : k < cLa C) : Met lL yX9_tellAsMirrored wsX9_tellAsMirrored rmX9_tellAsMirrored (va_Pc [.ref x0, .int (nI k)] (kB D cI cS [(x0, .inr (8, [.ref g0, v1, v2, v3, v4, v5, v6, v7, v8, .int tr, .int ft])), (g0, .inr (1, [.int (nI (cSp C)), .int (nI (cLa C)), .int (nI (cAg C)), .ref g1, .ref g2, .ref g3, .ref g4, .ref g5])), (g4, .inl (cI, 4, .inl st))] sz)) (kQi D (fun (r : Int32) (u : Unit) => r = nI (cSt C k + 100) ∧ True) (fun u : Unit => [(x0, .inr (8, [.ref g0, v1, v2, v3, v4, v5, v6, v7, v8, .int (trc (trc tr 2) 1), .int ft])), (g0, .inr (1, [.int (nI (cSp C)), .int (nI (cLa C)), .int (nI (cAg C)), .ref g1, .ref g2, .ref g3, .ref g4, .ref g5])), (g4, .inl (cI, 4, .inl st))]) (va_A [(x0, .inr (8, [.ref g0, v1, v2, v3, v4, v5, v6, v7, v8, .int tr, .int ft])), (g0, .inr (1, [.int (nI (cSp C)), .int (nI (cLa C)), .int (nI (cAg C)), .ref g1, .ref g2, .ref g3, .ref g4, .ref g5])), (g4, .inl (cI, 4, .inl st))] sz)) 0 0 (va_A [(x0, .inr (8, [.ref g0, v1, v2, v3, v4, v5, v6, v7, v8, .int tr, .int ft])), (g0, .inr (1, [.int (nI (cSp C)), .int (nI (cLa C)), .int (nI (cAg C)), .ref g1, .ref g2, .ref g3, .ref g4, .ref g5])), (g4, .inl (cI, 4, .inl st))] sz) := by
  refine Met.ofW (cc := cX9_tellAsMirrored) (maxL := 2) (ret := (some .int)) (by decide) rfl ?_
  intro pP eE sS mM args below meth cC s₁ B hml hv
  obtain ⟨rfl, hsz, hP, hK, hD0⟩ := hv
  have hx := B.exec
  have hb := B.bytes
  have hr := B.returns
  have hts := atoms_spec (ws := wsX9_tellAsMirrored) B.pre
  have hown : sS.vm.findClass RX9 = some mM.cls := findClass_of_methodNamed B.named
  have hlocks := B.notSynchronized
  subst hsz
  have hD := hD0.self (sz := sS.heap.size)
  generalize hAe : va_A [(x0, .inr (8, [.ref g0, v1, v2, v3, v4, v5, v6, v7, v8, .int tr, .int ft])), (g0, .inr (1, [.int (nI (cSp C)), .int (nI (cLa C)), .int (nI (cAg C)), .ref g1, .ref g2, .ref g3, .ref g4, .ref g5])), (g4, .inl (cI, 4, .inl st))] sS.heap.size = A at hD ⊢
  have hA : ∀ q : Nat, sS.heap.size ≤ q → A q := fun q h => by rw [← hAe]; exact Or.inr h
  have hS : va_S A sS.heap sS.heap [] := va_S.rf
  have hP : va_P D vwCl [(x0, .inr (8, [.ref g0, v1, v2, v3, v4, v5, v6, v7, v8, .int tr, .int ft])), (g0, .inr (1, [.int (nI (cSp C)), .int (nI (cLa C)), .int (nI (cAg C)), .ref g1, .ref g2, .ref g3, .ref g4, .ref g5])), (g4, .inl (cI, 4, .inl st))] sS.heap := hP
  have hD : va_D A [(x0, .inr (8, [.ref g0, v1, v2, v3, v4, v5, v6, v7, v8, .int tr, .int ft])), (g0, .inr (1, [.int (nI (cSp C)), .int (nI (cLa C)), .int (nI (cAg C)), .ref g1, .ref g2, .ref g3, .ref g4, .ref g5])), (g4, .inl (cI, 4, .inl st))] := hD
  have hl := lv_entry ([.ref x0, .int (nI k)]) (n := 2) (Nat.le_of_ble_eq_true rfl)
  rw [lg_entry_eq]
  generalize (lg_sl ([.ref x0, .int (nI k)]) ++ List.replicate (2 - (lg_sl ([.ref x0, .int (nI k)])).length) Slot.unset).toArray = ls at hl ⊢
  have hl : lv_has ls 2 [(0, .ref x0), (1, .int (nI k))] := hl
  obtain ⟨QQ, hQQ⟩ : ∃ QQ : State → Prop, QQ = MQ below (kQi D (fun (r : Int32) (u : Unit) => r = nI (cSt C k + 100) ∧ True) (fun u : Unit => [(x0, .inr (8, [.ref g0, v1, v2, v3, v4, v5, v6, v7, v8, .int (trc (trc tr 2) 1), .int ft])), (g0, .inr (1, [.int (nI (cSp C)), .int (nI (cLa C)), .int (nI (cAg C)), .ref g1, .ref g2, .ref g3, .ref g4, .ref g5])), (g4, .inl (cI, 4, .inl st))]) A) ([.ref x0, .int (nI k)]).toArray sS 0 0 A := ⟨_, rfl⟩
  refine kk_QQ hQQ.symm ?_
  refine lv_aload_n hx hb dX9_tellAsMirrored_0 rfl (lv_at hl 0 rfl) ?_
  refine lv_iconst (v := nI 2) hx hb dX9_tellAsMirrored_1 (by decide +kernel) ?_
  have hF := va_free (wc := [(x0, .inr (8, [.ref g0, (v1), (v2), (v3), (v4), (v5), (v6), (v7), (v8), .int tr, .int ft]))]) hD hS hA [0] rfl
  refine va_callv (va_runV (As := [.int (nI 2)]) (rest := []) ⟨hx, hb, hml, hown, hts⟩ (c_X9_leave lL D cI cS _ x0 (.ref g0) (v1) (v2) (v3) (v4) (v5) (v6) (v7) (v8) tr ft 2) (cwV 1 hts gX9_tellAsMirrored_X9_leave rfl rfl rfl cd_X9_leave ⟨Nat.le_of_ble_eq_true rfl, Nat.le_of_ble_eq_true rfl⟩) ⟨kB_blind, va_recv hK hP (ci := 8) (q0 := 0) rfl rfl, fun U hU hW => ⟨rfl, by rw [hU], by rw [hU]; exact hP.sub [0] rfl, va_K.moved hW.alike hK, (hD.sub [0] (by decide) rfl).weaken (fun _ _ _ _ => trivial)⟩⟩ rfl rfl hl.1 rfl (lv_room (Nat.le_of_ble_eq_true rfl)) dX9_tellAsMirrored_2 ⟨Nat.le_of_ble_eq_true rfl, Nat.le_of_ble_eq_true rfl⟩) hS (fun q _ h => hF q h) hF (fun u_1 t H1 locs ht hvm hw_1 hB hz1 hk1 hS => ?_)
  obtain ⟨hP, hD⟩ := kk_join (wc := [(x0, .inr (8, [.ref g0, (v1), (v2), (v3), (v4), (v5), (v6), (v7), (v8), .int tr, .int ft]))]) (w1 := [(x0, .inr (8, [.ref g0, (v1), (v2), (v3), (v4), (v5), (v6), (v7), (v8), .int (trc tr 2), .int ft]))]) (H1 := H1) hP hD [0] rfl [x0] rfl rfl hk1 (by rw [← ht]; exact hB)
  have hw_1 : True := hw_1
  clear hF hB hk1 hz1 hvm
  clear ht
  generalize H1 = H at hP hS ⊢
  have hP : va_P D vwCl [(x0, .inr (8, [.ref g0, (v1), (v2), (v3), (v4), (v5), (v6), (v7), (v8), .int (trc tr 2), .int ft])), (g0, .inr (1, [.int (nI (cSp C)), .int (nI (cLa C)), .int (nI (cAg C)), .ref g1, .ref g2, .ref g3, .ref g4, .ref g5])), (g4, .inl (cI, 4, .inl st))] H := hP
  have hD : va_D A [(x0, .inr (8, [.ref g0, (v1), (v2), (v3), (v4), (v5), (v6), (v7), (v8), .int (trc tr 2), .int ft])), (g0, .inr (1, [.int (nI (cSp C)), .int (nI (cLa C)), .int (nI (cAg C)), .ref g1, .ref g2, .ref g3, .ref g4, .ref g5])), (g4, .inl (cI, 4, .inl st))] := hD
  refine lv_aload_n hx hb dX9_tellAsMirrored_5 rfl (lv_at hl 0 rfl) ?_
  refine lv_iload_n hx hb dX9_tellAsMirrored_6 rfl (lv_at hl 1 rfl) ?_
  have o_2 : okC C := by assumption
  have o_3 : ∀ k, k < cLa C → st k = nI (cSt C k) := by assumption
  have o_4 : k < cLa C := by omega
  have hF := va_free (wc := [(x0, .inr (8, [.ref g0, ((v1)), ((v2)), ((v3)), ((v4)), ((v5)), ((v6)), ((v7)), ((v8)), .int (trc tr 2), .int ft])), (g0, .inr (1, [.int (nI (cSp C)), .int (nI (cLa C)), .int (nI (cAg C)), .ref g1, .ref g2, .ref g3, .ref g4, .ref g5])), (g4, .inl (cI, 4, .inl st))]) hD hS hA [0, 1, 2] rfl
  refine va_calli (va_runV (As := [.int (nI k)]) (rest := []) ⟨hx, hb, hml, hown, hts⟩ (c_X9_tellAsLamp lL D cI cS _ x0 ((v1)) ((v2)) ((v3)) ((v4)) ((v5)) ((v6)) ((v7)) ((v8)) (trc tr 2) ft g0 g1 g2 g3 g4 g5 C st k o_2 o_3 o_4) (cwV 1 hts gX9_tellAsMirrored_X9_tellAsLamp rfl rfl rfl cd_X9_tellAsLamp ⟨Nat.le_of_ble_eq_true rfl, Nat.le_of_ble_eq_true rfl⟩) ⟨kB_blind, va_recv hK hP (ci := 8) (q0 := 0) rfl rfl, fun U hU hW => ⟨rfl, by rw [hU], by rw [hU]; exact hP.sub [0, 1, 2] rfl, va_K.moved hW.alike hK, (hD.sub [0, 1, 2] (by decide) rfl).weaken (fun _ _ _ _ => trivial)⟩⟩ rfl rfl hl.1 rfl (lv_room (Nat.le_of_ble_eq_true rfl)) dX9_tellAsMirrored_7 ⟨Nat.le_of_ble_eq_true rfl, Nat.le_of_ble_eq_true rfl⟩) hS (fun q _ h => hF q h) hF (fun r_5 u_5 t H1 locs ht hvm hw_5 hB hz1 hk1 hS => ?_)
  obtain ⟨hP, hD⟩ := kk_join (wc := [(x0, .inr (8, [.ref g0, ((v1)), ((v2)), ((v3)), ((v4)), ((v5)), ((v6)), ((v7)), ((v8)), .int (trc tr 2), .int ft])), (g0, .inr (1, [.int (nI (cSp C)), .int (nI (cLa C)), .int (nI (cAg C)), .ref g1, .ref g2, .ref g3, .ref g4, .ref g5])), (g4, .inl (cI, 4, .inl st))]) (w1 := [(x0, .inr (8, [.ref g0, ((v1)), ((v2)), ((v3)), ((v4)), ((v5)), ((v6)), ((v7)), ((v8)), .int (trc (trc tr 2) 1), .int ft])), (g0, .inr (1, [.int (nI (cSp C)), .int (nI (cLa C)), .int (nI (cAg C)), .ref g1, .ref g2, .ref g3, .ref g4, .ref g5])), (g4, .inl (cI, 4, .inl st))]) (H1 := H1) hP hD [0, 1, 2] rfl [x0, g0, g4] rfl rfl hk1 (by rw [← ht]; exact hB)
  have hw_5 : r_5 = nI (cSt C k) ∧ True := hw_5
  clear hF hB hk1 hz1 hvm
  clear ht
  generalize H1 = H at hP hS ⊢
  have hP : va_P D vwCl [(x0, .inr (8, [.ref g0, ((v1)), ((v2)), ((v3)), ((v4)), ((v5)), ((v6)), ((v7)), ((v8)), .int (trc (trc tr 2) 1), .int ft])), (g0, .inr (1, [.int (nI (cSp C)), .int (nI (cLa C)), .int (nI (cAg C)), .ref g1, .ref g2, .ref g3, .ref g4, .ref g5])), (g4, .inl (cI, 4, .inl st))] H := hP
  have hD : va_D A [(x0, .inr (8, [.ref g0, ((v1)), ((v2)), ((v3)), ((v4)), ((v5)), ((v6)), ((v7)), ((v8)), .int (trc (trc tr 2) 1), .int ft])), (g0, .inr (1, [.int (nI (cSp C)), .int (nI (cLa C)), .int (nI (cAg C)), .ref g1, .ref g2, .ref g3, .ref g4, .ref g5])), (g4, .inl (cI, 4, .inl st))] := hD
  obtain ⟨rfl, hw_5⟩ := hw_5
  refine lv_bipush (v := nI 100) hx hb dX9_tellAsMirrored_10 (by decide +kernel) ?_
  refine kk_iadd hx hb dX9_tellAsMirrored_12 ?_
  have hq : (nI ((cSt C k) + 100)) = nI (cSt C k + 100) ∧ True := by exact ⟨rfl, trivial⟩
  refine kk_QQ hQQ ?_
  exact W.iret (v := nI ((cSt C k) + 100)) hx hb hr (fun t ht hW => ⟨⟨nI ((cSt C k) + 100), (), rfl, hq, by show va_P D vwCl _ t.heap; rw [ht]; exact hP⟩, hS.F ht⟩) hS.2.2 dX9_tellAsMirrored_13

abbrev rmX9_tellAsFeast : Room := { frames := 3, cells := 0, slots := 0, locals := 63 }
set_option maxHeartbeats 4000000 in
set_option maxRecDepth 100000 in
theorem c_X9_tellAsFeast (lL : Launch) (D : va_G) (cI cS : ClassId) (sz : Nat) (x0 : Nat) (v1 : Value) (v2 : Value) (v3 : Value) (v4 : Value) (v5 : Value) (v6 : Value) (v7 : Value) (v8 : Value) (tr : Int32) (ft : Int32) (g0 : Nat) (g1 : Nat) (g2 : Nat) (g3 : Nat) (g4 : Nat) (g5 : Nat) (C : Co) (st : Nat → Int32) (k : Nat) (hC : okC C) (hst : ∀ k, k < cLa C → st k = nI (cSt C k)) (hk : k < cLa C) : Met lL yX9_tellAsFeast wsX9_tellAsFeast rmX9_tellAsFeast (va_Pc [.ref x0, .int (nI k)] (kB D cI cS [(x0, .inr (8, [.ref g0, v1, v2, v3, v4, v5, v6, v7, v8, .int tr, .int ft])), (g0, .inr (1, [.int (nI (cSp C)), .int (nI (cLa C)), .int (nI (cAg C)), .ref g1, .ref g2, .ref g3, .ref g4, .ref g5])), (g4, .inl (cI, 4, .inl st))] sz)) (kQi D (fun (r : Int32) (u : Unit) => r = nI (cSt C k + 100 + cSt C k) ∧ True) (fun u : Unit => [(x0, .inr (8, [.ref g0, v1, v2, v3, v4, v5, v6, v7, v8, .int (trc (trc (trc (trc tr 3) 2) 1) 1), .int ft])), (g0, .inr (1, [.int (nI (cSp C)), .int (nI (cLa C)), .int (nI (cAg C)), .ref g1, .ref g2, .ref g3, .ref g4, .ref g5])), (g4, .inl (cI, 4, .inl st))]) (va_A [(x0, .inr (8, [.ref g0, v1, v2, v3, v4, v5, v6, v7, v8, .int tr, .int ft])), (g0, .inr (1, [.int (nI (cSp C)), .int (nI (cLa C)), .int (nI (cAg C)), .ref g1, .ref g2, .ref g3, .ref g4, .ref g5])), (g4, .inl (cI, 4, .inl st))] sz)) 0 0 (va_A [(x0, .inr (8, [.ref g0, v1, v2, v3, v4, v5, v6, v7, v8, .int tr, .int ft])), (g0, .inr (1, [.int (nI (cSp C)), .int (nI (cLa C)), .int (nI (cAg C)), .ref g1, .ref g2, .ref g3, .ref g4, .ref g5])), (g4, .inl (cI, 4, .inl st))] sz) := by
  refine Met.ofW (cc := cX9_tellAsFeast) (maxL := 3) (ret := (some .int)) (by decide) rfl ?_
  intro pP eE sS mM args below meth cC s₁ B hml hv
  obtain ⟨rfl, hsz, hP, hK, hD0⟩ := hv
  have hx := B.exec
  have hb := B.bytes
  have hr := B.returns
  have hts := atoms_spec (ws := wsX9_tellAsFeast) B.pre
  have hown : sS.vm.findClass RX9 = some mM.cls := findClass_of_methodNamed B.named
  have hlocks := B.notSynchronized
  subst hsz
  have hD := hD0.self (sz := sS.heap.size)
  generalize hAe : va_A [(x0, .inr (8, [.ref g0, v1, v2, v3, v4, v5, v6, v7, v8, .int tr, .int ft])), (g0, .inr (1, [.int (nI (cSp C)), .int (nI (cLa C)), .int (nI (cAg C)), .ref g1, .ref g2, .ref g3, .ref g4, .ref g5])), (g4, .inl (cI, 4, .inl st))] sS.heap.size = A at hD ⊢
  have hA : ∀ q : Nat, sS.heap.size ≤ q → A q := fun q h => by rw [← hAe]; exact Or.inr h
  have hS : va_S A sS.heap sS.heap [] := va_S.rf
  have hP : va_P D vwCl [(x0, .inr (8, [.ref g0, v1, v2, v3, v4, v5, v6, v7, v8, .int tr, .int ft])), (g0, .inr (1, [.int (nI (cSp C)), .int (nI (cLa C)), .int (nI (cAg C)), .ref g1, .ref g2, .ref g3, .ref g4, .ref g5])), (g4, .inl (cI, 4, .inl st))] sS.heap := hP
  have hD : va_D A [(x0, .inr (8, [.ref g0, v1, v2, v3, v4, v5, v6, v7, v8, .int tr, .int ft])), (g0, .inr (1, [.int (nI (cSp C)), .int (nI (cLa C)), .int (nI (cAg C)), .ref g1, .ref g2, .ref g3, .ref g4, .ref g5])), (g4, .inl (cI, 4, .inl st))] := hD
  have hl := lv_entry ([.ref x0, .int (nI k)]) (n := 3) (Nat.le_of_ble_eq_true rfl)
  rw [lg_entry_eq]
  generalize (lg_sl ([.ref x0, .int (nI k)]) ++ List.replicate (3 - (lg_sl ([.ref x0, .int (nI k)])).length) Slot.unset).toArray = ls at hl ⊢
  have hl : lv_has ls 3 [(0, .ref x0), (1, .int (nI k))] := hl
  obtain ⟨QQ, hQQ⟩ : ∃ QQ : State → Prop, QQ = MQ below (kQi D (fun (r : Int32) (u : Unit) => r = nI (cSt C k + 100 + cSt C k) ∧ True) (fun u : Unit => [(x0, .inr (8, [.ref g0, v1, v2, v3, v4, v5, v6, v7, v8, .int (trc (trc (trc (trc tr 3) 2) 1) 1), .int ft])), (g0, .inr (1, [.int (nI (cSp C)), .int (nI (cLa C)), .int (nI (cAg C)), .ref g1, .ref g2, .ref g3, .ref g4, .ref g5])), (g4, .inl (cI, 4, .inl st))]) A) ([.ref x0, .int (nI k)]).toArray sS 0 0 A := ⟨_, rfl⟩
  refine kk_QQ hQQ.symm ?_
  refine lv_aload_n hx hb dX9_tellAsFeast_0 rfl (lv_at hl 0 rfl) ?_
  refine lv_iconst (v := nI 3) hx hb dX9_tellAsFeast_1 (by decide +kernel) ?_
  have hF := va_free (wc := [(x0, .inr (8, [.ref g0, (v1), (v2), (v3), (v4), (v5), (v6), (v7), (v8), .int tr, .int ft]))]) hD hS hA [0] rfl
  refine va_callv (va_runV (As := [.int (nI 3)]) (rest := []) ⟨hx, hb, hml, hown, hts⟩ (c_X9_leave lL D cI cS _ x0 (.ref g0) (v1) (v2) (v3) (v4) (v5) (v6) (v7) (v8) tr ft 3) (cwV 1 hts gX9_tellAsFeast_X9_leave rfl rfl rfl cd_X9_leave ⟨Nat.le_of_ble_eq_true rfl, Nat.le_of_ble_eq_true rfl⟩) ⟨kB_blind, va_recv hK hP (ci := 8) (q0 := 0) rfl rfl, fun U hU hW => ⟨rfl, by rw [hU], by rw [hU]; exact hP.sub [0] rfl, va_K.moved hW.alike hK, (hD.sub [0] (by decide) rfl).weaken (fun _ _ _ _ => trivial)⟩⟩ rfl rfl hl.1 rfl (lv_room (Nat.le_of_ble_eq_true rfl)) dX9_tellAsFeast_2 ⟨Nat.le_of_ble_eq_true rfl, Nat.le_of_ble_eq_true rfl⟩) hS (fun q _ h => hF q h) hF (fun u_1 t H1 locs ht hvm hw_1 hB hz1 hk1 hS => ?_)
  obtain ⟨hP, hD⟩ := kk_join (wc := [(x0, .inr (8, [.ref g0, (v1), (v2), (v3), (v4), (v5), (v6), (v7), (v8), .int tr, .int ft]))]) (w1 := [(x0, .inr (8, [.ref g0, (v1), (v2), (v3), (v4), (v5), (v6), (v7), (v8), .int (trc tr 3), .int ft]))]) (H1 := H1) hP hD [0] rfl [x0] rfl rfl hk1 (by rw [← ht]; exact hB)
  have hw_1 : True := hw_1
  clear hF hB hk1 hz1 hvm
  clear ht
  generalize H1 = H at hP hS ⊢
  have hP : va_P D vwCl [(x0, .inr (8, [.ref g0, (v1), (v2), (v3), (v4), (v5), (v6), (v7), (v8), .int (trc tr 3), .int ft])), (g0, .inr (1, [.int (nI (cSp C)), .int (nI (cLa C)), .int (nI (cAg C)), .ref g1, .ref g2, .ref g3, .ref g4, .ref g5])), (g4, .inl (cI, 4, .inl st))] H := hP
  have hD : va_D A [(x0, .inr (8, [.ref g0, (v1), (v2), (v3), (v4), (v5), (v6), (v7), (v8), .int (trc tr 3), .int ft])), (g0, .inr (1, [.int (nI (cSp C)), .int (nI (cLa C)), .int (nI (cAg C)), .ref g1, .ref g2, .ref g3, .ref g4, .ref g5])), (g4, .inl (cI, 4, .inl st))] := hD
  refine lv_aload_n hx hb dX9_tellAsFeast_5 rfl (lv_at hl 0 rfl) ?_
  refine lv_iload_n hx hb dX9_tellAsFeast_6 rfl (lv_at hl 1 rfl) ?_
  have o_2 : okC C := by assumption
  have o_3 : ∀ k, k < cLa C → st k = nI (cSt C k) := by assumption
  have o_4 : k < cLa C := by omega
  have hF := va_free (wc := [(x0, .inr (8, [.ref g0, ((v1)), ((v2)), ((v3)), ((v4)), ((v5)), ((v6)), ((v7)), ((v8)), .int (trc tr 3), .int ft])), (g0, .inr (1, [.int (nI (cSp C)), .int (nI (cLa C)), .int (nI (cAg C)), .ref g1, .ref g2, .ref g3, .ref g4, .ref g5])), (g4, .inl (cI, 4, .inl st))]) hD hS hA [0, 1, 2] rfl
  refine va_calli (va_runV (As := [.int (nI k)]) (rest := []) ⟨hx, hb, hml, hown, hts⟩ (c_X9_tellAsMirrored lL D cI cS _ x0 ((v1)) ((v2)) ((v3)) ((v4)) ((v5)) ((v6)) ((v7)) ((v8)) (trc tr 3) ft g0 g1 g2 g3 g4 g5 C st k o_2 o_3 o_4) (cwV 1 hts gX9_tellAsFeast_X9_tellAsMirrored rfl rfl rfl cd_X9_tellAsMirrored ⟨Nat.le_of_ble_eq_true rfl, Nat.le_of_ble_eq_true rfl⟩) ⟨kB_blind, va_recv hK hP (ci := 8) (q0 := 0) rfl rfl, fun U hU hW => ⟨rfl, by rw [hU], by rw [hU]; exact hP.sub [0, 1, 2] rfl, va_K.moved hW.alike hK, (hD.sub [0, 1, 2] (by decide) rfl).weaken (fun _ _ _ _ => trivial)⟩⟩ rfl rfl hl.1 rfl (lv_room (Nat.le_of_ble_eq_true rfl)) dX9_tellAsFeast_7 ⟨Nat.le_of_ble_eq_true rfl, Nat.le_of_ble_eq_true rfl⟩) hS (fun q _ h => hF q h) hF (fun r_5 u_5 t H1 locs ht hvm hw_5 hB hz1 hk1 hS => ?_)
  obtain ⟨hP, hD⟩ := kk_join (wc := [(x0, .inr (8, [.ref g0, ((v1)), ((v2)), ((v3)), ((v4)), ((v5)), ((v6)), ((v7)), ((v8)), .int (trc tr 3), .int ft])), (g0, .inr (1, [.int (nI (cSp C)), .int (nI (cLa C)), .int (nI (cAg C)), .ref g1, .ref g2, .ref g3, .ref g4, .ref g5])), (g4, .inl (cI, 4, .inl st))]) (w1 := [(x0, .inr (8, [.ref g0, ((v1)), ((v2)), ((v3)), ((v4)), ((v5)), ((v6)), ((v7)), ((v8)), .int (trc (trc (trc tr 3) 2) 1), .int ft])), (g0, .inr (1, [.int (nI (cSp C)), .int (nI (cLa C)), .int (nI (cAg C)), .ref g1, .ref g2, .ref g3, .ref g4, .ref g5])), (g4, .inl (cI, 4, .inl st))]) (H1 := H1) hP hD [0, 1, 2] rfl [x0, g0, g4] rfl rfl hk1 (by rw [← ht]; exact hB)
  have hw_5 : r_5 = nI (cSt C k + 100) ∧ True := hw_5
  clear hF hB hk1 hz1 hvm
  clear ht
  generalize H1 = H at hP hS ⊢
  have hP : va_P D vwCl [(x0, .inr (8, [.ref g0, ((v1)), ((v2)), ((v3)), ((v4)), ((v5)), ((v6)), ((v7)), ((v8)), .int (trc (trc (trc tr 3) 2) 1), .int ft])), (g0, .inr (1, [.int (nI (cSp C)), .int (nI (cLa C)), .int (nI (cAg C)), .ref g1, .ref g2, .ref g3, .ref g4, .ref g5])), (g4, .inl (cI, 4, .inl st))] H := hP
  have hD : va_D A [(x0, .inr (8, [.ref g0, ((v1)), ((v2)), ((v3)), ((v4)), ((v5)), ((v6)), ((v7)), ((v8)), .int (trc (trc (trc tr 3) 2) 1), .int ft])), (g0, .inr (1, [.int (nI (cSp C)), .int (nI (cLa C)), .int (nI (cAg C)), .ref g1, .ref g2, .ref g3, .ref g4, .ref g5])), (g4, .inl (cI, 4, .inl st))] := hD
  obtain ⟨rfl, hw_5⟩ := hw_5
  refine lv_istore_n (lv' := [(2, .int (nI (cSt C k + 100))), (0, .ref x0), (1, .int (nI k))]) hx hb dX9_tellAsFeast_10 rfl hl (by decide) rfl (fun ls hl => ?_)
  refine lv_iload_n hx hb dX9_tellAsFeast_11 rfl (lv_at hl 0 rfl) ?_
  refine lv_aload_n hx hb dX9_tellAsFeast_12 rfl (lv_at hl 1 rfl) ?_
  refine lv_iload_n hx hb dX9_tellAsFeast_13 rfl (lv_at hl 2 rfl) ?_
  have o_6 : okC C := by assumption
  have o_7 : ∀ k, k < cLa C → st k = nI (cSt C k) := by assumption
  have o_8 : k < cLa C := by omega
  have hF := va_free (wc := [(x0, .inr (8, [.ref g0, (((v1))), (((v2))), (((v3))), (((v4))), (((v5))), (((v6))), (((v7))), (((v8))), .int (trc (trc (trc tr 3) 2) 1), .int ft])), (g0, .inr (1, [.int (nI (cSp C)), .int (nI (cLa C)), .int (nI (cAg C)), .ref g1, .ref g2, .ref g3, .ref g4, .ref g5])), (g4, .inl (cI, 4, .inl st))]) hD hS hA [0, 1, 2] rfl
  refine va_calli (va_runV (As := [.int (nI k)]) (rest := [.int (nI (cSt C k + 100))]) ⟨hx, hb, hml, hown, hts⟩ (c_X9_tellAsLamp lL D cI cS _ x0 (((v1))) (((v2))) (((v3))) (((v4))) (((v5))) (((v6))) (((v7))) (((v8))) (trc (trc (trc tr 3) 2) 1) ft g0 g1 g2 g3 g4 g5 C st k o_6 o_7 o_8) (cwV 1 hts gX9_tellAsFeast_X9_tellAsLamp rfl rfl rfl cd_X9_tellAsLamp ⟨Nat.le_of_ble_eq_true rfl, Nat.le_of_ble_eq_true rfl⟩) ⟨kB_blind, va_recv hK hP (ci := 8) (q0 := 0) rfl rfl, fun U hU hW => ⟨rfl, by rw [hU], by rw [hU]; exact hP.sub [0, 1, 2] rfl, va_K.moved hW.alike hK, (hD.sub [0, 1, 2] (by decide) rfl).weaken (fun _ _ _ _ => trivial)⟩⟩ rfl rfl hl.1 rfl (lv_room (Nat.le_of_ble_eq_true rfl)) dX9_tellAsFeast_14 ⟨Nat.le_of_ble_eq_true rfl, Nat.le_of_ble_eq_true rfl⟩) hS (fun q _ h => hF q h) hF (fun r_9 u_9 t H1 locs ht hvm hw_9 hB hz1 hk1 hS => ?_)
  obtain ⟨hP, hD⟩ := kk_join (wc := [(x0, .inr (8, [.ref g0, (((v1))), (((v2))), (((v3))), (((v4))), (((v5))), (((v6))), (((v7))), (((v8))), .int (trc (trc (trc tr 3) 2) 1), .int ft])), (g0, .inr (1, [.int (nI (cSp C)), .int (nI (cLa C)), .int (nI (cAg C)), .ref g1, .ref g2, .ref g3, .ref g4, .ref g5])), (g4, .inl (cI, 4, .inl st))]) (w1 := [(x0, .inr (8, [.ref g0, (((v1))), (((v2))), (((v3))), (((v4))), (((v5))), (((v6))), (((v7))), (((v8))), .int (trc (trc (trc (trc tr 3) 2) 1) 1), .int ft])), (g0, .inr (1, [.int (nI (cSp C)), .int (nI (cLa C)), .int (nI (cAg C)), .ref g1, .ref g2, .ref g3, .ref g4, .ref g5])), (g4, .inl (cI, 4, .inl st))]) (H1 := H1) hP hD [0, 1, 2] rfl [x0, g0, g4] rfl rfl hk1 (by rw [← ht]; exact hB)
  have hw_9 : r_9 = nI (cSt C k) ∧ True := hw_9
  clear hF hB hk1 hz1 hvm
  clear ht
  generalize H1 = H at hP hS ⊢
  have hP : va_P D vwCl [(x0, .inr (8, [.ref g0, (((v1))), (((v2))), (((v3))), (((v4))), (((v5))), (((v6))), (((v7))), (((v8))), .int (trc (trc (trc (trc tr 3) 2) 1) 1), .int ft])), (g0, .inr (1, [.int (nI (cSp C)), .int (nI (cLa C)), .int (nI (cAg C)), .ref g1, .ref g2, .ref g3, .ref g4, .ref g5])), (g4, .inl (cI, 4, .inl st))] H := hP
  have hD : va_D A [(x0, .inr (8, [.ref g0, (((v1))), (((v2))), (((v3))), (((v4))), (((v5))), (((v6))), (((v7))), (((v8))), .int (trc (trc (trc (trc tr 3) 2) 1) 1), .int ft])), (g0, .inr (1, [.int (nI (cSp C)), .int (nI (cLa C)), .int (nI (cAg C)), .ref g1, .ref g2, .ref g3, .ref g4, .ref g5])), (g4, .inl (cI, 4, .inl st))] := hD
  obtain ⟨rfl, hw_9⟩ := hw_9
  refine kk_iadd hx hb dX9_tellAsFeast_17 ?_
  have hq : (nI ((cSt C k + 100) + (cSt C k))) = nI (cSt C k + 100 + cSt C k) ∧ True := by exact ⟨rfl, trivial⟩
  refine kk_QQ hQQ ?_
  exact W.iret (v := nI ((cSt C k + 100) + (cSt C k))) hx hb hr (fun t ht hW => ⟨⟨nI ((cSt C k + 100) + (cSt C k)), (), rfl, hq, by show va_P D vwCl _ t.heap; rw [ht]; exact hP⟩, hS.F ht⟩) hS.2.2 dX9_tellAsFeast_18

abbrev rmX9_seeAsLent : Room := { frames := 1, cells := 0, slots := 0, locals := 21 }
set_option maxHeartbeats 4000000 in
set_option maxRecDepth 100000 in
theorem c_X9_seeAsLent (lL : Launch) (D : va_G) (cI cS : ClassId) (sz : Nat) (x0 : Nat) (v0 : Value) (v1 : Value) (v2 : Value) (v3 : Value) (v4 : Value) (v5 : Value) (v6 : Value) (v7 : Value) (v8 : Value) (tr : Int32) (ft : Int32) (k : Nat) : Met lL yX9_seeAsLent wsX9_seeAsLent rmX9_seeAsLent (va_Pc [.ref x0, .int (nI k)] (kB D cI cS [(x0, .inr (8, [v0, v1, v2, v3, v4, v5, v6, v7, v8, .int tr, .int ft]))] sz)) (kQi D (fun (r : Int32) (u : Unit) => r = nI k ∧ True) (fun u : Unit => [(x0, .inr (8, [v0, v1, v2, v3, v4, v5, v6, v7, v8, .int (trc tr 4), .int ft]))]) (va_A [(x0, .inr (8, [v0, v1, v2, v3, v4, v5, v6, v7, v8, .int tr, .int ft]))] sz)) 0 0 (va_A [(x0, .inr (8, [v0, v1, v2, v3, v4, v5, v6, v7, v8, .int tr, .int ft]))] sz) := by
  refine Met.ofW (cc := cX9_seeAsLent) (maxL := 2) (ret := (some .int)) (by decide) rfl ?_
  intro pP eE sS mM args below meth cC s₁ B hml hv
  obtain ⟨rfl, hsz, hP, hK, hD0⟩ := hv
  have hx := B.exec
  have hb := B.bytes
  have hr := B.returns
  have hts := atoms_spec (ws := wsX9_seeAsLent) B.pre
  have hown : sS.vm.findClass RX9 = some mM.cls := findClass_of_methodNamed B.named
  have hlocks := B.notSynchronized
  subst hsz
  have hD := hD0.self (sz := sS.heap.size)
  generalize hAe : va_A [(x0, .inr (8, [v0, v1, v2, v3, v4, v5, v6, v7, v8, .int tr, .int ft]))] sS.heap.size = A at hD ⊢
  have hA : ∀ q : Nat, sS.heap.size ≤ q → A q := fun q h => by rw [← hAe]; exact Or.inr h
  have hS : va_S A sS.heap sS.heap [] := va_S.rf
  have hP : va_P D vwCl [(x0, .inr (8, [v0, v1, v2, v3, v4, v5, v6, v7, v8, .int tr, .int ft]))] sS.heap := hP
  have hD : va_D A [(x0, .inr (8, [v0, v1, v2, v3, v4, v5, v6, v7, v8, .int tr, .int ft]))] := hD
  have hl := lv_entry ([.ref x0, .int (nI k)]) (n := 2) (Nat.le_of_ble_eq_true rfl)
  rw [lg_entry_eq]
  generalize (lg_sl ([.ref x0, .int (nI k)]) ++ List.replicate (2 - (lg_sl ([.ref x0, .int (nI k)])).length) Slot.unset).toArray = ls at hl ⊢
  have hl : lv_has ls 2 [(0, .ref x0), (1, .int (nI k))] := hl
  obtain ⟨QQ, hQQ⟩ : ∃ QQ : State → Prop, QQ = MQ below (kQi D (fun (r : Int32) (u : Unit) => r = nI k ∧ True) (fun u : Unit => [(x0, .inr (8, [v0, v1, v2, v3, v4, v5, v6, v7, v8, .int (trc tr 4), .int ft]))]) A) ([.ref x0, .int (nI k)]).toArray sS 0 0 A := ⟨_, rfl⟩
  refine kk_QQ hQQ.symm ?_
  refine lv_aload_n hx hb dX9_seeAsLent_0 rfl (lv_at hl 0 rfl) ?_
  refine lv_iconst (v := nI 4) hx hb dX9_seeAsLent_1 (by decide +kernel) ?_
  have hF := va_free (wc := [(x0, .inr (8, [(v0), (v1), (v2), (v3), (v4), (v5), (v6), (v7), (v8), .int tr, .int ft]))]) hD hS hA [0] rfl
  refine va_callv (va_runV (As := [.int (nI 4)]) (rest := []) ⟨hx, hb, hml, hown, hts⟩ (c_X9_leave lL D cI cS _ x0 (v0) (v1) (v2) (v3) (v4) (v5) (v6) (v7) (v8) tr ft 4) (cwV 1 hts gX9_seeAsLent_X9_leave rfl rfl rfl cd_X9_leave ⟨Nat.le_of_ble_eq_true rfl, Nat.le_of_ble_eq_true rfl⟩) ⟨kB_blind, va_recv hK hP (ci := 8) (q0 := 0) rfl rfl, fun U hU hW => ⟨rfl, by rw [hU], by rw [hU]; exact hP.sub [0] rfl, va_K.moved hW.alike hK, (hD.sub [0] (by decide) rfl).weaken (fun _ _ _ _ => trivial)⟩⟩ rfl rfl hl.1 rfl (lv_room (Nat.le_of_ble_eq_true rfl)) dX9_seeAsLent_2 ⟨Nat.le_of_ble_eq_true rfl, Nat.le_of_ble_eq_true rfl⟩) hS (fun q _ h => hF q h) hF (fun u_1 t H1 locs ht hvm hw_1 hB hz1 hk1 hS => ?_)
  obtain ⟨hP, hD⟩ := kk_join (wc := [(x0, .inr (8, [(v0), (v1), (v2), (v3), (v4), (v5), (v6), (v7), (v8), .int tr, .int ft]))]) (w1 := [(x0, .inr (8, [(v0), (v1), (v2), (v3), (v4), (v5), (v6), (v7), (v8), .int (trc tr 4), .int ft]))]) (H1 := H1) hP hD [0] rfl [x0] rfl rfl hk1 (by rw [← ht]; exact hB)
  have hw_1 : True := hw_1
  clear hF hB hk1 hz1 hvm
  clear ht
  generalize H1 = H at hP hS ⊢
  have hP : va_P D vwCl [(x0, .inr (8, [(v0), (v1), (v2), (v3), (v4), (v5), (v6), (v7), (v8), .int (trc tr 4), .int ft]))] H := hP
  have hD : va_D A [(x0, .inr (8, [(v0), (v1), (v2), (v3), (v4), (v5), (v6), (v7), (v8), .int (trc tr 4), .int ft]))] := hD
  refine lv_iload_n hx hb dX9_seeAsLent_5 rfl (lv_at hl 1 rfl) ?_
  have hq : (nI k) = nI k ∧ True := by exact ⟨rfl, trivial⟩
  refine kk_QQ hQQ ?_
  exact W.iret (v := nI k) hx hb hr (fun t ht hW => ⟨⟨nI k, (), rfl, hq, by show va_P D vwCl _ t.heap; rw [ht]; exact hP⟩, hS.F ht⟩) hS.2.2 dX9_seeAsLent_6

abbrev rmX9_seeAsFeast : Room := { frames := 1, cells := 0, slots := 0, locals := 21 }
set_option maxHeartbeats 4000000 in
set_option maxRecDepth 100000 in
theorem c_X9_seeAsFeast (lL : Launch) (D : va_G) (cI cS : ClassId) (sz : Nat) (x0 : Nat) (v0 : Value) (v1 : Value) (v2 : Value) (v3 : Value) (v4 : Value) (v5 : Value) (v6 : Value) (v7 : Value) (v8 : Value) (tr : Int32) (ft : Int32) : Met lL yX9_seeAsFeast wsX9_seeAsFeast rmX9_seeAsFeast (va_Pc [.ref x0] (kB D cI cS [(x0, .inr (8, [v0, v1, v2, v3, v4, v5, v6, v7, v8, .int tr, .int ft]))] sz)) (kQi D (fun (r : Int32) (u : Unit) => r = nI 60 ∧ True) (fun u : Unit => [(x0, .inr (8, [v0, v1, v2, v3, v4, v5, v6, v7, v8, .int (trc tr 5), .int ft]))]) (va_A [(x0, .inr (8, [v0, v1, v2, v3, v4, v5, v6, v7, v8, .int tr, .int ft]))] sz)) 0 0 (va_A [(x0, .inr (8, [v0, v1, v2, v3, v4, v5, v6, v7, v8, .int tr, .int ft]))] sz) := by
  refine Met.ofW (cc := cX9_seeAsFeast) (maxL := 1) (ret := (some .int)) (by decide) rfl ?_
  intro pP eE sS mM args below meth cC s₁ B hml hv
  obtain ⟨rfl, hsz, hP, hK, hD0⟩ := hv
  have hx := B.exec
  have hb := B.bytes
  have hr := B.returns
  have hts := atoms_spec (ws := wsX9_seeAsFeast) B.pre
  have hown : sS.vm.findClass RX9 = some mM.cls := findClass_of_methodNamed B.named
  have hlocks := B.notSynchronized
  subst hsz
  have hD := hD0.self (sz := sS.heap.size)
  generalize hAe : va_A [(x0, .inr (8, [v0, v1, v2, v3, v4, v5, v6, v7, v8, .int tr, .int ft]))] sS.heap.size = A at hD ⊢
  have hA : ∀ q : Nat, sS.heap.size ≤ q → A q := fun q h => by rw [← hAe]; exact Or.inr h
  have hS : va_S A sS.heap sS.heap [] := va_S.rf
  have hP : va_P D vwCl [(x0, .inr (8, [v0, v1, v2, v3, v4, v5, v6, v7, v8, .int tr, .int ft]))] sS.heap := hP
  have hD : va_D A [(x0, .inr (8, [v0, v1, v2, v3, v4, v5, v6, v7, v8, .int tr, .int ft]))] := hD
  have hl := lv_entry ([.ref x0]) (n := 1) (Nat.le_of_ble_eq_true rfl)
  rw [lg_entry_eq]
  generalize (lg_sl ([.ref x0]) ++ List.replicate (1 - (lg_sl ([.ref x0])).length) Slot.unset).toArray = ls at hl ⊢
  have hl : lv_has ls 1 [(0, .ref x0)] := hl
  obtain ⟨QQ, hQQ⟩ : ∃ QQ : State → Prop, QQ = MQ below (kQi D (fun (r : Int32) (u : Unit) => r = nI 60 ∧ True) (fun u : Unit => [(x0, .inr (8, [v0, v1, v2, v3, v4, v5, v6, v7, v8, .int (trc tr 5), .int ft]))]) A) ([.ref x0]).toArray sS 0 0 A := ⟨_, rfl⟩
  refine kk_QQ hQQ.symm ?_
  refine lv_aload_n hx hb dX9_seeAsFeast_0 rfl (lv_at hl 0 rfl) ?_
  refine lv_iconst (v := nI 5) hx hb dX9_seeAsFeast_1 (by decide +kernel) ?_
  have hF := va_free (wc := [(x0, .inr (8, [(v0), (v1), (v2), (v3), (v4), (v5), (v6), (v7), (v8), .int tr, .int ft]))]) hD hS hA [0] rfl
  refine va_callv (va_runV (As := [.int (nI 5)]) (rest := []) ⟨hx, hb, hml, hown, hts⟩ (c_X9_leave lL D cI cS _ x0 (v0) (v1) (v2) (v3) (v4) (v5) (v6) (v7) (v8) tr ft 5) (cwV 1 hts gX9_seeAsFeast_X9_leave rfl rfl rfl cd_X9_leave ⟨Nat.le_of_ble_eq_true rfl, Nat.le_of_ble_eq_true rfl⟩) ⟨kB_blind, va_recv hK hP (ci := 8) (q0 := 0) rfl rfl, fun U hU hW => ⟨rfl, by rw [hU], by rw [hU]; exact hP.sub [0] rfl, va_K.moved hW.alike hK, (hD.sub [0] (by decide) rfl).weaken (fun _ _ _ _ => trivial)⟩⟩ rfl rfl hl.1 rfl (lv_room (Nat.le_of_ble_eq_true rfl)) dX9_seeAsFeast_2 ⟨Nat.le_of_ble_eq_true rfl, Nat.le_of_ble_eq_true rfl⟩) hS (fun q _ h => hF q h) hF (fun u_1 t H1 locs ht hvm hw_1 hB hz1 hk1 hS => ?_)
  obtain ⟨hP, hD⟩ := kk_join (wc := [(x0, .inr (8, [(v0), (v1), (v2), (v3), (v4), (v5), (v6), (v7), (v8), .int tr, .int ft]))]) (w1 := [(x0, .inr (8, [(v0), (v1), (v2), (v3), (v4), (v5), (v6), (v7), (v8), .int (trc tr 5), .int ft]))]) (H1 := H1) hP hD [0] rfl [x0] rfl rfl hk1 (by rw [← ht]; exact hB)
  have hw_1 : True := hw_1
  clear hF hB hk1 hz1 hvm
  clear ht
  generalize H1 = H at hP hS ⊢
  have hP : va_P D vwCl [(x0, .inr (8, [(v0), (v1), (v2), (v3), (v4), (v5), (v6), (v7), (v8), .int (trc tr 5), .int ft]))] H := hP
  have hD : va_D A [(x0, .inr (8, [(v0), (v1), (v2), (v3), (v4), (v5), (v6), (v7), (v8), .int (trc tr 5), .int ft]))] := hD
  refine lv_bipush (v := nI 60) hx hb dX9_seeAsFeast_5 (by decide +kernel) ?_
  have hq : (nI 60) = nI 60 ∧ True := by exact ⟨rfl, trivial⟩
  refine kk_QQ hQQ ?_
  exact W.iret (v := nI 60) hx hb hr (fun t ht hW => ⟨⟨nI 60, (), rfl, hq, by show va_P D vwCl _ t.heap; rw [ht]; exact hP⟩, hS.F ht⟩) hS.2.2 dX9_seeAsFeast_7

abbrev rmX0_init : Room := { frames := 1, cells := 0, slots := 0, locals := 30 }
set_option maxHeartbeats 4000000 in
set_option maxRecDepth 100000 in
theorem c_X0_init (lL : Launch) (D : va_G) (cI cS : ClassId) (sz : Nat) (o0 : Nat) : Met lL yX0_init wsX0_init rmX0_init (va_Pc [.ref o0] (kB D cI cS [] sz)) (kQv D (fun u : Unit => True) (fun u : Unit => []) (va_A [] sz)) 0 0 (va_A [] sz) := by
  refine Met.ofW (cc := cX0_init) (maxL := 1) (ret := none) (by decide) rfl ?_
  intro pP eE sS mM args below meth cC s₁ B hml hv
  obtain ⟨rfl, hsz, hP, hK, hD0⟩ := hv
  have hx := B.exec
  have hb := B.bytes
  have hr := B.returns
  have hts := atoms_spec (ws := wsX0_init) B.pre
  have hown : sS.vm.findClass RX0 = some mM.cls := findClass_of_methodNamed B.named
  have hlocks := B.notSynchronized
  have hin : meth.name = "<init>" := (name_of_methodNamed B.named B.method).1
  subst hsz
  have hD := hD0.self (sz := sS.heap.size)
  generalize hAe : va_A [] sS.heap.size = A at hD ⊢
  have hA : ∀ q : Nat, sS.heap.size ≤ q → A q := fun q h => by rw [← hAe]; exact Or.inr h
  have hS : va_S A sS.heap sS.heap [] := va_S.rf
  have hP : va_P D vwCl [] sS.heap := hP
  have hD : va_D A [] := hD
  have hoi1 := hts (.methodLink RX0 1 objectInit) (List.mem_of_getElem? (i := 1) rfl)
  have hoi2 := hts (.instanceMethod objectInit) (List.mem_of_getElem? (i := 2) rfl)
  have hoi3 := hts (.code objectInit ⟨#[0xb1]⟩ 1 none) (List.mem_of_getElem? (i := 3) rfl)
  have hl := lv_entry ([.ref o0]) (n := 1) (Nat.le_of_ble_eq_true rfl)
  rw [lg_entry_eq]
  generalize (lg_sl ([.ref o0]) ++ List.replicate (1 - (lg_sl ([.ref o0])).length) Slot.unset).toArray = ls at hl ⊢
  have hl : lv_has ls 1 [(0, .ref o0)] := hl
  obtain ⟨QQ, hQQ⟩ : ∃ QQ : State → Prop, QQ = MQ below (kQv D (fun u : Unit => True) (fun u : Unit => []) A) ([.ref o0]).toArray sS 0 0 A := ⟨_, rfl⟩
  refine kk_QQ hQQ.symm ?_
  refine lv_aload_n hx hb dX0_init_0 rfl (lv_at hl 0 rfl) ?_
  refine W.objInit hx hb hown hoi1 hoi2 hoi3 rfl (by rw [hml]; exact hl.1) rfl dX0_init_1 (Nat.le_of_ble_eq_true rfl) (Nat.le_of_ble_eq_true rfl) ?_
  refine W.eq (g2 := F0 mM 4 ls []) rfl ?_
  have hq : True := by trivial
  refine kk_QQ hQQ ?_
  exact W.vret hx hb hr (fun t ht hW => ⟨⟨(), rfl, hq, by show va_P D vwCl _ t.heap; rw [ht]; exact hP⟩, hS.F ht⟩) hS.2.2 dX0_init_4

abbrev rmX3_init : Room := { frames := 2, cells := 0, slots := 0, locals := 50 }
set_option maxHeartbeats 4000000 in
set_option maxRecDepth 100000 in
theorem c_X3_init (lL : Launch) (D : va_G) (cI cS : ClassId) (sz : Nat) (o0 : Nat) (a : Nat) (b : Nat) : Met lL yX3_init wsX3_init rmX3_init (va_Pc [.ref o0, .int (nI a), .int (nI b)] (kB D cI cS [(o0, .inr (2, [.int 0, .int 0]))] sz)) (kQv D (fun u : Unit => True) (fun u : Unit => [(o0, .inr (2, [.int (nI a), .int (nI b)]))]) (va_A [(o0, .inr (2, [.int 0, .int 0]))] sz)) 0 0 (va_A [(o0, .inr (2, [.int 0, .int 0]))] sz) := by
  refine Met.ofW (cc := cX3_init) (maxL := 3) (ret := none) (by decide) rfl ?_
  intro pP eE sS mM args below meth cC s₁ B hml hv
  obtain ⟨rfl, hsz, hP, hK, hD0⟩ := hv
  have hx := B.exec
  have hb := B.bytes
  have hr := B.returns
  have hts := atoms_spec (ws := wsX3_init) B.pre
  have hown : sS.vm.findClass RX3 = some mM.cls := findClass_of_methodNamed B.named
  have hlocks := B.notSynchronized
  have hin : meth.name = "<init>" := (name_of_methodNamed B.named B.method).1
  subst hsz
  have hD := hD0.self (sz := sS.heap.size)
  generalize hAe : va_A [(o0, .inr (2, [.int 0, .int 0]))] sS.heap.size = A at hD ⊢
  have hA : ∀ q : Nat, sS.heap.size ≤ q → A q := fun q h => by rw [← hAe]; exact Or.inr h
  have hS : va_S A sS.heap sS.heap [] := va_S.rf
  have hP : va_P D vwCl [(o0, .inr (2, [.int 0, .int 0]))] sS.heap := hP
  have hD : va_D A [(o0, .inr (2, [.int 0, .int 0]))] := hD
  have hf_9 := hts (.fieldLink RX3 9 "OldLamps$LeastDark" "spot" "I") (List.mem_of_getElem? (i := 1) rfl)
  have hf_15 := hts (.fieldLink RX3 15 "OldLamps$LeastDark" "below" "I") (List.mem_of_getElem? (i := 2) rfl)
  have hi1_X0 := hts (.initialized RX0) (List.mem_of_getElem? (i := 5) rfl)
  have hi2_X0_init := hts (.methodLink RX3 3 yX0_init) (List.mem_of_getElem? (i := 3) rfl)
  have hi3_X0_init := hts (.instanceMethod yX0_init) (List.mem_of_getElem? (i := 4) rfl)
  have hwX3 : ∀ w ∈ wsX30, w ∈ wsX3_init := fun _ h => List.mem_cons_of_mem _ (List.mem_append_right _ h)
  have hl := lv_entry ([.ref o0, .int (nI a), .int (nI b)]) (n := 3) (Nat.le_of_ble_eq_true rfl)
  rw [lg_entry_eq]
  generalize (lg_sl ([.ref o0, .int (nI a), .int (nI b)]) ++ List.replicate (3 - (lg_sl ([.ref o0, .int (nI a), .int (nI b)])).length) Slot.unset).toArray = ls at hl ⊢
  have hl : lv_has ls 3 [(0, .ref o0), (1, .int (nI a)), (2, .int (nI b))] := hl
  obtain ⟨QQ, hQQ⟩ : ∃ QQ : State → Prop, QQ = MQ below (kQv D (fun u : Unit => True) (fun u : Unit => [(o0, .inr (2, [.int (nI a), .int (nI b)]))]) A) ([.ref o0, .int (nI a), .int (nI b)]).toArray sS 0 0 A := ⟨_, rfl⟩
  refine kk_QQ hQQ.symm ?_
  refine lv_aload_n hx hb dX3_init_0 rfl (lv_at hl 0 rfl) ?_
  have hF := va_free (wc := []) hD hS hA [] rfl
  refine va_callv (va_runI (As := []) (rest := []) ⟨hx, hb, hml, hown, hts⟩ (c_X0_init lL D cI cS _ o0) (cwI 0 hts gX3_init_X0_init rfl rfl rfl hi1_X0 hi2_X0_init hi3_X0_init rfl (by decide +kernel) ⟨Nat.le_of_ble_eq_true rfl, Nat.le_of_ble_eq_true rfl⟩) ⟨kB_blind, fun U hU hW => ⟨rfl, by rw [hU], by rw [hU]; exact hP.sub [] rfl, va_K.moved hW.alike hK, (hD.sub [] (by decide) rfl).weaken (fun _ _ _ _ => trivial)⟩⟩ rfl rfl hl.1 rfl (lv_room (Nat.le_of_ble_eq_true rfl)) dX3_init_1 ⟨Nat.le_of_ble_eq_true rfl, Nat.le_of_ble_eq_true rfl⟩) hS (fun q _ h => hF q h) hF (fun u_1 t H1 locs ht hvm hw_1 hB hz1 hk1 hS => ?_)
  obtain ⟨hP, hD⟩ := kk_join (wc := []) (w1 := []) (H1 := H1) hP hD [] rfl [] rfl rfl hk1 (by rw [← ht]; exact hB)
  have hw_1 : True := hw_1
  clear hF hB hk1 hz1 hvm
  clear ht
  generalize H1 = H at hP hS ⊢
  have hP : va_P D vwCl [(o0, .inr (2, [.int 0, .int 0]))] H := hP
  have hD : va_D A [(o0, .inr (2, [.int 0, .int 0]))] := hD
  refine lv_aload_n hx hb dX3_init_4 rfl (lv_at hl 0 rfl) ?_
  refine lv_iload_n hx hb dX3_init_5 rfl (lv_at hl 1 rfl) ?_
  refine va_putF (D := D) (ci := 2) (v := .int (nI a)) (ty := .int) (C := RX3) (T := TX3) (N := 2) hx hb hts hwX3 tyX3 tyX3_ok nmX3 hown hK hP hD hS 0 rfl rfl 0 (by decide) hf_9 (fun _ h9 => h9) rfl hin rfl (by decide +kernel) rfl rfl (Nat.le_of_ble_eq_true rfl) dX3_init_6 (fun H locs hP hD hS => ?_)
  have hP : va_P D vwCl [(o0, .inr (2, [.int (nI a), .int 0]))] H := hP
  have hD : va_D A [(o0, .inr (2, [.int (nI a), .int 0]))] := hD
  refine lv_aload_n hx hb dX3_init_9 rfl (lv_at hl 0 rfl) ?_
  refine lv_iload_n hx hb dX3_init_10 rfl (lv_at hl 2 rfl) ?_
  refine va_putF (D := D) (ci := 2) (v := .int (nI b)) (ty := .int) (C := RX3) (T := TX3) (N := 2) hx hb hts hwX3 tyX3 tyX3_ok nmX3 hown hK hP hD hS 0 rfl rfl 1 (by decide) hf_15 (fun _ h9 => h9) rfl hin rfl (by decide +kernel) rfl rfl (Nat.le_of_ble_eq_true rfl) dX3_init_11 (fun H locs hP hD hS => ?_)
  have hP : va_P D vwCl [(o0, .inr (2, [.int (nI a), .int (nI b)]))] H := hP
  have hD : va_D A [(o0, .inr (2, [.int (nI a), .int (nI b)]))] := hD
  have hq : True := by trivial
  refine kk_QQ hQQ ?_
  exact W.vret hx hb hr (fun t ht hW => ⟨⟨(), rfl, hq, by show va_P D vwCl _ t.heap; rw [ht]; exact hP⟩, hS.F ht⟩) hS.2.2 dX3_init_14

abbrev rmX4_init : Room := { frames := 2, cells := 0, slots := 0, locals := 50 }
set_option maxHeartbeats 4000000 in
set_option maxRecDepth 100000 in
theorem c_X4_init (lL : Launch) (D : va_G) (cI cS : ClassId) (sz : Nat) (o0 : Nat) (a : Nat) (b : Nat) : Met lL yX4_init wsX4_init rmX4_init (va_Pc [.ref o0, .int (nI a), .int (nI b)] (kB D cI cS [(o0, .inr (3, [.int 0, .int 0]))] sz)) (kQv D (fun u : Unit => True) (fun u : Unit => [(o0, .inr (3, [.int (nI a), .int (nI b)]))]) (va_A [(o0, .inr (3, [.int 0, .int 0]))] sz)) 0 0 (va_A [(o0, .inr (3, [.int 0, .int 0]))] sz) := by
  refine Met.ofW (cc := cX4_init) (maxL := 3) (ret := none) (by decide) rfl ?_
  intro pP eE sS mM args below meth cC s₁ B hml hv
  obtain ⟨rfl, hsz, hP, hK, hD0⟩ := hv
  have hx := B.exec
  have hb := B.bytes
  have hr := B.returns
  have hts := atoms_spec (ws := wsX4_init) B.pre
  have hown : sS.vm.findClass RX4 = some mM.cls := findClass_of_methodNamed B.named
  have hlocks := B.notSynchronized
  have hin : meth.name = "<init>" := (name_of_methodNamed B.named B.method).1
  subst hsz
  have hD := hD0.self (sz := sS.heap.size)
  generalize hAe : va_A [(o0, .inr (3, [.int 0, .int 0]))] sS.heap.size = A at hD ⊢
  have hA : ∀ q : Nat, sS.heap.size ≤ q → A q := fun q h => by rw [← hAe]; exact Or.inr h
  have hS : va_S A sS.heap sS.heap [] := va_S.rf
  have hP : va_P D vwCl [(o0, .inr (3, [.int 0, .int 0]))] sS.heap := hP
  have hD : va_D A [(o0, .inr (3, [.int 0, .int 0]))] := hD
  have hf_7 := hts (.fieldLink RX4 7 "OldLamps$MostLight" "spot" "I") (List.mem_of_getElem? (i := 1) rfl)
  have hf_13 := hts (.fieldLink RX4 13 "OldLamps$MostLight" "watch" "I") (List.mem_of_getElem? (i := 2) rfl)
  have hi1_X0 := hts (.initialized RX0) (List.mem_of_getElem? (i := 5) rfl)
  have hi2_X0_init := hts (.methodLink RX4 1 yX0_init) (List.mem_of_getElem? (i := 3) rfl)
  have hi3_X0_init := hts (.instanceMethod yX0_init) (List.mem_of_getElem? (i := 4) rfl)
  have hwX4 : ∀ w ∈ wsX40, w ∈ wsX4_init := fun _ h => List.mem_cons_of_mem _ (List.mem_append_right _ h)
  have hl := lv_entry ([.ref o0, .int (nI a), .int (nI b)]) (n := 3) (Nat.le_of_ble_eq_true rfl)
  rw [lg_entry_eq]
  generalize (lg_sl ([.ref o0, .int (nI a), .int (nI b)]) ++ List.replicate (3 - (lg_sl ([.ref o0, .int (nI a), .int (nI b)])).length) Slot.unset).toArray = ls at hl ⊢
  have hl : lv_has ls 3 [(0, .ref o0), (1, .int (nI a)), (2, .int (nI b))] := hl
  obtain ⟨QQ, hQQ⟩ : ∃ QQ : State → Prop, QQ = MQ below (kQv D (fun u : Unit => True) (fun u : Unit => [(o0, .inr (3, [.int (nI a), .int (nI b)]))]) A) ([.ref o0, .int (nI a), .int (nI b)]).toArray sS 0 0 A := ⟨_, rfl⟩
  refine kk_QQ hQQ.symm ?_
  refine lv_aload_n hx hb dX4_init_0 rfl (lv_at hl 0 rfl) ?_
  have hF := va_free (wc := []) hD hS hA [] rfl
  refine va_callv (va_runI (As := []) (rest := []) ⟨hx, hb, hml, hown, hts⟩ (c_X0_init lL D cI cS _ o0) (cwI 0 hts gX4_init_X0_init rfl rfl rfl hi1_X0 hi2_X0_init hi3_X0_init rfl (by decide +kernel) ⟨Nat.le_of_ble_eq_true rfl, Nat.le_of_ble_eq_true rfl⟩) ⟨kB_blind, fun U hU hW => ⟨rfl, by rw [hU], by rw [hU]; exact hP.sub [] rfl, va_K.moved hW.alike hK, (hD.sub [] (by decide) rfl).weaken (fun _ _ _ _ => trivial)⟩⟩ rfl rfl hl.1 rfl (lv_room (Nat.le_of_ble_eq_true rfl)) dX4_init_1 ⟨Nat.le_of_ble_eq_true rfl, Nat.le_of_ble_eq_true rfl⟩) hS (fun q _ h => hF q h) hF (fun u_1 t H1 locs ht hvm hw_1 hB hz1 hk1 hS => ?_)
  obtain ⟨hP, hD⟩ := kk_join (wc := []) (w1 := []) (H1 := H1) hP hD [] rfl [] rfl rfl hk1 (by rw [← ht]; exact hB)
  have hw_1 : True := hw_1
  clear hF hB hk1 hz1 hvm
  clear ht
  generalize H1 = H at hP hS ⊢
  have hP : va_P D vwCl [(o0, .inr (3, [.int 0, .int 0]))] H := hP
  have hD : va_D A [(o0, .inr (3, [.int 0, .int 0]))] := hD
  refine lv_aload_n hx hb dX4_init_4 rfl (lv_at hl 0 rfl) ?_
  refine lv_iload_n hx hb dX4_init_5 rfl (lv_at hl 1 rfl) ?_
  refine va_putF (D := D) (ci := 3) (v := .int (nI a)) (ty := .int) (C := RX4) (T := TX4) (N := 2) hx hb hts hwX4 tyX4 tyX4_ok nmX4 hown hK hP hD hS 0 rfl rfl 0 (by decide) hf_7 (fun _ h9 => h9) rfl hin rfl (by decide +kernel) rfl rfl (Nat.le_of_ble_eq_true rfl) dX4_init_6 (fun H locs hP hD hS => ?_)
  have hP : va_P D vwCl [(o0, .inr (3, [.int (nI a), .int 0]))] H := hP
  have hD : va_D A [(o0, .inr (3, [.int (nI a), .int 0]))] := hD
  refine lv_aload_n hx hb dX4_init_9 rfl (lv_at hl 0 rfl) ?_
  refine lv_iload_n hx hb dX4_init_10 rfl (lv_at hl 2 rfl) ?_
  refine va_putF (D := D) (ci := 3) (v := .int (nI b)) (ty := .int) (C := RX4) (T := TX4) (N := 2) hx hb hts hwX4 tyX4 tyX4_ok nmX4 hown hK hP hD hS 0 rfl rfl 1 (by decide) hf_13 (fun _ h9 => h9) rfl hin rfl (by decide +kernel) rfl rfl (Nat.le_of_ble_eq_true rfl) dX4_init_11 (fun H locs hP hD hS => ?_)
  have hP : va_P D vwCl [(o0, .inr (3, [.int (nI a), .int (nI b)]))] H := hP
  have hD : va_D A [(o0, .inr (3, [.int (nI a), .int (nI b)]))] := hD
  have hq : True := by trivial
  refine kk_QQ hQQ ?_
  exact W.vret hx hb hr (fun t ht hW => ⟨⟨(), rfl, hq, by show va_P D vwCl _ t.heap; rw [ht]; exact hP⟩, hS.F ht⟩) hS.2.2 dX4_init_14

abbrev rmX3_score : Room := { frames := 2, cells := 0, slots := 0, locals := 45 }
set_option maxHeartbeats 4000000 in
set_option maxRecDepth 100000 in
theorem c_X3_score (lL : Launch) (D : va_G) (cI cS : ClassId) (C : Co) (pl : Nat → Nat → Nat) (o0 : Nat) (s : Nat) (v : Nat) (h0 : Nat) (h1 : Nat) (h2 : Nat) (h3 : Nat) (h4 : Nat) (h5 : Nat) (lA : Nat → Int32) (hC : okC C) (hs : s < cSp C) (hv0 : v < 1000) (tL0 : tL C pl lA 0 24) : Met lL yX3_score wsX3_score rmX3_score (va_Pc [.ref o0, .ref h0] (kBp D cI cS [(o0, .inr (2, [.int (nI s), .int (nI v)])), (h0, .inr (7, [.ref h1, .ref h2, .ref h3, .ref h4, .ref h5])), (h5, .inl (cI, 96, .inl lA))])) (vp_Si (fun r : Int32 => r = -nI (cntB C pl s v))) 0 0 (fun _ => False) := by
  refine Met.ofW (cc := cX3_score) (maxL := 2) (ret := (some .int)) (by decide) rfl ?_
  intro pP eE sS mM args below meth cC s₁ B hml hv
  obtain ⟨rfl, hP, hK⟩ := hv
  have hx := B.exec
  have hb := B.bytes
  have hr := B.returns
  have hts := atoms_spec (ws := wsX3_score) B.pre
  have hown : sS.vm.findClass RX3 = some mM.cls := findClass_of_methodNamed B.named
  have hlocks := B.notSynchronized
  have hP : va_P D vwCl [(o0, .inr (2, [.int (nI s), .int (nI v)])), (h0, .inr (7, [.ref h1, .ref h2, .ref h3, .ref h4, .ref h5])), (h5, .inl (cI, 96, .inl lA))] sS.heap := hP
  have hf_9 := hts (.fieldLink RX3 9 "OldLamps$LeastDark" "spot" "I") (List.mem_of_getElem? (i := 1) rfl)
  have hf_15 := hts (.fieldLink RX3 15 "OldLamps$LeastDark" "below" "I") (List.mem_of_getElem? (i := 2) rfl)
  have hwX3 : ∀ w ∈ wsX30, w ∈ wsX3_score := fun _ h => List.mem_cons_of_mem _ (List.mem_append_left _ (List.mem_append_right _ h))
  have hl := lv_entry ([.ref o0, .ref h0]) (n := 2) (Nat.le_of_ble_eq_true rfl)
  rw [lg_entry_eq]
  generalize (lg_sl ([.ref o0, .ref h0]) ++ List.replicate (2 - (lg_sl ([.ref o0, .ref h0])).length) Slot.unset).toArray = ls at hl ⊢
  have hl : lv_has ls 2 [(0, .ref o0), (1, .ref h0)] := hl
  obtain ⟨QQ, hQQ⟩ : ∃ QQ : State → Prop, QQ = MQ below (vp_Si (fun r : Int32 => r = -nI (cntB C pl s v))) ([.ref o0, .ref h0]).toArray sS 0 0 (fun _ => False) := ⟨_, rfl⟩
  refine kk_QQ hQQ.symm ?_
  refine lv_aload_n hx hb dX3_score_0 rfl (lv_at hl 1 rfl) ?_
  refine lv_aload_n hx hb dX3_score_1 rfl (lv_at hl 0 rfl) ?_
  refine va_get (D := D) (ci := 2) (v := .int (nI s)) (C := RX3) (T := TX3) (N := 2) hx hb hts hwX3 hown hK hP 0 rfl rfl 0 (by decide) hf_9 (fun _ h9 => h9) rfl dX3_score_2 ?_
  refine lv_aload_n hx hb dX3_score_5 rfl (lv_at hl 0 rfl) ?_
  refine va_get (D := D) (ci := 2) (v := .int (nI v)) (C := RX3) (T := TX3) (N := 2) hx hb hts hwX3 hown hK hP 0 rfl rfl 1 (by decide) hf_15 (fun _ h9 => h9) rfl dX3_score_6 ?_
  have o_1 : okC C := by assumption
  have o_2 : s < cSp C := by omega
  have o_3 : v < 1000 := by omega
  have o_4 : tL C pl lA 0 24 := by assumption
  refine vp_callSi (W.runV (As := [.int (nI s), .int (nI v)]) (rest := []) ⟨hx, hb, hml, hown, hts⟩ (c_X8_countBelow lL D cI cS C pl h0 h1 h2 h3 h4 h5 lA s v o_1 o_2 o_3 o_4) (cwV 2 hts gX3_score_X8_countBelow rfl rfl rfl cd_X8_countBelow ⟨Nat.le_of_ble_eq_true rfl, Nat.le_of_ble_eq_true rfl⟩) ⟨kBp_blind, va_recv hK hP (ci := 7) (q0 := 1) rfl rfl, fun U hU hW => ⟨rfl, by rw [hU]; exact hP.sub [1, 2] rfl, va_K.moved hW.alike hK⟩⟩ rfl rfl hl.1 rfl (lv_room (Nat.le_of_ble_eq_true rfl)) dX3_score_9 ⟨Nat.le_of_ble_eq_true rfl, Nat.le_of_ble_eq_true rfl⟩) (fun r_5 hw_5 => ?_)
  obtain rfl : r_5 = nI (cntB C pl s v) := hw_5
  refine lv_ineg hx hb dX3_score_12 ?_
  have hq : -(nI (cntB C pl s v)) = -nI (cntB C pl s v) := by rfl
  refine kk_QQ hQQ ?_
  exact W.iret (v := -(nI (cntB C pl s v))) hx hb hr (fun t ht hW => ⟨-(nI (cntB C pl s v)), rfl, hq, ht⟩) (fun q h => by cases h) dX3_score_13

abbrev rmX3_lastWatch : Room := { frames := 0, cells := 0, slots := 0, locals := 0 }
set_option maxHeartbeats 4000000 in
set_option maxRecDepth 100000 in
theorem c_X3_lastWatch (lL : Launch) (D : va_G) (cI cS : ClassId) (o0 : Nat) : Met lL yX3_lastWatch wsX3_lastWatch rmX3_lastWatch (va_Pc [.ref o0] (kBp D cI cS [])) (vp_Si (fun r : Int32 => r = nI 23)) 0 0 (fun _ => False) := by
  refine Met.ofW (cc := cX3_lastWatch) (maxL := 1) (ret := (some .int)) (by decide) rfl ?_
  intro pP eE sS mM args below meth cC s₁ B hml hv
  obtain ⟨rfl, hP, hK⟩ := hv
  have hx := B.exec
  have hb := B.bytes
  have hr := B.returns
  have hts := atoms_spec (ws := wsX3_lastWatch) B.pre
  have hown : sS.vm.findClass RX3 = some mM.cls := findClass_of_methodNamed B.named
  have hlocks := B.notSynchronized
  have hP : va_P D vwCl [] sS.heap := hP
  have hl := lv_entry ([.ref o0]) (n := 1) (Nat.le_of_ble_eq_true rfl)
  rw [lg_entry_eq]
  generalize (lg_sl ([.ref o0]) ++ List.replicate (1 - (lg_sl ([.ref o0])).length) Slot.unset).toArray = ls at hl ⊢
  have hl : lv_has ls 1 [(0, .ref o0)] := hl
  obtain ⟨QQ, hQQ⟩ : ∃ QQ : State → Prop, QQ = MQ below (vp_Si (fun r : Int32 => r = nI 23)) ([.ref o0]).toArray sS 0 0 (fun _ => False) := ⟨_, rfl⟩
  refine kk_QQ hQQ.symm ?_
  refine lv_bipush (v := nI 23) hx hb dX3_lastWatch_0 (by decide +kernel) ?_
  have hq : nI 23 = nI 23 := by rfl
  refine kk_QQ hQQ ?_
  exact W.iret (v := nI 23) hx hb hr (fun t ht hW => ⟨nI 23, rfl, hq, ht⟩) (fun q h => by cases h) dX3_lastWatch_2

abbrev rmX4_score : Room := { frames := 2, cells := 0, slots := 0, locals := 43 }
set_option maxHeartbeats 4000000 in
set_option maxRecDepth 100000 in
theorem c_X4_score (lL : Launch) (D : va_G) (cI cS : ClassId) (C : Co) (pl : Nat → Nat → Nat) (o0 : Nat) (s : Nat) (w : Nat) (h0 : Nat) (h1 : Nat) (h2 : Nat) (h3 : Nat) (h4 : Nat) (h5 : Nat) (lA : Nat → Int32) (hC : okC C) (hs : s < cSp C) (hw : w < 24) (tL0 : ∀ s, s < cSp C → lA (w * 4 + s) = nI (Li C pl s w)) : Met lL yX4_score wsX4_score rmX4_score (va_Pc [.ref o0, .ref h0] (kBp D cI cS [(o0, .inr (3, [.int (nI s), .int (nI w)])), (h0, .inr (7, [.ref h1, .ref h2, .ref h3, .ref h4, .ref h5])), (h5, .inl (cI, 96, .inl lA))])) (vp_Si (fun r : Int32 => r = nI (Li C pl s w))) 0 0 (fun _ => False) := by
  refine Met.ofW (cc := cX4_score) (maxL := 2) (ret := (some .int)) (by decide) rfl ?_
  intro pP eE sS mM args below meth cC s₁ B hml hv
  obtain ⟨rfl, hP, hK⟩ := hv
  have hx := B.exec
  have hb := B.bytes
  have hr := B.returns
  have hts := atoms_spec (ws := wsX4_score) B.pre
  have hown : sS.vm.findClass RX4 = some mM.cls := findClass_of_methodNamed B.named
  have hlocks := B.notSynchronized
  have hP : va_P D vwCl [(o0, .inr (3, [.int (nI s), .int (nI w)])), (h0, .inr (7, [.ref h1, .ref h2, .ref h3, .ref h4, .ref h5])), (h5, .inl (cI, 96, .inl lA))] sS.heap := hP
  have hf_7 := hts (.fieldLink RX4 7 "OldLamps$MostLight" "spot" "I") (List.mem_of_getElem? (i := 1) rfl)
  have hf_13 := hts (.fieldLink RX4 13 "OldLamps$MostLight" "watch" "I") (List.mem_of_getElem? (i := 2) rfl)
  have hwX4 : ∀ w ∈ wsX40, w ∈ wsX4_score := fun _ h => List.mem_cons_of_mem _ (List.mem_append_left _ (List.mem_append_right _ h))
  have hl := lv_entry ([.ref o0, .ref h0]) (n := 2) (Nat.le_of_ble_eq_true rfl)
  rw [lg_entry_eq]
  generalize (lg_sl ([.ref o0, .ref h0]) ++ List.replicate (2 - (lg_sl ([.ref o0, .ref h0])).length) Slot.unset).toArray = ls at hl ⊢
  have hl : lv_has ls 2 [(0, .ref o0), (1, .ref h0)] := hl
  obtain ⟨QQ, hQQ⟩ : ∃ QQ : State → Prop, QQ = MQ below (vp_Si (fun r : Int32 => r = nI (Li C pl s w))) ([.ref o0, .ref h0]).toArray sS 0 0 (fun _ => False) := ⟨_, rfl⟩
  refine kk_QQ hQQ.symm ?_
  obtain ⟨hC1, hC2, hC3, hC4, hC5, hC6, hC7, hC8⟩ := id hC
  refine lv_aload_n hx hb dX4_score_0 rfl (lv_at hl 1 rfl) ?_
  refine lv_aload_n hx hb dX4_score_1 rfl (lv_at hl 0 rfl) ?_
  refine va_get (D := D) (ci := 3) (v := .int (nI s)) (C := RX4) (T := TX4) (N := 2) hx hb hts hwX4 hown hK hP 0 rfl rfl 0 (by decide) hf_7 (fun _ h9 => h9) rfl dX4_score_2 ?_
  refine lv_aload_n hx hb dX4_score_5 rfl (lv_at hl 0 rfl) ?_
  refine va_get (D := D) (ci := 3) (v := .int (nI w)) (C := RX4) (T := TX4) (N := 2) hx hb hts hwX4 hown hK hP 0 rfl rfl 1 (by decide) hf_13 (fun _ h9 => h9) rfl dX4_score_6 ?_
  have o_1 : s < 4 := by omega
  have o_2 : w < 24 := by omega
  refine vp_callSi (W.runV (As := [.int (nI s), .int (nI w)]) (rest := []) ⟨hx, hb, hml, hown, hts⟩ (c_X8_lightOf lL D cI cS h0 h1 h2 h3 h4 h5 lA s w o_1 o_2) (cwV 2 hts gX4_score_X8_lightOf rfl rfl rfl cd_X8_lightOf ⟨Nat.le_of_ble_eq_true rfl, Nat.le_of_ble_eq_true rfl⟩) ⟨kBp_blind, va_recv hK hP (ci := 7) (q0 := 1) rfl rfl, fun U hU hW => ⟨rfl, by rw [hU]; exact hP.sub [1, 2] rfl, va_K.moved hW.alike hK⟩⟩ rfl rfl hl.1 rfl (lv_room (Nat.le_of_ble_eq_true rfl)) dX4_score_9 ⟨Nat.le_of_ble_eq_true rfl, Nat.le_of_ble_eq_true rfl⟩) (fun r_3 hw_3 => ?_)
  obtain rfl : r_3 = lA (w * 4 + s) := hw_3
  refine kk_top (y := nI (Li C pl s w)) (tL0 s hs) ?_
  have hq : nI (Li C pl s w) = nI (Li C pl s w) := by rfl
  refine kk_QQ hQQ ?_
  exact W.iret (v := nI (Li C pl s w)) hx hb hr (fun t ht hW => ⟨nI (Li C pl s w), rfl, hq, ht⟩) (fun q h => by cases h) dX4_score_12

abbrev rmX4_lastWatch : Room := { frames := 0, cells := 0, slots := 0, locals := 0 }
set_option maxHeartbeats 4000000 in
set_option maxRecDepth 100000 in
theorem c_X4_lastWatch (lL : Launch) (D : va_G) (cI cS : ClassId) (o0 : Nat) (s : Nat) (w : Nat) : Met lL yX4_lastWatch wsX4_lastWatch rmX4_lastWatch (va_Pc [.ref o0] (kBp D cI cS [(o0, .inr (3, [.int (nI s), .int (nI w)]))])) (vp_Si (fun r : Int32 => r = nI w)) 0 0 (fun _ => False) := by
  refine Met.ofW (cc := cX4_lastWatch) (maxL := 1) (ret := (some .int)) (by decide) rfl ?_
  intro pP eE sS mM args below meth cC s₁ B hml hv
  obtain ⟨rfl, hP, hK⟩ := hv
  have hx := B.exec
  have hb := B.bytes
  have hr := B.returns
  have hts := atoms_spec (ws := wsX4_lastWatch) B.pre
  have hown : sS.vm.findClass RX4 = some mM.cls := findClass_of_methodNamed B.named
  have hlocks := B.notSynchronized
  have hP : va_P D vwCl [(o0, .inr (3, [.int (nI s), .int (nI w)]))] sS.heap := hP
  have hf_13 := hts (.fieldLink RX4 13 "OldLamps$MostLight" "watch" "I") (List.mem_of_getElem? (i := 1) rfl)
  have hwX4 : ∀ w ∈ wsX40, w ∈ wsX4_lastWatch := fun _ h => List.mem_cons_of_mem _ (List.mem_append_right _ h)
  have hl := lv_entry ([.ref o0]) (n := 1) (Nat.le_of_ble_eq_true rfl)
  rw [lg_entry_eq]
  generalize (lg_sl ([.ref o0]) ++ List.replicate (1 - (lg_sl ([.ref o0])).length) Slot.unset).toArray = ls at hl ⊢
  have hl : lv_has ls 1 [(0, .ref o0)] := hl
  obtain ⟨QQ, hQQ⟩ : ∃ QQ : State → Prop, QQ = MQ below (vp_Si (fun r : Int32 => r = nI w)) ([.ref o0]).toArray sS 0 0 (fun _ => False) := ⟨_, rfl⟩
  refine kk_QQ hQQ.symm ?_
  refine lv_aload_n hx hb dX4_lastWatch_0 rfl (lv_at hl 0 rfl) ?_
  refine va_get (D := D) (ci := 3) (v := .int (nI w)) (C := RX4) (T := TX4) (N := 2) hx hb hts hwX4 hown hK hP 0 rfl rfl 1 (by decide) hf_13 (fun _ h9 => h9) rfl dX4_lastWatch_1 ?_
  have hq : nI w = nI w := by rfl
  refine kk_QQ hQQ ?_
  exact W.iret (v := nI w) hx hb hr (fun t ht hW => ⟨nI w, rfl, hq, ht⟩) (fun q h => by cases h) dX4_lastWatch_4
