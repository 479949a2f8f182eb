abbrev rmX1_append : Room := { frames := 0, cells := 0, slots := 0, locals := 0 }
set_option maxHeartbeats 4000000 in
set_option maxRecDepth 100000 in
/-- one entry more, or FULL -/
theorem c_X1_append (lL : Launch) (D : va_G) (cI cS : ClassId) (sz : Nat) (h0 : Nat) (h1 : Nat) (h2 : Nat) (h3 : Nat) (cn : Nat) (wf : Nat → Int32) (tf : Nat → Int32) (vf : Nat → Int32) (x1 : Int32) (x2 : Int32) (x3 : Int32) (hcn : cn ≤ 8) : Met lL yX1_append wsX1_append rmX1_append (va_Pc [.ref h0, .int x1, .int x2, .int x3] (kB D cI cS [(h0, .inr (0, [.int (nI cn), .ref h1, .ref h2, .ref h3])), (h1, .inl (cI, 8, .inl wf)), (h2, .inl (cI, 8, .inl tf)), (h3, .inl (cI, 8, .inl vf))] sz)) (kQi D (fun (r : Int32) (u : Nat × (Nat → Int32) × (Nat → Int32) × (Nat → Int32)) => (cn = 8 ∧ r = (-4) ∧ u.1 = cn ∧ u.2.1 = wf ∧ u.2.2.1 = tf ∧ u.2.2.2 = vf) ∨ (cn < 8 ∧ r = nI cn ∧ u.1 = cn + 1 ∧ u.2.1 = upd wf cn x1 ∧ u.2.2.1 = upd tf cn x2 ∧ u.2.2.2 = upd vf cn x3)) (fun u : Nat × (Nat → Int32) × (Nat → Int32) × (Nat → Int32) => [(h0, .inr (0, [.int (nI u.1), .ref h1, .ref h2, .ref h3])), (h1, .inl (cI, 8, .inl u.2.1)), (h2, .inl (cI, 8, .inl u.2.2.1)), (h3, .inl (cI, 8, .inl u.2.2.2))]) (va_A [(h0, .inr (0, [.int (nI cn), .ref h1, .ref h2, .ref h3])), (h1, .inl (cI, 8, .inl wf)), (h2, .inl (cI, 8, .inl tf)), (h3, .inl (cI, 8, .inl vf))] sz)) 0 0 (va_A [(h0, .inr (0, [.int (nI cn), .ref h1, .ref h2, .ref h3])), (h1, .inl (cI, 8, .inl wf)), (h2, .inl (cI, 8, .inl tf)), (h3, .inl (cI, 8, .inl vf))] sz) := by
  refine Met.ofW (cc := cX1_append) (maxL := 4) (ret := (some .int)) (by decide) rfl ?_
  intro pP eE sS mM args below meth cC s₁ B hml hv
  obtain ⟨rfl, hsz, hP, hK, hD0⟩ := hv
  have hx := B.exec
  have hb := B.bytes
  have hr := B.returns
  have hts := atoms_spec (ws := wsX1_append) B.pre
  have hown : sS.vm.findClass RX1 = some mM.cls := findClass_of_methodNamed B.named
  have hlocks := B.notSynchronized
  subst hsz
  have hD := hD0.self (sz := sS.heap.size)
  generalize hAe : va_A [(h0, .inr (0, [.int (nI cn), .ref h1, .ref h2, .ref h3])), (h1, .inl (cI, 8, .inl wf)), (h2, .inl (cI, 8, .inl tf)), (h3, .inl (cI, 8, .inl vf))] sS.heap.size = A at hD ⊢
  have hA : ∀ q : Nat, sS.heap.size ≤ q → A q := fun q h => by rw [← hAe]; exact Or.inr h
  have hS : va_S A sS.heap sS.heap [] := va_S.rf
  have hP : va_P D vwCl [(h0, .inr (0, [.int (nI cn), .ref h1, .ref h2, .ref h3])), (h1, .inl (cI, 8, .inl wf)), (h2, .inl (cI, 8, .inl tf)), (h3, .inl (cI, 8, .inl vf))] sS.heap := hP
  have hD : va_D A [(h0, .inr (0, [.int (nI cn), .ref h1, .ref h2, .ref h3])), (h1, .inl (cI, 8, .inl wf)), (h2, .inl (cI, 8, .inl tf)), (h3, .inl (cI, 8, .inl vf))] := hD
  have hf_9 := hts (.fieldLink RX1 9 "OldLamps$Entries" "count" "I") (List.mem_of_getElem? (i := 1) rfl)
  have hf_15 := hts (.fieldLink RX1 15 "OldLamps$Entries" "whos" "[I") (List.mem_of_getElem? (i := 2) rfl)
  have hf_19 := hts (.fieldLink RX1 19 "OldLamps$Entries" "watches" "[I") (List.mem_of_getElem? (i := 3) rfl)
  have hf_22 := hts (.fieldLink RX1 22 "OldLamps$Entries" "values" "[I") (List.mem_of_getElem? (i := 4) rfl)
  have hwX1 : ∀ w ∈ wsX10, w ∈ wsX1_append := fun _ h => List.mem_cons_of_mem _ (List.mem_append_right _ h)
  have hl := lv_entry ([.ref h0, .int x1, .int x2, .int x3]) (n := 4) (Nat.le_of_ble_eq_true rfl)
  rw [lg_entry_eq]
  generalize (lg_sl ([.ref h0, .int x1, .int x2, .int x3]) ++ List.replicate (4 - (lg_sl ([.ref h0, .int x1, .int x2, .int x3])).length) Slot.unset).toArray = ls at hl ⊢
  have hl : lv_has ls 4 [(0, .ref h0), (1, .int x1), (2, .int x2), (3, .int x3)] := hl
  obtain ⟨QQ, hQQ⟩ : ∃ QQ : State → Prop, QQ = MQ below (kQi D (fun (r : Int32) (u : Nat × (Nat → Int32) × (Nat → Int32) × (Nat → Int32)) => (cn = 8 ∧ r = (-4) ∧ u.1 = cn ∧ u.2.1 = wf ∧ u.2.2.1 = tf ∧ u.2.2.2 = vf) ∨ (cn < 8 ∧ r = nI cn ∧ u.1 = cn + 1 ∧ u.2.1 = upd wf cn x1 ∧ u.2.2.1 = upd tf cn x2 ∧ u.2.2.2 = upd vf cn x3)) (fun u : Nat × (Nat → Int32) × (Nat → Int32) × (Nat → Int32) => [(h0, .inr (0, [.int (nI u.1), .ref h1, .ref h2, .ref h3])), (h1, .inl (cI, 8, .inl u.2.1)), (h2, .inl (cI, 8, .inl u.2.2.1)), (h3, .inl (cI, 8, .inl u.2.2.2))]) A) ([.ref h0, .int x1, .int x2, .int x3]).toArray sS 0 0 A := ⟨_, rfl⟩
  refine kk_QQ hQQ.symm ?_
  refine lv_aload_n hx hb dX1_append_0 rfl (lv_at hl 0 rfl) ?_
  refine va_get (D := D) (ci := 0) (v := .int (nI cn)) (C := RX1) (T := TX1) (N := 4) hx hb hts hwX1 hown hK hP 0 rfl rfl 0 (by decide) hf_9 (fun _ h9 => h9) rfl dX1_append_1 ?_
  refine lv_bipush (v := nI 8) hx hb dX1_append_4 (by decide +kernel) ?_
  refine kk_icmp_lt (tgt := 12) hx hb dX1_append_6 (by decide) (by omega) (by omega) (fun c_1 => ?_) (fun c_1 => ?_)
  · skip
    refine lv_aload_n hx hb dX1_append_12 rfl (lv_at hl 0 rfl) ?_
    refine va_get (D := D) (ci := 0) (v := .ref h1) (C := RX1) (T := TX1) (N := 4) hx hb hts hwX1 hown hK hP 0 rfl rfl 1 (by decide) hf_15 (fun _ h9 => h9) rfl dX1_append_13 ?_
    refine lv_aload_n hx hb dX1_append_16 rfl (lv_at hl 0 rfl) ?_
    refine va_get (D := D) (ci := 0) (v := .int (nI cn)) (C := RX1) (T := TX1) (N := 4) hx hb hts hwX1 hown hK hP 0 rfl rfl 0 (by decide) hf_9 (fun _ h9 => h9) rfl dX1_append_17 ?_
    refine lv_iload_n hx hb dX1_append_20 rfl (lv_at hl 1 rfl) ?_
    refine kk_iast hx hb hK hP hD hS 1 rfl rfl (i := cn) (by omega) (by decide) dX1_append_21 (fun H locs hP hD hS => ?_)
    have hP : va_P D vwCl [(h0, .inr (0, [.int (nI cn), .ref h1, .ref h2, .ref h3])), (h1, .inl (cI, 8, .inl (upd wf cn x1))), (h2, .inl (cI, 8, .inl tf)), (h3, .inl (cI, 8, .inl vf))] H := hP
    have hD : va_D A [(h0, .inr (0, [.int (nI cn), .ref h1, .ref h2, .ref h3])), (h1, .inl (cI, 8, .inl (upd wf cn x1))), (h2, .inl (cI, 8, .inl tf)), (h3, .inl (cI, 8, .inl vf))] := hD
    refine lv_aload_n hx hb dX1_append_22 rfl (lv_at hl 0 rfl) ?_
    refine va_get (D := D) (ci := 0) (v := .ref h2) (C := RX1) (T := TX1) (N := 4) hx hb hts hwX1 hown hK hP 0 rfl rfl 2 (by decide) hf_19 (fun _ h9 => h9) rfl dX1_append_23 ?_
    refine lv_aload_n hx hb dX1_append_26 rfl (lv_at hl 0 rfl) ?_
    refine va_get (D := D) (ci := 0) (v := .int (nI cn)) (C := RX1) (T := TX1) (N := 4) hx hb hts hwX1 hown hK hP 0 rfl rfl 0 (by decide) hf_9 (fun _ h9 => h9) rfl dX1_append_27 ?_
    refine lv_iload_n hx hb dX1_append_30 rfl (lv_at hl 2 rfl) ?_
    refine kk_iast hx hb hK hP hD hS 2 rfl rfl (i := cn) (by omega) (by decide) dX1_append_31 (fun H locs hP hD hS => ?_)
    have hP : va_P D vwCl [(h0, .inr (0, [.int (nI cn), .ref h1, .ref h2, .ref h3])), (h1, .inl (cI, 8, .inl (upd wf cn x1))), (h2, .inl (cI, 8, .inl (upd tf cn x2))), (h3, .inl (cI, 8, .inl vf))] H := hP
    have hD : va_D A [(h0, .inr (0, [.int (nI cn), .ref h1, .ref h2, .ref h3])), (h1, .inl (cI, 8, .inl (upd wf cn x1))), (h2, .inl (cI, 8, .inl (upd tf cn x2))), (h3, .inl (cI, 8, .inl vf))] := hD
    refine lv_aload_n hx hb dX1_append_32 rfl (lv_at hl 0 rfl) ?_
    refine va_get (D := D) (ci := 0) (v := .ref h3) (C := RX1) (T := TX1) (N := 4) hx hb hts hwX1 hown hK hP 0 rfl rfl 3 (by decide) hf_22 (fun _ h9 => h9) rfl dX1_append_33 ?_
    refine lv_aload_n hx hb dX1_append_36 rfl (lv_at hl 0 rfl) ?_
    refine va_get (D := D) (ci := 0) (v := .int (nI cn)) (C := RX1) (T := TX1) (N := 4) hx hb hts hwX1 hown hK hP 0 rfl rfl 0 (by decide) hf_9 (fun _ h9 => h9) rfl dX1_append_37 ?_
    refine lv_iload_n hx hb dX1_append_40 rfl (lv_at hl 3 rfl) ?_
    refine kk_iast hx hb hK hP hD hS 3 rfl rfl (i := cn) (by omega) (by decide) dX1_append_41 (fun H locs hP hD hS => ?_)
    have hP : va_P D vwCl [(h0, .inr (0, [.int (nI cn), .ref h1, .ref h2, .ref h3])), (h1, .inl (cI, 8, .inl (upd wf cn x1))), (h2, .inl (cI, 8, .inl (upd tf cn x2))), (h3, .inl (cI, 8, .inl (upd vf cn x3)))] H := hP
    have hD : va_D A [(h0, .inr (0, [.int (nI cn), .ref h1, .ref h2, .ref h3])), (h1, .inl (cI, 8, .inl (upd wf cn x1))), (h2, .inl (cI, 8, .inl (upd tf cn x2))), (h3, .inl (cI, 8, .inl (upd vf cn x3)))] := hD
    refine lv_aload_n hx hb dX1_append_42 rfl (lv_at hl 0 rfl) ?_
    refine lv_dup hx hb dX1_append_43 rfl ?_
    refine va_get (D := D) (ci := 0) (v := .int (nI cn)) (C := RX1) (T := TX1) (N := 4) hx hb hts hwX1 hown hK hP 0 rfl rfl 0 (by decide) hf_9 (fun _ h9 => h9) rfl dX1_append_44 ?_
    refine lv_iconst (v := nI 1) hx hb dX1_append_47 (by decide +kernel) ?_
    refine kk_iadd hx hb dX1_append_48 ?_
    refine va_put (D := D) (ci := 0) (v := .int (nI (cn + 1))) (ty := .int) (C := RX1) (T := TX1) (N := 4) hx hb hts hwX1 tyX1 tyX1_ok nmX1 hown hK hP hD hS 0 rfl rfl 0 (by decide) hf_9 (fun _ h9 => h9) rfl (by decide +kernel) rfl rfl (Nat.le_of_ble_eq_true rfl) dX1_append_49 (fun H locs hP hD hS => ?_)
    have hP : va_P D vwCl [(h0, .inr (0, [.int (nI (cn + 1)), .ref h1, .ref h2, .ref h3])), (h1, .inl (cI, 8, .inl (upd wf cn x1))), (h2, .inl (cI, 8, .inl (upd tf cn x2))), (h3, .inl (cI, 8, .inl (upd vf cn x3)))] H := hP
    have hD : va_D A [(h0, .inr (0, [.int (nI (cn + 1)), .ref h1, .ref h2, .ref h3])), (h1, .inl (cI, 8, .inl (upd wf cn x1))), (h2, .inl (cI, 8, .inl (upd tf cn x2))), (h3, .inl (cI, 8, .inl (upd vf cn x3)))] := hD
    refine lv_aload_n hx hb dX1_append_52 rfl (lv_at hl 0 rfl) ?_
    refine va_get (D := D) (ci := 0) (v := .int (nI (cn + 1))) (C := RX1) (T := TX1) (N := 4) hx hb hts hwX1 hown hK hP 0 rfl rfl 0 (by decide) hf_9 (fun _ h9 => h9) rfl dX1_append_53 ?_
    refine lv_iconst (v := nI 1) hx hb dX1_append_56 (by decide +kernel) ?_
    refine kk_isub hx hb dX1_append_57 (by omega) ?_
    have hq : (cn = 8 ∧ (nI ((cn + 1) - 1)) = (-4) ∧ (cn + 1) = cn ∧ (upd wf cn x1) = wf ∧ (upd tf cn x2) = tf ∧ (upd vf cn x3) = vf) ∨ (cn < 8 ∧ (nI ((cn + 1) - 1)) = nI cn ∧ (cn + 1) = cn + 1 ∧ (upd wf cn x1) = upd wf cn x1 ∧ (upd tf cn x2) = upd tf cn x2 ∧ (upd vf cn x3) = upd vf cn x3) := by exact Or.inr ⟨by omega, by rw [Nat.add_sub_cancel], rfl, rfl, rfl, rfl⟩
    refine kk_QQ hQQ ?_
    exact W.iret (v := nI ((cn + 1) - 1)) hx hb hr (fun t ht hW => ⟨⟨nI ((cn + 1) - 1), (cn + 1, upd wf cn x1, upd tf cn x2, upd vf cn x3), rfl, hq, by show va_P D vwCl _ t.heap; rw [ht]; exact hP⟩, hS.F ht⟩) hS.2.2 dX1_append_58
  · skip
    refine lv_bipush (v := (-4 : Int32)) hx hb dX1_append_9 (by decide +kernel) ?_
    have hq : (cn = 8 ∧ (-4 : Int32) = (-4) ∧ cn = cn ∧ wf = wf ∧ tf = tf ∧ vf = vf) ∨ (cn < 8 ∧ (-4 : Int32) = nI cn ∧ cn = cn + 1 ∧ wf = upd wf cn x1 ∧ tf = upd tf cn x2 ∧ vf = upd vf cn x3) := by exact Or.inl ⟨by omega, rfl, rfl, rfl, rfl, rfl⟩
    refine kk_QQ hQQ ?_
    exact W.iret (v := (-4 : Int32)) hx hb hr (fun t ht hW => ⟨⟨(-4 : Int32), (cn, wf, tf, vf), rfl, hq, by show va_P D vwCl _ t.heap; rw [ht]; exact hP⟩, hS.F ht⟩) hS.2.2 dX1_append_11

abbrev rmX1_takeBack : Room := { frames := 0, cells := 0, slots := 0, locals := 0 }
set_option maxHeartbeats 4000000 in
set_option maxRecDepth 100000 in
theorem c_X1_takeBack (lL : Launch) (D : va_G) (cI cS : ClassId) (sz : Nat) (h0 : Nat) (cn : Nat) (v1 : Value) (v2 : Value) (v3 : Value) (x1 : Int32) (hcn : cn ≤ 8) : Met lL yX1_takeBack wsX1_takeBack rmX1_takeBack (va_Pc [.ref h0, .int x1] (kB D cI cS [(h0, .inr (0, [.int (nI cn), v1, v2, v3]))] sz)) (kQi D (fun (r : Int32) (u : Nat) => (inB x1 (cn + 1) = false ∧ r = (-2) ∧ u = cn) ∨ (∃ k, k ≤ cn ∧ x1 = nI k ∧ r = nI (cn - k) ∧ u = cn - k)) (fun u : Nat => [(h0, .inr (0, [.int (nI u), v1, v2, v3]))]) (va_A [(h0, .inr (0, [.int (nI cn), v1, v2, v3]))] sz)) 0 0 (va_A [(h0, .inr (0, [.int (nI cn), v1, v2, v3]))] sz) := by
  refine Met.ofW (cc := cX1_takeBack) (maxL := 2) (ret := (some .int)) (by decide) rfl ?_
  intro pP eE sS mM args below meth cC s₁ B hml hv
  obtain ⟨rfl, hsz, hP, hK, hD0⟩ := hv
  have hx := B.exec
  have hb := B.bytes
  have hr := B.returns
  have hts := atoms_spec (ws := wsX1_takeBack) B.pre
  have hown : sS.vm.findClass RX1 = some mM.cls := findClass_of_methodNamed B.named
  have hlocks := B.notSynchronized
  subst hsz
  have hD := hD0.self (sz := sS.heap.size)
  generalize hAe : va_A [(h0, .inr (0, [.int (nI cn), v1, v2, v3]))] sS.heap.size = A at hD ⊢
  have hA : ∀ q : Nat, sS.heap.size ≤ q → A q := fun q h => by rw [← hAe]; exact Or.inr h
  have hS : va_S A sS.heap sS.heap [] := va_S.rf
  have hP : va_P D vwCl [(h0, .inr (0, [.int (nI cn), v1, v2, v3]))] sS.heap := hP
  have hD : va_D A [(h0, .inr (0, [.int (nI cn), v1, v2, v3]))] := hD
  have hf_9 := hts (.fieldLink RX1 9 "OldLamps$Entries" "count" "I") (List.mem_of_getElem? (i := 1) rfl)
  have hwX1 : ∀ w ∈ wsX10, w ∈ wsX1_takeBack := fun _ h => List.mem_cons_of_mem _ (List.mem_append_right _ h)
  have hl := lv_entry ([.ref h0, .int x1]) (n := 2) (Nat.le_of_ble_eq_true rfl)
  rw [lg_entry_eq]
  generalize (lg_sl ([.ref h0, .int x1]) ++ List.replicate (2 - (lg_sl ([.ref h0, .int x1])).length) Slot.unset).toArray = ls at hl ⊢
  have hl : lv_has ls 2 [(0, .ref h0), (1, .int x1)] := hl
  obtain ⟨QQ, hQQ⟩ : ∃ QQ : State → Prop, QQ = MQ below (kQi D (fun (r : Int32) (u : Nat) => (inB x1 (cn + 1) = false ∧ r = (-2) ∧ u = cn) ∨ (∃ k, k ≤ cn ∧ x1 = nI k ∧ r = nI (cn - k) ∧ u = cn - k)) (fun u : Nat => [(h0, .inr (0, [.int (nI u), v1, v2, v3]))]) A) ([.ref h0, .int x1]).toArray sS 0 0 A := ⟨_, rfl⟩
  refine kk_QQ hQQ.symm ?_
  refine lv_iload_n hx hb dX1_takeBack_0 rfl (lv_at hl 1 rfl) ?_
  refine lv_if_lt (tgt := 12) hx hb dX1_takeBack_1 (by decide) (fun c_1 => ?_) (fun c_1 => ?_)
  · skip
    refine lv_bipush (v := (-2 : Int32)) hx hb dX1_takeBack_12 (by decide +kernel) ?_
    have hq : (inB x1 (cn + 1) = false ∧ (-2 : Int32) = (-2) ∧ cn = cn) ∨ (∃ k, k ≤ cn ∧ x1 = nI k ∧ (-2 : Int32) = nI (cn - k) ∧ cn = cn - k) := by exact Or.inl ⟨kk_out1 c_1, rfl, rfl⟩
    refine kk_QQ hQQ ?_
    exact W.iret (v := (-2 : Int32)) hx hb hr (fun t ht hW => ⟨⟨(-2 : Int32), cn, rfl, hq, by show va_P D vwCl _ t.heap; rw [ht]; exact hP⟩, hS.F ht⟩) hS.2.2 dX1_takeBack_14
  · skip
    refine lv_iload_n hx hb dX1_takeBack_4 rfl (lv_at hl 1 rfl) ?_
    refine lv_aload_n hx hb dX1_takeBack_5 rfl (lv_at hl 0 rfl) ?_
    refine va_get (D := D) (ci := 0) (v := .int (nI cn)) (C := RX1) (T := TX1) (N := 4) hx hb hts hwX1 hown hK hP 0 rfl rfl 0 (by decide) hf_9 (fun _ h9 => h9) rfl dX1_takeBack_6 ?_
    refine lv_icmp_le (tgt := 15) hx hb dX1_takeBack_9 (by decide) (fun c_2 => ?_) (fun c_2 => ?_)
    · skip
      obtain ⟨x1N, hx1N, rfl⟩ := kk_le_of c_1 c_2 (by omega)
      have t_x1 := nI_clamp (show x1N < 2 ^ 31 by omega)
      refine lv_aload_n hx hb dX1_takeBack_15 rfl (lv_at hl 0 rfl) ?_
      refine lv_dup hx hb dX1_takeBack_16 rfl ?_
      refine va_get (D := D) (ci := 0) (v := .int (nI cn)) (C := RX1) (T := TX1) (N := 4) hx hb hts hwX1 hown hK hP 0 rfl rfl 0 (by decide) hf_9 (fun _ h9 => h9) rfl dX1_takeBack_17 ?_
      refine lv_iload_n hx hb dX1_takeBack_20 rfl (lv_at hl 1 rfl) ?_
      refine kk_isub hx hb dX1_takeBack_21 (by omega) ?_
      refine va_put (D := D) (ci := 0) (v := .int (nI (cn - x1N))) (ty := .int) (C := RX1) (T := TX1) (N := 4) hx hb hts hwX1 tyX1 tyX1_ok nmX1 hown hK hP hD hS 0 rfl rfl 0 (by decide) hf_9 (fun _ h9 => h9) rfl (by decide +kernel) rfl rfl (Nat.le_of_ble_eq_true rfl) dX1_takeBack_22 (fun H locs hP hD hS => ?_)
      have hP : va_P D vwCl [(h0, .inr (0, [.int (nI (cn - x1N)), v1, v2, v3]))] H := hP
      have hD : va_D A [(h0, .inr (0, [.int (nI (cn - x1N)), v1, v2, v3]))] := hD
      refine lv_aload_n hx hb dX1_takeBack_25 rfl (lv_at hl 0 rfl) ?_
      refine va_get (D := D) (ci := 0) (v := .int (nI (cn - x1N))) (C := RX1) (T := TX1) (N := 4) hx hb hts hwX1 hown hK hP 0 rfl rfl 0 (by decide) hf_9 (fun _ h9 => h9) rfl dX1_takeBack_26 ?_
      have hq : (inB (nI x1N) (cn + 1) = false ∧ (nI (cn - x1N)) = (-2) ∧ (cn - x1N) = cn) ∨ (∃ k, k ≤ cn ∧ (nI x1N) = nI k ∧ (nI (cn - x1N)) = nI (cn - k) ∧ (cn - x1N) = cn - k) := by exact Or.inr ⟨x1N, hx1N, rfl, rfl, rfl⟩
      refine kk_QQ hQQ ?_
      exact W.iret (v := nI (cn - x1N)) hx hb hr (fun t ht hW => ⟨⟨nI (cn - x1N), (cn - x1N), rfl, hq, by show va_P D vwCl _ t.heap; rw [ht]; exact hP⟩, hS.F ht⟩) hS.2.2 dX1_takeBack_29
    · skip
      refine lv_bipush (v := (-2 : Int32)) hx hb dX1_takeBack_12 (by decide +kernel) ?_
      have hq : (inB x1 (cn + 1) = false ∧ (-2 : Int32) = (-2) ∧ cn = cn) ∨ (∃ k, k ≤ cn ∧ x1 = nI k ∧ (-2 : Int32) = nI (cn - k) ∧ cn = cn - k) := by exact Or.inl ⟨kk_out2 c_2 (by omega), rfl, rfl⟩
      refine kk_QQ hQQ ?_
      exact W.iret (v := (-2 : Int32)) hx hb hr (fun t ht hW => ⟨⟨(-2 : Int32), cn, rfl, hq, by show va_P D vwCl _ t.heap; rw [ht]; exact hP⟩, hS.F ht⟩) hS.2.2 dX1_takeBack_14

abbrev rmX2_isThere : Room := { frames := 0, cells := 0, slots := 0, locals := 0 }
set_option maxHeartbeats 4000000 in
set_option maxRecDepth 100000 in
theorem c_X2_isThere (lL : Launch) (D : va_G) (cI cS : ClassId) (h0 : Nat) (sp : Nat) (la : Nat) (v2 : Value) (v3 : Value) (v4 : Value) (v5 : Value) (v6 : Value) (v7 : Value) (hla : la ≤ 4) : Met lL yX2_isThere wsX2_isThere rmX2_isThere (va_Pc [.ref h0] (kBp D cI cS [(h0, .inr (1, [.int (nI sp), .int (nI la), v2, v3, v4, v5, v6, v7]))])) (vp_Si (fun r : Int32 => r = kb (decide (0 < la)))) 0 0 (fun _ => False) := by
  refine Met.ofW (cc := cX2_isThere) (maxL := 1) (ret := (some .boolean)) (by decide) rfl ?_
  intro pP eE sS mM args below meth cC s₁ B hml hv
  obtain ⟨rfl, hP, hK⟩ := hv
  have hx := B.exec
  have hb := B.bytes
  have hr := B.returns
  have hts := atoms_spec (ws := wsX2_isThere) B.pre
  have hown : sS.vm.findClass RX2 = some mM.cls := findClass_of_methodNamed B.named
  have hlocks := B.notSynchronized
  have hP : va_P D vwCl [(h0, .inr (1, [.int (nI sp), .int (nI la), v2, v3, v4, v5, v6, v7]))] sS.heap := hP
  have hf_15 := hts (.fieldLink RX2 15 "OldLamps$Ground" "lamps" "I") (List.mem_of_getElem? (i := 1) rfl)
  have hwX2 : ∀ w ∈ wsX20, w ∈ wsX2_isThere := fun _ h => List.mem_cons_of_mem _ (List.mem_append_right _ h)
  have hl := lv_entry ([.ref h0]) (n := 1) (Nat.le_of_ble_eq_true rfl)
  rw [lg_entry_eq]
  generalize (lg_sl ([.ref h0]) ++ List.replicate (1 - (lg_sl ([.ref h0])).length) Slot.unset).toArray = ls at hl ⊢
  have hl : lv_has ls 1 [(0, .ref h0)] := hl
  obtain ⟨QQ, hQQ⟩ : ∃ QQ : State → Prop, QQ = MQ below (vp_Si (fun r : Int32 => r = kb (decide (0 < la)))) ([.ref h0]).toArray sS 0 0 (fun _ => False) := ⟨_, rfl⟩
  refine kk_QQ hQQ.symm ?_
  refine lv_aload_n hx hb dX2_isThere_0 rfl (lv_at hl 0 rfl) ?_
  refine va_get (D := D) (ci := 1) (v := .int (nI la)) (C := RX2) (T := TX2) (N := 8) hx hb hts hwX2 hown hK hP 0 rfl rfl 1 (by decide) hf_15 (fun _ h9 => h9) rfl dX2_isThere_1 ?_
  refine kk_if_le (tgt := 11) hx hb dX2_isThere_4 (by decide) (by omega) (fun c_1 => ?_) (fun c_1 => ?_)
  · skip
    refine lv_iconst (v := nI 0) hx hb dX2_isThere_11 (by decide +kernel) ?_
    have hq : nI 0 = kb (decide (0 < la)) := by rw [decide_eq_false (by omega)]; rfl
    refine kk_QQ hQQ ?_
    exact W.zret (v := nI 0) (ty := .boolean) hx hb hr (by decide +kernel) (fun t ht hW => ⟨nI 0, rfl, hq, ht⟩) (fun q h => by cases h) dX2_isThere_12
  · skip
    refine lv_iconst (v := nI 1) hx hb dX2_isThere_7 (by decide +kernel) ?_
    refine lv_goto (tgt := 12) hx hb dX2_isThere_8 (by decide) ?_
    have hq : nI 1 = kb (decide (0 < la)) := by rw [decide_eq_true (by omega)]; rfl
    refine kk_QQ hQQ ?_
    exact W.zret (v := nI 1) (ty := .boolean) hx hb hr (by decide +kernel) (fun t ht hW => ⟨nI 1, rfl, hq, ht⟩) (fun q h => by cases h) dX2_isThere_12

abbrev rmX2_hasSpot : Room := { frames := 0, cells := 0, slots := 0, locals := 0 }
set_option maxHeartbeats 4000000 in
set_option maxRecDepth 100000 in
theorem c_X2_hasSpot (lL : Launch) (D : va_G) (cI cS : ClassId) (h0 : Nat) (sp : Nat) (la : Nat) (v2 : Value) (v3 : Value) (v4 : Value) (v5 : Value) (v6 : Value) (v7 : Value) (x : Int32) (hsp : sp ≤ 4) : Met lL yX2_hasSpot wsX2_hasSpot rmX2_hasSpot (va_Pc [.ref h0, .int x] (kBp D cI cS [(h0, .inr (1, [.int (nI sp), .int (nI la), v2, v3, v4, v5, v6, v7]))])) (vp_Si (fun r : Int32 => r = kb (inB x sp))) 0 0 (fun _ => False) := by
  refine Met.ofW (cc := cX2_hasSpot) (maxL := 2) (ret := (some .boolean)) (by decide) rfl ?_
  intro pP eE sS mM args below meth cC s₁ B hml hv
  obtain ⟨rfl, hP, hK⟩ := hv
  have hx := B.exec
  have hb := B.bytes
  have hr := B.returns
  have hts := atoms_spec (ws := wsX2_hasSpot) B.pre
  have hown : sS.vm.findClass RX2 = some mM.cls := findClass_of_methodNamed B.named
  have hlocks := B.notSynchronized
  have hP : va_P D vwCl [(h0, .inr (1, [.int (nI sp), .int (nI la), v2, v3, v4, v5, v6, v7]))] sS.heap := hP
  have hf_9 := hts (.fieldLink RX2 9 "OldLamps$Ground" "spots" "I") (List.mem_of_getElem? (i := 1) rfl)
  have hwX2 : ∀ w ∈ wsX20, w ∈ wsX2_hasSpot := fun _ h => List.mem_cons_of_mem _ (List.mem_append_right _ h)
  have hl := lv_entry ([.ref h0, .int x]) (n := 2) (Nat.le_of_ble_eq_true rfl)
  rw [lg_entry_eq]
  generalize (lg_sl ([.ref h0, .int x]) ++ List.replicate (2 - (lg_sl ([.ref h0, .int x])).length) Slot.unset).toArray = ls at hl ⊢
  have hl : lv_has ls 2 [(0, .ref h0), (1, .int x)] := hl
  obtain ⟨QQ, hQQ⟩ : ∃ QQ : State → Prop, QQ = MQ below (vp_Si (fun r : Int32 => r = kb (inB x sp))) ([.ref h0, .int x]).toArray sS 0 0 (fun _ => False) := ⟨_, rfl⟩
  refine kk_QQ hQQ.symm ?_
  refine lv_iload_n hx hb dX2_hasSpot_0 rfl (lv_at hl 1 rfl) ?_
  refine lv_if_lt (tgt := 16) hx hb dX2_hasSpot_1 (by decide) (fun c_1 => ?_) (fun c_1 => ?_)
  · skip
    refine lv_iconst (v := nI 0) hx hb dX2_hasSpot_16 (by decide +kernel) ?_
    have hq : nI 0 = kb (inB x sp) := by rw [kk_out1 c_1]; rfl
    refine kk_QQ hQQ ?_
    exact W.zret (v := nI 0) (ty := .boolean) hx hb hr (by decide +kernel) (fun t ht hW => ⟨nI 0, rfl, hq, ht⟩) (fun q h => by cases h) dX2_hasSpot_17
  · skip
    refine lv_iload_n hx hb dX2_hasSpot_4 rfl (lv_at hl 1 rfl) ?_
    refine lv_aload_n hx hb dX2_hasSpot_5 rfl (lv_at hl 0 rfl) ?_
    refine va_get (D := D) (ci := 1) (v := .int (nI sp)) (C := RX2) (T := TX2) (N := 8) hx hb hts hwX2 hown hK hP 0 rfl rfl 0 (by decide) hf_9 (fun _ h9 => h9) rfl dX2_hasSpot_6 ?_
    refine lv_icmp_ge (tgt := 16) hx hb dX2_hasSpot_9 (by decide) (fun c_2 => ?_) (fun c_2 => ?_)
    · skip
      refine lv_iconst (v := nI 0) hx hb dX2_hasSpot_16 (by decide +kernel) ?_
      have hq : nI 0 = kb (inB x sp) := by rw [kk_out3 c_2 (by omega)]; rfl
      refine kk_QQ hQQ ?_
      exact W.zret (v := nI 0) (ty := .boolean) hx hb hr (by decide +kernel) (fun t ht hW => ⟨nI 0, rfl, hq, ht⟩) (fun q h => by cases h) dX2_hasSpot_17
    · skip
      obtain ⟨xN, hxN, rfl⟩ := kk_lt_of c_1 c_2 (by omega)
      have t_x := nI_clamp (show xN < 2 ^ 31 by omega)
      refine lv_iconst (v := nI 1) hx hb dX2_hasSpot_12 (by decide +kernel) ?_
      refine lv_goto (tgt := 17) hx hb dX2_hasSpot_13 (by decide) ?_
      have hq : nI 1 = kb (inB (nI xN) sp) := by rw [inB_n (by omega), decide_eq_true hxN]; rfl
      refine kk_QQ hQQ ?_
      exact W.zret (v := nI 1) (ty := .boolean) hx hb hr (by decide +kernel) (fun t ht hW => ⟨nI 1, rfl, hq, ht⟩) (fun q h => by cases h) dX2_hasSpot_17

abbrev rmX2_hasLamp : Room := { frames := 0, cells := 0, slots := 0, locals := 0 }
set_option maxHeartbeats 4000000 in
set_option maxRecDepth 100000 in
theorem c_X2_hasLamp (lL : Launch) (D : va_G) (cI cS : ClassId) (h0 : Nat) (sp : Nat) (la : Nat) (v2 : Value) (v3 : Value) (v4 : Value) (v5 : Value) (v6 : Value) (v7 : Value) (x : Int32) (hla : la ≤ 4) : Met lL yX2_hasLamp wsX2_hasLamp rmX2_hasLamp (va_Pc [.ref h0, .int x] (kBp D cI cS [(h0, .inr (1, [.int (nI sp), .int (nI la), v2, v3, v4, v5, v6, v7]))])) (vp_Si (fun r : Int32 => r = kb (inB x la))) 0 0 (fun _ => False) := by
  refine Met.ofW (cc := cX2_hasLamp) (maxL := 2) (ret := (some .boolean)) (by decide) rfl ?_
  intro pP eE sS mM args below meth cC s₁ B hml hv
  obtain ⟨rfl, hP, hK⟩ := hv
  have hx := B.exec
  have hb := B.bytes
  have hr := B.returns
  have hts := atoms_spec (ws := wsX2_hasLamp) B.pre
  have hown : sS.vm.findClass RX2 = some mM.cls := findClass_of_methodNamed B.named
  have hlocks := B.notSynchronized
  have hP : va_P D vwCl [(h0, .inr (1, [.int (nI sp), .int (nI la), v2, v3, v4, v5, v6, v7]))] sS.heap := hP
  have hf_15 := hts (.fieldLink RX2 15 "OldLamps$Ground" "lamps" "I") (List.mem_of_getElem? (i := 1) rfl)
  have hwX2 : ∀ w ∈ wsX20, w ∈ wsX2_hasLamp := fun _ h => List.mem_cons_of_mem _ (List.mem_append_right _ h)
  have hl := lv_entry ([.ref h0, .int x]) (n := 2) (Nat.le_of_ble_eq_true rfl)
  rw [lg_entry_eq]
  generalize (lg_sl ([.ref h0, .int x]) ++ List.replicate (2 - (lg_sl ([.ref h0, .int x])).length) Slot.unset).toArray = ls at hl ⊢
  have hl : lv_has ls 2 [(0, .ref h0), (1, .int x)] := hl
  obtain ⟨QQ, hQQ⟩ : ∃ QQ : State → Prop, QQ = MQ below (vp_Si (fun r : Int32 => r = kb (inB x la))) ([.ref h0, .int x]).toArray sS 0 0 (fun _ => False) := ⟨_, rfl⟩
  refine kk_QQ hQQ.symm ?_
  refine lv_iload_n hx hb dX2_hasLamp_0 rfl (lv_at hl 1 rfl) ?_
  refine lv_if_lt (tgt := 16) hx hb dX2_hasLamp_1 (by decide) (fun c_1 => ?_) (fun c_1 => ?_)
  · skip
    refine lv_iconst (v := nI 0) hx hb dX2_hasLamp_16 (by decide +kernel) ?_
    have hq : nI 0 = kb (inB x la) := by rw [kk_out1 c_1]; rfl
    refine kk_QQ hQQ ?_
    exact W.zret (v := nI 0) (ty := .boolean) hx hb hr (by decide +kernel) (fun t ht hW => ⟨nI 0, rfl, hq, ht⟩) (fun q h => by cases h) dX2_hasLamp_17
  · skip
    refine lv_iload_n hx hb dX2_hasLamp_4 rfl (lv_at hl 1 rfl) ?_
    refine lv_aload_n hx hb dX2_hasLamp_5 rfl (lv_at hl 0 rfl) ?_
    refine va_get (D := D) (ci := 1) (v := .int (nI la)) (C := RX2) (T := TX2) (N := 8) hx hb hts hwX2 hown hK hP 0 rfl rfl 1 (by decide) hf_15 (fun _ h9 => h9) rfl dX2_hasLamp_6 ?_
    refine lv_icmp_ge (tgt := 16) hx hb dX2_hasLamp_9 (by decide) (fun c_2 => ?_) (fun c_2 => ?_)
    · skip
      refine lv_iconst (v := nI 0) hx hb dX2_hasLamp_16 (by decide +kernel) ?_
      have hq : nI 0 = kb (inB x la) := by rw [kk_out3 c_2 (by omega)]; rfl
      refine kk_QQ hQQ ?_
      exact W.zret (v := nI 0) (ty := .boolean) hx hb hr (by decide +kernel) (fun t ht hW => ⟨nI 0, rfl, hq, ht⟩) (fun q h => by cases h) dX2_hasLamp_17
    · skip
      obtain ⟨xN, hxN, rfl⟩ := kk_lt_of c_1 c_2 (by omega)
      have t_x := nI_clamp (show xN < 2 ^ 31 by omega)
      refine lv_iconst (v := nI 1) hx hb dX2_hasLamp_12 (by decide +kernel) ?_
      refine lv_goto (tgt := 17) hx hb dX2_hasLamp_13 (by decide) ?_
      have hq : nI 1 = kb (inB (nI xN) la) := by rw [inB_n (by omega), decide_eq_true hxN]; rfl
      refine kk_QQ hQQ ?_
      exact W.zret (v := nI 1) (ty := .boolean) hx hb hr (by decide +kernel) (fun t ht hW => ⟨nI 1, rfl, hq, ht⟩) (fun q h => by cases h) dX2_hasLamp_17

abbrev rmX8_at : Room := { frames := 0, cells := 0, slots := 0, locals := 0 }
set_option maxHeartbeats 4000000 in
set_option maxRecDepth 100000 in
theorem c_X8_at (lL : Launch) (D : va_G) (cI cS : ClassId) (a : Nat) (b : Nat) : Met lL yX8_at wsX8_at rmX8_at (va_Pc [.int (nI a), .int (nI b)] (kBp D cI cS [])) (vp_Si (fun r : Int32 => r = nI (a * 4 + b))) 0 0 (fun _ => False) := by
  refine Met.ofW (cc := cX8_at) (maxL := 2) (ret := (some .int)) (by decide) rfl ?_
  intro pP eE sS mM args below meth cC s₁ B hml hv
  obtain ⟨rfl, hP, hK⟩ := hv
  have hx := B.exec
  have hb := B.bytes
  have hr := B.returns
  have hts := atoms_spec (ws := wsX8_at) B.pre
  have hown : sS.vm.findClass RX8 = some mM.cls := findClass_of_methodNamed B.named
  have hlocks := B.notSynchronized
  have hP : va_P D vwCl [] sS.heap := hP
  have hl := lv_entry ([.int (nI a), .int (nI b)]) (n := 2) (Nat.le_of_ble_eq_true rfl)
  rw [lg_entry_eq]
  generalize (lg_sl ([.int (nI a), .int (nI b)]) ++ List.replicate (2 - (lg_sl ([.int (nI a), .int (nI b)])).length) Slot.unset).toArray = ls at hl ⊢
  have hl : lv_has ls 2 [(0, .int (nI a)), (1, .int (nI b))] := hl
  obtain ⟨QQ, hQQ⟩ : ∃ QQ : State → Prop, QQ = MQ below (vp_Si (fun r : Int32 => r = nI (a * 4 + b))) ([.int (nI a), .int (nI b)]).toArray sS 0 0 (fun _ => False) := ⟨_, rfl⟩
  refine kk_QQ hQQ.symm ?_
  refine lv_iload_n hx hb dX8_at_0 rfl (lv_at hl 0 rfl) ?_
  refine lv_iconst (v := nI 4) hx hb dX8_at_1 (by decide +kernel) ?_
  refine kk_imul hx hb dX8_at_2 ?_
  refine lv_iload_n hx hb dX8_at_3 rfl (lv_at hl 1 rfl) ?_
  refine kk_iadd hx hb dX8_at_4 ?_
  have hq : nI ((a * 4) + b) = nI (a * 4 + b) := by rfl
  refine kk_QQ hQQ ?_
  exact W.iret (v := nI ((a * 4) + b)) hx hb hr (fun t ht hW => ⟨nI ((a * 4) + b), rfl, hq, ht⟩) (fun q h => by cases h) dX8_at_5
