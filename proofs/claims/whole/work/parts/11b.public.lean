theorem cd_X8_reckon : yX8_reckon.cls = RX8 ∧ yX8_reckon.cls ≠ "java/lang/invoke/MethodHandle" ∧ yX8_reckon.cls ≠ "java/lang/invoke/VarHandle" ∧ (parseMethodDescriptor yX8_reckon.desc).map (fun d => d.parameters.length) = some 2 := by decide +kernel
abbrev rmX9_where : Room := { frames := 4, cells := 0, slots := 0, locals := 114 }
set_option maxHeartbeats 4000000 in
set_option maxRecDepth 100000 in
theorem c_X9_where (lL : Launch) (D : va_G) (cI cS : ClassId) (sz : Nat) (C : Co) (T : Mv) (E : Mv) (x0 : Nat) (g0 : Nat) (q0 : Nat) (e0 : Nat) (t0 : Nat) (r0 : Nat) (h0 : Nat) (i0 : Nat) (z0 : Nat) (y0 : Nat) (tr : Int32) (ft : Int32) (x1 : Int32) (x2 : Int32) (g1 : Nat) (g2 : Nat) (g3 : Nat) (g4 : Nat) (g5 : Nat) (sk : Nat → Int32) (sh : Nat → Int32) (ki : Nat → Int32) (st : Nat → Int32) (cl : Nat → Int32) (e1 : Nat) (e2 : Nat) (e3 : Nat) (wf : Nat → Int32) (tf : Nat → Int32) (vf : Nat → Int32) (h1 : Nat) (h2 : Nat) (h3 : Nat) (h4 : Nat) (h5 : Nat) (pA : Nat → Int32) (gA : Nat → Int32) (fA : Nat → Int32) (dA : Nat → Int32) (lA : Nat → Int32) (hrC : repC C sk sh ki st cl) (hrM : repM T wf tf vf) (hX : okX C T E) : Met lL yX9_where wsX9_where rmX9_where (va_Pc [.ref x0, .int x1, .int x2] (kB D cI cS [(x0, .inr (8, [.ref g0, .ref q0, .ref e0, .ref t0, .ref r0, .ref h0, .ref i0, .ref z0, .ref y0, .int tr, .int ft])), (g0, .inr (1, [.int (nI (cSp C)), .int (nI (cLa C)), .int (nI (cAg C)), .ref g1, .ref g2, .ref g3, .ref g4, .ref g5])), (g1, .inl (cI, 6, .inl sk)), (g2, .inl (cI, 4, .inl sh)), (g3, .inl (cI, 4, .inl ki)), (g4, .inl (cI, 4, .inl st)), (g5, .inl (cI, 4, .inl cl)), (e0, .inr (0, [.int (nI (mN T)), .ref e1, .ref e2, .ref e3])), (e1, .inl (cI, 8, .inl wf)), (e2, .inl (cI, 8, .inl tf)), (e3, .inl (cI, 8, .inl vf)), (h0, .inr (7, [.ref h1, .ref h2, .ref h3, .ref h4, .ref h5])), (h1, .inl (cI, 96, .inl pA)), (h2, .inl (cI, 96, .inl gA)), (h3, .inl (cI, 96, .inl fA)), (h4, .inl (cI, 96, .inl dA)), (h5, .inl (cI, 96, .inl lA))] sz)) (kQi D (fun (r : Int32) (u : (Nat → Int32) × (Nat → Int32) × (Nat → Int32) × (Nat → Int32) × (Nat → Int32)) => r = sp_where C T x1 x2 ∧ True) (fun u : (Nat → Int32) × (Nat → Int32) × (Nat → Int32) × (Nat → Int32) × (Nat → Int32) => [(x0, .inr (8, [.ref g0, .ref q0, .ref e0, .ref t0, .ref r0, .ref h0, .ref i0, .ref z0, .ref y0, .int tr, .int ft])), (g0, .inr (1, [.int (nI (cSp C)), .int (nI (cLa C)), .int (nI (cAg C)), .ref g1, .ref g2, .ref g3, .ref g4, .ref g5])), (g1, .inl (cI, 6, .inl sk)), (g2, .inl (cI, 4, .inl sh)), (g3, .inl (cI, 4, .inl ki)), (g4, .inl (cI, 4, .inl st)), (g5, .inl (cI, 4, .inl cl)), (e0, .inr (0, [.int (nI (mN T)), .ref e1, .ref e2, .ref e3])), (e1, .inl (cI, 8, .inl wf)), (e2, .inl (cI, 8, .inl tf)), (e3, .inl (cI, 8, .inl vf)), (h0, .inr (7, [.ref h1, .ref h2, .ref h3, .ref h4, .ref h5])), (h1, .inl (cI, 96, .inl u.1)), (h2, .inl (cI, 96, .inl u.2.1)), (h3, .inl (cI, 96, .inl u.2.2.1)), (h4, .inl (cI, 96, .inl u.2.2.2.1)), (h5, .inl (cI, 96, .inl u.2.2.2.2))]) (va_A [(x0, .inr (8, [.ref g0, .ref q0, .ref e0, .ref t0, .ref r0, .ref h0, .ref i0, .ref z0, .ref y0, .int tr, .int ft])), (g0, .inr (1, [.int (nI (cSp C)), .int (nI (cLa C)), .int (nI (cAg C)), .ref g1, .ref g2, .ref g3, .ref g4, .ref g5])), (g1, .inl (cI, 6, .inl sk)), (g2, .inl (cI, 4, .inl sh)), (g3, .inl (cI, 4, .inl ki)), (g4, .inl (cI, 4, .inl st)), (g5, .inl (cI, 4, .inl cl)), (e0, .inr (0, [.int (nI (mN T)), .ref e1, .ref e2, .ref e3])), (e1, .inl (cI, 8, .inl wf)), (e2, .inl (cI, 8, .inl tf)), (e3, .inl (cI, 8, .inl vf)), (h0, .inr (7, [.ref h1, .ref h2, .ref h3, .ref h4, .ref h5])), (h1, .inl (cI, 96, .inl pA)), (h2, .inl (cI, 96, .inl gA)), (h3, .inl (cI, 96, .inl fA)), (h4, .inl (cI, 96, .inl dA)), (h5, .inl (cI, 96, .inl lA))] sz)) 0 0 (va_A [(x0, .inr (8, [.ref g0, .ref q0, .ref e0, .ref t0, .ref r0, .ref h0, .ref i0, .ref z0, .ref y0, .int tr, .int ft])), (g0, .inr (1, [.int (nI (cSp C)), .int (nI (cLa C)), .int (nI (cAg C)), .ref g1, .ref g2, .ref g3, .ref g4, .ref g5])), (g1, .inl (cI, 6, .inl sk)), (g2, .inl (cI, 4, .inl sh)), (g3, .inl (cI, 4, .inl ki)), (g4, .inl (cI, 4, .inl st)), (g5, .inl (cI, 4, .inl cl)), (e0, .inr (0, [.int (nI (mN T)), .ref e1, .ref e2, .ref e3])), (e1, .inl (cI, 8, .inl wf)), (e2, .inl (cI, 8, .inl tf)), (e3, .inl (cI, 8, .inl vf)), (h0, .inr (7, [.ref h1, .ref h2, .ref h3, .ref h4, .ref h5])), (h1, .inl (cI, 96, .inl pA)), (h2, .inl (cI, 96, .inl gA)), (h3, .inl (cI, 96, .inl fA)), (h4, .inl (cI, 96, .inl dA)), (h5, .inl (cI, 96, .inl lA))] sz) := by
  refine Met.ofW (cc := cX9_where) (maxL := 3) (ret := (some .int)) (by decide) rfl ?_
  intro pP eE sS mM args below meth cC s₁ B hml hv
  obtain ⟨rfl, hsz, hP, hK, hD0⟩ := hv
  have hx := B.exec
  have hb := B.bytes
  have hr := B.returns
  have hts := atoms_spec (ws := wsX9_where) B.pre
  have hown : sS.vm.findClass RX9 = some mM.cls := findClass_of_methodNamed B.named
  have hlocks := B.notSynchronized
  subst hsz
  have hD := hD0.self (sz := sS.heap.size)
  generalize hAe : va_A [(x0, .inr (8, [.ref g0, .ref q0, .ref e0, .ref t0, .ref r0, .ref h0, .ref i0, .ref z0, .ref y0, .int tr, .int ft])), (g0, .inr (1, [.int (nI (cSp C)), .int (nI (cLa C)), .int (nI (cAg C)), .ref g1, .ref g2, .ref g3, .ref g4, .ref g5])), (g1, .inl (cI, 6, .inl sk)), (g2, .inl (cI, 4, .inl sh)), (g3, .inl (cI, 4, .inl ki)), (g4, .inl (cI, 4, .inl st)), (g5, .inl (cI, 4, .inl cl)), (e0, .inr (0, [.int (nI (mN T)), .ref e1, .ref e2, .ref e3])), (e1, .inl (cI, 8, .inl wf)), (e2, .inl (cI, 8, .inl tf)), (e3, .inl (cI, 8, .inl vf)), (h0, .inr (7, [.ref h1, .ref h2, .ref h3, .ref h4, .ref h5])), (h1, .inl (cI, 96, .inl pA)), (h2, .inl (cI, 96, .inl gA)), (h3, .inl (cI, 96, .inl fA)), (h4, .inl (cI, 96, .inl dA)), (h5, .inl (cI, 96, .inl lA))] sS.heap.size = A at hD ⊢
  have hA : ∀ q : Nat, sS.heap.size ≤ q → A q := fun q h => by rw [← hAe]; exact Or.inr h
  have hS : va_S A sS.heap sS.heap [] := va_S.rf
  have hP : va_P D vwCl [(x0, .inr (8, [.ref g0, .ref q0, .ref e0, .ref t0, .ref r0, .ref h0, .ref i0, .ref z0, .ref y0, .int tr, .int ft])), (g0, .inr (1, [.int (nI (cSp C)), .int (nI (cLa C)), .int (nI (cAg C)), .ref g1, .ref g2, .ref g3, .ref g4, .ref g5])), (g1, .inl (cI, 6, .inl sk)), (g2, .inl (cI, 4, .inl sh)), (g3, .inl (cI, 4, .inl ki)), (g4, .inl (cI, 4, .inl st)), (g5, .inl (cI, 4, .inl cl)), (e0, .inr (0, [.int (nI (mN T)), .ref e1, .ref e2, .ref e3])), (e1, .inl (cI, 8, .inl wf)), (e2, .inl (cI, 8, .inl tf)), (e3, .inl (cI, 8, .inl vf)), (h0, .inr (7, [.ref h1, .ref h2, .ref h3, .ref h4, .ref h5])), (h1, .inl (cI, 96, .inl pA)), (h2, .inl (cI, 96, .inl gA)), (h3, .inl (cI, 96, .inl fA)), (h4, .inl (cI, 96, .inl dA)), (h5, .inl (cI, 96, .inl lA))] sS.heap := hP
  have hD : va_D A [(x0, .inr (8, [.ref g0, .ref q0, .ref e0, .ref t0, .ref r0, .ref h0, .ref i0, .ref z0, .ref y0, .int tr, .int ft])), (g0, .inr (1, [.int (nI (cSp C)), .int (nI (cLa C)), .int (nI (cAg C)), .ref g1, .ref g2, .ref g3, .ref g4, .ref g5])), (g1, .inl (cI, 6, .inl sk)), (g2, .inl (cI, 4, .inl sh)), (g3, .inl (cI, 4, .inl ki)), (g4, .inl (cI, 4, .inl st)), (g5, .inl (cI, 4, .inl cl)), (e0, .inr (0, [.int (nI (mN T)), .ref e1, .ref e2, .ref e3])), (e1, .inl (cI, 8, .inl wf)), (e2, .inl (cI, 8, .inl tf)), (e3, .inl (cI, 8, .inl vf)), (h0, .inr (7, [.ref h1, .ref h2, .ref h3, .ref h4, .ref h5])), (h1, .inl (cI, 96, .inl pA)), (h2, .inl (cI, 96, .inl gA)), (h3, .inl (cI, 96, .inl fA)), (h4, .inl (cI, 96, .inl dA)), (h5, .inl (cI, 96, .inl lA))] := hD
  have hf_14 := hts (.fieldLink RX9 14 "OldLamps" "ground" "LOldLamps$Ground;") (List.mem_of_getElem? (i := 1) rfl)
  have hf_24 := hts (.fieldLink RX9 24 "OldLamps" "told" "LOldLamps$Entries;") (List.mem_of_getElem? (i := 3) rfl)
  have hf_37 := hts (.fieldLink RX9 37 "OldLamps" "now" "LOldLamps$Watches;") (List.mem_of_getElem? (i := 2) rfl)
  have hf_158 := hts (.fieldLink RX9 158 "OldLamps$Watches" "places" "[I") (List.mem_of_getElem? (i := 4) rfl)
  have hwX8 : ∀ w ∈ wsX80, w ∈ wsX9_where := fun _ h => List.mem_cons_of_mem _ (List.mem_append_left _ (List.mem_append_left _ (List.mem_append_right _ h)))
  have hwX9 : ∀ w ∈ wsX90, w ∈ wsX9_where := fun _ h => List.mem_cons_of_mem _ (List.mem_append_left _ (List.mem_append_left _ (List.mem_append_left _ (List.mem_append_right _ h))))
  have hl := lv_entry ([.ref x0, .int x1, .int x2]) (n := 3) (Nat.le_of_ble_eq_true rfl)
  rw [lg_entry_eq]
  generalize (lg_sl ([.ref x0, .int x1, .int x2]) ++ List.replicate (3 - (lg_sl ([.ref x0, .int x1, .int x2])).length) Slot.unset).toArray = ls at hl ⊢
  have hl : lv_has ls 3 [(0, .ref x0), (1, .int x1), (2, .int x2)] := hl
  obtain ⟨QQ, hQQ⟩ : ∃ QQ : State → Prop, QQ = MQ below (kQi D (fun (r : Int32) (u : (Nat → Int32) × (Nat → Int32) × (Nat → Int32) × (Nat → Int32) × (Nat → Int32)) => r = sp_where C T x1 x2 ∧ True) (fun u : (Nat → Int32) × (Nat → Int32) × (Nat → Int32) × (Nat → Int32) × (Nat → Int32) => [(x0, .inr (8, [.ref g0, .ref q0, .ref e0, .ref t0, .ref r0, .ref h0, .ref i0, .ref z0, .ref y0, .int tr, .int ft])), (g0, .inr (1, [.int (nI (cSp C)), .int (nI (cLa C)), .int (nI (cAg C)), .ref g1, .ref g2, .ref g3, .ref g4, .ref g5])), (g1, .inl (cI, 6, .inl sk)), (g2, .inl (cI, 4, .inl sh)), (g3, .inl (cI, 4, .inl ki)), (g4, .inl (cI, 4, .inl st)), (g5, .inl (cI, 4, .inl cl)), (e0, .inr (0, [.int (nI (mN T)), .ref e1, .ref e2, .ref e3])), (e1, .inl (cI, 8, .inl wf)), (e2, .inl (cI, 8, .inl tf)), (e3, .inl (cI, 8, .inl vf)), (h0, .inr (7, [.ref h1, .ref h2, .ref h3, .ref h4, .ref h5])), (h1, .inl (cI, 96, .inl u.1)), (h2, .inl (cI, 96, .inl u.2.1)), (h3, .inl (cI, 96, .inl u.2.2.1)), (h4, .inl (cI, 96, .inl u.2.2.2.1)), (h5, .inl (cI, 96, .inl u.2.2.2.2))]) A) ([.ref x0, .int x1, .int x2]).toArray sS 0 0 A := ⟨_, rfl⟩
  refine kk_QQ hQQ.symm ?_
  obtain ⟨hX1, hX2, hX3, hX4⟩ := okX_le hX
  refine lv_aload_n hx hb dX9_where_0 rfl (lv_at hl 0 rfl) ?_
  refine va_get (D := D) (ci := 8) (v := .ref g0) (C := RX9) (T := TX9) (N := 11) hx hb hts hwX9 hown hK hP 0 rfl rfl 0 (by decide) hf_14 (fun _ h9 => h9) rfl dX9_where_1 ?_
  refine lv_iload_n hx hb dX9_where_4 rfl (lv_at hl 1 rfl) ?_
  have o_1 : (cLa C) ≤ 4 := by omega
  refine vp_callSi (W.runV (As := [.int x1]) (rest := []) ⟨hx, hb, hml, hown, hts⟩ (c_X2_hasLamp lL D cI cS g0 (cSp C) (cLa C) (.int (nI (cAg C))) (.ref g1) (.ref g2) (.ref g3) (.ref g4) (.ref g5) x1 o_1) (cwV 1 hts gX9_where_X2_hasLamp rfl rfl rfl cd_X2_hasLamp ⟨Nat.le_of_ble_eq_true rfl, Nat.le_of_ble_eq_true rfl⟩) ⟨kBp_blind, va_recv hK hP (ci := 1) (q0 := 1) rfl rfl, fun U hU hW => ⟨rfl, by rw [hU]; exact hP.sub [1] rfl, va_K.moved hW.alike hK⟩⟩ rfl rfl hl.1 rfl (lv_room (Nat.le_of_ble_eq_true rfl)) dX9_where_5 ⟨Nat.le_of_ble_eq_true rfl, Nat.le_of_ble_eq_true rfl⟩) (fun r_2 hw_2 => ?_)
  obtain rfl : r_2 = kb (inB x1 (cLa C)) := hw_2
  -- if (inB x1 (cLa C))
  refine kk_ifb_ne (tgt := 13) hx hb dX9_where_8 (by decide) (fun hb_3 => ?_) (fun hb_3 => ?_)
  · skip
    obtain ⟨x1N, hx1N, rfl⟩ := inB_t hb_3
    have t_x1 := nI_clamp (show x1N < 2 ^ 31 by omega)
    refine lv_iload_n hx hb dX9_where_13 rfl (lv_at hl 2 rfl) ?_
    refine vp_callSi (W.runS (As := [.int x2]) (rest := []) ⟨hx, hb, hml, hown, hts⟩ (c_X9_isWatch lL D cI cS x2) (va_cwS 1 hts gX9_where_X9_isWatch rfl rfl rfl cd_X9_isWatch ⟨Nat.le_of_ble_eq_true rfl, Nat.le_of_ble_eq_true rfl⟩) ⟨kBp_blind, fun U hU hW => ⟨rfl, by rw [hU]; exact hP.sub [] rfl, va_K.moved hW.alike hK⟩⟩ rfl rfl hl.1 rfl (lv_room (Nat.le_of_ble_eq_true rfl)) dX9_where_14 ⟨Nat.le_of_ble_eq_true rfl, Nat.le_of_ble_eq_true rfl⟩) (fun r_4 hw_4 => ?_)
    obtain rfl : r_4 = kb (inB x2 24) := hw_4
    -- if (inB x2 24)
    refine kk_ifb_ne (tgt := 23) hx hb dX9_where_17 (by decide) (fun hb_5 => ?_) (fun hb_5 => ?_)
    · skip
      obtain ⟨x2N, hx2N, rfl⟩ := inB_t hb_5
      have t_x2 := nI_clamp (show x2N < 2 ^ 31 by omega)
      refine lv_aload_n hx hb dX9_where_23 rfl (lv_at hl 0 rfl) ?_
      refine va_get (D := D) (ci := 8) (v := .ref h0) (C := RX9) (T := TX9) (N := 11) hx hb hts hwX9 hown hK hP 0 rfl rfl 5 (by decide) hf_37 (fun _ h9 => h9) rfl dX9_where_24 ?_
      refine lv_aload_n hx hb dX9_where_27 rfl (lv_at hl 0 rfl) ?_
      refine va_get (D := D) (ci := 8) (v := .ref g0) (C := RX9) (T := TX9) (N := 11) hx hb hts hwX9 hown hK hP 0 rfl rfl 0 (by decide) hf_14 (fun _ h9 => h9) rfl dX9_where_28 ?_
      refine lv_aload_n hx hb dX9_where_31 rfl (lv_at hl 0 rfl) ?_
      refine va_get (D := D) (ci := 8) (v := .ref e0) (C := RX9) (T := TX9) (N := 11) hx hb hts hwX9 hown hK hP 0 rfl rfl 2 (by decide) hf_24 (fun _ h9 => h9) rfl dX9_where_32 ?_
      obtain ⟨hC, hM, hE⟩ := okX_la hX hx1N
      have o_6 : okC C := by assumption
      have o_7 : okM C T := by assumption
      have o_8 : repC C sk sh ki st cl := by assumption
      have o_9 : repM T wf tf vf := by assumption
      have hF := va_free (wc := [(h0, .inr (7, [.ref h1, .ref h2, .ref h3, .ref h4, .ref h5])), (h1, .inl (cI, 96, .inl pA)), (h2, .inl (cI, 96, .inl gA)), (h3, .inl (cI, 96, .inl fA)), (h4, .inl (cI, 96, .inl dA)), (h5, .inl (cI, 96, .inl lA)), (g0, .inr (1, [.int (nI (cSp C)), .int (nI (cLa C)), .int (nI (cAg C)), .ref g1, .ref g2, .ref g3, .ref g4, .ref g5])), (g1, .inl (cI, 6, .inl sk)), (g2, .inl (cI, 4, .inl sh)), (g3, .inl (cI, 4, .inl ki)), (g4, .inl (cI, 4, .inl st)), (g5, .inl (cI, 4, .inl cl)), (e0, .inr (0, [.int (nI (mN T)), .ref e1, .ref e2, .ref e3])), (e1, .inl (cI, 8, .inl wf)), (e2, .inl (cI, 8, .inl tf)), (e3, .inl (cI, 8, .inl vf))]) hD hS hA [11, 12, 13, 14, 15, 16, 1, 2, 3, 4, 5, 6, 7, 8, 9, 10] rfl
      refine va_callv (va_runV (As := [.ref g0, .ref e0]) (rest := []) ⟨hx, hb, hml, hown, hts⟩ (c_X8_reckon lL D cI cS _ C T h0 h1 h2 h3 h4 h5 g0 g1 g2 g3 g4 g5 e0 e1 e2 e3 wf tf vf pA gA fA dA lA sk sh ki st cl o_6 o_7 o_8 o_9) (cwV 2 hts gX9_where_X8_reckon rfl rfl rfl cd_X8_reckon ⟨Nat.le_of_ble_eq_true rfl, Nat.le_of_ble_eq_true rfl⟩) ⟨kB_blind, va_recv hK hP (ci := 7) (q0 := 11) rfl rfl, fun U hU hW => ⟨rfl, by rw [hU], by rw [hU]; exact hP.sub [11, 12, 13, 14, 15, 16, 1, 2, 3, 4, 5, 6, 7, 8, 9, 10] rfl, va_K.moved hW.alike hK, (hD.sub [11, 12, 13, 14, 15, 16, 1, 2, 3, 4, 5, 6, 7, 8, 9, 10] (by decide) rfl).weaken (fun _ _ _ _ => trivial)⟩⟩ rfl rfl hl.1 rfl (lv_room (Nat.le_of_ble_eq_true rfl)) dX9_where_35 ⟨Nat.le_of_ble_eq_true rfl, Nat.le_of_ble_eq_true rfl⟩) hS (fun q _ h => hF q h) hF (fun u_10 t H1 locs ht hvm hw_10 hB hz1 hk1 hS => ?_)
      obtain ⟨pp_10, gg_10, ff_10, dd_10, ll_10⟩ := u_10
      obtain ⟨hP, hD⟩ := kk_join2 (wc := [(h0, .inr (7, [.ref h1, .ref h2, .ref h3, .ref h4, .ref h5])), (h1, .inl (cI, 96, .inl pA)), (h2, .inl (cI, 96, .inl gA)), (h3, .inl (cI, 96, .inl fA)), (h4, .inl (cI, 96, .inl dA)), (h5, .inl (cI, 96, .inl lA)), (g0, .inr (1, [.int (nI (cSp C)), .int (nI (cLa C)), .int (nI (cAg C)), .ref g1, .ref g2, .ref g3, .ref g4, .ref g5])), (g1, .inl (cI, 6, .inl sk)), (g2, .inl (cI, 4, .inl sh)), (g3, .inl (cI, 4, .inl ki)), (g4, .inl (cI, 4, .inl st)), (g5, .inl (cI, 4, .inl cl)), (e0, .inr (0, [.int (nI (mN T)), .ref e1, .ref e2, .ref e3])), (e1, .inl (cI, 8, .inl wf)), (e2, .inl (cI, 8, .inl tf)), (e3, .inl (cI, 8, .inl vf))]) (w1 := [(h0, .inr (7, [.ref h1, .ref h2, .ref h3, .ref h4, .ref h5])), (h1, .inl (cI, 96, .inl pp_10)), (h2, .inl (cI, 96, .inl gg_10)), (h3, .inl (cI, 96, .inl ff_10)), (h4, .inl (cI, 96, .inl dd_10)), (h5, .inl (cI, 96, .inl ll_10)), (g0, .inr (1, [.int (nI (cSp C)), .int (nI (cLa C)), .int (nI (cAg C)), .ref g1, .ref g2, .ref g3, .ref g4, .ref g5])), (g1, .inl (cI, 6, .inl sk)), (g2, .inl (cI, 4, .inl sh)), (g3, .inl (cI, 4, .inl ki)), (g4, .inl (cI, 4, .inl st)), (g5, .inl (cI, 4, .inl cl)), (e0, .inr (0, [.int (nI (mN T)), .ref e1, .ref e2, .ref e3])), (e1, .inl (cI, 8, .inl wf)), (e2, .inl (cI, 8, .inl tf)), (e3, .inl (cI, 8, .inl vf))]) (ws' := [(x0, .inr (8, [.ref g0, .ref q0, .ref e0, .ref t0, .ref r0, .ref h0, .ref i0, .ref z0, .ref y0, .int tr, .int ft])), (g0, .inr (1, [.int (nI (cSp C)), .int (nI (cLa C)), .int (nI (cAg C)), .ref g1, .ref g2, .ref g3, .ref g4, .ref g5])), (g1, .inl (cI, 6, .inl sk)), (g2, .inl (cI, 4, .inl sh)), (g3, .inl (cI, 4, .inl ki)), (g4, .inl (cI, 4, .inl st)), (g5, .inl (cI, 4, .inl cl)), (e0, .inr (0, [.int (nI (mN T)), .ref e1, .ref e2, .ref e3])), (e1, .inl (cI, 8, .inl wf)), (e2, .inl (cI, 8, .inl tf)), (e3, .inl (cI, 8, .inl vf)), (h0, .inr (7, [.ref h1, .ref h2, .ref h3, .ref h4, .ref h5])), (h1, .inl (cI, 96, .inl pp_10)), (h2, .inl (cI, 96, .inl gg_10)), (h3, .inl (cI, 96, .inl ff_10)), (h4, .inl (cI, 96, .inl dd_10)), (h5, .inl (cI, 96, .inl ll_10))]) (wr := [(x0, .inr (8, [.ref g0, .ref q0, .ref e0, .ref t0, .ref r0, .ref h0, .ref i0, .ref z0, .ref y0, .int tr, .int ft]))]) (H1 := H1) hP hD [11, 12, 13, 14, 15, 16, 1, 2, 3, 4, 5, 6, 7, 8, 9, 10] [0] rfl rfl rfl rfl 17 rfl (by decide) [x0, g0, g1, g2, g3, g4, g5, e0, e1, e2, e3, h0, h1, h2, h3, h4, h5] rfl rfl hk1 (by rw [← ht]; exact hB)
      have hw_10 : tP C (plc T (cSt C)) pp_10 0 24 ∧ tG C (plc T (cSt C)) gg_10 0 24 ∧ tF C (plc T (cSt C)) ff_10 0 24 ∧ tD C dd_10 0 24 ∧ tL C (plc T (cSt C)) ll_10 0 24 := hw_10
      clear hF hB hk1 hz1 hvm
      clear ht
      generalize H1 = H at hP hS ⊢
      obtain ⟨tP1, tG1, tF1, tD1, tL1⟩ := hw_10
      refine lv_aload_n hx hb dX9_where_38 rfl (lv_at hl 0 rfl) ?_
      refine va_get (D := D) (ci := 8) (v := .ref h0) (C := RX9) (T := TX9) (N := 11) hx hb hts hwX9 hown hK hP 0 rfl rfl 5 (by decide) hf_37 (fun _ h9 => h9) rfl dX9_where_39 ?_
      refine va_get (D := D) (ci := 7) (v := .ref h1) (C := RX8) (T := TX8) (N := 5) hx hb hts hwX8 hown hK hP 11 rfl rfl 0 (by decide) hf_158 (fun _ h9 => h9) rfl dX9_where_42 ?_
      refine lv_iload_n hx hb dX9_where_45 rfl (lv_at hl 2 rfl) ?_
      refine lv_iload_n hx hb dX9_where_46 rfl (lv_at hl 1 rfl) ?_
      refine vp_callSi (W.runS (As := [.int (nI x2N), .int (nI x1N)]) (rest := [.ref h1]) ⟨hx, hb, hml, hown, hts⟩ (c_X8_at lL D cI cS x2N x1N) (va_cwS 2 hts gX9_where_X8_at rfl rfl rfl cd_X8_at ⟨Nat.le_of_ble_eq_true rfl, Nat.le_of_ble_eq_true rfl⟩) ⟨kBp_blind, fun U hU hW => ⟨rfl, by rw [hU]; exact hP.sub [] rfl, va_K.moved hW.alike hK⟩⟩ rfl rfl hl.1 rfl (lv_room (Nat.le_of_ble_eq_true rfl)) dX9_where_47 ⟨Nat.le_of_ble_eq_true rfl, Nat.le_of_ble_eq_true rfl⟩) (fun r_11 hw_11 => ?_)
      obtain rfl : r_11 = nI (x2N * 4 + x1N) := hw_11
      refine kk_iald hx hb hK hP 12 rfl rfl (i := x2N * 4 + x1N) (by omega) (by decide) dX9_where_50 ?_
      refine kk_top (y := nI (plT C T x1N x2N)) (tP1 x2N (by omega) (by omega) x1N hx1N) ?_
      have hq : (nI (plT C T x1N x2N)) = sp_where C T (nI x1N) (nI x2N) ∧ True := by
        refine ⟨?_, trivial⟩
        simp only [sp_where, hb_3, hb_5, t_x1, t_x2, cond_true, cond_false]
      refine kk_QQ hQQ ?_
      exact W.iret (v := nI (plT C T x1N x2N)) hx hb hr (fun t ht hW => ⟨⟨nI (plT C T x1N x2N), (pp_10, gg_10, ff_10, dd_10, ll_10), rfl, hq, by show va_P D vwCl _ t.heap; rw [ht]; exact hP⟩, hS.F ht⟩) hS.2.2 dX9_where_51
    · skip
      refine lv_bipush (v := (-2 : Int32)) hx hb dX9_where_20 (by decide +kernel) ?_
      have hq : (-2 : Int32) = sp_where C T (nI x1N) x2 ∧ True := by
        refine ⟨?_, trivial⟩
        simp only [sp_where, hb_3, hb_5, t_x1, cond_true, cond_false]
      refine kk_QQ hQQ ?_
      exact W.iret (v := (-2 : Int32)) hx hb hr (fun t ht hW => ⟨⟨(-2 : Int32), (pA, gA, fA, dA, lA), rfl, hq, by show va_P D vwCl _ t.heap; rw [ht]; exact hP⟩, hS.F ht⟩) hS.2.2 dX9_where_22
  · skip
    refine lv_iconst (v := (-1 : Int32)) hx hb dX9_where_11 (by decide +kernel) ?_
    have hq : (-1 : Int32) = sp_where C T x1 x2 ∧ True := by
      refine ⟨?_, trivial⟩
      simp only [sp_where, hb_3, cond_true, cond_false]
    refine kk_QQ hQQ ?_
    exact W.iret (v := (-1 : Int32)) hx hb hr (fun t ht hW => ⟨⟨(-1 : Int32), (pA, gA, fA, dA, lA), rfl, hq, by show va_P D vwCl _ t.heap; rw [ht]; exact hP⟩, hS.F ht⟩) hS.2.2 dX9_where_12

abbrev rmX9_gives : Room := { frames := 4, cells := 0, slots := 0, locals := 114 }
set_option maxHeartbeats 4000000 in
set_option maxRecDepth 100000 in
theorem c_X9_gives (lL : Launch) (D : va_G) (cI cS : ClassId) (sz : Nat) (C : Co) (T : Mv) (E : Mv) (x0 : Nat) (g0 : Nat) (q0 : Nat) (e0 : Nat) (t0 : Nat) (r0 : Nat) (h0 : Nat) (i0 : Nat) (z0 : Nat) (y0 : Nat) (tr : Int32) (ft : Int32) (x1 : Int32) (x2 : Int32) (g1 : Nat) (g2 : Nat) (g3 : Nat) (g4 : Nat) (g5 : Nat) (sk : Nat → Int32) (sh : Nat → Int32) (ki : Nat → Int32) (st : Nat → Int32) (cl : Nat → Int32) (e1 : Nat) (e2 : Nat) (e3 : Nat) (wf : Nat → Int32) (tf : Nat → Int32) (vf : Nat → Int32) (h1 : Nat) (h2 : Nat) (h3 : Nat) (h4 : Nat) (h5 : Nat) (pA : Nat → Int32) (gA : Nat → Int32) (fA : Nat → Int32) (dA : Nat → Int32) (lA : Nat → Int32) (hrC : repC C sk sh ki st cl) (hrM : repM T wf tf vf) (hX : okX C T E) : Met lL yX9_gives wsX9_gives rmX9_gives (va_Pc [.ref x0, .int x1, .int x2] (kB D cI cS [(x0, .inr (8, [.ref g0, .ref q0, .ref e0, .ref t0, .ref r0, .ref h0, .ref i0, .ref z0, .ref y0, .int tr, .int ft])), (g0, .inr (1, [.int (nI (cSp C)), .int (nI (cLa C)), .int (nI (cAg C)), .ref g1, .ref g2, .ref g3, .ref g4, .ref g5])), (g1, .inl (cI, 6, .inl sk)), (g2, .inl (cI, 4, .inl sh)), (g3, .inl (cI, 4, .inl ki)), (g4, .inl (cI, 4, .inl st)), (g5, .inl (cI, 4, .inl cl)), (e0, .inr (0, [.int (nI (mN T)), .ref e1, .ref e2, .ref e3])), (e1, .inl (cI, 8, .inl wf)), (e2, .inl (cI, 8, .inl tf)), (e3, .inl (cI, 8, .inl vf)), (h0, .inr (7, [.ref h1, .ref h2, .ref h3, .ref h4, .ref h5])), (h1, .inl (cI, 96, .inl pA)), (h2, .inl (cI, 96, .inl gA)), (h3, .inl (cI, 96, .inl fA)), (h4, .inl (cI, 96, .inl dA)), (h5, .inl (cI, 96, .inl lA))] sz)) (kQi D (fun (r : Int32) (u : (Nat → Int32) × (Nat → Int32) × (Nat → Int32) × (Nat → Int32) × (Nat → Int32)) => r = sp_gives C T x1 x2 ∧ True) (fun u : (Nat → Int32) × (Nat → Int32) × (Nat → Int32) × (Nat → Int32) × (Nat → Int32) => [(x0, .inr (8, [.ref g0, .ref q0, .ref e0, .ref t0, .ref r0, .ref h0, .ref i0, .ref z0, .ref y0, .int tr, .int ft])), (g0, .inr (1, [.int (nI (cSp C)), .int (nI (cLa C)), .int (nI (cAg C)), .ref g1, .ref g2, .ref g3, .ref g4, .ref g5])), (g1, .inl (cI, 6, .inl sk)), (g2, .inl (cI, 4, .inl sh)), (g3, .inl (cI, 4, .inl ki)), (g4, .inl (cI, 4, .inl st)), (g5, .inl (cI, 4, .inl cl)), (e0, .inr (0, [.int (nI (mN T)), .ref e1, .ref e2, .ref e3])), (e1, .inl (cI, 8, .inl wf)), (e2, .inl (cI, 8, .inl tf)), (e3, .inl (cI, 8, .inl vf)), (h0, .inr (7, [.ref h1, .ref h2, .ref h3, .ref h4, .ref h5])), (h1, .inl (cI, 96, .inl u.1)), (h2, .inl (cI, 96, .inl u.2.1)), (h3, .inl (cI, 96, .inl u.2.2.1)), (h4, .inl (cI, 96, .inl u.2.2.2.1)), (h5, .inl (cI, 96, .inl u.2.2.2.2))]) (va_A [(x0, .inr (8, [.ref g0, .ref q0, .ref e0, .ref t0, .ref r0, .ref h0, .ref i0, .ref z0, .ref y0, .int tr, .int ft])), (g0, .inr (1, [.int (nI (cSp C)), .int (nI (cLa C)), .int (nI (cAg C)), .ref g1, .ref g2, .ref g3, .ref g4, .ref g5])), (g1, .inl (cI, 6, .inl sk)), (g2, .inl (cI, 4, .inl sh)), (g3, .inl (cI, 4, .inl ki)), (g4, .inl (cI, 4, .inl st)), (g5, .inl (cI, 4, .inl cl)), (e0, .inr (0, [.int (nI (mN T)), .ref e1, .ref e2, .ref e3])), (e1, .inl (cI, 8, .inl wf)), (e2, .inl (cI, 8, .inl tf)), (e3, .inl (cI, 8, .inl vf)), (h0, .inr (7, [.ref h1, .ref h2, .ref h3, .ref h4, .ref h5])), (h1, .inl (cI, 96, .inl pA)), (h2, .inl (cI, 96, .inl gA)), (h3, .inl (cI, 96, .inl fA)), (h4, .inl (cI, 96, .inl dA)), (h5, .inl (cI, 96, .inl lA))] sz)) 0 0 (va_A [(x0, .inr (8, [.ref g0, .ref q0, .ref e0, .ref t0, .ref r0, .ref h0, .ref i0, .ref z0, .ref y0, .int tr, .int ft])), (g0, .inr (1, [.int (nI (cSp C)), .int (nI (cLa C)), .int (nI (cAg C)), .ref g1, .ref g2, .ref g3, .ref g4, .ref g5])), (g1, .inl (cI, 6, .inl sk)), (g2, .inl (cI, 4, .inl sh)), (g3, .inl (cI, 4, .inl ki)), (g4, .inl (cI, 4, .inl st)), (g5, .inl (cI, 4, .inl cl)), (e0, .inr (0, [.int (nI (mN T)), .ref e1, .ref e2, .ref e3])), (e1, .inl (cI, 8, .inl wf)), (e2, .inl (cI, 8, .inl tf)), (e3, .inl (cI, 8, .inl vf)), (h0, .inr (7, [.ref h1, .ref h2, .ref h3, .ref h4, .ref h5])), (h1, .inl (cI, 96, .inl pA)), (h2, .inl (cI, 96, .inl gA)), (h3, .inl (cI, 96, .inl fA)), (h4, .inl (cI, 96, .inl dA)), (h5, .inl (cI, 96, .inl lA))] sz) := by
  refine Met.ofW (cc := cX9_gives) (maxL := 3) (ret := (some .int)) (by decide) rfl ?_
  intro pP eE sS mM args below meth cC s₁ B hml hv
  obtain ⟨rfl, hsz, hP, hK, hD0⟩ := hv
  have hx := B.exec
  have hb := B.bytes
  have hr := B.returns
  have hts := atoms_spec (ws := wsX9_gives) B.pre
  have hown : sS.vm.findClass RX9 = some mM.cls := findClass_of_methodNamed B.named
  have hlocks := B.notSynchronized
  subst hsz
  have hD := hD0.self (sz := sS.heap.size)
  generalize hAe : va_A [(x0, .inr (8, [.ref g0, .ref q0, .ref e0, .ref t0, .ref r0, .ref h0, .ref i0, .ref z0, .ref y0, .int tr, .int ft])), (g0, .inr (1, [.int (nI (cSp C)), .int (nI (cLa C)), .int (nI (cAg C)), .ref g1, .ref g2, .ref g3, .ref g4, .ref g5])), (g1, .inl (cI, 6, .inl sk)), (g2, .inl (cI, 4, .inl sh)), (g3, .inl (cI, 4, .inl ki)), (g4, .inl (cI, 4, .inl st)), (g5, .inl (cI, 4, .inl cl)), (e0, .inr (0, [.int (nI (mN T)), .ref e1, .ref e2, .ref e3])), (e1, .inl (cI, 8, .inl wf)), (e2, .inl (cI, 8, .inl tf)), (e3, .inl (cI, 8, .inl vf)), (h0, .inr (7, [.ref h1, .ref h2, .ref h3, .ref h4, .ref h5])), (h1, .inl (cI, 96, .inl pA)), (h2, .inl (cI, 96, .inl gA)), (h3, .inl (cI, 96, .inl fA)), (h4, .inl (cI, 96, .inl dA)), (h5, .inl (cI, 96, .inl lA))] sS.heap.size = A at hD ⊢
  have hA : ∀ q : Nat, sS.heap.size ≤ q → A q := fun q h => by rw [← hAe]; exact Or.inr h
  have hS : va_S A sS.heap sS.heap [] := va_S.rf
  have hP : va_P D vwCl [(x0, .inr (8, [.ref g0, .ref q0, .ref e0, .ref t0, .ref r0, .ref h0, .ref i0, .ref z0, .ref y0, .int tr, .int ft])), (g0, .inr (1, [.int (nI (cSp C)), .int (nI (cLa C)), .int (nI (cAg C)), .ref g1, .ref g2, .ref g3, .ref g4, .ref g5])), (g1, .inl (cI, 6, .inl sk)), (g2, .inl (cI, 4, .inl sh)), (g3, .inl (cI, 4, .inl ki)), (g4, .inl (cI, 4, .inl st)), (g5, .inl (cI, 4, .inl cl)), (e0, .inr (0, [.int (nI (mN T)), .ref e1, .ref e2, .ref e3])), (e1, .inl (cI, 8, .inl wf)), (e2, .inl (cI, 8, .inl tf)), (e3, .inl (cI, 8, .inl vf)), (h0, .inr (7, [.ref h1, .ref h2, .ref h3, .ref h4, .ref h5])), (h1, .inl (cI, 96, .inl pA)), (h2, .inl (cI, 96, .inl gA)), (h3, .inl (cI, 96, .inl fA)), (h4, .inl (cI, 96, .inl dA)), (h5, .inl (cI, 96, .inl lA))] sS.heap := hP
  have hD : va_D A [(x0, .inr (8, [.ref g0, .ref q0, .ref e0, .ref t0, .ref r0, .ref h0, .ref i0, .ref z0, .ref y0, .int tr, .int ft])), (g0, .inr (1, [.int (nI (cSp C)), .int (nI (cLa C)), .int (nI (cAg C)), .ref g1, .ref g2, .ref g3, .ref g4, .ref g5])), (g1, .inl (cI, 6, .inl sk)), (g2, .inl (cI, 4, .inl sh)), (g3, .inl (cI, 4, .inl ki)), (g4, .inl (cI, 4, .inl st)), (g5, .inl (cI, 4, .inl cl)), (e0, .inr (0, [.int (nI (mN T)), .ref e1, .ref e2, .ref e3])), (e1, .inl (cI, 8, .inl wf)), (e2, .inl (cI, 8, .inl tf)), (e3, .inl (cI, 8, .inl vf)), (h0, .inr (7, [.ref h1, .ref h2, .ref h3, .ref h4, .ref h5])), (h1, .inl (cI, 96, .inl pA)), (h2, .inl (cI, 96, .inl gA)), (h3, .inl (cI, 96, .inl fA)), (h4, .inl (cI, 96, .inl dA)), (h5, .inl (cI, 96, .inl lA))] := hD
  have hf_14 := hts (.fieldLink RX9 14 "OldLamps" "ground" "LOldLamps$Ground;") (List.mem_of_getElem? (i := 1) rfl)
  have hf_24 := hts (.fieldLink RX9 24 "OldLamps" "told" "LOldLamps$Entries;") (List.mem_of_getElem? (i := 3) rfl)
  have hf_37 := hts (.fieldLink RX9 37 "OldLamps" "now" "LOldLamps$Watches;") (List.mem_of_getElem? (i := 2) rfl)
  have hf_164 := hts (.fieldLink RX9 164 "OldLamps$Watches" "given" "[I") (List.mem_of_getElem? (i := 4) rfl)
  have hwX8 : ∀ w ∈ wsX80, w ∈ wsX9_gives := fun _ h => List.mem_cons_of_mem _ (List.mem_append_left _ (List.mem_append_left _ (List.mem_append_right _ h)))
  have hwX9 : ∀ w ∈ wsX90, w ∈ wsX9_gives := fun _ h => List.mem_cons_of_mem _ (List.mem_append_left _ (List.mem_append_left _ (List.mem_append_left _ (List.mem_append_right _ h))))
  have hl := lv_entry ([.ref x0, .int x1, .int x2]) (n := 3) (Nat.le_of_ble_eq_true rfl)
  rw [lg_entry_eq]
  generalize (lg_sl ([.ref x0, .int x1, .int x2]) ++ List.replicate (3 - (lg_sl ([.ref x0, .int x1, .int x2])).length) Slot.unset).toArray = ls at hl ⊢
  have hl : lv_has ls 3 [(0, .ref x0), (1, .int x1), (2, .int x2)] := hl
  obtain ⟨QQ, hQQ⟩ : ∃ QQ : State → Prop, QQ = MQ below (kQi D (fun (r : Int32) (u : (Nat → Int32) × (Nat → Int32) × (Nat → Int32) × (Nat → Int32) × (Nat → Int32)) => r = sp_gives C T x1 x2 ∧ True) (fun u : (Nat → Int32) × (Nat → Int32) × (Nat → Int32) × (Nat → Int32) × (Nat → Int32) => [(x0, .inr (8, [.ref g0, .ref q0, .ref e0, .ref t0, .ref r0, .ref h0, .ref i0, .ref z0, .ref y0, .int tr, .int ft])), (g0, .inr (1, [.int (nI (cSp C)), .int (nI (cLa C)), .int (nI (cAg C)), .ref g1, .ref g2, .ref g3, .ref g4, .ref g5])), (g1, .inl (cI, 6, .inl sk)), (g2, .inl (cI, 4, .inl sh)), (g3, .inl (cI, 4, .inl ki)), (g4, .inl (cI, 4, .inl st)), (g5, .inl (cI, 4, .inl cl)), (e0, .inr (0, [.int (nI (mN T)), .ref e1, .ref e2, .ref e3])), (e1, .inl (cI, 8, .inl wf)), (e2, .inl (cI, 8, .inl tf)), (e3, .inl (cI, 8, .inl vf)), (h0, .inr (7, [.ref h1, .ref h2, .ref h3, .ref h4, .ref h5])), (h1, .inl (cI, 96, .inl u.1)), (h2, .inl (cI, 96, .inl u.2.1)), (h3, .inl (cI, 96, .inl u.2.2.1)), (h4, .inl (cI, 96, .inl u.2.2.2.1)), (h5, .inl (cI, 96, .inl u.2.2.2.2))]) A) ([.ref x0, .int x1, .int x2]).toArray sS 0 0 A := ⟨_, rfl⟩
  refine kk_QQ hQQ.symm ?_
  obtain ⟨hX1, hX2, hX3, hX4⟩ := okX_le hX
  refine lv_aload_n hx hb dX9_gives_0 rfl (lv_at hl 0 rfl) ?_
  refine va_get (D := D) (ci := 8) (v := .ref g0) (C := RX9) (T := TX9) (N := 11) hx hb hts hwX9 hown hK hP 0 rfl rfl 0 (by decide) hf_14 (fun _ h9 => h9) rfl dX9_gives_1 ?_
  refine lv_iload_n hx hb dX9_gives_4 rfl (lv_at hl 1 rfl) ?_
  have o_1 : (cLa C) ≤ 4 := by omega
  refine vp_callSi (W.runV (As := [.int x1]) (rest := []) ⟨hx, hb, hml, hown, hts⟩ (c_X2_hasLamp lL D cI cS g0 (cSp C) (cLa C) (.int (nI (cAg C))) (.ref g1) (.ref g2) (.ref g3) (.ref g4) (.ref g5) x1 o_1) (cwV 1 hts gX9_gives_X2_hasLamp rfl rfl rfl cd_X2_hasLamp ⟨Nat.le_of_ble_eq_true rfl, Nat.le_of_ble_eq_true rfl⟩) ⟨kBp_blind, va_recv hK hP (ci := 1) (q0 := 1) rfl rfl, fun U hU hW => ⟨rfl, by rw [hU]; exact hP.sub [1] rfl, va_K.moved hW.alike hK⟩⟩ rfl rfl hl.1 rfl (lv_room (Nat.le_of_ble_eq_true rfl)) dX9_gives_5 ⟨Nat.le_of_ble_eq_true rfl, Nat.le_of_ble_eq_true rfl⟩) (fun r_2 hw_2 => ?_)
  obtain rfl : r_2 = kb (inB x1 (cLa C)) := hw_2
  -- if (inB x1 (cLa C))
  refine kk_ifb_ne (tgt := 13) hx hb dX9_gives_8 (by decide) (fun hb_3 => ?_) (fun hb_3 => ?_)
  · skip
    obtain ⟨x1N, hx1N, rfl⟩ := inB_t hb_3
    have t_x1 := nI_clamp (show x1N < 2 ^ 31 by omega)
    refine lv_iload_n hx hb dX9_gives_13 rfl (lv_at hl 2 rfl) ?_
    refine vp_callSi (W.runS (As := [.int x2]) (rest := []) ⟨hx, hb, hml, hown, hts⟩ (c_X9_isWatch lL D cI cS x2) (va_cwS 1 hts gX9_gives_X9_isWatch rfl rfl rfl cd_X9_isWatch ⟨Nat.le_of_ble_eq_true rfl, Nat.le_of_ble_eq_true rfl⟩) ⟨kBp_blind, fun U hU hW => ⟨rfl, by rw [hU]; exact hP.sub [] rfl, va_K.moved hW.alike hK⟩⟩ rfl rfl hl.1 rfl (lv_room (Nat.le_of_ble_eq_true rfl)) dX9_gives_14 ⟨Nat.le_of_ble_eq_true rfl, Nat.le_of_ble_eq_true rfl⟩) (fun r_4 hw_4 => ?_)
    obtain rfl : r_4 = kb (inB x2 24) := hw_4
    -- if (inB x2 24)
    refine kk_ifb_ne (tgt := 23) hx hb dX9_gives_17 (by decide) (fun hb_5 => ?_) (fun hb_5 => ?_)
    · skip
      obtain ⟨x2N, hx2N, rfl⟩ := inB_t hb_5
      have t_x2 := nI_clamp (show x2N < 2 ^ 31 by omega)
      refine lv_aload_n hx hb dX9_gives_23 rfl (lv_at hl 0 rfl) ?_
      refine va_get (D := D) (ci := 8) (v := .ref h0) (C := RX9) (T := TX9) (N := 11) hx hb hts hwX9 hown hK hP 0 rfl rfl 5 (by decide) hf_37 (fun _ h9 => h9) rfl dX9_gives_24 ?_
      refine lv_aload_n hx hb dX9_gives_27 rfl (lv_at hl 0 rfl) ?_
      refine va_get (D := D) (ci := 8) (v := .ref g0) (C := RX9) (T := TX9) (N := 11) hx hb hts hwX9 hown hK hP 0 rfl rfl 0 (by decide) hf_14 (fun _ h9 => h9) rfl dX9_gives_28 ?_
      refine lv_aload_n hx hb dX9_gives_31 rfl (lv_at hl 0 rfl) ?_
      refine va_get (D := D) (ci := 8) (v := .ref e0) (C := RX9) (T := TX9) (N := 11) hx hb hts hwX9 hown hK hP 0 rfl rfl 2 (by decide) hf_24 (fun _ h9 => h9) rfl dX9_gives_32 ?_
      obtain ⟨hC, hM, hE⟩ := okX_la hX hx1N
      have o_6 : okC C := by assumption
      have o_7 : okM C T := by assumption
      have o_8 : repC C sk sh ki st cl := by assumption
      have o_9 : repM T wf tf vf := by assumption
      have hF := va_free (wc := [(h0, .inr (7, [.ref h1, .ref h2, .ref h3, .ref h4, .ref h5])), (h1, .inl (cI, 96, .inl pA)), (h2, .inl (cI, 96, .inl gA)), (h3, .inl (cI, 96, .inl fA)), (h4, .inl (cI, 96, .inl dA)), (h5, .inl (cI, 96, .inl lA)), (g0, .inr (1, [.int (nI (cSp C)), .int (nI (cLa C)), .int (nI (cAg C)), .ref g1, .ref g2, .ref g3, .ref g4, .ref g5])), (g1, .inl (cI, 6, .inl sk)), (g2, .inl (cI, 4, .inl sh)), (g3, .inl (cI, 4, .inl ki)), (g4, .inl (cI, 4, .inl st)), (g5, .inl (cI, 4, .inl cl)), (e0, .inr (0, [.int (nI (mN T)), .ref e1, .ref e2, .ref e3])), (e1, .inl (cI, 8, .inl wf)), (e2, .inl (cI, 8, .inl tf)), (e3, .inl (cI, 8, .inl vf))]) hD hS hA [11, 12, 13, 14, 15, 16, 1, 2, 3, 4, 5, 6, 7, 8, 9, 10] rfl
      refine va_callv (va_runV (As := [.ref g0, .ref e0]) (rest := []) ⟨hx, hb, hml, hown, hts⟩ (c_X8_reckon lL D cI cS _ C T h0 h1 h2 h3 h4 h5 g0 g1 g2 g3 g4 g5 e0 e1 e2 e3 wf tf vf pA gA fA dA lA sk sh ki st cl o_6 o_7 o_8 o_9) (cwV 2 hts gX9_gives_X8_reckon rfl rfl rfl cd_X8_reckon ⟨Nat.le_of_ble_eq_true rfl, Nat.le_of_ble_eq_true rfl⟩) ⟨kB_blind, va_recv hK hP (ci := 7) (q0 := 11) rfl rfl, fun U hU hW => ⟨rfl, by rw [hU], by rw [hU]; exact hP.sub [11, 12, 13, 14, 15, 16, 1, 2, 3, 4, 5, 6, 7, 8, 9, 10] rfl, va_K.moved hW.alike hK, (hD.sub [11, 12, 13, 14, 15, 16, 1, 2, 3, 4, 5, 6, 7, 8, 9, 10] (by decide) rfl).weaken (fun _ _ _ _ => trivial)⟩⟩ rfl rfl hl.1 rfl (lv_room (Nat.le_of_ble_eq_true rfl)) dX9_gives_35 ⟨Nat.le_of_ble_eq_true rfl, Nat.le_of_ble_eq_true rfl⟩) hS (fun q _ h => hF q h) hF (fun u_10 t H1 locs ht hvm hw_10 hB hz1 hk1 hS => ?_)
      obtain ⟨pp_10, gg_10, ff_10, dd_10, ll_10⟩ := u_10
      obtain ⟨hP, hD⟩ := kk_join2 (wc := [(h0, .inr (7, [.ref h1, .ref h2, .ref h3, .ref h4, .ref h5])), (h1, .inl (cI, 96, .inl pA)), (h2, .inl (cI, 96, .inl gA)), (h3, .inl (cI, 96, .inl fA)), (h4, .inl (cI, 96, .inl dA)), (h5, .inl (cI, 96, .inl lA)), (g0, .inr (1, [.int (nI (cSp C)), .int (nI (cLa C)), .int (nI (cAg C)), .ref g1, .ref g2, .ref g3, .ref g4, .ref g5])), (g1, .inl (cI, 6, .inl sk)), (g2, .inl (cI, 4, .inl sh)), (g3, .inl (cI, 4, .inl ki)), (g4, .inl (cI, 4, .inl st)), (g5, .inl (cI, 4, .inl cl)), (e0, .inr (0, [.int (nI (mN T)), .ref e1, .ref e2, .ref e3])), (e1, .inl (cI, 8, .inl wf)), (e2, .inl (cI, 8, .inl tf)), (e3, .inl (cI, 8, .inl vf))]) (w1 := [(h0, .inr (7, [.ref h1, .ref h2, .ref h3, .ref h4, .ref h5])), (h1, .inl (cI, 96, .inl pp_10)), (h2, .inl (cI, 96, .inl gg_10)), (h3, .inl (cI, 96, .inl ff_10)), (h4, .inl (cI, 96, .inl dd_10)), (h5, .inl (cI, 96, .inl ll_10)), (g0, .inr (1, [.int (nI (cSp C)), .int (nI (cLa C)), .int (nI (cAg C)), .ref g1, .ref g2, .ref g3, .ref g4, .ref g5])), (g1, .inl (cI, 6, .inl sk)), (g2, .inl (cI, 4, .inl sh)), (g3, .inl (cI, 4, .inl ki)), (g4, .inl (cI, 4, .inl st)), (g5, .inl (cI, 4, .inl cl)), (e0, .inr (0, [.int (nI (mN T)), .ref e1, .ref e2, .ref e3])), (e1, .inl (cI, 8, .inl wf)), (e2, .inl (cI, 8, .inl tf)), (e3, .inl (cI, 8, .inl vf))]) (ws' := [(x0, .inr (8, [.ref g0, .ref q0, .ref e0, .ref t0, .ref r0, .ref h0, .ref i0, .ref z0, .ref y0, .int tr, .int ft])), (g0, .inr (1, [.int (nI (cSp C)), .int (nI (cLa C)), .int (nI (cAg C)), .ref g1, .ref g2, .ref g3, .ref g4, .ref g5])), (g1, .inl (cI, 6, .inl sk)), (g2, .inl (cI, 4, .inl sh)), (g3, .inl (cI, 4, .inl ki)), (g4, .inl (cI, 4, .inl st)), (g5, .inl (cI, 4, .inl cl)), (e0, .inr (0, [.int (nI (mN T)), .ref e1, .ref e2, .ref e3])), (e1, .inl (cI, 8, .inl wf)), (e2, .inl (cI, 8, .inl tf)), (e3, .inl (cI, 8, .inl vf)), (h0, .inr (7, [.ref h1, .ref h2, .ref h3, .ref h4, .ref h5])), (h1, .inl (cI, 96, .inl pp_10)), (h2, .inl (cI, 96, .inl gg_10)), (h3, .inl (cI, 96, .inl ff_10)), (h4, .inl (cI, 96, .inl dd_10)), (h5, .inl (cI, 96, .inl ll_10))]) (wr := [(x0, .inr (8, [.ref g0, .ref q0, .ref e0, .ref t0, .ref r0, .ref h0, .ref i0, .ref z0, .ref y0, .int tr, .int ft]))]) (H1 := H1) hP hD [11, 12, 13, 14, 15, 16, 1, 2, 3, 4, 5, 6, 7, 8, 9, 10] [0] rfl rfl rfl rfl 17 rfl (by decide) [x0, g0, g1, g2, g3, g4, g5, e0, e1, e2, e3, h0, h1, h2, h3, h4, h5] rfl rfl hk1 (by rw [← ht]; exact hB)
      have hw_10 : tP C (plc T (cSt C)) pp_10 0 24 ∧ tG C (plc T (cSt C)) gg_10 0 24 ∧ tF C (plc T (cSt C)) ff_10 0 24 ∧ tD C dd_10 0 24 ∧ tL C (plc T (cSt C)) ll_10 0 24 := hw_10
      clear hF hB hk1 hz1 hvm
      clear ht
      generalize H1 = H at hP hS ⊢
      obtain ⟨tP1, tG1, tF1, tD1, tL1⟩ := hw_10
      refine lv_aload_n hx hb dX9_gives_38 rfl (lv_at hl 0 rfl) ?_
      refine va_get (D := D) (ci := 8) (v := .ref h0) (C := RX9) (T := TX9) (N := 11) hx hb hts hwX9 hown hK hP 0 rfl rfl 5 (by decide) hf_37 (fun _ h9 => h9) rfl dX9_gives_39 ?_
      refine va_get (D := D) (ci := 7) (v := .ref h2) (C := RX8) (T := TX8) (N := 5) hx hb hts hwX8 hown hK hP 11 rfl rfl 1 (by decide) hf_164 (fun _ h9 => h9) rfl dX9_gives_42 ?_
      refine lv_iload_n hx hb dX9_gives_45 rfl (lv_at hl 2 rfl) ?_
      refine lv_iload_n hx hb dX9_gives_46 rfl (lv_at hl 1 rfl) ?_
      refine vp_callSi (W.runS (As := [.int (nI x2N), .int (nI x1N)]) (rest := [.ref h2]) ⟨hx, hb, hml, hown, hts⟩ (c_X8_at lL D cI cS x2N x1N) (va_cwS 2 hts gX9_gives_X8_at rfl rfl rfl cd_X8_at ⟨Nat.le_of_ble_eq_true rfl, Nat.le_of_ble_eq_true rfl⟩) ⟨kBp_blind, fun U hU hW => ⟨rfl, by rw [hU]; exact hP.sub [] rfl, va_K.moved hW.alike hK⟩⟩ rfl rfl hl.1 rfl (lv_room (Nat.le_of_ble_eq_true rfl)) dX9_gives_47 ⟨Nat.le_of_ble_eq_true rfl, Nat.le_of_ble_eq_true rfl⟩) (fun r_11 hw_11 => ?_)
      obtain rfl : r_11 = nI (x2N * 4 + x1N) := hw_11
      refine kk_iald hx hb hK hP 13 rfl rfl (i := x2N * 4 + x1N) (by omega) (by decide) dX9_gives_50 ?_
      refine kk_top (y := nI (Gi C (plT C T) x2N x1N)) (tG1 x2N (by omega) (by omega) x1N hx1N) ?_
      have hq : (nI (Gi C (plT C T) x2N x1N)) = sp_gives C T (nI x1N) (nI x2N) ∧ True := by
        refine ⟨?_, trivial⟩
        simp only [sp_gives, hb_3, hb_5, t_x1, t_x2, cond_true, cond_false]
      refine kk_QQ hQQ ?_
      exact W.iret (v := nI (Gi C (plT C T) x2N x1N)) hx hb hr (fun t ht hW => ⟨⟨nI (Gi C (plT C T) x2N x1N), (pp_10, gg_10, ff_10, dd_10, ll_10), rfl, hq, by show va_P D vwCl _ t.heap; rw [ht]; exact hP⟩, hS.F ht⟩) hS.2.2 dX9_gives_51
    · skip
      refine lv_bipush (v := (-2 : Int32)) hx hb dX9_gives_20 (by decide +kernel) ?_
      have hq : (-2 : Int32) = sp_gives C T (nI x1N) x2 ∧ True := by
        refine ⟨?_, trivial⟩
        simp only [sp_gives, hb_3, hb_5, t_x1, cond_true, cond_false]
      refine kk_QQ hQQ ?_
      exact W.iret (v := (-2 : Int32)) hx hb hr (fun t ht hW => ⟨⟨(-2 : Int32), (pA, gA, fA, dA, lA), rfl, hq, by show va_P D vwCl _ t.heap; rw [ht]; exact hP⟩, hS.F ht⟩) hS.2.2 dX9_gives_22
  · skip
    refine lv_iconst (v := (-1 : Int32)) hx hb dX9_gives_11 (by decide +kernel) ?_
    have hq : (-1 : Int32) = sp_gives C T x1 x2 ∧ True := by
      refine ⟨?_, trivial⟩
      simp only [sp_gives, hb_3, cond_true, cond_false]
    refine kk_QQ hQQ ?_
    exact W.iret (v := (-1 : Int32)) hx hb hr (fun t ht hW => ⟨⟨(-1 : Int32), (pA, gA, fA, dA, lA), rfl, hq, by show va_P D vwCl _ t.heap; rw [ht]; exact hP⟩, hS.F ht⟩) hS.2.2 dX9_gives_12

abbrev rmX9_falls : Room := { frames := 4, cells := 0, slots := 0, locals := 114 }
set_option maxHeartbeats 4000000 in
set_option maxRecDepth 100000 in
theorem c_X9_falls (lL : Launch) (D : va_G) (cI cS : ClassId) (sz : Nat) (C : Co) (T : Mv) (E : Mv) (x0 : Nat) (g0 : Nat) (q0 : Nat) (e0 : Nat) (t0 : Nat) (r0 : Nat) (h0 : Nat) (i0 : Nat) (z0 : Nat) (y0 : Nat) (tr : Int32) (ft : Int32) (x1 : Int32) (x2 : Int32) (g1 : Nat) (g2 : Nat) (g3 : Nat) (g4 : Nat) (g5 : Nat) (sk : Nat → Int32) (sh : Nat → Int32) (ki : Nat → Int32) (st : Nat → Int32) (cl : Nat → Int32) (e1 : Nat) (e2 : Nat) (e3 : Nat) (wf : Nat → Int32) (tf : Nat → Int32) (vf : Nat → Int32) (h1 : Nat) (h2 : Nat) (h3 : Nat) (h4 : Nat) (h5 : Nat) (pA : Nat → Int32) (gA : Nat → Int32) (fA : Nat → Int32) (dA : Nat → Int32) (lA : Nat → Int32) (hrC : repC C sk sh ki st cl) (hrM : repM T wf tf vf) (hX : okX C T E) : Met lL yX9_falls wsX9_falls rmX9_falls (va_Pc [.ref x0, .int x1, .int x2] (kB D cI cS [(x0, .inr (8, [.ref g0, .ref q0, .ref e0, .ref t0, .ref r0, .ref h0, .ref i0, .ref z0, .ref y0, .int tr, .int ft])), (g0, .inr (1, [.int (nI (cSp C)), .int (nI (cLa C)), .int (nI (cAg C)), .ref g1, .ref g2, .ref g3, .ref g4, .ref g5])), (g1, .inl (cI, 6, .inl sk)), (g2, .inl (cI, 4, .inl sh)), (g3, .inl (cI, 4, .inl ki)), (g4, .inl (cI, 4, .inl st)), (g5, .inl (cI, 4, .inl cl)), (e0, .inr (0, [.int (nI (mN T)), .ref e1, .ref e2, .ref e3])), (e1, .inl (cI, 8, .inl wf)), (e2, .inl (cI, 8, .inl tf)), (e3, .inl (cI, 8, .inl vf)), (h0, .inr (7, [.ref h1, .ref h2, .ref h3, .ref h4, .ref h5])), (h1, .inl (cI, 96, .inl pA)), (h2, .inl (cI, 96, .inl gA)), (h3, .inl (cI, 96, .inl fA)), (h4, .inl (cI, 96, .inl dA)), (h5, .inl (cI, 96, .inl lA))] sz)) (kQi D (fun (r : Int32) (u : (Nat → Int32) × (Nat → Int32) × (Nat → Int32) × (Nat → Int32) × (Nat → Int32)) => r = sp_falls C T x1 x2 ∧ True) (fun u : (Nat → Int32) × (Nat → Int32) × (Nat → Int32) × (Nat → Int32) × (Nat → Int32) => [(x0, .inr (8, [.ref g0, .ref q0, .ref e0, .ref t0, .ref r0, .ref h0, .ref i0, .ref z0, .ref y0, .int tr, .int ft])), (g0, .inr (1, [.int (nI (cSp C)), .int (nI (cLa C)), .int (nI (cAg C)), .ref g1, .ref g2, .ref g3, .ref g4, .ref g5])), (g1, .inl (cI, 6, .inl sk)), (g2, .inl (cI, 4, .inl sh)), (g3, .inl (cI, 4, .inl ki)), (g4, .inl (cI, 4, .inl st)), (g5, .inl (cI, 4, .inl cl)), (e0, .inr (0, [.int (nI (mN T)), .ref e1, .ref e2, .ref e3])), (e1, .inl (cI, 8, .inl wf)), (e2, .inl (cI, 8, .inl tf)), (e3, .inl (cI, 8, .inl vf)), (h0, .inr (7, [.ref h1, .ref h2, .ref h3, .ref h4, .ref h5])), (h1, .inl (cI, 96, .inl u.1)), (h2, .inl (cI, 96, .inl u.2.1)), (h3, .inl (cI, 96, .inl u.2.2.1)), (h4, .inl (cI, 96, .inl u.2.2.2.1)), (h5, .inl (cI, 96, .inl u.2.2.2.2))]) (va_A [(x0, .inr (8, [.ref g0, .ref q0, .ref e0, .ref t0, .ref r0, .ref h0, .ref i0, .ref z0, .ref y0, .int tr, .int ft])), (g0, .inr (1, [.int (nI (cSp C)), .int (nI (cLa C)), .int (nI (cAg C)), .ref g1, .ref g2, .ref g3, .ref g4, .ref g5])), (g1, .inl (cI, 6, .inl sk)), (g2, .inl (cI, 4, .inl sh)), (g3, .inl (cI, 4, .inl ki)), (g4, .inl (cI, 4, .inl st)), (g5, .inl (cI, 4, .inl cl)), (e0, .inr (0, [.int (nI (mN T)), .ref e1, .ref e2, .ref e3])), (e1, .inl (cI, 8, .inl wf)), (e2, .inl (cI, 8, .inl tf)), (e3, .inl (cI, 8, .inl vf)), (h0, .inr (7, [.ref h1, .ref h2, .ref h3, .ref h4, .ref h5])), (h1, .inl (cI, 96, .inl pA)), (h2, .inl (cI, 96, .inl gA)), (h3, .inl (cI, 96, .inl fA)), (h4, .inl (cI, 96, .inl dA)), (h5, .inl (cI, 96, .inl lA))] sz)) 0 0 (va_A [(x0, .inr (8, [.ref g0, .ref q0, .ref e0, .ref t0, .ref r0, .ref h0, .ref i0, .ref z0, .ref y0, .int tr, .int ft])), (g0, .inr (1, [.int (nI (cSp C)), .int (nI (cLa C)), .int (nI (cAg C)), .ref g1, .ref g2, .ref g3, .ref g4, .ref g5])), (g1, .inl (cI, 6, .inl sk)), (g2, .inl (cI, 4, .inl sh)), (g3, .inl (cI, 4, .inl ki)), (g4, .inl (cI, 4, .inl st)), (g5, .inl (cI, 4, .inl cl)), (e0, .inr (0, [.int (nI (mN T)), .ref e1, .ref e2, .ref e3])), (e1, .inl (cI, 8, .inl wf)), (e2, .inl (cI, 8, .inl tf)), (e3, .inl (cI, 8, .inl vf)), (h0, .inr (7, [.ref h1, .ref h2, .ref h3, .ref h4, .ref h5])), (h1, .inl (cI, 96, .inl pA)), (h2, .inl (cI, 96, .inl gA)), (h3, .inl (cI, 96, .inl fA)), (h4, .inl (cI, 96, .inl dA)), (h5, .inl (cI, 96, .inl lA))] sz) := by
  refine Met.ofW (cc := cX9_falls) (maxL := 3) (ret := (some .int)) (by decide) rfl ?_
  intro pP eE sS mM args below meth cC s₁ B hml hv
  obtain ⟨rfl, hsz, hP, hK, hD0⟩ := hv
  have hx := B.exec
  have hb := B.bytes
  have hr := B.returns
  have hts := atoms_spec (ws := wsX9_falls) B.pre
  have hown : sS.vm.findClass RX9 = some mM.cls := findClass_of_methodNamed B.named
  have hlocks := B.notSynchronized
  subst hsz
  have hD := hD0.self (sz := sS.heap.size)
  generalize hAe : va_A [(x0, .inr (8, [.ref g0, .ref q0, .ref e0, .ref t0, .ref r0, .ref h0, .ref i0, .ref z0, .ref y0, .int tr, .int ft])), (g0, .inr (1, [.int (nI (cSp C)), .int (nI (cLa C)), .int (nI (cAg C)), .ref g1, .ref g2, .ref g3, .ref g4, .ref g5])), (g1, .inl (cI, 6, .inl sk)), (g2, .inl (cI, 4, .inl sh)), (g3, .inl (cI, 4, .inl ki)), (g4, .inl (cI, 4, .inl st)), (g5, .inl (cI, 4, .inl cl)), (e0, .inr (0, [.int (nI (mN T)), .ref e1, .ref e2, .ref e3])), (e1, .inl (cI, 8, .inl wf)), (e2, .inl (cI, 8, .inl tf)), (e3, .inl (cI, 8, .inl vf)), (h0, .inr (7, [.ref h1, .ref h2, .ref h3, .ref h4, .ref h5])), (h1, .inl (cI, 96, .inl pA)), (h2, .inl (cI, 96, .inl gA)), (h3, .inl (cI, 96, .inl fA)), (h4, .inl (cI, 96, .inl dA)), (h5, .inl (cI, 96, .inl lA))] sS.heap.size = A at hD ⊢
  have hA : ∀ q : Nat, sS.heap.size ≤ q → A q := fun q h => by rw [← hAe]; exact Or.inr h
  have hS : va_S A sS.heap sS.heap [] := va_S.rf
  have hP : va_P D vwCl [(x0, .inr (8, [.ref g0, .ref q0, .ref e0, .ref t0, .ref r0, .ref h0, .ref i0, .ref z0, .ref y0, .int tr, .int ft])), (g0, .inr (1, [.int (nI (cSp C)), .int (nI (cLa C)), .int (nI (cAg C)), .ref g1, .ref g2, .ref g3, .ref g4, .ref g5])), (g1, .inl (cI, 6, .inl sk)), (g2, .inl (cI, 4, .inl sh)), (g3, .inl (cI, 4, .inl ki)), (g4, .inl (cI, 4, .inl st)), (g5, .inl (cI, 4, .inl cl)), (e0, .inr (0, [.int (nI (mN T)), .ref e1, .ref e2, .ref e3])), (e1, .inl (cI, 8, .inl wf)), (e2, .inl (cI, 8, .inl tf)), (e3, .inl (cI, 8, .inl vf)), (h0, .inr (7, [.ref h1, .ref h2, .ref h3, .ref h4, .ref h5])), (h1, .inl (cI, 96, .inl pA)), (h2, .inl (cI, 96, .inl gA)), (h3, .inl (cI, 96, .inl fA)), (h4, .inl (cI, 96, .inl dA)), (h5, .inl (cI, 96, .inl lA))] sS.heap := hP
  have hD : va_D A [(x0, .inr (8, [.ref g0, .ref q0, .ref e0, .ref t0, .ref r0, .ref h0, .ref i0, .ref z0, .ref y0, .int tr, .int ft])), (g0, .inr (1, [.int (nI (cSp C)), .int (nI (cLa C)), .int (nI (cAg C)), .ref g1, .ref g2, .ref g3, .ref g4, .ref g5])), (g1, .inl (cI, 6, .inl sk)), (g2, .inl (cI, 4, .inl sh)), (g3, .inl (cI, 4, .inl ki)), (g4, .inl (cI, 4, .inl st)), (g5, .inl (cI, 4, .inl cl)), (e0, .inr (0, [.int (nI (mN T)), .ref e1, .ref e2, .ref e3])), (e1, .inl (cI, 8, .inl wf)), (e2, .inl (cI, 8, .inl tf)), (e3, .inl (cI, 8, .inl vf)), (h0, .inr (7, [.ref h1, .ref h2, .ref h3, .ref h4, .ref h5])), (h1, .inl (cI, 96, .inl pA)), (h2, .inl (cI, 96, .inl gA)), (h3, .inl (cI, 96, .inl fA)), (h4, .inl (cI, 96, .inl dA)), (h5, .inl (cI, 96, .inl lA))] := hD
  have hf_14 := hts (.fieldLink RX9 14 "OldLamps" "ground" "LOldLamps$Ground;") (List.mem_of_getElem? (i := 1) rfl)
  have hf_24 := hts (.fieldLink RX9 24 "OldLamps" "told" "LOldLamps$Entries;") (List.mem_of_getElem? (i := 3) rfl)
  have hf_37 := hts (.fieldLink RX9 37 "OldLamps" "now" "LOldLamps$Watches;") (List.mem_of_getElem? (i := 2) rfl)
  have hf_167 := hts (.fieldLink RX9 167 "OldLamps$Watches" "fallen" "[I") (List.mem_of_getElem? (i := 4) rfl)
  have hwX8 : ∀ w ∈ wsX80, w ∈ wsX9_falls := fun _ h => List.mem_cons_of_mem _ (List.mem_append_left _ (List.mem_append_left _ (List.mem_append_right _ h)))
  have hwX9 : ∀ w ∈ wsX90, w ∈ wsX9_falls := fun _ h => List.mem_cons_of_mem _ (List.mem_append_left _ (List.mem_append_left _ (List.mem_append_left _ (List.mem_append_right _ h))))
  have hl := lv_entry ([.ref x0, .int x1, .int x2]) (n := 3) (Nat.le_of_ble_eq_true rfl)
  rw [lg_entry_eq]
  generalize (lg_sl ([.ref x0, .int x1, .int x2]) ++ List.replicate (3 - (lg_sl ([.ref x0, .int x1, .int x2])).length) Slot.unset).toArray = ls at hl ⊢
  have hl : lv_has ls 3 [(0, .ref x0), (1, .int x1), (2, .int x2)] := hl
  obtain ⟨QQ, hQQ⟩ : ∃ QQ : State → Prop, QQ = MQ below (kQi D (fun (r : Int32) (u : (Nat → Int32) × (Nat → Int32) × (Nat → Int32) × (Nat → Int32) × (Nat → Int32)) => r = sp_falls C T x1 x2 ∧ True) (fun u : (Nat → Int32) × (Nat → Int32) × (Nat → Int32) × (Nat → Int32) × (Nat → Int32) => [(x0, .inr (8, [.ref g0, .ref q0, .ref e0, .ref t0, .ref r0, .ref h0, .ref i0, .ref z0, .ref y0, .int tr, .int ft])), (g0, .inr (1, [.int (nI (cSp C)), .int (nI (cLa C)), .int (nI (cAg C)), .ref g1, .ref g2, .ref g3, .ref g4, .ref g5])), (g1, .inl (cI, 6, .inl sk)), (g2, .inl (cI, 4, .inl sh)), (g3, .inl (cI, 4, .inl ki)), (g4, .inl (cI, 4, .inl st)), (g5, .inl (cI, 4, .inl cl)), (e0, .inr (0, [.int (nI (mN T)), .ref e1, .ref e2, .ref e3])), (e1, .inl (cI, 8, .inl wf)), (e2, .inl (cI, 8, .inl tf)), (e3, .inl (cI, 8, .inl vf)), (h0, .inr (7, [.ref h1, .ref h2, .ref h3, .ref h4, .ref h5])), (h1, .inl (cI, 96, .inl u.1)), (h2, .inl (cI, 96, .inl u.2.1)), (h3, .inl (cI, 96, .inl u.2.2.1)), (h4, .inl (cI, 96, .inl u.2.2.2.1)), (h5, .inl (cI, 96, .inl u.2.2.2.2))]) A) ([.ref x0, .int x1, .int x2]).toArray sS 0 0 A := ⟨_, rfl⟩
  refine kk_QQ hQQ.symm ?_
  obtain ⟨hX1, hX2, hX3, hX4⟩ := okX_le hX
  refine lv_aload_n hx hb dX9_falls_0 rfl (lv_at hl 0 rfl) ?_
  refine va_get (D := D) (ci := 8) (v := .ref g0) (C := RX9) (T := TX9) (N := 11) hx hb hts hwX9 hown hK hP 0 rfl rfl 0 (by decide) hf_14 (fun _ h9 => h9) rfl dX9_falls_1 ?_
  refine lv_iload_n hx hb dX9_falls_4 rfl (lv_at hl 1 rfl) ?_
  have o_1 : (cLa C) ≤ 4 := by omega
  refine vp_callSi (W.runV (As := [.int x1]) (rest := []) ⟨hx, hb, hml, hown, hts⟩ (c_X2_hasLamp lL D cI cS g0 (cSp C) (cLa C) (.int (nI (cAg C))) (.ref g1) (.ref g2) (.ref g3) (.ref g4) (.ref g5) x1 o_1) (cwV 1 hts gX9_falls_X2_hasLamp rfl rfl rfl cd_X2_hasLamp ⟨Nat.le_of_ble_eq_true rfl, Nat.le_of_ble_eq_true rfl⟩) ⟨kBp_blind, va_recv hK hP (ci := 1) (q0 := 1) rfl rfl, fun U hU hW => ⟨rfl, by rw [hU]; exact hP.sub [1] rfl, va_K.moved hW.alike hK⟩⟩ rfl rfl hl.1 rfl (lv_room (Nat.le_of_ble_eq_true rfl)) dX9_falls_5 ⟨Nat.le_of_ble_eq_true rfl, Nat.le_of_ble_eq_true rfl⟩) (fun r_2 hw_2 => ?_)
  obtain rfl : r_2 = kb (inB x1 (cLa C)) := hw_2
  -- if (inB x1 (cLa C))
  refine kk_ifb_ne (tgt := 13) hx hb dX9_falls_8 (by decide) (fun hb_3 => ?_) (fun hb_3 => ?_)
  · skip
    obtain ⟨x1N, hx1N, rfl⟩ := inB_t hb_3
    have t_x1 := nI_clamp (show x1N < 2 ^ 31 by omega)
    refine lv_iload_n hx hb dX9_falls_13 rfl (lv_at hl 2 rfl) ?_
    refine vp_callSi (W.runS (As := [.int x2]) (rest := []) ⟨hx, hb, hml, hown, hts⟩ (c_X9_isWatch lL D cI cS x2) (va_cwS 1 hts gX9_falls_X9_isWatch rfl rfl rfl cd_X9_isWatch ⟨Nat.le_of_ble_eq_true rfl, Nat.le_of_ble_eq_true rfl⟩) ⟨kBp_blind, fun U hU hW => ⟨rfl, by rw [hU]; exact hP.sub [] rfl, va_K.moved hW.alike hK⟩⟩ rfl rfl hl.1 rfl (lv_room (Nat.le_of_ble_eq_true rfl)) dX9_falls_14 ⟨Nat.le_of_ble_eq_true rfl, Nat.le_of_ble_eq_true rfl⟩) (fun r_4 hw_4 => ?_)
    obtain rfl : r_4 = kb (inB x2 24) := hw_4
    -- if (inB x2 24)
    refine kk_ifb_ne (tgt := 23) hx hb dX9_falls_17 (by decide) (fun hb_5 => ?_) (fun hb_5 => ?_)
    · skip
      obtain ⟨x2N, hx2N, rfl⟩ := inB_t hb_5
      have t_x2 := nI_clamp (show x2N < 2 ^ 31 by omega)
      refine lv_aload_n hx hb dX9_falls_23 rfl (lv_at hl 0 rfl) ?_
      refine va_get (D := D) (ci := 8) (v := .ref h0) (C := RX9) (T := TX9) (N := 11) hx hb hts hwX9 hown hK hP 0 rfl rfl 5 (by decide) hf_37 (fun _ h9 => h9) rfl dX9_falls_24 ?_
      refine lv_aload_n hx hb dX9_falls_27 rfl (lv_at hl 0 rfl) ?_
      refine va_get (D := D) (ci := 8) (v := .ref g0) (C := RX9) (T := TX9) (N := 11) hx hb hts hwX9 hown hK hP 0 rfl rfl 0 (by decide) hf_14 (fun _ h9 => h9) rfl dX9_falls_28 ?_
      refine lv_aload_n hx hb dX9_falls_31 rfl (lv_at hl 0 rfl) ?_
      refine va_get (D := D) (ci := 8) (v := .ref e0) (C := RX9) (T := TX9) (N := 11) hx hb hts hwX9 hown hK hP 0 rfl rfl 2 (by decide) hf_24 (fun _ h9 => h9) rfl dX9_falls_32 ?_
      obtain ⟨hC, hM, hE⟩ := okX_la hX hx1N
      have o_6 : okC C := by assumption
      have o_7 : okM C T := by assumption
      have o_8 : repC C sk sh ki st cl := by assumption
      have o_9 : repM T wf tf vf := by assumption
      have hF := va_free (wc := [(h0, .inr (7, [.ref h1, .ref h2, .ref h3, .ref h4, .ref h5])), (h1, .inl (cI, 96, .inl pA)), (h2, .inl (cI, 96, .inl gA)), (h3, .inl (cI, 96, .inl fA)), (h4, .inl (cI, 96, .inl dA)), (h5, .inl (cI, 96, .inl lA)), (g0, .inr (1, [.int (nI (cSp C)), .int (nI (cLa C)), .int (nI (cAg C)), .ref g1, .ref g2, .ref g3, .ref g4, .ref g5])), (g1, .inl (cI, 6, .inl sk)), (g2, .inl (cI, 4, .inl sh)), (g3, .inl (cI, 4, .inl ki)), (g4, .inl (cI, 4, .inl st)), (g5, .inl (cI, 4, .inl cl)), (e0, .inr (0, [.int (nI (mN T)), .ref e1, .ref e2, .ref e3])), (e1, .inl (cI, 8, .inl wf)), (e2, .inl (cI, 8, .inl tf)), (e3, .inl (cI, 8, .inl vf))]) hD hS hA [11, 12, 13, 14, 15, 16, 1, 2, 3, 4, 5, 6, 7, 8, 9, 10] rfl
      refine va_callv (va_runV (As := [.ref g0, .ref e0]) (rest := []) ⟨hx, hb, hml, hown, hts⟩ (c_X8_reckon lL D cI cS _ C T h0 h1 h2 h3 h4 h5 g0 g1 g2 g3 g4 g5 e0 e1 e2 e3 wf tf vf pA gA fA dA lA sk sh ki st cl o_6 o_7 o_8 o_9) (cwV 2 hts gX9_falls_X8_reckon rfl rfl rfl cd_X8_reckon ⟨Nat.le_of_ble_eq_true rfl, Nat.le_of_ble_eq_true rfl⟩) ⟨kB_blind, va_recv hK hP (ci := 7) (q0 := 11) rfl rfl, fun U hU hW => ⟨rfl, by rw [hU], by rw [hU]; exact hP.sub [11, 12, 13, 14, 15, 16, 1, 2, 3, 4, 5, 6, 7, 8, 9, 10] rfl, va_K.moved hW.alike hK, (hD.sub [11, 12, 13, 14, 15, 16, 1, 2, 3, 4, 5, 6, 7, 8, 9, 10] (by decide) rfl).weaken (fun _ _ _ _ => trivial)⟩⟩ rfl rfl hl.1 rfl (lv_room (Nat.le_of_ble_eq_true rfl)) dX9_falls_35 ⟨Nat.le_of_ble_eq_true rfl, Nat.le_of_ble_eq_true rfl⟩) hS (fun q _ h => hF q h) hF (fun u_10 t H1 locs ht hvm hw_10 hB hz1 hk1 hS => ?_)
      obtain ⟨pp_10, gg_10, ff_10, dd_10, ll_10⟩ := u_10
      obtain ⟨hP, hD⟩ := kk_join2 (wc := [(h0, .inr (7, [.ref h1, .ref h2, .ref h3, .ref h4, .ref h5])), (h1, .inl (cI, 96, .inl pA)), (h2, .inl (cI, 96, .inl gA)), (h3, .inl (cI, 96, .inl fA)), (h4, .inl (cI, 96, .inl dA)), (h5, .inl (cI, 96, .inl lA)), (g0, .inr (1, [.int (nI (cSp C)), .int (nI (cLa C)), .int (nI (cAg C)), .ref g1, .ref g2, .ref g3, .ref g4, .ref g5])), (g1, .inl (cI, 6, .inl sk)), (g2, .inl (cI, 4, .inl sh)), (g3, .inl (cI, 4, .inl ki)), (g4, .inl (cI, 4, .inl st)), (g5, .inl (cI, 4, .inl cl)), (e0, .inr (0, [.int (nI (mN T)), .ref e1, .ref e2, .ref e3])), (e1, .inl (cI, 8, .inl wf)), (e2, .inl (cI, 8, .inl tf)), (e3, .inl (cI, 8, .inl vf))]) (w1 := [(h0, .inr (7, [.ref h1, .ref h2, .ref h3, .ref h4, .ref h5])), (h1, .inl (cI, 96, .inl pp_10)), (h2, .inl (cI, 96, .inl gg_10)), (h3, .inl (cI, 96, .inl ff_10)), (h4, .inl (cI, 96, .inl dd_10)), (h5, .inl (cI, 96, .inl ll_10)), (g0, .inr (1, [.int (nI (cSp C)), .int (nI (cLa C)), .int (nI (cAg C)), .ref g1, .ref g2, .ref g3, .ref g4, .ref g5])), (g1, .inl (cI, 6, .inl sk)), (g2, .inl (cI, 4, .inl sh)), (g3, .inl (cI, 4, .inl ki)), (g4, .inl (cI, 4, .inl st)), (g5, .inl (cI, 4, .inl cl)), (e0, .inr (0, [.int (nI (mN T)), .ref e1, .ref e2, .ref e3])), (e1, .inl (cI, 8, .inl wf)), (e2, .inl (cI, 8, .inl tf)), (e3, .inl (cI, 8, .inl vf))]) (ws' := [(x0, .inr (8, [.ref g0, .ref q0, .ref e0, .ref t0, .ref r0, .ref h0, .ref i0, .ref z0, .ref y0, .int tr, .int ft])), (g0, .inr (1, [.int (nI (cSp C)), .int (nI (cLa C)), .int (nI (cAg C)), .ref g1, .ref g2, .ref g3, .ref g4, .ref g5])), (g1, .inl (cI, 6, .inl sk)), (g2, .inl (cI, 4, .inl sh)), (g3, .inl (cI, 4, .inl ki)), (g4, .inl (cI, 4, .inl st)), (g5, .inl (cI, 4, .inl cl)), (e0, .inr (0, [.int (nI (mN T)), .ref e1, .ref e2, .ref e3])), (e1, .inl (cI, 8, .inl wf)), (e2, .inl (cI, 8, .inl tf)), (e3, .inl (cI, 8, .inl vf)), (h0, .inr (7, [.ref h1, .ref h2, .ref h3, .ref h4, .ref h5])), (h1, .inl (cI, 96, .inl pp_10)), (h2, .inl (cI, 96, .inl gg_10)), (h3, .inl (cI, 96, .inl ff_10)), (h4, .inl (cI, 96, .inl dd_10)), (h5, .inl (cI, 96, .inl ll_10))]) (wr := [(x0, .inr (8, [.ref g0, .ref q0, .ref e0, .ref t0, .ref r0, .ref h0, .ref i0, .ref z0, .ref y0, .int tr, .int ft]))]) (H1 := H1) hP hD [11, 12, 13, 14, 15, 16, 1, 2, 3, 4, 5, 6, 7, 8, 9, 10] [0] rfl rfl rfl rfl 17 rfl (by decide) [x0, g0, g1, g2, g3, g4, g5, e0, e1, e2, e3, h0, h1, h2, h3, h4, h5] rfl rfl hk1 (by rw [← ht]; exact hB)
      have hw_10 : tP C (plc T (cSt C)) pp_10 0 24 ∧ tG C (plc T (cSt C)) gg_10 0 24 ∧ tF C (plc T (cSt C)) ff_10 0 24 ∧ tD C dd_10 0 24 ∧ tL C (plc T (cSt C)) ll_10 0 24 := hw_10
      clear hF hB hk1 hz1 hvm
      clear ht
      generalize H1 = H at hP hS ⊢
      obtain ⟨tP1, tG1, tF1, tD1, tL1⟩ := hw_10
      refine lv_aload_n hx hb dX9_falls_38 rfl (lv_at hl 0 rfl) ?_
      refine va_get (D := D) (ci := 8) (v := .ref h0) (C := RX9) (T := TX9) (N := 11) hx hb hts hwX9 hown hK hP 0 rfl rfl 5 (by decide) hf_37 (fun _ h9 => h9) rfl dX9_falls_39 ?_
      refine va_get (D := D) (ci := 7) (v := .ref h3) (C := RX8) (T := TX8) (N := 5) hx hb hts hwX8 hown hK hP 11 rfl rfl 2 (by decide) hf_167 (fun _ h9 => h9) rfl dX9_falls_42 ?_
      refine lv_iload_n hx hb dX9_falls_45 rfl (lv_at hl 2 rfl) ?_
      refine lv_iload_n hx hb dX9_falls_46 rfl (lv_at hl 1 rfl) ?_
      refine vp_callSi (W.runS (As := [.int (nI x2N), .int (nI x1N)]) (rest := [.ref h3]) ⟨hx, hb, hml, hown, hts⟩ (c_X8_at lL D cI cS x2N x1N) (va_cwS 2 hts gX9_falls_X8_at rfl rfl rfl cd_X8_at ⟨Nat.le_of_ble_eq_true rfl, Nat.le_of_ble_eq_true rfl⟩) ⟨kBp_blind, fun U hU hW => ⟨rfl, by rw [hU]; exact hP.sub [] rfl, va_K.moved hW.alike hK⟩⟩ rfl rfl hl.1 rfl (lv_room (Nat.le_of_ble_eq_true rfl)) dX9_falls_47 ⟨Nat.le_of_ble_eq_true rfl, Nat.le_of_ble_eq_true rfl⟩) (fun r_11 hw_11 => ?_)
      obtain rfl : r_11 = nI (x2N * 4 + x1N) := hw_11
      refine kk_iald hx hb hK hP 14 rfl rfl (i := x2N * 4 + x1N) (by omega) (by decide) dX9_falls_50 ?_
      refine kk_top (y := nI (Fa C (plT C T) x2N x1N)) (tF1 x2N (by omega) (by omega) x1N hx1N) ?_
      have hq : (nI (Fa C (plT C T) x2N x1N)) = sp_falls C T (nI x1N) (nI x2N) ∧ True := by
        refine ⟨?_, trivial⟩
        simp only [sp_falls, hb_3, hb_5, t_x1, t_x2, cond_true, cond_false]
      refine kk_QQ hQQ ?_
      exact W.iret (v := nI (Fa C (plT C T) x2N x1N)) hx hb hr (fun t ht hW => ⟨⟨nI (Fa C (plT C T) x2N x1N), (pp_10, gg_10, ff_10, dd_10, ll_10), rfl, hq, by show va_P D vwCl _ t.heap; rw [ht]; exact hP⟩, hS.F ht⟩) hS.2.2 dX9_falls_51
    · skip
      refine lv_bipush (v := (-2 : Int32)) hx hb dX9_falls_20 (by decide +kernel) ?_
      have hq : (-2 : Int32) = sp_falls C T (nI x1N) x2 ∧ True := by
        refine ⟨?_, trivial⟩
        simp only [sp_falls, hb_3, hb_5, t_x1, cond_true, cond_false]
      refine kk_QQ hQQ ?_
      exact W.iret (v := (-2 : Int32)) hx hb hr (fun t ht hW => ⟨⟨(-2 : Int32), (pA, gA, fA, dA, lA), rfl, hq, by show va_P D vwCl _ t.heap; rw [ht]; exact hP⟩, hS.F ht⟩) hS.2.2 dX9_falls_22
  · skip
    refine lv_iconst (v := (-1 : Int32)) hx hb dX9_falls_11 (by decide +kernel) ?_
    have hq : (-1 : Int32) = sp_falls C T x1 x2 ∧ True := by
      refine ⟨?_, trivial⟩
      simp only [sp_falls, hb_3, cond_true, cond_false]
    refine kk_QQ hQQ ?_
    exact W.iret (v := (-1 : Int32)) hx hb hr (fun t ht hW => ⟨⟨(-1 : Int32), (pA, gA, fA, dA, lA), rfl, hq, by show va_P D vwCl _ t.heap; rw [ht]; exact hP⟩, hS.F ht⟩) hS.2.2 dX9_falls_12

abbrev rmX9_light : Room := { frames := 4, cells := 0, slots := 0, locals := 114 }
set_option maxHeartbeats 4000000 in
set_option maxRecDepth 100000 in
theorem c_X9_light (lL : Launch) (D : va_G) (cI cS : ClassId) (sz : Nat) (C : Co) (T : Mv) (E : Mv) (x0 : Nat) (g0 : Nat) (q0 : Nat) (e0 : Nat) (t0 : Nat) (r0 : Nat) (h0 : Nat) (i0 : Nat) (z0 : Nat) (y0 : Nat) (tr : Int32) (ft : Int32) (x1 : Int32) (x2 : Int32) (g1 : Nat) (g2 : Nat) (g3 : Nat) (g4 : Nat) (g5 : Nat) (sk : Nat → Int32) (sh : Nat → Int32) (ki : Nat → Int32) (st : Nat → Int32) (cl : Nat → Int32) (e1 : Nat) (e2 : Nat) (e3 : Nat) (wf : Nat → Int32) (tf : Nat → Int32) (vf : Nat → Int32) (h1 : Nat) (h2 : Nat) (h3 : Nat) (h4 : Nat) (h5 : Nat) (pA : Nat → Int32) (gA : Nat → Int32) (fA : Nat → Int32) (dA : Nat → Int32) (lA : Nat → Int32) (hrC : repC C sk sh ki st cl) (hrM : repM T wf tf vf) (hX : okX C T E) : Met lL yX9_light wsX9_light rmX9_light (va_Pc [.ref x0, .int x1, .int x2] (kB D cI cS [(x0, .inr (8, [.ref g0, .ref q0, .ref e0, .ref t0, .ref r0, .ref h0, .ref i0, .ref z0, .ref y0, .int tr, .int ft])), (g0, .inr (1, [.int (nI (cSp C)), .int (nI (cLa C)), .int (nI (cAg C)), .ref g1, .ref g2, .ref g3, .ref g4, .ref g5])), (g1, .inl (cI, 6, .inl sk)), (g2, .inl (cI, 4, .inl sh)), (g3, .inl (cI, 4, .inl ki)), (g4, .inl (cI, 4, .inl st)), (g5, .inl (cI, 4, .inl cl)), (e0, .inr (0, [.int (nI (mN T)), .ref e1, .ref e2, .ref e3])), (e1, .inl (cI, 8, .inl wf)), (e2, .inl (cI, 8, .inl tf)), (e3, .inl (cI, 8, .inl vf)), (h0, .inr (7, [.ref h1, .ref h2, .ref h3, .ref h4, .ref h5])), (h1, .inl (cI, 96, .inl pA)), (h2, .inl (cI, 96, .inl gA)), (h3, .inl (cI, 96, .inl fA)), (h4, .inl (cI, 96, .inl dA)), (h5, .inl (cI, 96, .inl lA))] sz)) (kQi D (fun (r : Int32) (u : (Nat → Int32) × (Nat → Int32) × (Nat → Int32) × (Nat → Int32) × (Nat → Int32)) => r = sp_light C T x1 x2 ∧ True) (fun u : (Nat → Int32) × (Nat → Int32) × (Nat → Int32) × (Nat → Int32) × (Nat → Int32) => [(x0, .inr (8, [.ref g0, .ref q0, .ref e0, .ref t0, .ref r0, .ref h0, .ref i0, .ref z0, .ref y0, .int tr, .int ft])), (g0, .inr (1, [.int (nI (cSp C)), .int (nI (cLa C)), .int (nI (cAg C)), .ref g1, .ref g2, .ref g3, .ref g4, .ref g5])), (g1, .inl (cI, 6, .inl sk)), (g2, .inl (cI, 4, .inl sh)), (g3, .inl (cI, 4, .inl ki)), (g4, .inl (cI, 4, .inl st)), (g5, .inl (cI, 4, .inl cl)), (e0, .inr (0, [.int (nI (mN T)), .ref e1, .ref e2, .ref e3])), (e1, .inl (cI, 8, .inl wf)), (e2, .inl (cI, 8, .inl tf)), (e3, .inl (cI, 8, .inl vf)), (h0, .inr (7, [.ref h1, .ref h2, .ref h3, .ref h4, .ref h5])), (h1, .inl (cI, 96, .inl u.1)), (h2, .inl (cI, 96, .inl u.2.1)), (h3, .inl (cI, 96, .inl u.2.2.1)), (h4, .inl (cI, 96, .inl u.2.2.2.1)), (h5, .inl (cI, 96, .inl u.2.2.2.2))]) (va_A [(x0, .inr (8, [.ref g0, .ref q0, .ref e0, .ref t0, .ref r0, .ref h0, .ref i0, .ref z0, .ref y0, .int tr, .int ft])), (g0, .inr (1, [.int (nI (cSp C)), .int (nI (cLa C)), .int (nI (cAg C)), .ref g1, .ref g2, .ref g3, .ref g4, .ref g5])), (g1, .inl (cI, 6, .inl sk)), (g2, .inl (cI, 4, .inl sh)), (g3, .inl (cI, 4, .inl ki)), (g4, .inl (cI, 4, .inl st)), (g5, .inl (cI, 4, .inl cl)), (e0, .inr (0, [.int (nI (mN T)), .ref e1, .ref e2, .ref e3])), (e1, .inl (cI, 8, .inl wf)), (e2, .inl (cI, 8, .inl tf)), (e3, .inl (cI, 8, .inl vf)), (h0, .inr (7, [.ref h1, .ref h2, .ref h3, .ref h4, .ref h5])), (h1, .inl (cI, 96, .inl pA)), (h2, .inl (cI, 96, .inl gA)), (h3, .inl (cI, 96, .inl fA)), (h4, .inl (cI, 96, .inl dA)), (h5, .inl (cI, 96, .inl lA))] sz)) 0 0 (va_A [(x0, .inr (8, [.ref g0, .ref q0, .ref e0, .ref t0, .ref r0, .ref h0, .ref i0, .ref z0, .ref y0, .int tr, .int ft])), (g0, .inr (1, [.int (nI (cSp C)), .int (nI (cLa C)), .int (nI (cAg C)), .ref g1, .ref g2, .ref g3, .ref g4, .ref g5])), (g1, .inl (cI, 6, .inl sk)), (g2, .inl (cI, 4, .inl sh)), (g3, .inl (cI, 4, .inl ki)), (g4, .inl (cI, 4, .inl st)), (g5, .inl (cI, 4, .inl cl)), (e0, .inr (0, [.int (nI (mN T)), .ref e1, .ref e2, .ref e3])), (e1, .inl (cI, 8, .inl wf)), (e2, .inl (cI, 8, .inl tf)), (e3, .inl (cI, 8, .inl vf)), (h0, .inr (7, [.ref h1, .ref h2, .ref h3, .ref h4, .ref h5])), (h1, .inl (cI, 96, .inl pA)), (h2, .inl (cI, 96, .inl gA)), (h3, .inl (cI, 96, .inl fA)), (h4, .inl (cI, 96, .inl dA)), (h5, .inl (cI, 96, .inl lA))] sz) := by
  refine Met.ofW (cc := cX9_light) (maxL := 3) (ret := (some .int)) (by decide) rfl ?_
  intro pP eE sS mM args below meth cC s₁ B hml hv
  obtain ⟨rfl, hsz, hP, hK, hD0⟩ := hv
  have hx := B.exec
  have hb := B.bytes
  have hr := B.returns
  have hts := atoms_spec (ws := wsX9_light) B.pre
  have hown : sS.vm.findClass RX9 = some mM.cls := findClass_of_methodNamed B.named
  have hlocks := B.notSynchronized
  subst hsz
  have hD := hD0.self (sz := sS.heap.size)
  generalize hAe : va_A [(x0, .inr (8, [.ref g0, .ref q0, .ref e0, .ref t0, .ref r0, .ref h0, .ref i0, .ref z0, .ref y0, .int tr, .int ft])), (g0, .inr (1, [.int (nI (cSp C)), .int (nI (cLa C)), .int (nI (cAg C)), .ref g1, .ref g2, .ref g3, .ref g4, .ref g5])), (g1, .inl (cI, 6, .inl sk)), (g2, .inl (cI, 4, .inl sh)), (g3, .inl (cI, 4, .inl ki)), (g4, .inl (cI, 4, .inl st)), (g5, .inl (cI, 4, .inl cl)), (e0, .inr (0, [.int (nI (mN T)), .ref e1, .ref e2, .ref e3])), (e1, .inl (cI, 8, .inl wf)), (e2, .inl (cI, 8, .inl tf)), (e3, .inl (cI, 8, .inl vf)), (h0, .inr (7, [.ref h1, .ref h2, .ref h3, .ref h4, .ref h5])), (h1, .inl (cI, 96, .inl pA)), (h2, .inl (cI, 96, .inl gA)), (h3, .inl (cI, 96, .inl fA)), (h4, .inl (cI, 96, .inl dA)), (h5, .inl (cI, 96, .inl lA))] sS.heap.size = A at hD ⊢
  have hA : ∀ q : Nat, sS.heap.size ≤ q → A q := fun q h => by rw [← hAe]; exact Or.inr h
  have hS : va_S A sS.heap sS.heap [] := va_S.rf
  have hP : va_P D vwCl [(x0, .inr (8, [.ref g0, .ref q0, .ref e0, .ref t0, .ref r0, .ref h0, .ref i0, .ref z0, .ref y0, .int tr, .int ft])), (g0, .inr (1, [.int (nI (cSp C)), .int (nI (cLa C)), .int (nI (cAg C)), .ref g1, .ref g2, .ref g3, .ref g4, .ref g5])), (g1, .inl (cI, 6, .inl sk)), (g2, .inl (cI, 4, .inl sh)), (g3, .inl (cI, 4, .inl ki)), (g4, .inl (cI, 4, .inl st)), (g5, .inl (cI, 4, .inl cl)), (e0, .inr (0, [.int (nI (mN T)), .ref e1, .ref e2, .ref e3])), (e1, .inl (cI, 8, .inl wf)), (e2, .inl (cI, 8, .inl tf)), (e3, .inl (cI, 8, .inl vf)), (h0, .inr (7, [.ref h1, .ref h2, .ref h3, .ref h4, .ref h5])), (h1, .inl (cI, 96, .inl pA)), (h2, .inl (cI, 96, .inl gA)), (h3, .inl (cI, 96, .inl fA)), (h4, .inl (cI, 96, .inl dA)), (h5, .inl (cI, 96, .inl lA))] sS.heap := hP
  have hD : va_D A [(x0, .inr (8, [.ref g0, .ref q0, .ref e0, .ref t0, .ref r0, .ref h0, .ref i0, .ref z0, .ref y0, .int tr, .int ft])), (g0, .inr (1, [.int (nI (cSp C)), .int (nI (cLa C)), .int (nI (cAg C)), .ref g1, .ref g2, .ref g3, .ref g4, .ref g5])), (g1, .inl (cI, 6, .inl sk)), (g2, .inl (cI, 4, .inl sh)), (g3, .inl (cI, 4, .inl ki)), (g4, .inl (cI, 4, .inl st)), (g5, .inl (cI, 4, .inl cl)), (e0, .inr (0, [.int (nI (mN T)), .ref e1, .ref e2, .ref e3])), (e1, .inl (cI, 8, .inl wf)), (e2, .inl (cI, 8, .inl tf)), (e3, .inl (cI, 8, .inl vf)), (h0, .inr (7, [.ref h1, .ref h2, .ref h3, .ref h4, .ref h5])), (h1, .inl (cI, 96, .inl pA)), (h2, .inl (cI, 96, .inl gA)), (h3, .inl (cI, 96, .inl fA)), (h4, .inl (cI, 96, .inl dA)), (h5, .inl (cI, 96, .inl lA))] := hD
  have hf_14 := hts (.fieldLink RX9 14 "OldLamps" "ground" "LOldLamps$Ground;") (List.mem_of_getElem? (i := 1) rfl)
  have hf_24 := hts (.fieldLink RX9 24 "OldLamps" "told" "LOldLamps$Entries;") (List.mem_of_getElem? (i := 3) rfl)
  have hf_37 := hts (.fieldLink RX9 37 "OldLamps" "now" "LOldLamps$Watches;") (List.mem_of_getElem? (i := 2) rfl)
  have hwX9 : ∀ w ∈ wsX90, w ∈ wsX9_light := fun _ h => List.mem_cons_of_mem _ (List.mem_append_left _ (List.mem_append_left _ (List.mem_append_left _ (List.mem_append_right _ h))))
  have hl := lv_entry ([.ref x0, .int x1, .int x2]) (n := 3) (Nat.le_of_ble_eq_true rfl)
  rw [lg_entry_eq]
  generalize (lg_sl ([.ref x0, .int x1, .int x2]) ++ List.replicate (3 - (lg_sl ([.ref x0, .int x1, .int x2])).length) Slot.unset).toArray = ls at hl ⊢
  have hl : lv_has ls 3 [(0, .ref x0), (1, .int x1), (2, .int x2)] := hl
  obtain ⟨QQ, hQQ⟩ : ∃ QQ : State → Prop, QQ = MQ below (kQi D (fun (r : Int32) (u : (Nat → Int32) × (Nat → Int32) × (Nat → Int32) × (Nat → Int32) × (Nat → Int32)) => r = sp_light C T x1 x2 ∧ True) (fun u : (Nat → Int32) × (Nat → Int32) × (Nat → Int32) × (Nat → Int32) × (Nat → Int32) => [(x0, .inr (8, [.ref g0, .ref q0, .ref e0, .ref t0, .ref r0, .ref h0, .ref i0, .ref z0, .ref y0, .int tr, .int ft])), (g0, .inr (1, [.int (nI (cSp C)), .int (nI (cLa C)), .int (nI (cAg C)), .ref g1, .ref g2, .ref g3, .ref g4, .ref g5])), (g1, .inl (cI, 6, .inl sk)), (g2, .inl (cI, 4, .inl sh)), (g3, .inl (cI, 4, .inl ki)), (g4, .inl (cI, 4, .inl st)), (g5, .inl (cI, 4, .inl cl)), (e0, .inr (0, [.int (nI (mN T)), .ref e1, .ref e2, .ref e3])), (e1, .inl (cI, 8, .inl wf)), (e2, .inl (cI, 8, .inl tf)), (e3, .inl (cI, 8, .inl vf)), (h0, .inr (7, [.ref h1, .ref h2, .ref h3, .ref h4, .ref h5])), (h1, .inl (cI, 96, .inl u.1)), (h2, .inl (cI, 96, .inl u.2.1)), (h3, .inl (cI, 96, .inl u.2.2.1)), (h4, .inl (cI, 96, .inl u.2.2.2.1)), (h5, .inl (cI, 96, .inl u.2.2.2.2))]) A) ([.ref x0, .int x1, .int x2]).toArray sS 0 0 A := ⟨_, rfl⟩
  refine kk_QQ hQQ.symm ?_
  obtain ⟨hX1, hX2, hX3, hX4⟩ := okX_le hX
  refine lv_aload_n hx hb dX9_light_0 rfl (lv_at hl 0 rfl) ?_
  refine va_get (D := D) (ci := 8) (v := .ref g0) (C := RX9) (T := TX9) (N := 11) hx hb hts hwX9 hown hK hP 0 rfl rfl 0 (by decide) hf_14 (fun _ h9 => h9) rfl dX9_light_1 ?_
  refine lv_iload_n hx hb dX9_light_4 rfl (lv_at hl 1 rfl) ?_
  have o_1 : (cSp C) ≤ 4 := by omega
  refine vp_callSi (W.runV (As := [.int x1]) (rest := []) ⟨hx, hb, hml, hown, hts⟩ (c_X2_hasSpot lL D cI cS g0 (cSp C) (cLa C) (.int (nI (cAg C))) (.ref g1) (.ref g2) (.ref g3) (.ref g4) (.ref g5) x1 o_1) (cwV 1 hts gX9_light_X2_hasSpot rfl rfl rfl cd_X2_hasSpot ⟨Nat.le_of_ble_eq_true rfl, Nat.le_of_ble_eq_true rfl⟩) ⟨kBp_blind, va_recv hK hP (ci := 1) (q0 := 1) rfl rfl, fun U hU hW => ⟨rfl, by rw [hU]; exact hP.sub [1] rfl, va_K.moved hW.alike hK⟩⟩ rfl rfl hl.1 rfl (lv_room (Nat.le_of_ble_eq_true rfl)) dX9_light_5 ⟨Nat.le_of_ble_eq_true rfl, Nat.le_of_ble_eq_true rfl⟩) (fun r_2 hw_2 => ?_)
  obtain rfl : r_2 = kb (inB x1 (cSp C)) := hw_2
  -- if (inB x1 (cSp C))
  refine kk_ifb_ne (tgt := 13) hx hb dX9_light_8 (by decide) (fun hb_3 => ?_) (fun hb_3 => ?_)
  · skip
    obtain ⟨x1N, hx1N, rfl⟩ := inB_t hb_3
    have t_x1 := nI_clamp (show x1N < 2 ^ 31 by omega)
    refine lv_iload_n hx hb dX9_light_13 rfl (lv_at hl 2 rfl) ?_
    refine vp_callSi (W.runS (As := [.int x2]) (rest := []) ⟨hx, hb, hml, hown, hts⟩ (c_X9_isWatch lL D cI cS x2) (va_cwS 1 hts gX9_light_X9_isWatch rfl rfl rfl cd_X9_isWatch ⟨Nat.le_of_ble_eq_true rfl, Nat.le_of_ble_eq_true rfl⟩) ⟨kBp_blind, fun U hU hW => ⟨rfl, by rw [hU]; exact hP.sub [] rfl, va_K.moved hW.alike hK⟩⟩ rfl rfl hl.1 rfl (lv_room (Nat.le_of_ble_eq_true rfl)) dX9_light_14 ⟨Nat.le_of_ble_eq_true rfl, Nat.le_of_ble_eq_true rfl⟩) (fun r_4 hw_4 => ?_)
    obtain rfl : r_4 = kb (inB x2 24) := hw_4
    -- if (inB x2 24)
    refine kk_ifb_ne (tgt := 23) hx hb dX9_light_17 (by decide) (fun hb_5 => ?_) (fun hb_5 => ?_)
    · skip
      obtain ⟨x2N, hx2N, rfl⟩ := inB_t hb_5
      have t_x2 := nI_clamp (show x2N < 2 ^ 31 by omega)
      refine lv_aload_n hx hb dX9_light_23 rfl (lv_at hl 0 rfl) ?_
      refine va_get (D := D) (ci := 8) (v := .ref h0) (C := RX9) (T := TX9) (N := 11) hx hb hts hwX9 hown hK hP 0 rfl rfl 5 (by decide) hf_37 (fun _ h9 => h9) rfl dX9_light_24 ?_
      refine lv_aload_n hx hb dX9_light_27 rfl (lv_at hl 0 rfl) ?_
      refine va_get (D := D) (ci := 8) (v := .ref g0) (C := RX9) (T := TX9) (N := 11) hx hb hts hwX9 hown hK hP 0 rfl rfl 0 (by decide) hf_14 (fun _ h9 => h9) rfl dX9_light_28 ?_
      refine lv_aload_n hx hb dX9_light_31 rfl (lv_at hl 0 rfl) ?_
      refine va_get (D := D) (ci := 8) (v := .ref e0) (C := RX9) (T := TX9) (N := 11) hx hb hts hwX9 hown hK hP 0 rfl rfl 2 (by decide) hf_24 (fun _ h9 => h9) rfl dX9_light_32 ?_
      obtain ⟨hC, hM, hE⟩ := okX_sp hX hx1N
      have o_6 : okC C := by assumption
      have o_7 : okM C T := by assumption
      have o_8 : repC C sk sh ki st cl := by assumption
      have o_9 : repM T wf tf vf := by assumption
      have hF := va_free (wc := [(h0, .inr (7, [.ref h1, .ref h2, .ref h3, .ref h4, .ref h5])), (h1, .inl (cI, 96, .inl pA)), (h2, .inl (cI, 96, .inl gA)), (h3, .inl (cI, 96, .inl fA)), (h4, .inl (cI, 96, .inl dA)), (h5, .inl (cI, 96, .inl lA)), (g0, .inr (1, [.int (nI (cSp C)), .int (nI (cLa C)), .int (nI (cAg C)), .ref g1, .ref g2, .ref g3, .ref g4, .ref g5])), (g1, .inl (cI, 6, .inl sk)), (g2, .inl (cI, 4, .inl sh)), (g3, .inl (cI, 4, .inl ki)), (g4, .inl (cI, 4, .inl st)), (g5, .inl (cI, 4, .inl cl)), (e0, .inr (0, [.int (nI (mN T)), .ref e1, .ref e2, .ref e3])), (e1, .inl (cI, 8, .inl wf)), (e2, .inl (cI, 8, .inl tf)), (e3, .inl (cI, 8, .inl vf))]) hD hS hA [11, 12, 13, 14, 15, 16, 1, 2, 3, 4, 5, 6, 7, 8, 9, 10] rfl
      refine va_callv (va_runV (As := [.ref g0, .ref e0]) (rest := []) ⟨hx, hb, hml, hown, hts⟩ (c_X8_reckon lL D cI cS _ C T h0 h1 h2 h3 h4 h5 g0 g1 g2 g3 g4 g5 e0 e1 e2 e3 wf tf vf pA gA fA dA lA sk sh ki st cl o_6 o_7 o_8 o_9) (cwV 2 hts gX9_light_X8_reckon rfl rfl rfl cd_X8_reckon ⟨Nat.le_of_ble_eq_true rfl, Nat.le_of_ble_eq_true rfl⟩) ⟨kB_blind, va_recv hK hP (ci := 7) (q0 := 11) rfl rfl, fun U hU hW => ⟨rfl, by rw [hU], by rw [hU]; exact hP.sub [11, 12, 13, 14, 15, 16, 1, 2, 3, 4, 5, 6, 7, 8, 9, 10] rfl, va_K.moved hW.alike hK, (hD.sub [11, 12, 13, 14, 15, 16, 1, 2, 3, 4, 5, 6, 7, 8, 9, 10] (by decide) rfl).weaken (fun _ _ _ _ => trivial)⟩⟩ rfl rfl hl.1 rfl (lv_room (Nat.le_of_ble_eq_true rfl)) dX9_light_35 ⟨Nat.le_of_ble_eq_true rfl, Nat.le_of_ble_eq_true rfl⟩) hS (fun q _ h => hF q h) hF (fun u_10 t H1 locs ht hvm hw_10 hB hz1 hk1 hS => ?_)
      obtain ⟨pp_10, gg_10, ff_10, dd_10, ll_10⟩ := u_10
      obtain ⟨hP, hD⟩ := kk_join2 (wc := [(h0, .inr (7, [.ref h1, .ref h2, .ref h3, .ref h4, .ref h5])), (h1, .inl (cI, 96, .inl pA)), (h2, .inl (cI, 96, .inl gA)), (h3, .inl (cI, 96, .inl fA)), (h4, .inl (cI, 96, .inl dA)), (h5, .inl (cI, 96, .inl lA)), (g0, .inr (1, [.int (nI (cSp C)), .int (nI (cLa C)), .int (nI (cAg C)), .ref g1, .ref g2, .ref g3, .ref g4, .ref g5])), (g1, .inl (cI, 6, .inl sk)), (g2, .inl (cI, 4, .inl sh)), (g3, .inl (cI, 4, .inl ki)), (g4, .inl (cI, 4, .inl st)), (g5, .inl (cI, 4, .inl cl)), (e0, .inr (0, [.int (nI (mN T)), .ref e1, .ref e2, .ref e3])), (e1, .inl (cI, 8, .inl wf)), (e2, .inl (cI, 8, .inl tf)), (e3, .inl (cI, 8, .inl vf))]) (w1 := [(h0, .inr (7, [.ref h1, .ref h2, .ref h3, .ref h4, .ref h5])), (h1, .inl (cI, 96, .inl pp_10)), (h2, .inl (cI, 96, .inl gg_10)), (h3, .inl (cI, 96, .inl ff_10)), (h4, .inl (cI, 96, .inl dd_10)), (h5, .inl (cI, 96, .inl ll_10)), (g0, .inr (1, [.int (nI (cSp C)), .int (nI (cLa C)), .int (nI (cAg C)), .ref g1, .ref g2, .ref g3, .ref g4, .ref g5])), (g1, .inl (cI, 6, .inl sk)), (g2, .inl (cI, 4, .inl sh)), (g3, .inl (cI, 4, .inl ki)), (g4, .inl (cI, 4, .inl st)), (g5, .inl (cI, 4, .inl cl)), (e0, .inr (0, [.int (nI (mN T)), .ref e1, .ref e2, .ref e3])), (e1, .inl (cI, 8, .inl wf)), (e2, .inl (cI, 8, .inl tf)), (e3, .inl (cI, 8, .inl vf))]) (ws' := [(x0, .inr (8, [.ref g0, .ref q0, .ref e0, .ref t0, .ref r0, .ref h0, .ref i0, .ref z0, .ref y0, .int tr, .int ft])), (g0, .inr (1, [.int (nI (cSp C)), .int (nI (cLa C)), .int (nI (cAg C)), .ref g1, .ref g2, .ref g3, .ref g4, .ref g5])), (g1, .inl (cI, 6, .inl sk)), (g2, .inl (cI, 4, .inl sh)), (g3, .inl (cI, 4, .inl ki)), (g4, .inl (cI, 4, .inl st)), (g5, .inl (cI, 4, .inl cl)), (e0, .inr (0, [.int (nI (mN T)), .ref e1, .ref e2, .ref e3])), (e1, .inl (cI, 8, .inl wf)), (e2, .inl (cI, 8, .inl tf)), (e3, .inl (cI, 8, .inl vf)), (h0, .inr (7, [.ref h1, .ref h2, .ref h3, .ref h4, .ref h5])), (h1, .inl (cI, 96, .inl pp_10)), (h2, .inl (cI, 96, .inl gg_10)), (h3, .inl (cI, 96, .inl ff_10)), (h4, .inl (cI, 96, .inl dd_10)), (h5, .inl (cI, 96, .inl ll_10))]) (wr := [(x0, .inr (8, [.ref g0, .ref q0, .ref e0, .ref t0, .ref r0, .ref h0, .ref i0, .ref z0, .ref y0, .int tr, .int ft]))]) (H1 := H1) hP hD [11, 12, 13, 14, 15, 16, 1, 2, 3, 4, 5, 6, 7, 8, 9, 10] [0] rfl rfl rfl rfl 17 rfl (by decide) [x0, g0, g1, g2, g3, g4, g5, e0, e1, e2, e3, h0, h1, h2, h3, h4, h5] rfl rfl hk1 (by rw [← ht]; exact hB)
      have hw_10 : tP C (plc T (cSt C)) pp_10 0 24 ∧ tG C (plc T (cSt C)) gg_10 0 24 ∧ tF C (plc T (cSt C)) ff_10 0 24 ∧ tD C dd_10 0 24 ∧ tL C (plc T (cSt C)) ll_10 0 24 := hw_10
      clear hF hB hk1 hz1 hvm
      clear ht
      generalize H1 = H at hP hS ⊢
      obtain ⟨tP1, tG1, tF1, tD1, tL1⟩ := hw_10
      refine lv_aload_n hx hb dX9_light_38 rfl (lv_at hl 0 rfl) ?_
      refine va_get (D := D) (ci := 8) (v := .ref h0) (C := RX9) (T := TX9) (N := 11) hx hb hts hwX9 hown hK hP 0 rfl rfl 5 (by decide) hf_37 (fun _ h9 => h9) rfl dX9_light_39 ?_
      refine lv_iload_n hx hb dX9_light_42 rfl (lv_at hl 1 rfl) ?_
      refine lv_iload_n hx hb dX9_light_43 rfl (lv_at hl 2 rfl) ?_
      have o_11 : x1N < 4 := by omega
      have o_12 : x2N < 24 := by omega
      refine vp_callSi (W.runV (As := [.int (nI x1N), .int (nI x2N)]) (rest := []) ⟨hx, hb, hml, hown, hts⟩ (c_X8_lightOf lL D cI cS h0 h1 h2 h3 h4 h5 ll_10 x1N x2N o_11 o_12) (cwV 2 hts gX9_light_X8_lightOf rfl rfl rfl cd_X8_lightOf ⟨Nat.le_of_ble_eq_true rfl, Nat.le_of_ble_eq_true rfl⟩) ⟨kBp_blind, va_recv hK hP (ci := 7) (q0 := 11) rfl rfl, fun U hU hW => ⟨rfl, by rw [hU]; exact hP.sub [11, 16] rfl, va_K.moved hW.alike hK⟩⟩ rfl rfl hl.1 rfl (lv_room (Nat.le_of_ble_eq_true rfl)) dX9_light_44 ⟨Nat.le_of_ble_eq_true rfl, Nat.le_of_ble_eq_true rfl⟩) (fun r_13 hw_13 => ?_)
      obtain rfl : r_13 = ll_10 (x2N * 4 + x1N) := hw_13
      refine kk_top (y := nI (Li C (plT C T) x1N x2N)) (tL1 x2N (by omega) (by omega) x1N hx1N) ?_
      have hq : (nI (Li C (plT C T) x1N x2N)) = sp_light C T (nI x1N) (nI x2N) ∧ True := by
        refine ⟨?_, trivial⟩
        simp only [sp_light, hb_3, hb_5, t_x1, t_x2, cond_true, cond_false]
      refine kk_QQ hQQ ?_
      exact W.iret (v := nI (Li C (plT C T) x1N x2N)) hx hb hr (fun t ht hW => ⟨⟨nI (Li C (plT C T) x1N x2N), (pp_10, gg_10, ff_10, dd_10, ll_10), rfl, hq, by show va_P D vwCl _ t.heap; rw [ht]; exact hP⟩, hS.F ht⟩) hS.2.2 dX9_light_47
    · skip
      refine lv_bipush (v := (-2 : Int32)) hx hb dX9_light_20 (by decide +kernel) ?_
      have hq : (-2 : Int32) = sp_light C T (nI x1N) x2 ∧ True := by
        refine ⟨?_, trivial⟩
        simp only [sp_light, hb_3, hb_5, t_x1, cond_true, cond_false]
      refine kk_QQ hQQ ?_
      exact W.iret (v := (-2 : Int32)) hx hb hr (fun t ht hW => ⟨⟨(-2 : Int32), (pA, gA, fA, dA, lA), rfl, hq, by show va_P D vwCl _ t.heap; rw [ht]; exact hP⟩, hS.F ht⟩) hS.2.2 dX9_light_22
  · skip
    refine lv_iconst (v := (-1 : Int32)) hx hb dX9_light_11 (by decide +kernel) ?_
    have hq : (-1 : Int32) = sp_light C T x1 x2 ∧ True := by
      refine ⟨?_, trivial⟩
      simp only [sp_light, hb_3, cond_true, cond_false]
    refine kk_QQ hQQ ?_
    exact W.iret (v := (-1 : Int32)) hx hb hr (fun t ht hW => ⟨⟨(-1 : Int32), (pA, gA, fA, dA, lA), rfl, hq, by show va_P D vwCl _ t.heap; rw [ht]; exact hP⟩, hS.F ht⟩) hS.2.2 dX9_light_12

abbrev rmX9_dark : Room := { frames := 4, cells := 0, slots := 0, locals := 114 }
set_option maxHeartbeats 4000000 in
set_option maxRecDepth 100000 in
theorem c_X9_dark (lL : Launch) (D : va_G) (cI cS : ClassId) (sz : Nat) (C : Co) (T : Mv) (E : Mv) (x0 : Nat) (g0 : Nat) (q0 : Nat) (e0 : Nat) (t0 : Nat) (r0 : Nat) (h0 : Nat) (i0 : Nat) (z0 : Nat) (y0 : Nat) (tr : Int32) (ft : Int32) (x1 : Int32) (x2 : Int32) (x3 : Int32) (g1 : Nat) (g2 : Nat) (g3 : Nat) (g4 : Nat) (g5 : Nat) (sk : Nat → Int32) (sh : Nat → Int32) (ki : Nat → Int32) (st : Nat → Int32) (cl : Nat → Int32) (e1 : Nat) (e2 : Nat) (e3 : Nat) (wf : Nat → Int32) (tf : Nat → Int32) (vf : Nat → Int32) (h1 : Nat) (h2 : Nat) (h3 : Nat) (h4 : Nat) (h5 : Nat) (pA : Nat → Int32) (gA : Nat → Int32) (fA : Nat → Int32) (dA : Nat → Int32) (lA : Nat → Int32) (hrC : repC C sk sh ki st cl) (hrM : repM T wf tf vf) (hX : okX C T E) : Met lL yX9_dark wsX9_dark rmX9_dark (va_Pc [.ref x0, .int x1, .int x2, .int x3] (kB D cI cS [(x0, .inr (8, [.ref g0, .ref q0, .ref e0, .ref t0, .ref r0, .ref h0, .ref i0, .ref z0, .ref y0, .int tr, .int ft])), (g0, .inr (1, [.int (nI (cSp C)), .int (nI (cLa C)), .int (nI (cAg C)), .ref g1, .ref g2, .ref g3, .ref g4, .ref g5])), (g1, .inl (cI, 6, .inl sk)), (g2, .inl (cI, 4, .inl sh)), (g3, .inl (cI, 4, .inl ki)), (g4, .inl (cI, 4, .inl st)), (g5, .inl (cI, 4, .inl cl)), (e0, .inr (0, [.int (nI (mN T)), .ref e1, .ref e2, .ref e3])), (e1, .inl (cI, 8, .inl wf)), (e2, .inl (cI, 8, .inl tf)), (e3, .inl (cI, 8, .inl vf)), (h0, .inr (7, [.ref h1, .ref h2, .ref h3, .ref h4, .ref h5])), (h1, .inl (cI, 96, .inl pA)), (h2, .inl (cI, 96, .inl gA)), (h3, .inl (cI, 96, .inl fA)), (h4, .inl (cI, 96, .inl dA)), (h5, .inl (cI, 96, .inl lA))] sz)) (kQi D (fun (r : Int32) (u : (Nat → Int32) × (Nat → Int32) × (Nat → Int32) × (Nat → Int32) × (Nat → Int32)) => r = sp_dark C T x1 x2 x3 ∧ True) (fun u : (Nat → Int32) × (Nat → Int32) × (Nat → Int32) × (Nat → Int32) × (Nat → Int32) => [(x0, .inr (8, [.ref g0, .ref q0, .ref e0, .ref t0, .ref r0, .ref h0, .ref i0, .ref z0, .ref y0, .int tr, .int ft])), (g0, .inr (1, [.int (nI (cSp C)), .int (nI (cLa C)), .int (nI (cAg C)), .ref g1, .ref g2, .ref g3, .ref g4, .ref g5])), (g1, .inl (cI, 6, .inl sk)), (g2, .inl (cI, 4, .inl sh)), (g3, .inl (cI, 4, .inl ki)), (g4, .inl (cI, 4, .inl st)), (g5, .inl (cI, 4, .inl cl)), (e0, .inr (0, [.int (nI (mN T)), .ref e1, .ref e2, .ref e3])), (e1, .inl (cI, 8, .inl wf)), (e2, .inl (cI, 8, .inl tf)), (e3, .inl (cI, 8, .inl vf)), (h0, .inr (7, [.ref h1, .ref h2, .ref h3, .ref h4, .ref h5])), (h1, .inl (cI, 96, .inl u.1)), (h2, .inl (cI, 96, .inl u.2.1)), (h3, .inl (cI, 96, .inl u.2.2.1)), (h4, .inl (cI, 96, .inl u.2.2.2.1)), (h5, .inl (cI, 96, .inl u.2.2.2.2))]) (va_A [(x0, .inr (8, [.ref g0, .ref q0, .ref e0, .ref t0, .ref r0, .ref h0, .ref i0, .ref z0, .ref y0, .int tr, .int ft])), (g0, .inr (1, [.int (nI (cSp C)), .int (nI (cLa C)), .int (nI (cAg C)), .ref g1, .ref g2, .ref g3, .ref g4, .ref g5])), (g1, .inl (cI, 6, .inl sk)), (g2, .inl (cI, 4, .inl sh)), (g3, .inl (cI, 4, .inl ki)), (g4, .inl (cI, 4, .inl st)), (g5, .inl (cI, 4, .inl cl)), (e0, .inr (0, [.int (nI (mN T)), .ref e1, .ref e2, .ref e3])), (e1, .inl (cI, 8, .inl wf)), (e2, .inl (cI, 8, .inl tf)), (e3, .inl (cI, 8, .inl vf)), (h0, .inr (7, [.ref h1, .ref h2, .ref h3, .ref h4, .ref h5])), (h1, .inl (cI, 96, .inl pA)), (h2, .inl (cI, 96, .inl gA)), (h3, .inl (cI, 96, .inl fA)), (h4, .inl (cI, 96, .inl dA)), (h5, .inl (cI, 96, .inl lA))] sz)) 0 0 (va_A [(x0, .inr (8, [.ref g0, .ref q0, .ref e0, .ref t0, .ref r0, .ref h0, .ref i0, .ref z0, .ref y0, .int tr, .int ft])), (g0, .inr (1, [.int (nI (cSp C)), .int (nI (cLa C)), .int (nI (cAg C)), .ref g1, .ref g2, .ref g3, .ref g4, .ref g5])), (g1, .inl (cI, 6, .inl sk)), (g2, .inl (cI, 4, .inl sh)), (g3, .inl (cI, 4, .inl ki)), (g4, .inl (cI, 4, .inl st)), (g5, .inl (cI, 4, .inl cl)), (e0, .inr (0, [.int (nI (mN T)), .ref e1, .ref e2, .ref e3])), (e1, .inl (cI, 8, .inl wf)), (e2, .inl (cI, 8, .inl tf)), (e3, .inl (cI, 8, .inl vf)), (h0, .inr (7, [.ref h1, .ref h2, .ref h3, .ref h4, .ref h5])), (h1, .inl (cI, 96, .inl pA)), (h2, .inl (cI, 96, .inl gA)), (h3, .inl (cI, 96, .inl fA)), (h4, .inl (cI, 96, .inl dA)), (h5, .inl (cI, 96, .inl lA))] sz) := by
  refine Met.ofW (cc := cX9_dark) (maxL := 5) (ret := (some .int)) (by decide) rfl ?_
  intro pP eE sS mM args below meth cC s₁ B hml hv
  obtain ⟨rfl, hsz, hP, hK, hD0⟩ := hv
  have hx := B.exec
  have hb := B.bytes
  have hr := B.returns
  have hts := atoms_spec (ws := wsX9_dark) B.pre
  have hown : sS.vm.findClass RX9 = some mM.cls := findClass_of_methodNamed B.named
  have hlocks := B.notSynchronized
  subst hsz
  have hD := hD0.self (sz := sS.heap.size)
  generalize hAe : va_A [(x0, .inr (8, [.ref g0, .ref q0, .ref e0, .ref t0, .ref r0, .ref h0, .ref i0, .ref z0, .ref y0, .int tr, .int ft])), (g0, .inr (1, [.int (nI (cSp C)), .int (nI (cLa C)), .int (nI (cAg C)), .ref g1, .ref g2, .ref g3, .ref g4, .ref g5])), (g1, .inl (cI, 6, .inl sk)), (g2, .inl (cI, 4, .inl sh)), (g3, .inl (cI, 4, .inl ki)), (g4, .inl (cI, 4, .inl st)), (g5, .inl (cI, 4, .inl cl)), (e0, .inr (0, [.int (nI (mN T)), .ref e1, .ref e2, .ref e3])), (e1, .inl (cI, 8, .inl wf)), (e2, .inl (cI, 8, .inl tf)), (e3, .inl (cI, 8, .inl vf)), (h0, .inr (7, [.ref h1, .ref h2, .ref h3, .ref h4, .ref h5])), (h1, .inl (cI, 96, .inl pA)), (h2, .inl (cI, 96, .inl gA)), (h3, .inl (cI, 96, .inl fA)), (h4, .inl (cI, 96, .inl dA)), (h5, .inl (cI, 96, .inl lA))] sS.heap.size = A at hD ⊢
  have hA : ∀ q : Nat, sS.heap.size ≤ q → A q := fun q h => by rw [← hAe]; exact Or.inr h
  have hS : va_S A sS.heap sS.heap [] := va_S.rf
  have hP : va_P D vwCl [(x0, .inr (8, [.ref g0, .ref q0, .ref e0, .ref t0, .ref r0, .ref h0, .ref i0, .ref z0, .ref y0, .int tr, .int ft])), (g0, .inr (1, [.int (nI (cSp C)), .int (nI (cLa C)), .int (nI (cAg C)), .ref g1, .ref g2, .ref g3, .ref g4, .ref g5])), (g1, .inl (cI, 6, .inl sk)), (g2, .inl (cI, 4, .inl sh)), (g3, .inl (cI, 4, .inl ki)), (g4, .inl (cI, 4, .inl st)), (g5, .inl (cI, 4, .inl cl)), (e0, .inr (0, [.int (nI (mN T)), .ref e1, .ref e2, .ref e3])), (e1, .inl (cI, 8, .inl wf)), (e2, .inl (cI, 8, .inl tf)), (e3, .inl (cI, 8, .inl vf)), (h0, .inr (7, [.ref h1, .ref h2, .ref h3, .ref h4, .ref h5])), (h1, .inl (cI, 96, .inl pA)), (h2, .inl (cI, 96, .inl gA)), (h3, .inl (cI, 96, .inl fA)), (h4, .inl (cI, 96, .inl dA)), (h5, .inl (cI, 96, .inl lA))] sS.heap := hP
  have hD : va_D A [(x0, .inr (8, [.ref g0, .ref q0, .ref e0, .ref t0, .ref r0, .ref h0, .ref i0, .ref z0, .ref y0, .int tr, .int ft])), (g0, .inr (1, [.int (nI (cSp C)), .int (nI (cLa C)), .int (nI (cAg C)), .ref g1, .ref g2, .ref g3, .ref g4, .ref g5])), (g1, .inl (cI, 6, .inl sk)), (g2, .inl (cI, 4, .inl sh)), (g3, .inl (cI, 4, .inl ki)), (g4, .inl (cI, 4, .inl st)), (g5, .inl (cI, 4, .inl cl)), (e0, .inr (0, [.int (nI (mN T)), .ref e1, .ref e2, .ref e3])), (e1, .inl (cI, 8, .inl wf)), (e2, .inl (cI, 8, .inl tf)), (e3, .inl (cI, 8, .inl vf)), (h0, .inr (7, [.ref h1, .ref h2, .ref h3, .ref h4, .ref h5])), (h1, .inl (cI, 96, .inl pA)), (h2, .inl (cI, 96, .inl gA)), (h3, .inl (cI, 96, .inl fA)), (h4, .inl (cI, 96, .inl dA)), (h5, .inl (cI, 96, .inl lA))] := hD
  have hf_14 := hts (.fieldLink RX9 14 "OldLamps" "ground" "LOldLamps$Ground;") (List.mem_of_getElem? (i := 1) rfl)
  have hf_24 := hts (.fieldLink RX9 24 "OldLamps" "told" "LOldLamps$Entries;") (List.mem_of_getElem? (i := 3) rfl)
  have hf_37 := hts (.fieldLink RX9 37 "OldLamps" "now" "LOldLamps$Watches;") (List.mem_of_getElem? (i := 2) rfl)
  have hwX9 : ∀ w ∈ wsX90, w ∈ wsX9_dark := fun _ h => List.mem_cons_of_mem _ (List.mem_append_left _ (List.mem_append_left _ (List.mem_append_left _ (List.mem_append_right _ h))))
  have hl := lv_entry ([.ref x0, .int x1, .int x2, .int x3]) (n := 5) (Nat.le_of_ble_eq_true rfl)
  rw [lg_entry_eq]
  generalize (lg_sl ([.ref x0, .int x1, .int x2, .int x3]) ++ List.replicate (5 - (lg_sl ([.ref x0, .int x1, .int x2, .int x3])).length) Slot.unset).toArray = ls at hl ⊢
  have hl : lv_has ls 5 [(0, .ref x0), (1, .int x1), (2, .int x2), (3, .int x3)] := hl
  obtain ⟨QQ, hQQ⟩ : ∃ QQ : State → Prop, QQ = MQ below (kQi D (fun (r : Int32) (u : (Nat → Int32) × (Nat → Int32) × (Nat → Int32) × (Nat → Int32) × (Nat → Int32)) => r = sp_dark C T x1 x2 x3 ∧ True) (fun u : (Nat → Int32) × (Nat → Int32) × (Nat → Int32) × (Nat → Int32) × (Nat → Int32) => [(x0, .inr (8, [.ref g0, .ref q0, .ref e0, .ref t0, .ref r0, .ref h0, .ref i0, .ref z0, .ref y0, .int tr, .int ft])), (g0, .inr (1, [.int (nI (cSp C)), .int (nI (cLa C)), .int (nI (cAg C)), .ref g1, .ref g2, .ref g3, .ref g4, .ref g5])), (g1, .inl (cI, 6, .inl sk)), (g2, .inl (cI, 4, .inl sh)), (g3, .inl (cI, 4, .inl ki)), (g4, .inl (cI, 4, .inl st)), (g5, .inl (cI, 4, .inl cl)), (e0, .inr (0, [.int (nI (mN T)), .ref e1, .ref e2, .ref e3])), (e1, .inl (cI, 8, .inl wf)), (e2, .inl (cI, 8, .inl tf)), (e3, .inl (cI, 8, .inl vf)), (h0, .inr (7, [.ref h1, .ref h2, .ref h3, .ref h4, .ref h5])), (h1, .inl (cI, 96, .inl u.1)), (h2, .inl (cI, 96, .inl u.2.1)), (h3, .inl (cI, 96, .inl u.2.2.1)), (h4, .inl (cI, 96, .inl u.2.2.2.1)), (h5, .inl (cI, 96, .inl u.2.2.2.2))]) A) ([.ref x0, .int x1, .int x2, .int x3]).toArray sS 0 0 A := ⟨_, rfl⟩
  refine kk_QQ hQQ.symm ?_
  obtain ⟨hX1, hX2, hX3, hX4⟩ := okX_le hX
  refine lv_aload_n hx hb dX9_dark_0 rfl (lv_at hl 0 rfl) ?_
  refine va_get (D := D) (ci := 8) (v := .ref g0) (C := RX9) (T := TX9) (N := 11) hx hb hts hwX9 hown hK hP 0 rfl rfl 0 (by decide) hf_14 (fun _ h9 => h9) rfl dX9_dark_1 ?_
  refine lv_iload_n hx hb dX9_dark_4 rfl (lv_at hl 1 rfl) ?_
  have o_1 : (cSp C) ≤ 4 := by omega
  refine vp_callSi (W.runV (As := [.int x1]) (rest := []) ⟨hx, hb, hml, hown, hts⟩ (c_X2_hasSpot lL D cI cS g0 (cSp C) (cLa C) (.int (nI (cAg C))) (.ref g1) (.ref g2) (.ref g3) (.ref g4) (.ref g5) x1 o_1) (cwV 1 hts gX9_dark_X2_hasSpot rfl rfl rfl cd_X2_hasSpot ⟨Nat.le_of_ble_eq_true rfl, Nat.le_of_ble_eq_true rfl⟩) ⟨kBp_blind, va_recv hK hP (ci := 1) (q0 := 1) rfl rfl, fun U hU hW => ⟨rfl, by rw [hU]; exact hP.sub [1] rfl, va_K.moved hW.alike hK⟩⟩ rfl rfl hl.1 rfl (lv_room (Nat.le_of_ble_eq_true rfl)) dX9_dark_5 ⟨Nat.le_of_ble_eq_true rfl, Nat.le_of_ble_eq_true rfl⟩) (fun r_2 hw_2 => ?_)
  obtain rfl : r_2 = kb (inB x1 (cSp C)) := hw_2
  -- if (inB x1 (cSp C))
  refine kk_ifb_ne (tgt := 13) hx hb dX9_dark_8 (by decide) (fun hb_3 => ?_) (fun hb_3 => ?_)
  · skip
    obtain ⟨x1N, hx1N, rfl⟩ := inB_t hb_3
    have t_x1 := nI_clamp (show x1N < 2 ^ 31 by omega)
    refine lv_iload_n hx hb dX9_dark_13 rfl (lv_at hl 2 rfl) ?_
    refine vp_callSi (W.runS (As := [.int x2]) (rest := []) ⟨hx, hb, hml, hown, hts⟩ (c_X9_isWatch lL D cI cS x2) (va_cwS 1 hts gX9_dark_X9_isWatch rfl rfl rfl cd_X9_isWatch ⟨Nat.le_of_ble_eq_true rfl, Nat.le_of_ble_eq_true rfl⟩) ⟨kBp_blind, fun U hU hW => ⟨rfl, by rw [hU]; exact hP.sub [] rfl, va_K.moved hW.alike hK⟩⟩ rfl rfl hl.1 rfl (lv_room (Nat.le_of_ble_eq_true rfl)) dX9_dark_14 ⟨Nat.le_of_ble_eq_true rfl, Nat.le_of_ble_eq_true rfl⟩) (fun r_4 hw_4 => ?_)
    obtain rfl : r_4 = kb (inB x2 24) := hw_4
    -- if (inB x2 24)
    refine kk_ifb_eq (tgt := 31) hx hb dX9_dark_17 (by decide) (fun hb_5 => ?_) (fun hb_5 => ?_)
    · skip
      refine lv_bipush (v := (-2 : Int32)) hx hb dX9_dark_31 (by decide +kernel) ?_
      have hq : (-2 : Int32) = sp_dark C T (nI x1N) x2 x3 ∧ True := by
        refine ⟨?_, trivial⟩
        simp only [sp_dark, hb_3, hb_5, t_x1, cond_true, cond_false]
      refine kk_QQ hQQ ?_
      exact W.iret (v := (-2 : Int32)) hx hb hr (fun t ht hW => ⟨⟨(-2 : Int32), (pA, gA, fA, dA, lA), rfl, hq, by show va_P D vwCl _ t.heap; rw [ht]; exact hP⟩, hS.F ht⟩) hS.2.2 dX9_dark_33
    · skip
      obtain ⟨x2N, hx2N, rfl⟩ := inB_t hb_5
      have t_x2 := nI_clamp (show x2N < 2 ^ 31 by omega)
      refine lv_iload_n hx hb dX9_dark_20 rfl (lv_at hl 3 rfl) ?_
      refine lv_iconst (v := nI 0) hx hb dX9_dark_21 (by decide +kernel) ?_
      refine lv_sipush (v := nI 999) hx hb dX9_dark_22 (by decide +kernel) ?_
      have o_6 : 0 < 2 ^ 31 := by omega
      have o_7 : 999 < 2 ^ 31 := by omega
      refine vp_callSi (W.runS (As := [.int x3, .int (nI 0), .int (nI 999)]) (rest := []) ⟨hx, hb, hml, hown, hts⟩ (c_X9_isWithin lL D cI cS x3 0 999 o_6 o_7) (va_cwS 3 hts gX9_dark_X9_isWithin rfl rfl rfl cd_X9_isWithin ⟨Nat.le_of_ble_eq_true rfl, Nat.le_of_ble_eq_true rfl⟩) ⟨kBp_blind, fun U hU hW => ⟨rfl, by rw [hU]; exact hP.sub [] rfl, va_K.moved hW.alike hK⟩⟩ rfl rfl hl.1 rfl (lv_room (Nat.le_of_ble_eq_true rfl)) dX9_dark_25 ⟨Nat.le_of_ble_eq_true rfl, Nat.le_of_ble_eq_true rfl⟩) (fun r_8 hw_8 => ?_)
      obtain rfl : r_8 = kb (wB x3 0 999) := hw_8
      -- if (wB x3 0 999)
      refine kk_ifb_ne (tgt := 34) hx hb dX9_dark_28 (by decide) (fun hb_9 => ?_) (fun hb_9 => ?_)
      · skip
        obtain ⟨x3N, hx3L, hx3N, rfl⟩ := wB_t hb_9
        have t_x3 := nI_clamp (show x3N < 2 ^ 31 by omega)
        refine lv_aload_n hx hb dX9_dark_34 rfl (lv_at hl 0 rfl) ?_
        refine va_get (D := D) (ci := 8) (v := .ref h0) (C := RX9) (T := TX9) (N := 11) hx hb hts hwX9 hown hK hP 0 rfl rfl 5 (by decide) hf_37 (fun _ h9 => h9) rfl dX9_dark_35 ?_
        refine lv_aload_n hx hb dX9_dark_38 rfl (lv_at hl 0 rfl) ?_
        refine va_get (D := D) (ci := 8) (v := .ref g0) (C := RX9) (T := TX9) (N := 11) hx hb hts hwX9 hown hK hP 0 rfl rfl 0 (by decide) hf_14 (fun _ h9 => h9) rfl dX9_dark_39 ?_
        refine lv_aload_n hx hb dX9_dark_42 rfl (lv_at hl 0 rfl) ?_
        refine va_get (D := D) (ci := 8) (v := .ref e0) (C := RX9) (T := TX9) (N := 11) hx hb hts hwX9 hown hK hP 0 rfl rfl 2 (by decide) hf_24 (fun _ h9 => h9) rfl dX9_dark_43 ?_
        obtain ⟨hC, hM, hE⟩ := okX_sp hX hx1N
        have o_10 : okC C := by assumption
        have o_11 : okM C T := by assumption
        have o_12 : repC C sk sh ki st cl := by assumption
        have o_13 : repM T wf tf vf := by assumption
        have hF := va_free (wc := [(h0, .inr (7, [.ref h1, .ref h2, .ref h3, .ref h4, .ref h5])), (h1, .inl (cI, 96, .inl pA)), (h2, .inl (cI, 96, .inl gA)), (h3, .inl (cI, 96, .inl fA)), (h4, .inl (cI, 96, .inl dA)), (h5, .inl (cI, 96, .inl lA)), (g0, .inr (1, [.int (nI (cSp C)), .int (nI (cLa C)), .int (nI (cAg C)), .ref g1, .ref g2, .ref g3, .ref g4, .ref g5])), (g1, .inl (cI, 6, .inl sk)), (g2, .inl (cI, 4, .inl sh)), (g3, .inl (cI, 4, .inl ki)), (g4, .inl (cI, 4, .inl st)), (g5, .inl (cI, 4, .inl cl)), (e0, .inr (0, [.int (nI (mN T)), .ref e1, .ref e2, .ref e3])), (e1, .inl (cI, 8, .inl wf)), (e2, .inl (cI, 8, .inl tf)), (e3, .inl (cI, 8, .inl vf))]) hD hS hA [11, 12, 13, 14, 15, 16, 1, 2, 3, 4, 5, 6, 7, 8, 9, 10] rfl
        refine va_callv (va_runV (As := [.ref g0, .ref e0]) (rest := []) ⟨hx, hb, hml, hown, hts⟩ (c_X8_reckon lL D cI cS _ C T h0 h1 h2 h3 h4 h5 g0 g1 g2 g3 g4 g5 e0 e1 e2 e3 wf tf vf pA gA fA dA lA sk sh ki st cl o_10 o_11 o_12 o_13) (cwV 2 hts gX9_dark_X8_reckon rfl rfl rfl cd_X8_reckon ⟨Nat.le_of_ble_eq_true rfl, Nat.le_of_ble_eq_true rfl⟩) ⟨kB_blind, va_recv hK hP (ci := 7) (q0 := 11) rfl rfl, fun U hU hW => ⟨rfl, by rw [hU], by rw [hU]; exact hP.sub [11, 12, 13, 14, 15, 16, 1, 2, 3, 4, 5, 6, 7, 8, 9, 10] rfl, va_K.moved hW.alike hK, (hD.sub [11, 12, 13, 14, 15, 16, 1, 2, 3, 4, 5, 6, 7, 8, 9, 10] (by decide) rfl).weaken (fun _ _ _ _ => trivial)⟩⟩ rfl rfl hl.1 rfl (lv_room (Nat.le_of_ble_eq_true rfl)) dX9_dark_46 ⟨Nat.le_of_ble_eq_true rfl, Nat.le_of_ble_eq_true rfl⟩) hS (fun q _ h => hF q h) hF (fun u_14 t H1 locs ht hvm hw_14 hB hz1 hk1 hS => ?_)
        obtain ⟨pp_14, gg_14, ff_14, dd_14, ll_14⟩ := u_14
        obtain ⟨hP, hD⟩ := kk_join2 (wc := [(h0, .inr (7, [.ref h1, .ref h2, .ref h3, .ref h4, .ref h5])), (h1, .inl (cI, 96, .inl pA)), (h2, .inl (cI, 96, .inl gA)), (h3, .inl (cI, 96, .inl fA)), (h4, .inl (cI, 96, .inl dA)), (h5, .inl (cI, 96, .inl lA)), (g0, .inr (1, [.int (nI (cSp C)), .int (nI (cLa C)), .int (nI (cAg C)), .ref g1, .ref g2, .ref g3, .ref g4, .ref g5])), (g1, .inl (cI, 6, .inl sk)), (g2, .inl (cI, 4, .inl sh)), (g3, .inl (cI, 4, .inl ki)), (g4, .inl (cI, 4, .inl st)), (g5, .inl (cI, 4, .inl cl)), (e0, .inr (0, [.int (nI (mN T)), .ref e1, .ref e2, .ref e3])), (e1, .inl (cI, 8, .inl wf)), (e2, .inl (cI, 8, .inl tf)), (e3, .inl (cI, 8, .inl vf))]) (w1 := [(h0, .inr (7, [.ref h1, .ref h2, .ref h3, .ref h4, .ref h5])), (h1, .inl (cI, 96, .inl pp_14)), (h2, .inl (cI, 96, .inl gg_14)), (h3, .inl (cI, 96, .inl ff_14)), (h4, .inl (cI, 96, .inl dd_14)), (h5, .inl (cI, 96, .inl ll_14)), (g0, .inr (1, [.int (nI (cSp C)), .int (nI (cLa C)), .int (nI (cAg C)), .ref g1, .ref g2, .ref g3, .ref g4, .ref g5])), (g1, .inl (cI, 6, .inl sk)), (g2, .inl (cI, 4, .inl sh)), (g3, .inl (cI, 4, .inl ki)), (g4, .inl (cI, 4, .inl st)), (g5, .inl (cI, 4, .inl cl)), (e0, .inr (0, [.int (nI (mN T)), .ref e1, .ref e2, .ref e3])), (e1, .inl (cI, 8, .inl wf)), (e2, .inl (cI, 8, .inl tf)), (e3, .inl (cI, 8, .inl vf))]) (ws' := [(x0, .inr (8, [.ref g0, .ref q0, .ref e0, .ref t0, .ref r0, .ref h0, .ref i0, .ref z0, .ref y0, .int tr, .int ft])), (g0, .inr (1, [.int (nI (cSp C)), .int (nI (cLa C)), .int (nI (cAg C)), .ref g1, .ref g2, .ref g3, .ref g4, .ref g5])), (g1, .inl (cI, 6, .inl sk)), (g2, .inl (cI, 4, .inl sh)), (g3, .inl (cI, 4, .inl ki)), (g4, .inl (cI, 4, .inl st)), (g5, .inl (cI, 4, .inl cl)), (e0, .inr (0, [.int (nI (mN T)), .ref e1, .ref e2, .ref e3])), (e1, .inl (cI, 8, .inl wf)), (e2, .inl (cI, 8, .inl tf)), (e3, .inl (cI, 8, .inl vf)), (h0, .inr (7, [.ref h1, .ref h2, .ref h3, .ref h4, .ref h5])), (h1, .inl (cI, 96, .inl pp_14)), (h2, .inl (cI, 96, .inl gg_14)), (h3, .inl (cI, 96, .inl ff_14)), (h4, .inl (cI, 96, .inl dd_14)), (h5, .inl (cI, 96, .inl ll_14))]) (wr := [(x0, .inr (8, [.ref g0, .ref q0, .ref e0, .ref t0, .ref r0, .ref h0, .ref i0, .ref z0, .ref y0, .int tr, .int ft]))]) (H1 := H1) hP hD [11, 12, 13, 14, 15, 16, 1, 2, 3, 4, 5, 6, 7, 8, 9, 10] [0] rfl rfl rfl rfl 17 rfl (by decide) [x0, g0, g1, g2, g3, g4, g5, e0, e1, e2, e3, h0, h1, h2, h3, h4, h5] rfl rfl hk1 (by rw [← ht]; exact hB)
        have hw_14 : tP C (plc T (cSt C)) pp_14 0 24 ∧ tG C (plc T (cSt C)) gg_14 0 24 ∧ tF C (plc T (cSt C)) ff_14 0 24 ∧ tD C dd_14 0 24 ∧ tL C (plc T (cSt C)) ll_14 0 24 := hw_14
        clear hF hB hk1 hz1 hvm
        clear ht
        generalize H1 = H at hP hS ⊢
        obtain ⟨tP1, tG1, tF1, tD1, tL1⟩ := hw_14
        refine lv_iload_n hx hb dX9_dark_49 rfl (lv_at hl 2 rfl) ?_
        refine lv_istore (lv' := [(4, .int (nI x2N)), (0, .ref x0), (1, .int (nI x1N)), (2, .int (nI x2N)), (3, .int (nI x3N))]) hx hb dX9_dark_50 hl (by decide) rfl (fun ls hl => ?_)
        have L_52 : ∀ (n_52 : Nat) (v : Nat), (x2N ≤ v) → (v ≤ 24) → (dk C (plT C T) x1N x3N (24 - x2N) x2N = dk C (plT C T) x1N x3N (24 - v) v) → 25 ≤ v + n_52 → ∀ (H : Heap) (locs : List Loc), va_P D vwCl [(x0, .inr (8, [.ref g0, .ref q0, .ref e0, .ref t0, .ref r0, .ref h0, .ref i0, .ref z0, .ref y0, .int tr, .int ft])), (g0, .inr (1, [.int (nI (cSp C)), .int (nI (cLa C)), .int (nI (cAg C)), .ref g1, .ref g2, .ref g3, .ref g4, .ref g5])), (g1, .inl (cI, 6, .inl sk)), (g2, .inl (cI, 4, .inl sh)), (g3, .inl (cI, 4, .inl ki)), (g4, .inl (cI, 4, .inl st)), (g5, .inl (cI, 4, .inl cl)), (e0, .inr (0, [.int (nI (mN T)), .ref e1, .ref e2, .ref e3])), (e1, .inl (cI, 8, .inl wf)), (e2, .inl (cI, 8, .inl tf)), (e3, .inl (cI, 8, .inl vf)), (h0, .inr (7, [.ref h1, .ref h2, .ref h3, .ref h4, .ref h5])), (h1, .inl (cI, 96, .inl pp_14)), (h2, .inl (cI, 96, .inl gg_14)), (h3, .inl (cI, 96, .inl ff_14)), (h4, .inl (cI, 96, .inl dd_14)), (h5, .inl (cI, 96, .inl ll_14))] H → va_D A [(x0, .inr (8, [.ref g0, .ref q0, .ref e0, .ref t0, .ref r0, .ref h0, .ref i0, .ref z0, .ref y0, .int tr, .int ft])), (g0, .inr (1, [.int (nI (cSp C)), .int (nI (cLa C)), .int (nI (cAg C)), .ref g1, .ref g2, .ref g3, .ref g4, .ref g5])), (g1, .inl (cI, 6, .inl sk)), (g2, .inl (cI, 4, .inl sh)), (g3, .inl (cI, 4, .inl ki)), (g4, .inl (cI, 4, .inl st)), (g5, .inl (cI, 4, .inl cl)), (e0, .inr (0, [.int (nI (mN T)), .ref e1, .ref e2, .ref e3])), (e1, .inl (cI, 8, .inl wf)), (e2, .inl (cI, 8, .inl tf)), (e3, .inl (cI, 8, .inl vf)), (h0, .inr (7, [.ref h1, .ref h2, .ref h3, .ref h4, .ref h5])), (h1, .inl (cI, 96, .inl pp_14)), (h2, .inl (cI, 96, .inl gg_14)), (h3, .inl (cI, 96, .inl ff_14)), (h4, .inl (cI, 96, .inl dd_14)), (h5, .inl (cI, 96, .inl ll_14))] → va_S A sS.heap H locs → ∀ (ls : Array Slot), lv_has ls 5 [(4, .int (nI v)), (0, .ref x0), (1, .int (nI x1N)), (2, .int (nI x2N)), (3, .int (nI x3N))] → W pP lL eE (headSpec wsX9_dark rmX9_dark).room sS mM ([.ref x0, .int (nI x1N), .int (nI x2N), .int (nI x3N)]).toArray below meth cC H locs 0 0 QQ (F0 mM 52 ls []) := by
          intro n_52
          induction n_52 with
          | zero =>
            intro v hv1 hv2 hdk hn_52 H locs hP hD hS ls hl
            exact absurd hn_52 (by omega)
          | succ n_52 ih_52 =>
            intro v hv1 hv2 hdk hn_52 H locs hP hD hS ls hl
            refine lv_iload hx hb dX9_dark_52 (lv_at hl 0 rfl) ?_
            refine lv_bipush (v := nI 24) hx hb dX9_dark_54 (by decide +kernel) ?_
            refine kk_icmp_ge (tgt := 82) hx hb dX9_dark_56 (by decide) (by omega) (by omega) (fun c_15 => ?_) (fun c_15 => ?_)
            · skip
              refine lv_bipush (v := (-9 : Int32)) hx hb dX9_dark_82 (by decide +kernel) ?_
              have hq : (-9 : Int32) = sp_dark C T (nI x1N) (nI x2N) (nI x3N) ∧ True := by
                refine ⟨?_, trivial⟩
                simp only [sp_dark, hb_3, hb_5, hb_9, t_x1, t_x2, t_x3, cond_true, cond_false]
                rw [hdk, show 24 - v = 0 by omega]; rfl
              refine kk_QQ hQQ ?_
              exact W.iret (v := (-9 : Int32)) hx hb hr (fun t ht hW => ⟨⟨(-9 : Int32), (pp_14, gg_14, ff_14, dd_14, ll_14), rfl, hq, by show va_P D vwCl _ t.heap; rw [ht]; exact hP⟩, hS.F ht⟩) hS.2.2 dX9_dark_84
            · skip
              refine lv_aload_n hx hb dX9_dark_59 rfl (lv_at hl 1 rfl) ?_
              refine va_get (D := D) (ci := 8) (v := .ref h0) (C := RX9) (T := TX9) (N := 11) hx hb hts hwX9 hown hK hP 0 rfl rfl 5 (by decide) hf_37 (fun _ h9 => h9) rfl dX9_dark_60 ?_
              refine lv_iload_n hx hb dX9_dark_63 rfl (lv_at hl 2 rfl) ?_
              refine lv_iload hx hb dX9_dark_64 (lv_at hl 0 rfl) ?_
              have o_16 : x1N < 4 := by omega
              have o_17 : v < 24 := by omega
              refine vp_callSi (W.runV (As := [.int (nI x1N), .int (nI v)]) (rest := []) ⟨hx, hb, hml, hown, hts⟩ (c_X8_lightOf lL D cI cS h0 h1 h2 h3 h4 h5 ll_14 x1N v o_16 o_17) (cwV 2 hts gX9_dark_X8_lightOf rfl rfl rfl cd_X8_lightOf ⟨Nat.le_of_ble_eq_true rfl, Nat.le_of_ble_eq_true rfl⟩) ⟨kBp_blind, va_recv hK hP (ci := 7) (q0 := 11) rfl rfl, fun U hU hW => ⟨rfl, by rw [hU]; exact hP.sub [11, 16] rfl, va_K.moved hW.alike hK⟩⟩ rfl rfl hl.1 rfl (lv_room (Nat.le_of_ble_eq_true rfl)) dX9_dark_66 ⟨Nat.le_of_ble_eq_true rfl, Nat.le_of_ble_eq_true rfl⟩) (fun r_18 hw_18 => ?_)
              obtain rfl : r_18 = ll_14 (v * 4 + x1N) := hw_18
              refine kk_top (y := nI (Li C (plT C T) x1N v)) (tL1 v (by omega) (by omega) x1N hx1N) ?_
              have hll := Li_le hC (plT C T) x1N v
              refine lv_iload_n hx hb dX9_dark_69 rfl (lv_at hl 4 rfl) ?_
              refine kk_icmp_ge (tgt := 76) hx hb dX9_dark_70 (by decide) (by omega) (by omega) (fun c_19 => ?_) (fun c_19 => ?_)
              · skip
                refine lv_iinc (v := nI (v + 1)) (lv' := [(4, .int (nI (v + 1))), (0, .ref x0), (1, .int (nI x1N)), (2, .int (nI x2N)), (3, .int (nI x3N))]) hx hb dX9_dark_76 hl (k := 0) rfl (nI_add v 1) (by decide) rfl (fun ls hl => ?_)
                refine lv_goto (tgt := 52) hx hb dX9_dark_79 (by decide) ?_
                have o_20 : x2N ≤ (v + 1) := by omega
                have o_21 : (v + 1) ≤ 24 := by omega
                have o_22 : dk C (plT C T) x1N x3N (24 - x2N) x2N = dk C (plT C T) x1N x3N (24 - (v + 1)) (v + 1) := by rw [hdk, show 24 - v = (24 - (v + 1)) + 1 by omega, dk_s, if_neg (by omega)]
                have o_23 : 25 ≤ (v + 1) + n_52 := by omega
                exact ih_52 (v + 1) o_20 o_21 o_22 o_23 _ _ hP hD hS ls (lv_sub hl [0, 1, 2, 3, 4] rfl)
              · skip
                refine lv_iload hx hb dX9_dark_73 (lv_at hl 0 rfl) ?_
                have hq : (nI v) = sp_dark C T (nI x1N) (nI x2N) (nI x3N) ∧ True := by
                  refine ⟨?_, trivial⟩
                  simp only [sp_dark, hb_3, hb_5, hb_9, t_x1, t_x2, t_x3, cond_true, cond_false]
                  rw [hdk, show 24 - v = (24 - (v + 1)) + 1 by omega, dk_s, if_pos (by omega)]
                refine kk_QQ hQQ ?_
                exact W.iret (v := nI v) hx hb hr (fun t ht hW => ⟨⟨nI v, (pp_14, gg_14, ff_14, dd_14, ll_14), rfl, hq, by show va_P D vwCl _ t.heap; rw [ht]; exact hP⟩, hS.F ht⟩) hS.2.2 dX9_dark_75
        have o_24 : x2N ≤ x2N := by omega
        have o_25 : x2N ≤ 24 := by omega
        have o_26 : dk C (plT C T) x1N x3N (24 - x2N) x2N = dk C (plT C T) x1N x3N (24 - x2N) x2N := by rfl
        have o_27 : 25 ≤ x2N + 25 := by omega
        exact L_52 25 x2N o_24 o_25 o_26 o_27 _ _ hP hD hS ls (lv_sub hl [0, 1, 2, 3, 4] rfl)
      · skip
        refine lv_bipush (v := (-2 : Int32)) hx hb dX9_dark_31 (by decide +kernel) ?_
        have hq : (-2 : Int32) = sp_dark C T (nI x1N) (nI x2N) x3 ∧ True := by
          refine ⟨?_, trivial⟩
          simp only [sp_dark, hb_3, hb_5, hb_9, t_x1, t_x2, cond_true, cond_false]
        refine kk_QQ hQQ ?_
        exact W.iret (v := (-2 : Int32)) hx hb hr (fun t ht hW => ⟨⟨(-2 : Int32), (pA, gA, fA, dA, lA), rfl, hq, by show va_P D vwCl _ t.heap; rw [ht]; exact hP⟩, hS.F ht⟩) hS.2.2 dX9_dark_33
  · skip
    refine lv_iconst (v := (-1 : Int32)) hx hb dX9_dark_11 (by decide +kernel) ?_
    have hq : (-1 : Int32) = sp_dark C T x1 x2 x3 ∧ True := by
      refine ⟨?_, trivial⟩
      simp only [sp_dark, hb_3, cond_true, cond_false]
    refine kk_QQ hQQ ?_
    exact W.iret (v := (-1 : Int32)) hx hb hr (fun t ht hW => ⟨⟨(-1 : Int32), (pA, gA, fA, dA, lA), rfl, hq, by show va_P D vwCl _ t.heap; rw [ht]; exact hP⟩, hS.F ht⟩) hS.2.2 dX9_dark_12
