theorem cd_X6_cutToLane : yX6_cutToLane.cls = RX6 ∧ yX6_cutToLane.cls ≠ "java/lang/invoke/MethodHandle" ∧ yX6_cutToLane.cls ≠ "java/lang/invoke/VarHandle" ∧ (parseMethodDescriptor yX6_cutToLane.desc).map (fun d => d.parameters.length) = some 1 := by decide +kernel
theorem cd_X6_hasCells : yX6_hasCells.cls = RX6 ∧ yX6_hasCells.cls ≠ "java/lang/invoke/MethodHandle" ∧ yX6_hasCells.cls ≠ "java/lang/invoke/VarHandle" ∧ (parseMethodDescriptor yX6_hasCells.desc).map (fun d => d.parameters.length) = some 2 := by decide +kernel
theorem cd_X6_isNothing : yX6_isNothing.cls = RX6 ∧ yX6_isNothing.cls ≠ "java/lang/invoke/MethodHandle" ∧ yX6_isNothing.cls ≠ "java/lang/invoke/VarHandle" ∧ (parseMethodDescriptor yX6_isNothing.desc).map (fun d => d.parameters.length) = some 0 := by decide +kernel
theorem cd_X6_isOfAnotherLane : yX6_isOfAnotherLane.cls = RX6 ∧ yX6_isOfAnotherLane.cls ≠ "java/lang/invoke/MethodHandle" ∧ yX6_isOfAnotherLane.cls ≠ "java/lang/invoke/VarHandle" ∧ (parseMethodDescriptor yX6_isOfAnotherLane.desc).map (fun d => d.parameters.length) = some 1 := by decide +kernel
theorem cd_X6_makeNothing : yX6_makeNothing.cls = RX6 ∧ yX6_makeNothing.cls ≠ "java/lang/invoke/MethodHandle" ∧ yX6_makeNothing.cls ≠ "java/lang/invoke/VarHandle" ∧ (parseMethodDescriptor yX6_makeNothing.desc).map (fun d => d.parameters.length) = some 0 := by decide +kernel
theorem cd_X6_makeRow : yX6_makeRow.cls = RX6 ∧ yX6_makeRow.cls ≠ "java/lang/invoke/MethodHandle" ∧ yX6_makeRow.cls ≠ "java/lang/invoke/VarHandle" ∧ (parseMethodDescriptor yX6_makeRow.desc).map (fun d => d.parameters.length) = some 2 := by decide +kernel
theorem cd_X9_isLane : yX9_isLane.cls ≠ "java/lang/invoke/MethodHandle" ∧ yX9_isLane.cls ≠ "java/lang/invoke/VarHandle" ∧ (parseMethodDescriptor yX9_isLane.desc).map (fun d => d.parameters.length) = some 1 := by decide +kernel
theorem cd_X9_isSheet : yX9_isSheet.cls ≠ "java/lang/invoke/MethodHandle" ∧ yX9_isSheet.cls ≠ "java/lang/invoke/VarHandle" ∧ (parseMethodDescriptor yX9_isSheet.desc).map (fun d => d.parameters.length) = some 1 := by decide +kernel
theorem cd_X9_lostTo : yX9_lostTo.cls = RX9 ∧ yX9_lostTo.cls ≠ "java/lang/invoke/MethodHandle" ∧ yX9_lostTo.cls ≠ "java/lang/invoke/VarHandle" ∧ (parseMethodDescriptor yX9_lostTo.desc).map (fun d => d.parameters.length) = some 1 := by decide +kernel
abbrev rmX9_sheet : Room := { frames := 2, cells := 0, slots := 0, locals := 42 }
set_option maxHeartbeats 4000000 in
set_option maxRecDepth 100000 in
theorem c_X9_sheet (lL : Launch) (D : va_G) (cI cS : ClassId) (sz : Nat) (C : Co) (T : Mv) (E : Mv) (x0 : Nat) (g0 : Nat) (q0 : Nat) (e0 : Nat) (t0 : Nat) (r0 : Nat) (h0 : Nat) (i0 : Nat) (z0 : Nat) (y0 : Nat) (tr : Int32) (ft : Int32) (x1 : Int32) (x2 : Int32) (x3 : Int32) (s0 : Nat) (c0 : Nat) (len : Nat) (rl : Int32) (cf : Nat → Int32) (ys : Nat → Option Nat) (hsel : ∀ j, x1 = nI j → j < 4 → ys j = some s0) (hlen : len ≤ 60) (hX : okX C T E) : Met lL yX9_sheet wsX9_sheet rmX9_sheet (va_Pc [.ref x0, .int x1, .int x2, .int x3] (kB D cI cS [(x0, .inr (8, [.ref g0, .ref q0, .ref e0, .ref t0, .ref r0, .ref h0, .ref i0, .ref z0, .ref y0, .int tr, .int ft])), (y0, .inl (cS, 4, .inr (.inr (.inr (.inr ys))))), (s0, .inr (5, [.ref c0, .int (nI len), .int rl])), (c0, .inl (cI, 60, .inl cf))] sz)) (kQi D (fun (r : Int32) (u : Int32 × Nat × (Nat → Int32) × Int32) => r = sp_sheet x1 x2 x3 ∧ u.2.2.2 = nf_sheet x1 x2 x3 ∧ u.1 = (bif ok_sheet x1 x2 x3 then x2 else rl) ∧ u.2.1 = (bif ok_sheet x1 x2 x3 then tn x3 else len) ∧ (bif ok_sheet x1 x2 x3 then ∀ j, j < u.2.1 → u.2.2.1 j = nI 0 else u.2.2.1 = cf)) (fun u : Int32 × Nat × (Nat → Int32) × Int32 => [(x0, .inr (8, [.ref g0, .ref q0, .ref e0, .ref t0, .ref r0, .ref h0, .ref i0, .ref z0, .ref y0, .int tr, .int u.2.2.2])), (y0, .inl (cS, 4, .inr (.inr (.inr (.inr ys))))), (s0, .inr (5, [.ref c0, .int (nI u.2.1), .int u.1])), (c0, .inl (cI, 60, .inl u.2.2.1))]) (va_A [(x0, .inr (8, [.ref g0, .ref q0, .ref e0, .ref t0, .ref r0, .ref h0, .ref i0, .ref z0, .ref y0, .int tr, .int ft])), (y0, .inl (cS, 4, .inr (.inr (.inr (.inr ys))))), (s0, .inr (5, [.ref c0, .int (nI len), .int rl])), (c0, .inl (cI, 60, .inl cf))] sz)) 0 0 (va_A [(x0, .inr (8, [.ref g0, .ref q0, .ref e0, .ref t0, .ref r0, .ref h0, .ref i0, .ref z0, .ref y0, .int tr, .int ft])), (y0, .inl (cS, 4, .inr (.inr (.inr (.inr ys))))), (s0, .inr (5, [.ref c0, .int (nI len), .int rl])), (c0, .inl (cI, 60, .inl cf))] sz) := by
  refine Met.ofW (cc := cX9_sheet) (maxL := 4) (ret := (some .int)) (by decide) rfl ?_
  intro pP eE sS mM args below meth cC s₁ B hml hv
  obtain ⟨rfl, hsz, hP, hK, hD0⟩ := hv
  have hx := B.exec
  have hb := B.bytes
  have hr := B.returns
  have hts := atoms_spec (ws := wsX9_sheet) B.pre
  have hown : sS.vm.findClass RX9 = some mM.cls := findClass_of_methodNamed B.named
  have hlocks := B.notSynchronized
  subst hsz
  have hD := hD0.self (sz := sS.heap.size)
  generalize hAe : va_A [(x0, .inr (8, [.ref g0, .ref q0, .ref e0, .ref t0, .ref r0, .ref h0, .ref i0, .ref z0, .ref y0, .int tr, .int ft])), (y0, .inl (cS, 4, .inr (.inr (.inr (.inr ys))))), (s0, .inr (5, [.ref c0, .int (nI len), .int rl])), (c0, .inl (cI, 60, .inl cf))] sS.heap.size = A at hD ⊢
  have hA : ∀ q : Nat, sS.heap.size ≤ q → A q := fun q h => by rw [← hAe]; exact Or.inr h
  have hS : va_S A sS.heap sS.heap [] := va_S.rf
  have hP : va_P D vwCl [(x0, .inr (8, [.ref g0, .ref q0, .ref e0, .ref t0, .ref r0, .ref h0, .ref i0, .ref z0, .ref y0, .int tr, .int ft])), (y0, .inl (cS, 4, .inr (.inr (.inr (.inr ys))))), (s0, .inr (5, [.ref c0, .int (nI len), .int rl])), (c0, .inl (cI, 60, .inl cf))] sS.heap := hP
  have hD : va_D A [(x0, .inr (8, [.ref g0, .ref q0, .ref e0, .ref t0, .ref r0, .ref h0, .ref i0, .ref z0, .ref y0, .int tr, .int ft])), (y0, .inl (cS, 4, .inr (.inr (.inr (.inr ys))))), (s0, .inr (5, [.ref c0, .int (nI len), .int rl])), (c0, .inl (cI, 60, .inl cf))] := hD
  have hf_53 := hts (.fieldLink RX9 53 "OldLamps" "sheets" "[LOldLamps$Sheet;") (List.mem_of_getElem? (i := 2) rfl)
  have hf_61 := hts (.fieldLink RX9 61 "OldLamps" "latestFault" "I") (List.mem_of_getElem? (i := 1) rfl)
  have hwX9 : ∀ w ∈ wsX90, w ∈ wsX9_sheet := fun _ h => List.mem_cons_of_mem _ (List.mem_append_left _ (List.mem_append_right _ h))
  have hl := lv_entry ([.ref x0, .int x1, .int x2, .int x3]) (n := 4) (Nat.le_of_ble_eq_true rfl)
  rw [lg_entry_eq]
  generalize (lg_sl ([.ref x0, .int x1, .int x2, .int x3]) ++ List.replicate (4 - (lg_sl ([.ref x0, .int x1, .int x2, .int x3])).length) Slot.unset).toArray = ls at hl ⊢
  have hl : lv_has ls 4 [(0, .ref x0), (1, .int x1), (2, .int x2), (3, .int x3)] := hl
  obtain ⟨QQ, hQQ⟩ : ∃ QQ : State → Prop, QQ = MQ below (kQi D (fun (r : Int32) (u : Int32 × Nat × (Nat → Int32) × Int32) => r = sp_sheet x1 x2 x3 ∧ u.2.2.2 = nf_sheet x1 x2 x3 ∧ u.1 = (bif ok_sheet x1 x2 x3 then x2 else rl) ∧ u.2.1 = (bif ok_sheet x1 x2 x3 then tn x3 else len) ∧ (bif ok_sheet x1 x2 x3 then ∀ j, j < u.2.1 → u.2.2.1 j = nI 0 else u.2.2.1 = cf)) (fun u : Int32 × Nat × (Nat → Int32) × Int32 => [(x0, .inr (8, [.ref g0, .ref q0, .ref e0, .ref t0, .ref r0, .ref h0, .ref i0, .ref z0, .ref y0, .int tr, .int u.2.2.2])), (y0, .inl (cS, 4, .inr (.inr (.inr (.inr ys))))), (s0, .inr (5, [.ref c0, .int (nI u.2.1), .int u.1])), (c0, .inl (cI, 60, .inl u.2.2.1))]) A) ([.ref x0, .int x1, .int x2, .int x3]).toArray sS 0 0 A := ⟨_, rfl⟩
  refine kk_QQ hQQ.symm ?_
  obtain ⟨hX1, hX2, hX3, hX4⟩ := okX_le hX
  refine lv_aload_n hx hb dX9_sheet_0 rfl (lv_at hl 0 rfl) ?_
  refine lv_iconst (v := nI 0) hx hb dX9_sheet_1 (by decide +kernel) ?_
  refine va_put (D := D) (ci := 8) (v := .int (nI 0)) (ty := .int) (C := RX9) (T := TX9) (N := 11) hx hb hts hwX9 tyX9 tyX9_ok nmX9 hown hK hP hD hS 0 rfl rfl 10 (by decide) hf_61 (fun _ h9 => h9) rfl (by decide +kernel) rfl rfl (Nat.le_of_ble_eq_true rfl) dX9_sheet_2 (fun H locs hP hD hS => ?_)
  have hP : va_P D vwCl [(x0, .inr (8, [.ref g0, .ref q0, .ref e0, .ref t0, .ref r0, .ref h0, .ref i0, .ref z0, .ref y0, .int tr, .int (nI 0)])), (y0, .inl (cS, 4, .inr (.inr (.inr (.inr ys))))), (s0, .inr (5, [.ref c0, .int (nI len), .int rl])), (c0, .inl (cI, 60, .inl cf))] H := hP
  have hD : va_D A [(x0, .inr (8, [.ref g0, .ref q0, .ref e0, .ref t0, .ref r0, .ref h0, .ref i0, .ref z0, .ref y0, .int tr, .int (nI 0)])), (y0, .inl (cS, 4, .inr (.inr (.inr (.inr ys))))), (s0, .inr (5, [.ref c0, .int (nI len), .int rl])), (c0, .inl (cI, 60, .inl cf))] := hD
  refine lv_iload_n hx hb dX9_sheet_5 rfl (lv_at hl 1 rfl) ?_
  refine vp_callSi (W.runS (As := [.int x1]) (rest := []) ⟨hx, hb, hml, hown, hts⟩ (c_X9_isSheet lL D cI cS x1) (va_cwS 1 hts gX9_sheet_X9_isSheet rfl rfl rfl cd_X9_isSheet ⟨Nat.le_of_ble_eq_true rfl, Nat.le_of_ble_eq_true rfl⟩) ⟨kBp_blind, fun U hU hW => ⟨rfl, by rw [hU]; exact hP.sub [] rfl, va_K.moved hW.alike hK⟩⟩ rfl rfl hl.1 rfl (lv_room (Nat.le_of_ble_eq_true rfl)) dX9_sheet_6 ⟨Nat.le_of_ble_eq_true rfl, Nat.le_of_ble_eq_true rfl⟩) (fun r_1 hw_1 => ?_)
  obtain rfl : r_1 = kb (inB x1 4) := hw_1
  -- if (inB x1 4)
  refine kk_ifb_ne (tgt := 14) hx hb dX9_sheet_9 (by decide) (fun hb_2 => ?_) (fun hb_2 => ?_)
  · skip
    obtain ⟨x1N, hx1N, rfl⟩ := inB_t hb_2
    have t_x1 := nI_clamp (show x1N < 2 ^ 31 by omega)
    refine lv_iload_n hx hb dX9_sheet_14 rfl (lv_at hl 2 rfl) ?_
    refine vp_callSi (W.runS (As := [.int x2]) (rest := []) ⟨hx, hb, hml, hown, hts⟩ (c_X9_isLane lL D cI cS x2) (va_cwS 1 hts gX9_sheet_X9_isLane rfl rfl rfl cd_X9_isLane ⟨Nat.le_of_ble_eq_true rfl, Nat.le_of_ble_eq_true rfl⟩) ⟨kBp_blind, fun U hU hW => ⟨rfl, by rw [hU]; exact hP.sub [] rfl, va_K.moved hW.alike hK⟩⟩ rfl rfl hl.1 rfl (lv_room (Nat.le_of_ble_eq_true rfl)) dX9_sheet_15 ⟨Nat.le_of_ble_eq_true rfl, Nat.le_of_ble_eq_true rfl⟩) (fun r_3 hw_3 => ?_)
    obtain rfl : r_3 = kb (inB x2 3) := hw_3
    -- if (inB x2 3)
    refine kk_ifb_eq (tgt := 27) hx hb dX9_sheet_18 (by decide) (fun hb_4 => ?_) (fun hb_4 => ?_)
    · skip
      refine lv_bipush (v := (-2 : Int32)) hx hb dX9_sheet_27 (by decide +kernel) ?_
      have hq : (-2 : Int32) = sp_sheet (nI x1N) x2 x3 ∧ (nI 0) = nf_sheet (nI x1N) x2 x3 ∧ rl = (bif ok_sheet (nI x1N) x2 x3 then x2 else rl) ∧ len = (bif ok_sheet (nI x1N) x2 x3 then tn x3 else len) ∧ (bif ok_sheet (nI x1N) x2 x3 then ∀ j, j < len → cf j = nI 0 else cf = cf) := by
        refine ⟨by simp only [sp_sheet, hb_2, hb_4, t_x1, cond_true, cond_false, (by decide : ¬ (1 : Nat) = 2), if_true, if_false, reduceIte], by simp only [nf_sheet, hb_2, hb_4, t_x1, cond_true, cond_false, (by decide : ¬ (1 : Nat) = 2), if_true, if_false, reduceIte], by simp only [ok_sheet, hb_2, hb_4, t_x1, cond_true, cond_false, (by decide : ¬ (1 : Nat) = 2), if_true, if_false, reduceIte], by simp only [ok_sheet, hb_2, hb_4, t_x1, cond_true, cond_false, (by decide : ¬ (1 : Nat) = 2), if_true, if_false, reduceIte], ?_⟩
        simp only [ok_sheet, hb_2, hb_4, t_x1, cond_true, cond_false, (by decide : ¬ (1 : Nat) = 2), if_true, if_false, reduceIte]
      refine kk_QQ hQQ ?_
      exact W.iret (v := (-2 : Int32)) hx hb hr (fun t ht hW => ⟨⟨(-2 : Int32), (rl, len, cf, nI 0), rfl, hq, by show va_P D vwCl _ t.heap; rw [ht]; exact hP⟩, hS.F ht⟩) hS.2.2 dX9_sheet_29
    · skip
      obtain ⟨x2N, hx2N, rfl⟩ := inB_t hb_4
      have t_x2 := nI_clamp (show x2N < 2 ^ 31 by omega)
      refine lv_iload_n hx hb dX9_sheet_21 rfl (lv_at hl 3 rfl) ?_
      refine lv_bipush (v := nI 60) hx hb dX9_sheet_22 (by decide +kernel) ?_
      refine lv_icmp_le (tgt := 30) hx hb dX9_sheet_24 (by decide) (fun c_5 => ?_) (fun c_5 => ?_)
      · skip
        refine lv_iload_n hx hb dX9_sheet_30 rfl (lv_at hl 3 rfl) ?_
        refine lv_if_ge (tgt := 40) hx hb dX9_sheet_31 (by decide) (fun c_6 => ?_) (fun c_6 => ?_)
        · skip
          obtain ⟨x3N, hx3N, rfl⟩ := kk_rng c_6 c_5 (by decide)
          have t_x3 := nI_clamp (show x3N < 2 ^ 31 by omega)
          refine lv_aload_n hx hb dX9_sheet_40 rfl (lv_at hl 0 rfl) ?_
          refine va_get (D := D) (ci := 8) (v := .ref y0) (C := RX9) (T := TX9) (N := 11) hx hb hts hwX9 hown hK hP 0 rfl rfl 8 (by decide) hf_53 (fun _ h9 => h9) rfl dX9_sheet_41 ?_
          refine lv_iload_n hx hb dX9_sheet_44 rfl (lv_at hl 1 rfl) ?_
          refine kk_aldq hx hb hK hP 1 rfl rfl (i := x1N) (by omega) (by decide) (hsel _ rfl hx1N) dX9_sheet_45 ?_
          refine lv_iload_n hx hb dX9_sheet_46 rfl (lv_at hl 2 rfl) ?_
          refine lv_iload_n hx hb dX9_sheet_47 rfl (lv_at hl 3 rfl) ?_
          have o_7 : x3N ≤ 60 := by omega
          have hF := va_free (wc := [(s0, .inr (5, [.ref c0, .int (nI len), .int rl])), (c0, .inl (cI, 60, .inl cf))]) hD hS hA [2, 3] rfl
          refine va_callv (va_runV (As := [.int (nI x2N), .int (nI x3N)]) (rest := []) ⟨hx, hb, hml, hown, hts⟩ (c_X6_makeRow lL D cI cS _ s0 c0 len rl cf (nI x2N) x3N o_7) (cwV 2 hts gX9_sheet_X6_makeRow rfl rfl rfl cd_X6_makeRow ⟨Nat.le_of_ble_eq_true rfl, Nat.le_of_ble_eq_true rfl⟩) ⟨kB_blind, va_recv hK hP (ci := 5) (q0 := 2) rfl rfl, fun U hU hW => ⟨rfl, by rw [hU], by rw [hU]; exact hP.sub [2, 3] rfl, va_K.moved hW.alike hK, (hD.sub [2, 3] (by decide) rfl).weaken (fun _ _ _ _ => trivial)⟩⟩ rfl rfl hl.1 rfl (lv_room (Nat.le_of_ble_eq_true rfl)) dX9_sheet_48 ⟨Nat.le_of_ble_eq_true rfl, Nat.le_of_ble_eq_true rfl⟩) hS (fun q _ h => hF q h) hF (fun u_8 t H1 locs ht hvm hw_8 hB hz1 hk1 hS => ?_)
          obtain ⟨hP, hD⟩ := kk_join2 (wc := [(s0, .inr (5, [.ref c0, .int (nI len), .int rl])), (c0, .inl (cI, 60, .inl cf))]) (w1 := [(s0, .inr (5, [.ref c0, .int (nI x3N), .int (nI x2N)])), (c0, .inl (cI, 60, .inl u_8))]) (ws' := [(x0, .inr (8, [.ref g0, .ref q0, .ref e0, .ref t0, .ref r0, .ref h0, .ref i0, .ref z0, .ref y0, .int tr, .int (nI 0)])), (y0, .inl (cS, 4, .inr (.inr (.inr (.inr ys))))), (s0, .inr (5, [.ref c0, .int (nI x3N), .int (nI x2N)])), (c0, .inl (cI, 60, .inl u_8))]) (wr := [(x0, .inr (8, [.ref g0, .ref q0, .ref e0, .ref t0, .ref r0, .ref h0, .ref i0, .ref z0, .ref y0, .int tr, .int (nI 0)])), (y0, .inl (cS, 4, .inr (.inr (.inr (.inr ys)))))]) (H1 := H1) hP hD [2, 3] [0, 1] rfl rfl rfl rfl 4 rfl (by decide) [x0, y0, s0, c0] rfl rfl hk1 (by rw [← ht]; exact hB)
          have hw_8 : ∀ j, j < x3N → u_8 j = nI 0 := hw_8
          clear hF hB hk1 hz1 hvm
          clear ht
          generalize H1 = H at hP hS ⊢
          refine lv_iconst (v := nI 1) hx hb dX9_sheet_51 (by decide +kernel) ?_
          have hq : (nI 1) = sp_sheet (nI x1N) (nI x2N) (nI x3N) ∧ (nI 0) = nf_sheet (nI x1N) (nI x2N) (nI x3N) ∧ (nI x2N) = (bif ok_sheet (nI x1N) (nI x2N) (nI x3N) then (nI x2N) else rl) ∧ x3N = (bif ok_sheet (nI x1N) (nI x2N) (nI x3N) then tn (nI x3N) else len) ∧ (bif ok_sheet (nI x1N) (nI x2N) (nI x3N) then ∀ j, j < x3N → u_8 j = nI 0 else u_8 = cf) := by
            refine ⟨by simp only [sp_sheet, hb_2, hb_4, t_x1, t_x2, t_x3, cond_true, cond_false, c_5, c_6, (by decide : ¬ (1 : Nat) = 2), if_true, if_false, reduceIte], by simp only [nf_sheet, hb_2, hb_4, t_x1, t_x2, t_x3, cond_true, cond_false, c_5, c_6, (by decide : ¬ (1 : Nat) = 2), if_true, if_false, reduceIte], by simp only [ok_sheet, hb_2, hb_4, t_x1, t_x2, t_x3, cond_true, cond_false, c_5, c_6, (by decide : ¬ (1 : Nat) = 2), if_true, if_false, reduceIte], by simp only [ok_sheet, hb_2, hb_4, t_x1, t_x2, t_x3, cond_true, cond_false, c_5, c_6, (by decide : ¬ (1 : Nat) = 2), if_true, if_false, reduceIte], ?_⟩
            simp only [ok_sheet, hb_2, hb_4, t_x1, t_x2, t_x3, cond_true, cond_false, c_5, c_6, (by decide : ¬ (1 : Nat) = 2), if_true, if_false, reduceIte]
            exact hw_8
          refine kk_QQ hQQ ?_
          exact W.iret (v := nI 1) hx hb hr (fun t ht hW => ⟨⟨nI 1, (nI x2N, x3N, u_8, nI 0), rfl, hq, by show va_P D vwCl _ t.heap; rw [ht]; exact hP⟩, hS.F ht⟩) hS.2.2 dX9_sheet_52
        · skip
          refine lv_aload_n hx hb dX9_sheet_34 rfl (lv_at hl 0 rfl) ?_
          refine lv_iconst (v := nI 4) hx hb dX9_sheet_35 (by decide +kernel) ?_
          have hF := va_free (wc := [(x0, .inr (8, [.ref g0, .ref q0, .ref e0, .ref t0, .ref r0, .ref h0, .ref i0, .ref z0, .ref y0, .int tr, .int (nI 0)]))]) hD hS hA [0] rfl
          refine va_calli (va_runV (As := [.int (nI 4)]) (rest := []) ⟨hx, hb, hml, hown, hts⟩ (c_X9_faulted lL D cI cS _ x0 (.ref g0) (.ref q0) (.ref e0) (.ref t0) (.ref r0) (.ref h0) (.ref i0) (.ref z0) (.ref y0) tr (nI 0) 4) (cwV 1 hts gX9_sheet_X9_faulted rfl rfl rfl cd_X9_faulted ⟨Nat.le_of_ble_eq_true rfl, Nat.le_of_ble_eq_true rfl⟩) ⟨kB_blind, va_recv hK hP (ci := 8) (q0 := 0) rfl rfl, fun U hU hW => ⟨rfl, by rw [hU], by rw [hU]; exact hP.sub [0] rfl, va_K.moved hW.alike hK, (hD.sub [0] (by decide) rfl).weaken (fun _ _ _ _ => trivial)⟩⟩ rfl rfl hl.1 rfl (lv_room (Nat.le_of_ble_eq_true rfl)) dX9_sheet_36 ⟨Nat.le_of_ble_eq_true rfl, Nat.le_of_ble_eq_true rfl⟩) hS (fun q _ h => hF q h) hF (fun r_9 u_9 t H1 locs ht hvm hw_9 hB hz1 hk1 hS => ?_)
          obtain ⟨hP, hD⟩ := kk_join2 (wc := [(x0, .inr (8, [.ref g0, .ref q0, .ref e0, .ref t0, .ref r0, .ref h0, .ref i0, .ref z0, .ref y0, .int tr, .int (nI 0)]))]) (w1 := [(x0, .inr (8, [.ref g0, .ref q0, .ref e0, .ref t0, .ref r0, .ref h0, .ref i0, .ref z0, .ref y0, .int tr, .int (nI 4)]))]) (ws' := [(x0, .inr (8, [.ref g0, .ref q0, .ref e0, .ref t0, .ref r0, .ref h0, .ref i0, .ref z0, .ref y0, .int tr, .int (nI 4)])), (y0, .inl (cS, 4, .inr (.inr (.inr (.inr ys))))), (s0, .inr (5, [.ref c0, .int (nI len), .int rl])), (c0, .inl (cI, 60, .inl cf))]) (wr := [(y0, .inl (cS, 4, .inr (.inr (.inr (.inr ys))))), (s0, .inr (5, [.ref c0, .int (nI len), .int rl])), (c0, .inl (cI, 60, .inl cf))]) (H1 := H1) hP hD [0] [1, 2, 3] rfl rfl rfl rfl 4 rfl (by decide) [x0, y0, s0, c0] rfl rfl hk1 (by rw [← ht]; exact hB)
          have hw_9 : r_9 = (-10 : Int32) - nI 4 ∧ True := hw_9
          clear hF hB hk1 hz1 hvm
          clear ht
          generalize H1 = H at hP hS ⊢
          obtain ⟨rfl, hw_9⟩ := hw_9
          have hq : ((-10 : Int32) - nI 4) = sp_sheet (nI x1N) (nI x2N) x3 ∧ (nI 4) = nf_sheet (nI x1N) (nI x2N) x3 ∧ rl = (bif ok_sheet (nI x1N) (nI x2N) x3 then (nI x2N) else rl) ∧ len = (bif ok_sheet (nI x1N) (nI x2N) x3 then tn x3 else len) ∧ (bif ok_sheet (nI x1N) (nI x2N) x3 then ∀ j, j < len → cf j = nI 0 else cf = cf) := by
            refine ⟨by simp only [sp_sheet, hb_2, hb_4, t_x1, t_x2, cond_true, cond_false, c_5, c_6, (by decide : ¬ (1 : Nat) = 2), if_true, if_false, reduceIte], by simp only [nf_sheet, hb_2, hb_4, t_x1, t_x2, cond_true, cond_false, c_5, c_6, (by decide : ¬ (1 : Nat) = 2), if_true, if_false, reduceIte], by simp only [ok_sheet, hb_2, hb_4, t_x1, t_x2, cond_true, cond_false, c_5, c_6, (by decide : ¬ (1 : Nat) = 2), if_true, if_false, reduceIte], by simp only [ok_sheet, hb_2, hb_4, t_x1, t_x2, cond_true, cond_false, c_5, c_6, (by decide : ¬ (1 : Nat) = 2), if_true, if_false, reduceIte], ?_⟩
            simp only [ok_sheet, hb_2, hb_4, t_x1, t_x2, cond_true, cond_false, c_5, c_6, (by decide : ¬ (1 : Nat) = 2), if_true, if_false, reduceIte]
          refine kk_QQ hQQ ?_
          exact W.iret (v := (-10 : Int32) - nI 4) hx hb hr (fun t ht hW => ⟨⟨(-10 : Int32) - nI 4, (rl, len, cf, nI 4), rfl, hq, by show va_P D vwCl _ t.heap; rw [ht]; exact hP⟩, hS.F ht⟩) hS.2.2 dX9_sheet_39
      · skip
        refine lv_bipush (v := (-2 : Int32)) hx hb dX9_sheet_27 (by decide +kernel) ?_
        have hq : (-2 : Int32) = sp_sheet (nI x1N) (nI x2N) x3 ∧ (nI 0) = nf_sheet (nI x1N) (nI x2N) x3 ∧ rl = (bif ok_sheet (nI x1N) (nI x2N) x3 then (nI x2N) else rl) ∧ len = (bif ok_sheet (nI x1N) (nI x2N) x3 then tn x3 else len) ∧ (bif ok_sheet (nI x1N) (nI x2N) x3 then ∀ j, j < len → cf j = nI 0 else cf = cf) := by
          refine ⟨by simp only [sp_sheet, hb_2, hb_4, t_x1, t_x2, cond_true, cond_false, c_5, (by decide : ¬ (1 : Nat) = 2), if_true, if_false, reduceIte], by simp only [nf_sheet, hb_2, hb_4, t_x1, t_x2, cond_true, cond_false, c_5, (by decide : ¬ (1 : Nat) = 2), if_true, if_false, reduceIte], by simp only [ok_sheet, hb_2, hb_4, t_x1, t_x2, cond_true, cond_false, c_5, (by decide : ¬ (1 : Nat) = 2), if_true, if_false, reduceIte], by simp only [ok_sheet, hb_2, hb_4, t_x1, t_x2, cond_true, cond_false, c_5, (by decide : ¬ (1 : Nat) = 2), if_true, if_false, reduceIte], ?_⟩
          simp only [ok_sheet, hb_2, hb_4, t_x1, t_x2, cond_true, cond_false, c_5, (by decide : ¬ (1 : Nat) = 2), if_true, if_false, reduceIte]
        refine kk_QQ hQQ ?_
        exact W.iret (v := (-2 : Int32)) hx hb hr (fun t ht hW => ⟨⟨(-2 : Int32), (rl, len, cf, nI 0), rfl, hq, by show va_P D vwCl _ t.heap; rw [ht]; exact hP⟩, hS.F ht⟩) hS.2.2 dX9_sheet_29
  · skip
    refine lv_iconst (v := (-1 : Int32)) hx hb dX9_sheet_12 (by decide +kernel) ?_
    have hq : (-1 : Int32) = sp_sheet x1 x2 x3 ∧ (nI 0) = nf_sheet x1 x2 x3 ∧ rl = (bif ok_sheet x1 x2 x3 then x2 else rl) ∧ len = (bif ok_sheet x1 x2 x3 then tn x3 else len) ∧ (bif ok_sheet x1 x2 x3 then ∀ j, j < len → cf j = nI 0 else cf = cf) := by
      refine ⟨by simp only [sp_sheet, hb_2, cond_true, cond_false, (by decide : ¬ (1 : Nat) = 2), if_true, if_false, reduceIte], by simp only [nf_sheet, hb_2, cond_true, cond_false, (by decide : ¬ (1 : Nat) = 2), if_true, if_false, reduceIte], by simp only [ok_sheet, hb_2, cond_true, cond_false, (by decide : ¬ (1 : Nat) = 2), if_true, if_false, reduceIte], by simp only [ok_sheet, hb_2, cond_true, cond_false, (by decide : ¬ (1 : Nat) = 2), if_true, if_false, reduceIte], ?_⟩
      simp only [ok_sheet, hb_2, cond_true, cond_false, (by decide : ¬ (1 : Nat) = 2), if_true, if_false, reduceIte]
    refine kk_QQ hQQ ?_
    exact W.iret (v := (-1 : Int32)) hx hb hr (fun t ht hW => ⟨⟨(-1 : Int32), (rl, len, cf, nI 0), rfl, hq, by show va_P D vwCl _ t.heap; rw [ht]; exact hP⟩, hS.F ht⟩) hS.2.2 dX9_sheet_13

abbrev rmX9_lose : Room := { frames := 2, cells := 0, slots := 0, locals := 42 }
set_option maxHeartbeats 4000000 in
set_option maxRecDepth 100000 in
theorem c_X9_lose (lL : Launch) (D : va_G) (cI cS : ClassId) (sz : Nat) (C : Co) (T : Mv) (E : Mv) (x0 : Nat) (g0 : Nat) (q0 : Nat) (e0 : Nat) (t0 : Nat) (r0 : Nat) (h0 : Nat) (i0 : Nat) (z0 : Nat) (y0 : Nat) (tr : Int32) (ft : Int32) (x1 : Int32) (s0 : Nat) (c0 : Nat) (len : Nat) (rl : Int32) (ys : Nat → Option Nat) (hsel : ∀ j, x1 = nI j → j < 4 → ys j = some s0) (hX : okX C T E) : Met lL yX9_lose wsX9_lose rmX9_lose (va_Pc [.ref x0, .int x1] (kB D cI cS [(x0, .inr (8, [.ref g0, .ref q0, .ref e0, .ref t0, .ref r0, .ref h0, .ref i0, .ref z0, .ref y0, .int tr, .int ft])), (y0, .inl (cS, 4, .inr (.inr (.inr (.inr ys))))), (s0, .inr (5, [.ref c0, .int (nI len), .int rl]))] sz)) (kQi D (fun (r : Int32) (u : Int32 × Nat) => r = sp_lose rl x1 ∧ u.1 = (bif ok_lose rl x1 then (-1) else rl) ∧ u.2 = (bif ok_lose rl x1 then 0 else len)) (fun u : Int32 × Nat => [(x0, .inr (8, [.ref g0, .ref q0, .ref e0, .ref t0, .ref r0, .ref h0, .ref i0, .ref z0, .ref y0, .int tr, .int ft])), (y0, .inl (cS, 4, .inr (.inr (.inr (.inr ys))))), (s0, .inr (5, [.ref c0, .int (nI u.2), .int u.1]))]) (va_A [(x0, .inr (8, [.ref g0, .ref q0, .ref e0, .ref t0, .ref r0, .ref h0, .ref i0, .ref z0, .ref y0, .int tr, .int ft])), (y0, .inl (cS, 4, .inr (.inr (.inr (.inr ys))))), (s0, .inr (5, [.ref c0, .int (nI len), .int rl]))] sz)) 0 0 (va_A [(x0, .inr (8, [.ref g0, .ref q0, .ref e0, .ref t0, .ref r0, .ref h0, .ref i0, .ref z0, .ref y0, .int tr, .int ft])), (y0, .inl (cS, 4, .inr (.inr (.inr (.inr ys))))), (s0, .inr (5, [.ref c0, .int (nI len), .int rl]))] sz) := by
  refine Met.ofW (cc := cX9_lose) (maxL := 2) (ret := (some .int)) (by decide) rfl ?_
  intro pP eE sS mM args below meth cC s₁ B hml hv
  obtain ⟨rfl, hsz, hP, hK, hD0⟩ := hv
  have hx := B.exec
  have hb := B.bytes
  have hr := B.returns
  have hts := atoms_spec (ws := wsX9_lose) B.pre
  have hown : sS.vm.findClass RX9 = some mM.cls := findClass_of_methodNamed B.named
  have hlocks := B.notSynchronized
  subst hsz
  have hD := hD0.self (sz := sS.heap.size)
  generalize hAe : va_A [(x0, .inr (8, [.ref g0, .ref q0, .ref e0, .ref t0, .ref r0, .ref h0, .ref i0, .ref z0, .ref y0, .int tr, .int ft])), (y0, .inl (cS, 4, .inr (.inr (.inr (.inr ys))))), (s0, .inr (5, [.ref c0, .int (nI len), .int rl]))] sS.heap.size = A at hD ⊢
  have hA : ∀ q : Nat, sS.heap.size ≤ q → A q := fun q h => by rw [← hAe]; exact Or.inr h
  have hS : va_S A sS.heap sS.heap [] := va_S.rf
  have hP : va_P D vwCl [(x0, .inr (8, [.ref g0, .ref q0, .ref e0, .ref t0, .ref r0, .ref h0, .ref i0, .ref z0, .ref y0, .int tr, .int ft])), (y0, .inl (cS, 4, .inr (.inr (.inr (.inr ys))))), (s0, .inr (5, [.ref c0, .int (nI len), .int rl]))] sS.heap := hP
  have hD : va_D A [(x0, .inr (8, [.ref g0, .ref q0, .ref e0, .ref t0, .ref r0, .ref h0, .ref i0, .ref z0, .ref y0, .int tr, .int ft])), (y0, .inl (cS, 4, .inr (.inr (.inr (.inr ys))))), (s0, .inr (5, [.ref c0, .int (nI len), .int rl]))] := hD
  have hf_53 := hts (.fieldLink RX9 53 "OldLamps" "sheets" "[LOldLamps$Sheet;") (List.mem_of_getElem? (i := 1) rfl)
  have hwX9 : ∀ w ∈ wsX90, w ∈ wsX9_lose := fun _ h => List.mem_cons_of_mem _ (List.mem_append_left _ (List.mem_append_right _ h))
  have hl := lv_entry ([.ref x0, .int x1]) (n := 2) (Nat.le_of_ble_eq_true rfl)
  rw [lg_entry_eq]
  generalize (lg_sl ([.ref x0, .int x1]) ++ List.replicate (2 - (lg_sl ([.ref x0, .int x1])).length) Slot.unset).toArray = ls at hl ⊢
  have hl : lv_has ls 2 [(0, .ref x0), (1, .int x1)] := hl
  obtain ⟨QQ, hQQ⟩ : ∃ QQ : State → Prop, QQ = MQ below (kQi D (fun (r : Int32) (u : Int32 × Nat) => r = sp_lose rl x1 ∧ u.1 = (bif ok_lose rl x1 then (-1) else rl) ∧ u.2 = (bif ok_lose rl x1 then 0 else len)) (fun u : Int32 × Nat => [(x0, .inr (8, [.ref g0, .ref q0, .ref e0, .ref t0, .ref r0, .ref h0, .ref i0, .ref z0, .ref y0, .int tr, .int ft])), (y0, .inl (cS, 4, .inr (.inr (.inr (.inr ys))))), (s0, .inr (5, [.ref c0, .int (nI u.2), .int u.1]))]) A) ([.ref x0, .int x1]).toArray sS 0 0 A := ⟨_, rfl⟩
  refine kk_QQ hQQ.symm ?_
  obtain ⟨hX1, hX2, hX3, hX4⟩ := okX_le hX
  refine lv_iload_n hx hb dX9_lose_0 rfl (lv_at hl 1 rfl) ?_
  refine vp_callSi (W.runS (As := [.int x1]) (rest := []) ⟨hx, hb, hml, hown, hts⟩ (c_X9_isSheet lL D cI cS x1) (va_cwS 1 hts gX9_lose_X9_isSheet rfl rfl rfl cd_X9_isSheet ⟨Nat.le_of_ble_eq_true rfl, Nat.le_of_ble_eq_true rfl⟩) ⟨kBp_blind, fun U hU hW => ⟨rfl, by rw [hU]; exact hP.sub [] rfl, va_K.moved hW.alike hK⟩⟩ rfl rfl hl.1 rfl (lv_room (Nat.le_of_ble_eq_true rfl)) dX9_lose_1 ⟨Nat.le_of_ble_eq_true rfl, Nat.le_of_ble_eq_true rfl⟩) (fun r_1 hw_1 => ?_)
  obtain rfl : r_1 = kb (inB x1 4) := hw_1
  -- if (inB x1 4)
  refine kk_ifb_ne (tgt := 9) hx hb dX9_lose_4 (by decide) (fun hb_2 => ?_) (fun hb_2 => ?_)
  · skip
    obtain ⟨x1N, hx1N, rfl⟩ := inB_t hb_2
    have t_x1 := nI_clamp (show x1N < 2 ^ 31 by omega)
    refine lv_aload_n hx hb dX9_lose_9 rfl (lv_at hl 0 rfl) ?_
    refine va_get (D := D) (ci := 8) (v := .ref y0) (C := RX9) (T := TX9) (N := 11) hx hb hts hwX9 hown hK hP 0 rfl rfl 8 (by decide) hf_53 (fun _ h9 => h9) rfl dX9_lose_10 ?_
    refine lv_iload_n hx hb dX9_lose_13 rfl (lv_at hl 1 rfl) ?_
    refine kk_aldq hx hb hK hP 1 rfl rfl (i := x1N) (by omega) (by decide) (hsel _ rfl hx1N) dX9_lose_14 ?_
    refine vp_callSi (W.runV (As := []) (rest := []) ⟨hx, hb, hml, hown, hts⟩ (c_X6_isNothing lL D cI cS s0 c0 len rl) (cwV 0 hts gX9_lose_X6_isNothing rfl rfl rfl cd_X6_isNothing ⟨Nat.le_of_ble_eq_true rfl, Nat.le_of_ble_eq_true rfl⟩) ⟨kBp_blind, va_recv hK hP (ci := 5) (q0 := 2) rfl rfl, fun U hU hW => ⟨rfl, by rw [hU]; exact hP.sub [2] rfl, va_K.moved hW.alike hK⟩⟩ rfl rfl hl.1 rfl (lv_room (Nat.le_of_ble_eq_true rfl)) dX9_lose_15 ⟨Nat.le_of_ble_eq_true rfl, Nat.le_of_ble_eq_true rfl⟩) (fun r_3 hw_3 => ?_)
    obtain rfl : r_3 = kb (decide (rl = (-1 : Int32))) := hw_3
    -- if (decide (rl = (-1 : Int32)))
    refine kk_ifb_eq (tgt := 23) hx hb dX9_lose_18 (by decide) (fun hb_4 => ?_) (fun hb_4 => ?_)
    · skip
      refine lv_aload_n hx hb dX9_lose_23 rfl (lv_at hl 0 rfl) ?_
      refine va_get (D := D) (ci := 8) (v := .ref y0) (C := RX9) (T := TX9) (N := 11) hx hb hts hwX9 hown hK hP 0 rfl rfl 8 (by decide) hf_53 (fun _ h9 => h9) rfl dX9_lose_24 ?_
      refine lv_iload_n hx hb dX9_lose_27 rfl (lv_at hl 1 rfl) ?_
      refine kk_aldq hx hb hK hP 1 rfl rfl (i := x1N) (by omega) (by decide) (hsel _ rfl hx1N) dX9_lose_28 ?_
      have hF := va_free (wc := [(s0, .inr (5, [.ref c0, .int (nI len), .int rl]))]) hD hS hA [2] rfl
      refine va_callv (va_runV (As := []) (rest := []) ⟨hx, hb, hml, hown, hts⟩ (c_X6_makeNothing lL D cI cS _ s0 c0 len rl) (cwV 0 hts gX9_lose_X6_makeNothing rfl rfl rfl cd_X6_makeNothing ⟨Nat.le_of_ble_eq_true rfl, Nat.le_of_ble_eq_true rfl⟩) ⟨kB_blind, va_recv hK hP (ci := 5) (q0 := 2) rfl rfl, fun U hU hW => ⟨rfl, by rw [hU], by rw [hU]; exact hP.sub [2] rfl, va_K.moved hW.alike hK, (hD.sub [2] (by decide) rfl).weaken (fun _ _ _ _ => trivial)⟩⟩ rfl rfl hl.1 rfl (lv_room (Nat.le_of_ble_eq_true rfl)) dX9_lose_29 ⟨Nat.le_of_ble_eq_true rfl, Nat.le_of_ble_eq_true rfl⟩) hS (fun q _ h => hF q h) hF (fun u_5 t H1 locs ht hvm hw_5 hB hz1 hk1 hS => ?_)
      obtain ⟨hP, hD⟩ := kk_join2 (wc := [(s0, .inr (5, [.ref c0, .int (nI len), .int rl]))]) (w1 := [(s0, .inr (5, [.ref c0, .int (nI 0), .int (-1 : Int32)]))]) (ws' := [(x0, .inr (8, [.ref g0, .ref q0, .ref e0, .ref t0, .ref r0, .ref h0, .ref i0, .ref z0, .ref y0, .int tr, .int ft])), (y0, .inl (cS, 4, .inr (.inr (.inr (.inr ys))))), (s0, .inr (5, [.ref c0, .int (nI 0), .int (-1 : Int32)]))]) (wr := [(x0, .inr (8, [.ref g0, .ref q0, .ref e0, .ref t0, .ref r0, .ref h0, .ref i0, .ref z0, .ref y0, .int tr, .int ft])), (y0, .inl (cS, 4, .inr (.inr (.inr (.inr ys)))))]) (H1 := H1) hP hD [2] [0, 1] rfl rfl rfl rfl 3 rfl (by decide) [x0, y0, s0] rfl rfl hk1 (by rw [← ht]; exact hB)
      have hw_5 : True := hw_5
      clear hF hB hk1 hz1 hvm
      clear ht
      generalize H1 = H at hP hS ⊢
      refine lv_iconst (v := nI 1) hx hb dX9_lose_32 (by decide +kernel) ?_
      have hq : (nI 1) = sp_lose rl (nI x1N) ∧ (-1 : Int32) = (bif ok_lose rl (nI x1N) then (-1) else rl) ∧ 0 = (bif ok_lose rl (nI x1N) then 0 else len) := by refine ⟨by simp only [sp_lose, hb_2, hb_4, t_x1, cond_true, cond_false], by simp only [ok_lose, hb_2, hb_4, t_x1, cond_true, cond_false], by simp only [ok_lose, hb_2, hb_4, t_x1, cond_true, cond_false]⟩
      refine kk_QQ hQQ ?_
      exact W.iret (v := nI 1) hx hb hr (fun t ht hW => ⟨⟨nI 1, ((-1 : Int32), 0), rfl, hq, by show va_P D vwCl _ t.heap; rw [ht]; exact hP⟩, hS.F ht⟩) hS.2.2 dX9_lose_33
    · skip
      refine lv_iconst (v := nI 0) hx hb dX9_lose_21 (by decide +kernel) ?_
      have hq : (nI 0) = sp_lose rl (nI x1N) ∧ rl = (bif ok_lose rl (nI x1N) then (-1) else rl) ∧ len = (bif ok_lose rl (nI x1N) then 0 else len) := by refine ⟨by simp only [sp_lose, hb_2, hb_4, t_x1, cond_true, cond_false], by simp only [ok_lose, hb_2, hb_4, t_x1, cond_true, cond_false], by simp only [ok_lose, hb_2, hb_4, t_x1, cond_true, cond_false]⟩
      refine kk_QQ hQQ ?_
      exact W.iret (v := nI 0) hx hb hr (fun t ht hW => ⟨⟨nI 0, (rl, len), rfl, hq, by show va_P D vwCl _ t.heap; rw [ht]; exact hP⟩, hS.F ht⟩) hS.2.2 dX9_lose_22
  · skip
    refine lv_iconst (v := (-1 : Int32)) hx hb dX9_lose_7 (by decide +kernel) ?_
    have hq : (-1 : Int32) = sp_lose rl x1 ∧ rl = (bif ok_lose rl x1 then (-1) else rl) ∧ len = (bif ok_lose rl x1 then 0 else len) := by refine ⟨by simp only [sp_lose, hb_2, cond_true, cond_false], by simp only [ok_lose, hb_2, cond_true, cond_false], by simp only [ok_lose, hb_2, cond_true, cond_false]⟩
    refine kk_QQ hQQ ?_
    exact W.iret (v := (-1 : Int32)) hx hb hr (fun t ht hW => ⟨⟨(-1 : Int32), (rl, len), rfl, hq, by show va_P D vwCl _ t.heap; rw [ht]; exact hP⟩, hS.F ht⟩) hS.2.2 dX9_lose_8

abbrev rmX9_put : Room := { frames := 2, cells := 0, slots := 0, locals := 42 }
set_option maxHeartbeats 4000000 in
set_option maxRecDepth 100000 in
theorem c_X9_put (lL : Launch) (D : va_G) (cI cS : ClassId) (sz : Nat) (C : Co) (T : Mv) (E : Mv) (x0 : Nat) (g0 : Nat) (q0 : Nat) (e0 : Nat) (t0 : Nat) (r0 : Nat) (h0 : Nat) (i0 : Nat) (z0 : Nat) (y0 : Nat) (tr : Int32) (ft : Int32) (x1 : Int32) (x2 : Int32) (x3 : Int32) (s0 : Nat) (c0 : Nat) (len : Nat) (rl : Int32) (cf : Nat → Int32) (ys : Nat → Option Nat) (hsel : ∀ j, x1 = nI j → j < 4 → ys j = some s0) (hlen : len ≤ 60) (hX : okX C T E) : Met lL yX9_put wsX9_put rmX9_put (va_Pc [.ref x0, .int x1, .int x2, .int x3] (kB D cI cS [(x0, .inr (8, [.ref g0, .ref q0, .ref e0, .ref t0, .ref r0, .ref h0, .ref i0, .ref z0, .ref y0, .int tr, .int ft])), (y0, .inl (cS, 4, .inr (.inr (.inr (.inr ys))))), (s0, .inr (5, [.ref c0, .int (nI len), .int rl])), (c0, .inl (cI, 60, .inl cf))] sz)) (kQi D (fun (r : Int32) (u : (Nat → Int32) × Int32) => r = sp_put rl len x1 x2 ∧ u.2 = nf_put rl len x1 x2 ∧ u.1 = (bif ok_put rl len x1 x2 then upd cf (tn x2) (cutL rl x3) else cf)) (fun u : (Nat → Int32) × Int32 => [(x0, .inr (8, [.ref g0, .ref q0, .ref e0, .ref t0, .ref r0, .ref h0, .ref i0, .ref z0, .ref y0, .int tr, .int u.2])), (y0, .inl (cS, 4, .inr (.inr (.inr (.inr ys))))), (s0, .inr (5, [.ref c0, .int (nI len), .int rl])), (c0, .inl (cI, 60, .inl u.1))]) (va_A [(x0, .inr (8, [.ref g0, .ref q0, .ref e0, .ref t0, .ref r0, .ref h0, .ref i0, .ref z0, .ref y0, .int tr, .int ft])), (y0, .inl (cS, 4, .inr (.inr (.inr (.inr ys))))), (s0, .inr (5, [.ref c0, .int (nI len), .int rl])), (c0, .inl (cI, 60, .inl cf))] sz)) 0 0 (va_A [(x0, .inr (8, [.ref g0, .ref q0, .ref e0, .ref t0, .ref r0, .ref h0, .ref i0, .ref z0, .ref y0, .int tr, .int ft])), (y0, .inl (cS, 4, .inr (.inr (.inr (.inr ys))))), (s0, .inr (5, [.ref c0, .int (nI len), .int rl])), (c0, .inl (cI, 60, .inl cf))] sz) := by
  refine Met.ofW (cc := cX9_put) (maxL := 5) (ret := (some .int)) (by decide) rfl ?_
  intro pP eE sS mM args below meth cC s₁ B hml hv
  obtain ⟨rfl, hsz, hP, hK, hD0⟩ := hv
  have hx := B.exec
  have hb := B.bytes
  have hr := B.returns
  have hts := atoms_spec (ws := wsX9_put) B.pre
  have hown : sS.vm.findClass RX9 = some mM.cls := findClass_of_methodNamed B.named
  have hlocks := B.notSynchronized
  subst hsz
  have hD := hD0.self (sz := sS.heap.size)
  generalize hAe : va_A [(x0, .inr (8, [.ref g0, .ref q0, .ref e0, .ref t0, .ref r0, .ref h0, .ref i0, .ref z0, .ref y0, .int tr, .int ft])), (y0, .inl (cS, 4, .inr (.inr (.inr (.inr ys))))), (s0, .inr (5, [.ref c0, .int (nI len), .int rl])), (c0, .inl (cI, 60, .inl cf))] sS.heap.size = A at hD ⊢
  have hA : ∀ q : Nat, sS.heap.size ≤ q → A q := fun q h => by rw [← hAe]; exact Or.inr h
  have hS : va_S A sS.heap sS.heap [] := va_S.rf
  have hP : va_P D vwCl [(x0, .inr (8, [.ref g0, .ref q0, .ref e0, .ref t0, .ref r0, .ref h0, .ref i0, .ref z0, .ref y0, .int tr, .int ft])), (y0, .inl (cS, 4, .inr (.inr (.inr (.inr ys))))), (s0, .inr (5, [.ref c0, .int (nI len), .int rl])), (c0, .inl (cI, 60, .inl cf))] sS.heap := hP
  have hD : va_D A [(x0, .inr (8, [.ref g0, .ref q0, .ref e0, .ref t0, .ref r0, .ref h0, .ref i0, .ref z0, .ref y0, .int tr, .int ft])), (y0, .inl (cS, 4, .inr (.inr (.inr (.inr ys))))), (s0, .inr (5, [.ref c0, .int (nI len), .int rl])), (c0, .inl (cI, 60, .inl cf))] := hD
  have hf_53 := hts (.fieldLink RX9 53 "OldLamps" "sheets" "[LOldLamps$Sheet;") (List.mem_of_getElem? (i := 2) rfl)
  have hf_61 := hts (.fieldLink RX9 61 "OldLamps" "latestFault" "I") (List.mem_of_getElem? (i := 1) rfl)
  have hf_216 := hts (.fieldLink RX9 216 "OldLamps$Sheet" "cells" "[I") (List.mem_of_getElem? (i := 3) rfl)
  have hwX6 : ∀ w ∈ wsX60, w ∈ wsX9_put := fun _ h => List.mem_cons_of_mem _ (List.mem_append_right _ h)
  have hwX9 : ∀ w ∈ wsX90, w ∈ wsX9_put := fun _ h => List.mem_cons_of_mem _ (List.mem_append_left _ (List.mem_append_right _ h))
  have hl := lv_entry ([.ref x0, .int x1, .int x2, .int x3]) (n := 5) (Nat.le_of_ble_eq_true rfl)
  rw [lg_entry_eq]
  generalize (lg_sl ([.ref x0, .int x1, .int x2, .int x3]) ++ List.replicate (5 - (lg_sl ([.ref x0, .int x1, .int x2, .int x3])).length) Slot.unset).toArray = ls at hl ⊢
  have hl : lv_has ls 5 [(0, .ref x0), (1, .int x1), (2, .int x2), (3, .int x3)] := hl
  obtain ⟨QQ, hQQ⟩ : ∃ QQ : State → Prop, QQ = MQ below (kQi D (fun (r : Int32) (u : (Nat → Int32) × Int32) => r = sp_put rl len x1 x2 ∧ u.2 = nf_put rl len x1 x2 ∧ u.1 = (bif ok_put rl len x1 x2 then upd cf (tn x2) (cutL rl x3) else cf)) (fun u : (Nat → Int32) × Int32 => [(x0, .inr (8, [.ref g0, .ref q0, .ref e0, .ref t0, .ref r0, .ref h0, .ref i0, .ref z0, .ref y0, .int tr, .int u.2])), (y0, .inl (cS, 4, .inr (.inr (.inr (.inr ys))))), (s0, .inr (5, [.ref c0, .int (nI len), .int rl])), (c0, .inl (cI, 60, .inl u.1))]) A) ([.ref x0, .int x1, .int x2, .int x3]).toArray sS 0 0 A := ⟨_, rfl⟩
  refine kk_QQ hQQ.symm ?_
  obtain ⟨hX1, hX2, hX3, hX4⟩ := okX_le hX
  refine lv_aload_n hx hb dX9_put_0 rfl (lv_at hl 0 rfl) ?_
  refine lv_iconst (v := nI 0) hx hb dX9_put_1 (by decide +kernel) ?_
  refine va_put (D := D) (ci := 8) (v := .int (nI 0)) (ty := .int) (C := RX9) (T := TX9) (N := 11) hx hb hts hwX9 tyX9 tyX9_ok nmX9 hown hK hP hD hS 0 rfl rfl 10 (by decide) hf_61 (fun _ h9 => h9) rfl (by decide +kernel) rfl rfl (Nat.le_of_ble_eq_true rfl) dX9_put_2 (fun H locs hP hD hS => ?_)
  have hP : va_P D vwCl [(x0, .inr (8, [.ref g0, .ref q0, .ref e0, .ref t0, .ref r0, .ref h0, .ref i0, .ref z0, .ref y0, .int tr, .int (nI 0)])), (y0, .inl (cS, 4, .inr (.inr (.inr (.inr ys))))), (s0, .inr (5, [.ref c0, .int (nI len), .int rl])), (c0, .inl (cI, 60, .inl cf))] H := hP
  have hD : va_D A [(x0, .inr (8, [.ref g0, .ref q0, .ref e0, .ref t0, .ref r0, .ref h0, .ref i0, .ref z0, .ref y0, .int tr, .int (nI 0)])), (y0, .inl (cS, 4, .inr (.inr (.inr (.inr ys))))), (s0, .inr (5, [.ref c0, .int (nI len), .int rl])), (c0, .inl (cI, 60, .inl cf))] := hD
  refine lv_iload_n hx hb dX9_put_5 rfl (lv_at hl 1 rfl) ?_
  refine vp_callSi (W.runS (As := [.int x1]) (rest := []) ⟨hx, hb, hml, hown, hts⟩ (c_X9_isSheet lL D cI cS x1) (va_cwS 1 hts gX9_put_X9_isSheet rfl rfl rfl cd_X9_isSheet ⟨Nat.le_of_ble_eq_true rfl, Nat.le_of_ble_eq_true rfl⟩) ⟨kBp_blind, fun U hU hW => ⟨rfl, by rw [hU]; exact hP.sub [] rfl, va_K.moved hW.alike hK⟩⟩ rfl rfl hl.1 rfl (lv_room (Nat.le_of_ble_eq_true rfl)) dX9_put_6 ⟨Nat.le_of_ble_eq_true rfl, Nat.le_of_ble_eq_true rfl⟩) (fun r_1 hw_1 => ?_)
  obtain rfl : r_1 = kb (inB x1 4) := hw_1
  -- if (inB x1 4)
  refine kk_ifb_ne (tgt := 14) hx hb dX9_put_9 (by decide) (fun hb_2 => ?_) (fun hb_2 => ?_)
  · skip
    obtain ⟨x1N, hx1N, rfl⟩ := inB_t hb_2
    have t_x1 := nI_clamp (show x1N < 2 ^ 31 by omega)
    refine lv_aload_n hx hb dX9_put_14 rfl (lv_at hl 0 rfl) ?_
    refine va_get (D := D) (ci := 8) (v := .ref y0) (C := RX9) (T := TX9) (N := 11) hx hb hts hwX9 hown hK hP 0 rfl rfl 8 (by decide) hf_53 (fun _ h9 => h9) rfl dX9_put_15 ?_
    refine lv_iload_n hx hb dX9_put_18 rfl (lv_at hl 1 rfl) ?_
    refine kk_aldq hx hb hK hP 1 rfl rfl (i := x1N) (by omega) (by decide) (hsel _ rfl hx1N) dX9_put_19 ?_
    refine lv_astore (lv' := [(4, .ref s0), (0, .ref x0), (1, .int (nI x1N)), (2, .int x2), (3, .int x3)]) hx hb dX9_put_20 hl (by decide) rfl (fun ls hl => ?_)
    refine lv_aload hx hb dX9_put_22 (lv_at hl 0 rfl) ?_
    refine vp_callSi (W.runV (As := []) (rest := []) ⟨hx, hb, hml, hown, hts⟩ (c_X6_isNothing lL D cI cS s0 c0 len rl) (cwV 0 hts gX9_put_X6_isNothing rfl rfl rfl cd_X6_isNothing ⟨Nat.le_of_ble_eq_true rfl, Nat.le_of_ble_eq_true rfl⟩) ⟨kBp_blind, va_recv hK hP (ci := 5) (q0 := 2) rfl rfl, fun U hU hW => ⟨rfl, by rw [hU]; exact hP.sub [2] rfl, va_K.moved hW.alike hK⟩⟩ rfl rfl hl.1 rfl (lv_room (Nat.le_of_ble_eq_true rfl)) dX9_put_24 ⟨Nat.le_of_ble_eq_true rfl, Nat.le_of_ble_eq_true rfl⟩) (fun r_3 hw_3 => ?_)
    obtain rfl : r_3 = kb (decide (rl = (-1 : Int32))) := hw_3
    -- if (decide (rl = (-1 : Int32)))
    refine kk_ifb_eq (tgt := 36) hx hb dX9_put_27 (by decide) (fun hb_4 => ?_) (fun hb_4 => ?_)
    · skip
      refine lv_aload hx hb dX9_put_36 (lv_at hl 0 rfl) ?_
      refine lv_iload_n hx hb dX9_put_38 rfl (lv_at hl 3 rfl) ?_
      refine lv_iconst (v := nI 1) hx hb dX9_put_39 (by decide +kernel) ?_
      have o_5 : len ≤ 60 := by omega
      refine vp_callSi (W.runV (As := [.int x2, .int (nI 1)]) (rest := []) ⟨hx, hb, hml, hown, hts⟩ (c_X6_hasCells lL D cI cS s0 c0 len rl x2 (nI 1) o_5) (cwV 2 hts gX9_put_X6_hasCells rfl rfl rfl cd_X6_hasCells ⟨Nat.le_of_ble_eq_true rfl, Nat.le_of_ble_eq_true rfl⟩) ⟨kBp_blind, va_recv hK hP (ci := 5) (q0 := 2) rfl rfl, fun U hU hW => ⟨rfl, by rw [hU]; exact hP.sub [2] rfl, va_K.moved hW.alike hK⟩⟩ rfl rfl hl.1 rfl (lv_room (Nat.le_of_ble_eq_true rfl)) dX9_put_40 ⟨Nat.le_of_ble_eq_true rfl, Nat.le_of_ble_eq_true rfl⟩) (fun r_6 hw_6 => ?_)
      obtain rfl : r_6 = kb (hasC len x2 (nI 1)) := hw_6
      -- if (hasC len x2 (nI 1))
      refine kk_ifb_ne (tgt := 52) hx hb dX9_put_43 (by decide) (fun hb_7 => ?_) (fun hb_7 => ?_)
      · skip
        obtain ⟨x2N, hx2N, rfl⟩ := hasC_n (by omega) (by omega) hb_7
        have t_x2 := nI_clamp (show x2N < 2 ^ 31 by omega)
        refine lv_aload hx hb dX9_put_52 (lv_at hl 0 rfl) ?_
        refine va_get (D := D) (ci := 5) (v := .ref c0) (C := RX6) (T := TX6) (N := 3) hx hb hts hwX6 hown hK hP 2 rfl rfl 0 (by decide) hf_216 (fun _ h9 => h9) rfl dX9_put_54 ?_
        refine lv_iload_n hx hb dX9_put_57 rfl (lv_at hl 3 rfl) ?_
        refine lv_aload hx hb dX9_put_58 (lv_at hl 0 rfl) ?_
        refine lv_iload_n hx hb dX9_put_60 rfl (lv_at hl 4 rfl) ?_
        refine vp_callSi (W.runV (As := [.int x3]) (rest := [.int (nI x2N), .ref c0]) ⟨hx, hb, hml, hown, hts⟩ (c_X6_cutToLane lL D cI cS s0 c0 len rl x3) (cwV 1 hts gX9_put_X6_cutToLane rfl rfl rfl cd_X6_cutToLane ⟨Nat.le_of_ble_eq_true rfl, Nat.le_of_ble_eq_true rfl⟩) ⟨kBp_blind, va_recv hK hP (ci := 5) (q0 := 2) rfl rfl, fun U hU hW => ⟨rfl, by rw [hU]; exact hP.sub [2] rfl, va_K.moved hW.alike hK⟩⟩ rfl rfl hl.1 rfl (lv_room (Nat.le_of_ble_eq_true rfl)) dX9_put_61 ⟨Nat.le_of_ble_eq_true rfl, Nat.le_of_ble_eq_true rfl⟩) (fun r_8 hw_8 => ?_)
        obtain rfl : r_8 = cutL rl x3 := hw_8
        refine kk_iast hx hb hK hP hD hS 3 rfl rfl (i := x2N) (by omega) (by decide) dX9_put_64 (fun H locs hP hD hS => ?_)
        have hP : va_P D vwCl [(x0, .inr (8, [.ref g0, .ref q0, .ref e0, .ref t0, .ref r0, .ref h0, .ref i0, .ref z0, .ref y0, .int tr, .int (nI 0)])), (y0, .inl (cS, 4, .inr (.inr (.inr (.inr ys))))), (s0, .inr (5, [.ref c0, .int (nI len), .int rl])), (c0, .inl (cI, 60, .inl (upd cf x2N (cutL rl x3))))] H := hP
        have hD : va_D A [(x0, .inr (8, [.ref g0, .ref q0, .ref e0, .ref t0, .ref r0, .ref h0, .ref i0, .ref z0, .ref y0, .int tr, .int (nI 0)])), (y0, .inl (cS, 4, .inr (.inr (.inr (.inr ys))))), (s0, .inr (5, [.ref c0, .int (nI len), .int rl])), (c0, .inl (cI, 60, .inl (upd cf x2N (cutL rl x3))))] := hD
        refine lv_iconst (v := nI 1) hx hb dX9_put_65 (by decide +kernel) ?_
        have hq : (nI 1) = sp_put rl len (nI x1N) (nI x2N) ∧ (nI 0) = nf_put rl len (nI x1N) (nI x2N) ∧ (upd cf x2N (cutL rl x3)) = (bif ok_put rl len (nI x1N) (nI x2N) then upd cf (tn (nI x2N)) (cutL rl x3) else cf) := by refine ⟨by simp only [sp_put, hb_2, hb_4, hb_7, t_x1, t_x2, cond_true, cond_false], by simp only [nf_put, hb_2, hb_4, hb_7, t_x1, t_x2, cond_true, cond_false], by simp only [ok_put, hb_2, hb_4, hb_7, t_x1, t_x2, cond_true, cond_false]⟩
        refine kk_QQ hQQ ?_
        exact W.iret (v := nI 1) hx hb hr (fun t ht hW => ⟨⟨nI 1, (upd cf x2N (cutL rl x3), nI 0), rfl, hq, by show va_P D vwCl _ t.heap; rw [ht]; exact hP⟩, hS.F ht⟩) hS.2.2 dX9_put_66
      · skip
        refine lv_aload_n hx hb dX9_put_46 rfl (lv_at hl 1 rfl) ?_
        refine lv_iconst (v := nI 3) hx hb dX9_put_47 (by decide +kernel) ?_
        have hF := va_free (wc := [(x0, .inr (8, [.ref g0, .ref q0, .ref e0, .ref t0, .ref r0, .ref h0, .ref i0, .ref z0, .ref y0, .int tr, .int (nI 0)]))]) hD hS hA [0] rfl
        refine va_calli (va_runV (As := [.int (nI 3)]) (rest := []) ⟨hx, hb, hml, hown, hts⟩ (c_X9_faulted lL D cI cS _ x0 (.ref g0) (.ref q0) (.ref e0) (.ref t0) (.ref r0) (.ref h0) (.ref i0) (.ref z0) (.ref y0) tr (nI 0) 3) (cwV 1 hts gX9_put_X9_faulted rfl rfl rfl cd_X9_faulted ⟨Nat.le_of_ble_eq_true rfl, Nat.le_of_ble_eq_true rfl⟩) ⟨kB_blind, va_recv hK hP (ci := 8) (q0 := 0) rfl rfl, fun U hU hW => ⟨rfl, by rw [hU], by rw [hU]; exact hP.sub [0] rfl, va_K.moved hW.alike hK, (hD.sub [0] (by decide) rfl).weaken (fun _ _ _ _ => trivial)⟩⟩ rfl rfl hl.1 rfl (lv_room (Nat.le_of_ble_eq_true rfl)) dX9_put_48 ⟨Nat.le_of_ble_eq_true rfl, Nat.le_of_ble_eq_true rfl⟩) hS (fun q _ h => hF q h) hF (fun r_9 u_9 t H1 locs ht hvm hw_9 hB hz1 hk1 hS => ?_)
        obtain ⟨hP, hD⟩ := kk_join2 (wc := [(x0, .inr (8, [.ref g0, .ref q0, .ref e0, .ref t0, .ref r0, .ref h0, .ref i0, .ref z0, .ref y0, .int tr, .int (nI 0)]))]) (w1 := [(x0, .inr (8, [.ref g0, .ref q0, .ref e0, .ref t0, .ref r0, .ref h0, .ref i0, .ref z0, .ref y0, .int tr, .int (nI 3)]))]) (ws' := [(x0, .inr (8, [.ref g0, .ref q0, .ref e0, .ref t0, .ref r0, .ref h0, .ref i0, .ref z0, .ref y0, .int tr, .int (nI 3)])), (y0, .inl (cS, 4, .inr (.inr (.inr (.inr ys))))), (s0, .inr (5, [.ref c0, .int (nI len), .int rl])), (c0, .inl (cI, 60, .inl cf))]) (wr := [(y0, .inl (cS, 4, .inr (.inr (.inr (.inr ys))))), (s0, .inr (5, [.ref c0, .int (nI len), .int rl])), (c0, .inl (cI, 60, .inl cf))]) (H1 := H1) hP hD [0] [1, 2, 3] rfl rfl rfl rfl 4 rfl (by decide) [x0, y0, s0, c0] rfl rfl hk1 (by rw [← ht]; exact hB)
        have hw_9 : r_9 = (-10 : Int32) - nI 3 ∧ True := hw_9
        clear hF hB hk1 hz1 hvm
        clear ht
        generalize H1 = H at hP hS ⊢
        obtain ⟨rfl, hw_9⟩ := hw_9
        have hq : ((-10 : Int32) - nI 3) = sp_put rl len (nI x1N) x2 ∧ (nI 3) = nf_put rl len (nI x1N) x2 ∧ cf = (bif ok_put rl len (nI x1N) x2 then upd cf (tn x2) (cutL rl x3) else cf) := by refine ⟨by simp only [sp_put, hb_2, hb_4, hb_7, t_x1, cond_true, cond_false], by simp only [nf_put, hb_2, hb_4, hb_7, t_x1, cond_true, cond_false], by simp only [ok_put, hb_2, hb_4, hb_7, t_x1, cond_true, cond_false]⟩
        refine kk_QQ hQQ ?_
        exact W.iret (v := (-10 : Int32) - nI 3) hx hb hr (fun t ht hW => ⟨⟨(-10 : Int32) - nI 3, (cf, nI 3), rfl, hq, by show va_P D vwCl _ t.heap; rw [ht]; exact hP⟩, hS.F ht⟩) hS.2.2 dX9_put_51
    · skip
      refine lv_aload_n hx hb dX9_put_30 rfl (lv_at hl 1 rfl) ?_
      refine lv_iconst (v := nI 1) hx hb dX9_put_31 (by decide +kernel) ?_
      have hF := va_free (wc := [(x0, .inr (8, [.ref g0, .ref q0, .ref e0, .ref t0, .ref r0, .ref h0, .ref i0, .ref z0, .ref y0, .int tr, .int (nI 0)]))]) hD hS hA [0] rfl
      refine va_calli (va_runV (As := [.int (nI 1)]) (rest := []) ⟨hx, hb, hml, hown, hts⟩ (c_X9_faulted lL D cI cS _ x0 (.ref g0) (.ref q0) (.ref e0) (.ref t0) (.ref r0) (.ref h0) (.ref i0) (.ref z0) (.ref y0) tr (nI 0) 1) (cwV 1 hts gX9_put_X9_faulted rfl rfl rfl cd_X9_faulted ⟨Nat.le_of_ble_eq_true rfl, Nat.le_of_ble_eq_true rfl⟩) ⟨kB_blind, va_recv hK hP (ci := 8) (q0 := 0) rfl rfl, fun U hU hW => ⟨rfl, by rw [hU], by rw [hU]; exact hP.sub [0] rfl, va_K.moved hW.alike hK, (hD.sub [0] (by decide) rfl).weaken (fun _ _ _ _ => trivial)⟩⟩ rfl rfl hl.1 rfl (lv_room (Nat.le_of_ble_eq_true rfl)) dX9_put_32 ⟨Nat.le_of_ble_eq_true rfl, Nat.le_of_ble_eq_true rfl⟩) hS (fun q _ h => hF q h) hF (fun r_10 u_10 t H1 locs ht hvm hw_10 hB hz1 hk1 hS => ?_)
      obtain ⟨hP, hD⟩ := kk_join2 (wc := [(x0, .inr (8, [.ref g0, .ref q0, .ref e0, .ref t0, .ref r0, .ref h0, .ref i0, .ref z0, .ref y0, .int tr, .int (nI 0)]))]) (w1 := [(x0, .inr (8, [.ref g0, .ref q0, .ref e0, .ref t0, .ref r0, .ref h0, .ref i0, .ref z0, .ref y0, .int tr, .int (nI 1)]))]) (ws' := [(x0, .inr (8, [.ref g0, .ref q0, .ref e0, .ref t0, .ref r0, .ref h0, .ref i0, .ref z0, .ref y0, .int tr, .int (nI 1)])), (y0, .inl (cS, 4, .inr (.inr (.inr (.inr ys))))), (s0, .inr (5, [.ref c0, .int (nI len), .int rl])), (c0, .inl (cI, 60, .inl cf))]) (wr := [(y0, .inl (cS, 4, .inr (.inr (.inr (.inr ys))))), (s0, .inr (5, [.ref c0, .int (nI len), .int rl])), (c0, .inl (cI, 60, .inl cf))]) (H1 := H1) hP hD [0] [1, 2, 3] rfl rfl rfl rfl 4 rfl (by decide) [x0, y0, s0, c0] rfl rfl hk1 (by rw [← ht]; exact hB)
      have hw_10 : r_10 = (-10 : Int32) - nI 1 ∧ True := hw_10
      clear hF hB hk1 hz1 hvm
      clear ht
      generalize H1 = H at hP hS ⊢
      obtain ⟨rfl, hw_10⟩ := hw_10
      have hq : ((-10 : Int32) - nI 1) = sp_put rl len (nI x1N) x2 ∧ (nI 1) = nf_put rl len (nI x1N) x2 ∧ cf = (bif ok_put rl len (nI x1N) x2 then upd cf (tn x2) (cutL rl x3) else cf) := by refine ⟨by simp only [sp_put, hb_2, hb_4, t_x1, cond_true, cond_false], by simp only [nf_put, hb_2, hb_4, t_x1, cond_true, cond_false], by simp only [ok_put, hb_2, hb_4, t_x1, cond_true, cond_false]⟩
      refine kk_QQ hQQ ?_
      exact W.iret (v := (-10 : Int32) - nI 1) hx hb hr (fun t ht hW => ⟨⟨(-10 : Int32) - nI 1, (cf, nI 1), rfl, hq, by show va_P D vwCl _ t.heap; rw [ht]; exact hP⟩, hS.F ht⟩) hS.2.2 dX9_put_35
  · skip
    refine lv_iconst (v := (-1 : Int32)) hx hb dX9_put_12 (by decide +kernel) ?_
    have hq : (-1 : Int32) = sp_put rl len x1 x2 ∧ (nI 0) = nf_put rl len x1 x2 ∧ cf = (bif ok_put rl len x1 x2 then upd cf (tn x2) (cutL rl x3) else cf) := by refine ⟨by simp only [sp_put, hb_2, cond_true, cond_false], by simp only [nf_put, hb_2, cond_true, cond_false], by simp only [ok_put, hb_2, cond_true, cond_false]⟩
    refine kk_QQ hQQ ?_
    exact W.iret (v := (-1 : Int32)) hx hb hr (fun t ht hW => ⟨⟨(-1 : Int32), (cf, nI 0), rfl, hq, by show va_P D vwCl _ t.heap; rw [ht]; exact hP⟩, hS.F ht⟩) hS.2.2 dX9_put_13

abbrev rmX9_cell : Room := { frames := 2, cells := 0, slots := 0, locals := 42 }
set_option maxHeartbeats 4000000 in
set_option maxRecDepth 100000 in
theorem c_X9_cell (lL : Launch) (D : va_G) (cI cS : ClassId) (sz : Nat) (C : Co) (T : Mv) (E : Mv) (x0 : Nat) (g0 : Nat) (q0 : Nat) (e0 : Nat) (t0 : Nat) (r0 : Nat) (h0 : Nat) (i0 : Nat) (z0 : Nat) (y0 : Nat) (tr : Int32) (ft : Int32) (x1 : Int32) (x2 : Int32) (x3 : Int32) (s0 : Nat) (c0 : Nat) (len : Nat) (rl : Int32) (cf : Nat → Int32) (ys : Nat → Option Nat) (hsel : ∀ j, x1 = nI j → j < 4 → ys j = some s0) (hlen : len ≤ 60) (hX : okX C T E) : Met lL yX9_cell wsX9_cell rmX9_cell (va_Pc [.ref x0, .int x1, .int x2, .int x3] (kB D cI cS [(x0, .inr (8, [.ref g0, .ref q0, .ref e0, .ref t0, .ref r0, .ref h0, .ref i0, .ref z0, .ref y0, .int tr, .int ft])), (y0, .inl (cS, 4, .inr (.inr (.inr (.inr ys))))), (s0, .inr (5, [.ref c0, .int (nI len), .int rl])), (c0, .inl (cI, 60, .inl cf))] sz)) (kQl D (fun (r : Int64) (u : Int32) => r = sp_cell rl len cf x1 x2 x3 ∧ u = nf_cell rl len x1 x2 x3) (fun u : Int32 => [(x0, .inr (8, [.ref g0, .ref q0, .ref e0, .ref t0, .ref r0, .ref h0, .ref i0, .ref z0, .ref y0, .int tr, .int u])), (y0, .inl (cS, 4, .inr (.inr (.inr (.inr ys))))), (s0, .inr (5, [.ref c0, .int (nI len), .int rl])), (c0, .inl (cI, 60, .inl cf))]) (va_A [(x0, .inr (8, [.ref g0, .ref q0, .ref e0, .ref t0, .ref r0, .ref h0, .ref i0, .ref z0, .ref y0, .int tr, .int ft])), (y0, .inl (cS, 4, .inr (.inr (.inr (.inr ys))))), (s0, .inr (5, [.ref c0, .int (nI len), .int rl])), (c0, .inl (cI, 60, .inl cf))] sz)) 0 0 (va_A [(x0, .inr (8, [.ref g0, .ref q0, .ref e0, .ref t0, .ref r0, .ref h0, .ref i0, .ref z0, .ref y0, .int tr, .int ft])), (y0, .inl (cS, 4, .inr (.inr (.inr (.inr ys))))), (s0, .inr (5, [.ref c0, .int (nI len), .int rl])), (c0, .inl (cI, 60, .inl cf))] sz) := by
  refine Met.ofW (cc := cX9_cell) (maxL := 5) (ret := (some .long)) (by decide) rfl ?_
  intro pP eE sS mM args below meth cC s₁ B hml hv
  obtain ⟨rfl, hsz, hP, hK, hD0⟩ := hv
  have hx := B.exec
  have hb := B.bytes
  have hr := B.returns
  have hts := atoms_spec (ws := wsX9_cell) B.pre
  have hown : sS.vm.findClass RX9 = some mM.cls := findClass_of_methodNamed B.named
  have hlocks := B.notSynchronized
  subst hsz
  have hD := hD0.self (sz := sS.heap.size)
  generalize hAe : va_A [(x0, .inr (8, [.ref g0, .ref q0, .ref e0, .ref t0, .ref r0, .ref h0, .ref i0, .ref z0, .ref y0, .int tr, .int ft])), (y0, .inl (cS, 4, .inr (.inr (.inr (.inr ys))))), (s0, .inr (5, [.ref c0, .int (nI len), .int rl])), (c0, .inl (cI, 60, .inl cf))] sS.heap.size = A at hD ⊢
  have hA : ∀ q : Nat, sS.heap.size ≤ q → A q := fun q h => by rw [← hAe]; exact Or.inr h
  have hS : va_S A sS.heap sS.heap [] := va_S.rf
  have hP : va_P D vwCl [(x0, .inr (8, [.ref g0, .ref q0, .ref e0, .ref t0, .ref r0, .ref h0, .ref i0, .ref z0, .ref y0, .int tr, .int ft])), (y0, .inl (cS, 4, .inr (.inr (.inr (.inr ys))))), (s0, .inr (5, [.ref c0, .int (nI len), .int rl])), (c0, .inl (cI, 60, .inl cf))] sS.heap := hP
  have hD : va_D A [(x0, .inr (8, [.ref g0, .ref q0, .ref e0, .ref t0, .ref r0, .ref h0, .ref i0, .ref z0, .ref y0, .int tr, .int ft])), (y0, .inl (cS, 4, .inr (.inr (.inr (.inr ys))))), (s0, .inr (5, [.ref c0, .int (nI len), .int rl])), (c0, .inl (cI, 60, .inl cf))] := hD
  have hf_53 := hts (.fieldLink RX9 53 "OldLamps" "sheets" "[LOldLamps$Sheet;") (List.mem_of_getElem? (i := 3) rfl)
  have hf_61 := hts (.fieldLink RX9 61 "OldLamps" "latestFault" "I") (List.mem_of_getElem? (i := 1) rfl)
  have hf_216 := hts (.fieldLink RX9 216 "OldLamps$Sheet" "cells" "[I") (List.mem_of_getElem? (i := 4) rfl)
  have hk_204 := hts (.constantLong RX9 204 (-9223372036854775808)) (List.mem_of_getElem? (i := 2) rfl)
  have hwX6 : ∀ w ∈ wsX60, w ∈ wsX9_cell := fun _ h => List.mem_cons_of_mem _ (List.mem_append_right _ h)
  have hwX9 : ∀ w ∈ wsX90, w ∈ wsX9_cell := fun _ h => List.mem_cons_of_mem _ (List.mem_append_left _ (List.mem_append_right _ h))
  have hl := lv_entry ([.ref x0, .int x1, .int x2, .int x3]) (n := 5) (Nat.le_of_ble_eq_true rfl)
  rw [lg_entry_eq]
  generalize (lg_sl ([.ref x0, .int x1, .int x2, .int x3]) ++ List.replicate (5 - (lg_sl ([.ref x0, .int x1, .int x2, .int x3])).length) Slot.unset).toArray = ls at hl ⊢
  have hl : lv_has ls 5 [(0, .ref x0), (1, .int x1), (2, .int x2), (3, .int x3)] := hl
  obtain ⟨QQ, hQQ⟩ : ∃ QQ : State → Prop, QQ = MQ below (kQl D (fun (r : Int64) (u : Int32) => r = sp_cell rl len cf x1 x2 x3 ∧ u = nf_cell rl len x1 x2 x3) (fun u : Int32 => [(x0, .inr (8, [.ref g0, .ref q0, .ref e0, .ref t0, .ref r0, .ref h0, .ref i0, .ref z0, .ref y0, .int tr, .int u])), (y0, .inl (cS, 4, .inr (.inr (.inr (.inr ys))))), (s0, .inr (5, [.ref c0, .int (nI len), .int rl])), (c0, .inl (cI, 60, .inl cf))]) A) ([.ref x0, .int x1, .int x2, .int x3]).toArray sS 0 0 A := ⟨_, rfl⟩
  refine kk_QQ hQQ.symm ?_
  obtain ⟨hX1, hX2, hX3, hX4⟩ := okX_le hX
  refine lv_aload_n hx hb dX9_cell_0 rfl (lv_at hl 0 rfl) ?_
  refine lv_iconst (v := nI 0) hx hb dX9_cell_1 (by decide +kernel) ?_
  refine va_put (D := D) (ci := 8) (v := .int (nI 0)) (ty := .int) (C := RX9) (T := TX9) (N := 11) hx hb hts hwX9 tyX9 tyX9_ok nmX9 hown hK hP hD hS 0 rfl rfl 10 (by decide) hf_61 (fun _ h9 => h9) rfl (by decide +kernel) rfl rfl (Nat.le_of_ble_eq_true rfl) dX9_cell_2 (fun H locs hP hD hS => ?_)
  have hP : va_P D vwCl [(x0, .inr (8, [.ref g0, .ref q0, .ref e0, .ref t0, .ref r0, .ref h0, .ref i0, .ref z0, .ref y0, .int tr, .int (nI 0)])), (y0, .inl (cS, 4, .inr (.inr (.inr (.inr ys))))), (s0, .inr (5, [.ref c0, .int (nI len), .int rl])), (c0, .inl (cI, 60, .inl cf))] H := hP
  have hD : va_D A [(x0, .inr (8, [.ref g0, .ref q0, .ref e0, .ref t0, .ref r0, .ref h0, .ref i0, .ref z0, .ref y0, .int tr, .int (nI 0)])), (y0, .inl (cS, 4, .inr (.inr (.inr (.inr ys))))), (s0, .inr (5, [.ref c0, .int (nI len), .int rl])), (c0, .inl (cI, 60, .inl cf))] := hD
  refine lv_iload_n hx hb dX9_cell_5 rfl (lv_at hl 1 rfl) ?_
  refine vp_callSi (W.runS (As := [.int x1]) (rest := []) ⟨hx, hb, hml, hown, hts⟩ (c_X9_isSheet lL D cI cS x1) (va_cwS 1 hts gX9_cell_X9_isSheet rfl rfl rfl cd_X9_isSheet ⟨Nat.le_of_ble_eq_true rfl, Nat.le_of_ble_eq_true rfl⟩) ⟨kBp_blind, fun U hU hW => ⟨rfl, by rw [hU]; exact hP.sub [] rfl, va_K.moved hW.alike hK⟩⟩ rfl rfl hl.1 rfl (lv_room (Nat.le_of_ble_eq_true rfl)) dX9_cell_6 ⟨Nat.le_of_ble_eq_true rfl, Nat.le_of_ble_eq_true rfl⟩) (fun r_1 hw_1 => ?_)
  obtain rfl : r_1 = kb (inB x1 4) := hw_1
  -- if (inB x1 4)
  refine kk_ifb_eq (tgt := 19) hx hb dX9_cell_9 (by decide) (fun hb_2 => ?_) (fun hb_2 => ?_)
  · skip
    refine lv_ldc2 (v := (-9223372036854775808 : Int64)) hx hb hown hk_204 dX9_cell_19 ?_
    have hq : (-9223372036854775808 : Int64) = sp_cell rl len cf x1 x2 x3 ∧ (nI 0) = nf_cell rl len x1 x2 x3 := by refine ⟨by simp only [sp_cell, lostC, hb_2, cond_true, cond_false], by simp only [nf_cell, hb_2, cond_true, cond_false]⟩
    refine kk_QQ hQQ ?_
    exact W.lret (v := (-9223372036854775808 : Int64)) hx hb hr (fun t ht hW => ⟨⟨(-9223372036854775808 : Int64), (nI 0), rfl, hq, by show va_P D vwCl _ t.heap; rw [ht]; exact hP⟩, hS.F ht⟩) hS.2.2 dX9_cell_22
  · skip
    obtain ⟨x1N, hx1N, rfl⟩ := inB_t hb_2
    have t_x1 := nI_clamp (show x1N < 2 ^ 31 by omega)
    refine lv_iload_n hx hb dX9_cell_12 rfl (lv_at hl 3 rfl) ?_
    refine vp_callSi (W.runS (As := [.int x3]) (rest := []) ⟨hx, hb, hml, hown, hts⟩ (c_X9_isLane lL D cI cS x3) (va_cwS 1 hts gX9_cell_X9_isLane rfl rfl rfl cd_X9_isLane ⟨Nat.le_of_ble_eq_true rfl, Nat.le_of_ble_eq_true rfl⟩) ⟨kBp_blind, fun U hU hW => ⟨rfl, by rw [hU]; exact hP.sub [] rfl, va_K.moved hW.alike hK⟩⟩ rfl rfl hl.1 rfl (lv_room (Nat.le_of_ble_eq_true rfl)) dX9_cell_13 ⟨Nat.le_of_ble_eq_true rfl, Nat.le_of_ble_eq_true rfl⟩) (fun r_3 hw_3 => ?_)
    obtain rfl : r_3 = kb (inB x3 3) := hw_3
    -- if (inB x3 3)
    refine kk_ifb_ne (tgt := 23) hx hb dX9_cell_16 (by decide) (fun hb_4 => ?_) (fun hb_4 => ?_)
    · skip
      obtain ⟨x3N, hx3N, rfl⟩ := inB_t hb_4
      have t_x3 := nI_clamp (show x3N < 2 ^ 31 by omega)
      refine lv_aload_n hx hb dX9_cell_23 rfl (lv_at hl 0 rfl) ?_
      refine va_get (D := D) (ci := 8) (v := .ref y0) (C := RX9) (T := TX9) (N := 11) hx hb hts hwX9 hown hK hP 0 rfl rfl 8 (by decide) hf_53 (fun _ h9 => h9) rfl dX9_cell_24 ?_
      refine lv_iload_n hx hb dX9_cell_27 rfl (lv_at hl 1 rfl) ?_
      refine kk_aldq hx hb hK hP 1 rfl rfl (i := x1N) (by omega) (by decide) (hsel _ rfl hx1N) dX9_cell_28 ?_
      refine lv_astore (lv' := [(4, .ref s0), (0, .ref x0), (1, .int (nI x1N)), (2, .int x2), (3, .int (nI x3N))]) hx hb dX9_cell_29 hl (by decide) rfl (fun ls hl => ?_)
      refine lv_aload hx hb dX9_cell_31 (lv_at hl 0 rfl) ?_
      refine lv_iload_n hx hb dX9_cell_33 rfl (lv_at hl 4 rfl) ?_
      refine vp_callSi (W.runV (As := [.int (nI x3N)]) (rest := []) ⟨hx, hb, hml, hown, hts⟩ (c_X6_isOfAnotherLane lL D cI cS s0 c0 len rl (nI x3N)) (cwV 1 hts gX9_cell_X6_isOfAnotherLane rfl rfl rfl cd_X6_isOfAnotherLane ⟨Nat.le_of_ble_eq_true rfl, Nat.le_of_ble_eq_true rfl⟩) ⟨kBp_blind, va_recv hK hP (ci := 5) (q0 := 2) rfl rfl, fun U hU hW => ⟨rfl, by rw [hU]; exact hP.sub [2] rfl, va_K.moved hW.alike hK⟩⟩ rfl rfl hl.1 rfl (lv_room (Nat.le_of_ble_eq_true rfl)) dX9_cell_34 ⟨Nat.le_of_ble_eq_true rfl, Nat.le_of_ble_eq_true rfl⟩) (fun r_5 hw_5 => ?_)
      obtain rfl : r_5 = kb (decide (rl ≠ (-1 : Int32) ∧ rl ≠ (nI x3N))) := hw_5
      -- if (decide (rl ≠ (-1 : Int32) ∧ rl ≠ (nI x3N)))
      refine kk_ifb_eq (tgt := 46) hx hb dX9_cell_37 (by decide) (fun hb_6 => ?_) (fun hb_6 => ?_)
      · skip
        refine lv_aload hx hb dX9_cell_46 (lv_at hl 0 rfl) ?_
        refine vp_callSi (W.runV (As := []) (rest := []) ⟨hx, hb, hml, hown, hts⟩ (c_X6_isNothing lL D cI cS s0 c0 len rl) (cwV 0 hts gX9_cell_X6_isNothing rfl rfl rfl cd_X6_isNothing ⟨Nat.le_of_ble_eq_true rfl, Nat.le_of_ble_eq_true rfl⟩) ⟨kBp_blind, va_recv hK hP (ci := 5) (q0 := 2) rfl rfl, fun U hU hW => ⟨rfl, by rw [hU]; exact hP.sub [2] rfl, va_K.moved hW.alike hK⟩⟩ rfl rfl hl.1 rfl (lv_room (Nat.le_of_ble_eq_true rfl)) dX9_cell_48 ⟨Nat.le_of_ble_eq_true rfl, Nat.le_of_ble_eq_true rfl⟩) (fun r_7 hw_7 => ?_)
        obtain rfl : r_7 = kb (decide (rl = (-1 : Int32))) := hw_7
        -- if (decide (rl = (-1 : Int32)))
        refine kk_ifb_eq (tgt := 60) hx hb dX9_cell_51 (by decide) (fun hb_8 => ?_) (fun hb_8 => ?_)
        · skip
          refine lv_aload hx hb dX9_cell_60 (lv_at hl 0 rfl) ?_
          refine lv_iload_n hx hb dX9_cell_62 rfl (lv_at hl 3 rfl) ?_
          refine lv_iconst (v := nI 1) hx hb dX9_cell_63 (by decide +kernel) ?_
          have o_9 : len ≤ 60 := by omega
          refine vp_callSi (W.runV (As := [.int x2, .int (nI 1)]) (rest := []) ⟨hx, hb, hml, hown, hts⟩ (c_X6_hasCells lL D cI cS s0 c0 len rl x2 (nI 1) o_9) (cwV 2 hts gX9_cell_X6_hasCells rfl rfl rfl cd_X6_hasCells ⟨Nat.le_of_ble_eq_true rfl, Nat.le_of_ble_eq_true rfl⟩) ⟨kBp_blind, va_recv hK hP (ci := 5) (q0 := 2) rfl rfl, fun U hU hW => ⟨rfl, by rw [hU]; exact hP.sub [2] rfl, va_K.moved hW.alike hK⟩⟩ rfl rfl hl.1 rfl (lv_room (Nat.le_of_ble_eq_true rfl)) dX9_cell_64 ⟨Nat.le_of_ble_eq_true rfl, Nat.le_of_ble_eq_true rfl⟩) (fun r_10 hw_10 => ?_)
          obtain rfl : r_10 = kb (hasC len x2 (nI 1)) := hw_10
          -- if (hasC len x2 (nI 1))
          refine kk_ifb_ne (tgt := 76) hx hb dX9_cell_67 (by decide) (fun hb_11 => ?_) (fun hb_11 => ?_)
          · skip
            obtain ⟨x2N, hx2N, rfl⟩ := hasC_n (by omega) (by omega) hb_11
            have t_x2 := nI_clamp (show x2N < 2 ^ 31 by omega)
            refine lv_aload hx hb dX9_cell_76 (lv_at hl 0 rfl) ?_
            refine va_get (D := D) (ci := 5) (v := .ref c0) (C := RX6) (T := TX6) (N := 3) hx hb hts hwX6 hown hK hP 2 rfl rfl 0 (by decide) hf_216 (fun _ h9 => h9) rfl dX9_cell_78 ?_
            refine lv_iload_n hx hb dX9_cell_81 rfl (lv_at hl 3 rfl) ?_
            refine kk_iald hx hb hK hP 3 rfl rfl (i := x2N) (by omega) (by decide) dX9_cell_82 ?_
            refine lv_i2l (v := (cf x2N).toInt64) hx hb dX9_cell_83 rfl ?_
            have hq : ((cf x2N).toInt64) = sp_cell rl len cf (nI x1N) (nI x2N) (nI x3N) ∧ (nI 0) = nf_cell rl len (nI x1N) (nI x2N) (nI x3N) := by refine ⟨by simp only [sp_cell, lostC, hb_2, hb_4, hb_6, hb_8, hb_11, t_x1, t_x3, t_x2, cond_true, cond_false], by simp only [nf_cell, hb_2, hb_4, hb_6, hb_8, hb_11, t_x1, t_x3, t_x2, cond_true, cond_false]⟩
            refine kk_QQ hQQ ?_
            exact W.lret (v := (cf x2N).toInt64) hx hb hr (fun t ht hW => ⟨⟨(cf x2N).toInt64, (nI 0), rfl, hq, by show va_P D vwCl _ t.heap; rw [ht]; exact hP⟩, hS.F ht⟩) hS.2.2 dX9_cell_84
          · skip
            refine lv_aload_n hx hb dX9_cell_70 rfl (lv_at hl 1 rfl) ?_
            refine lv_iconst (v := nI 3) hx hb dX9_cell_71 (by decide +kernel) ?_
            have hF := va_free (wc := [(x0, .inr (8, [.ref g0, .ref q0, .ref e0, .ref t0, .ref r0, .ref h0, .ref i0, .ref z0, .ref y0, .int tr, .int (nI 0)]))]) hD hS hA [0] rfl
            refine va_calll (va_runV (As := [.int (nI 3)]) (rest := []) ⟨hx, hb, hml, hown, hts⟩ (c_X9_lostTo lL D cI cS _ x0 (.ref g0) (.ref q0) (.ref e0) (.ref t0) (.ref r0) (.ref h0) (.ref i0) (.ref z0) (.ref y0) tr (nI 0) 3) (cwV 1 hts gX9_cell_X9_lostTo rfl rfl rfl cd_X9_lostTo ⟨Nat.le_of_ble_eq_true rfl, Nat.le_of_ble_eq_true rfl⟩) ⟨kB_blind, va_recv hK hP (ci := 8) (q0 := 0) rfl rfl, fun U hU hW => ⟨rfl, by rw [hU], by rw [hU]; exact hP.sub [0] rfl, va_K.moved hW.alike hK, (hD.sub [0] (by decide) rfl).weaken (fun _ _ _ _ => trivial)⟩⟩ rfl rfl hl.1 rfl (lv_room (Nat.le_of_ble_eq_true rfl)) dX9_cell_72 ⟨Nat.le_of_ble_eq_true rfl, Nat.le_of_ble_eq_true rfl⟩) hS (fun q _ h => hF q h) hF (fun r_12 u_12 t H1 locs ht hvm hw_12 hB hz1 hk1 hS => ?_)
            obtain ⟨hP, hD⟩ := kk_join2 (wc := [(x0, .inr (8, [.ref g0, .ref q0, .ref e0, .ref t0, .ref r0, .ref h0, .ref i0, .ref z0, .ref y0, .int tr, .int (nI 0)]))]) (w1 := [(x0, .inr (8, [.ref g0, .ref q0, .ref e0, .ref t0, .ref r0, .ref h0, .ref i0, .ref z0, .ref y0, .int tr, .int (nI 3)]))]) (ws' := [(x0, .inr (8, [.ref g0, .ref q0, .ref e0, .ref t0, .ref r0, .ref h0, .ref i0, .ref z0, .ref y0, .int tr, .int (nI 3)])), (y0, .inl (cS, 4, .inr (.inr (.inr (.inr ys))))), (s0, .inr (5, [.ref c0, .int (nI len), .int rl])), (c0, .inl (cI, 60, .inl cf))]) (wr := [(y0, .inl (cS, 4, .inr (.inr (.inr (.inr ys))))), (s0, .inr (5, [.ref c0, .int (nI len), .int rl])), (c0, .inl (cI, 60, .inl cf))]) (H1 := H1) hP hD [0] [1, 2, 3] rfl rfl rfl rfl 4 rfl (by decide) [x0, y0, s0, c0] rfl rfl hk1 (by rw [← ht]; exact hB)
            have hw_12 : r_12 = lostC ∧ True := hw_12
            clear hF hB hk1 hz1 hvm
            clear ht
            generalize H1 = H at hP hS ⊢
            obtain ⟨rfl, hw_12⟩ := hw_12
            have hq : lostC = sp_cell rl len cf (nI x1N) x2 (nI x3N) ∧ (nI 3) = nf_cell rl len (nI x1N) x2 (nI x3N) := by refine ⟨by simp only [sp_cell, lostC, hb_2, hb_4, hb_6, hb_8, hb_11, t_x1, t_x3, cond_true, cond_false], by simp only [nf_cell, hb_2, hb_4, hb_6, hb_8, hb_11, t_x1, t_x3, cond_true, cond_false]⟩
            refine kk_QQ hQQ ?_
            exact W.lret (v := lostC) hx hb hr (fun t ht hW => ⟨⟨lostC, (nI 3), rfl, hq, by show va_P D vwCl _ t.heap; rw [ht]; exact hP⟩, hS.F ht⟩) hS.2.2 dX9_cell_75
        · skip
          refine lv_aload_n hx hb dX9_cell_54 rfl (lv_at hl 1 rfl) ?_
          refine lv_iconst (v := nI 1) hx hb dX9_cell_55 (by decide +kernel) ?_
          have hF := va_free (wc := [(x0, .inr (8, [.ref g0, .ref q0, .ref e0, .ref t0, .ref r0, .ref h0, .ref i0, .ref z0, .ref y0, .int tr, .int (nI 0)]))]) hD hS hA [0] rfl
          refine va_calll (va_runV (As := [.int (nI 1)]) (rest := []) ⟨hx, hb, hml, hown, hts⟩ (c_X9_lostTo lL D cI cS _ x0 (.ref g0) (.ref q0) (.ref e0) (.ref t0) (.ref r0) (.ref h0) (.ref i0) (.ref z0) (.ref y0) tr (nI 0) 1) (cwV 1 hts gX9_cell_X9_lostTo rfl rfl rfl cd_X9_lostTo ⟨Nat.le_of_ble_eq_true rfl, Nat.le_of_ble_eq_true rfl⟩) ⟨kB_blind, va_recv hK hP (ci := 8) (q0 := 0) rfl rfl, fun U hU hW => ⟨rfl, by rw [hU], by rw [hU]; exact hP.sub [0] rfl, va_K.moved hW.alike hK, (hD.sub [0] (by decide) rfl).weaken (fun _ _ _ _ => trivial)⟩⟩ rfl rfl hl.1 rfl (lv_room (Nat.le_of_ble_eq_true rfl)) dX9_cell_56 ⟨Nat.le_of_ble_eq_true rfl, Nat.le_of_ble_eq_true rfl⟩) hS (fun q _ h => hF q h) hF (fun r_13 u_13 t H1 locs ht hvm hw_13 hB hz1 hk1 hS => ?_)
          obtain ⟨hP, hD⟩ := kk_join2 (wc := [(x0, .inr (8, [.ref g0, .ref q0, .ref e0, .ref t0, .ref r0, .ref h0, .ref i0, .ref z0, .ref y0, .int tr, .int (nI 0)]))]) (w1 := [(x0, .inr (8, [.ref g0, .ref q0, .ref e0, .ref t0, .ref r0, .ref h0, .ref i0, .ref z0, .ref y0, .int tr, .int (nI 1)]))]) (ws' := [(x0, .inr (8, [.ref g0, .ref q0, .ref e0, .ref t0, .ref r0, .ref h0, .ref i0, .ref z0, .ref y0, .int tr, .int (nI 1)])), (y0, .inl (cS, 4, .inr (.inr (.inr (.inr ys))))), (s0, .inr (5, [.ref c0, .int (nI len), .int rl])), (c0, .inl (cI, 60, .inl cf))]) (wr := [(y0, .inl (cS, 4, .inr (.inr (.inr (.inr ys))))), (s0, .inr (5, [.ref c0, .int (nI len), .int rl])), (c0, .inl (cI, 60, .inl cf))]) (H1 := H1) hP hD [0] [1, 2, 3] rfl rfl rfl rfl 4 rfl (by decide) [x0, y0, s0, c0] rfl rfl hk1 (by rw [← ht]; exact hB)
          have hw_13 : r_13 = lostC ∧ True := hw_13
          clear hF hB hk1 hz1 hvm
          clear ht
          generalize H1 = H at hP hS ⊢
          obtain ⟨rfl, hw_13⟩ := hw_13
          have hq : lostC = sp_cell rl len cf (nI x1N) x2 (nI x3N) ∧ (nI 1) = nf_cell rl len (nI x1N) x2 (nI x3N) := by refine ⟨by simp only [sp_cell, lostC, hb_2, hb_4, hb_6, hb_8, t_x1, t_x3, cond_true, cond_false], by simp only [nf_cell, hb_2, hb_4, hb_6, hb_8, t_x1, t_x3, cond_true, cond_false]⟩
          refine kk_QQ hQQ ?_
          exact W.lret (v := lostC) hx hb hr (fun t ht hW => ⟨⟨lostC, (nI 1), rfl, hq, by show va_P D vwCl _ t.heap; rw [ht]; exact hP⟩, hS.F ht⟩) hS.2.2 dX9_cell_59
      · skip
        refine lv_aload_n hx hb dX9_cell_40 rfl (lv_at hl 1 rfl) ?_
        refine lv_iconst (v := nI 2) hx hb dX9_cell_41 (by decide +kernel) ?_
        have hF := va_free (wc := [(x0, .inr (8, [.ref g0, .ref q0, .ref e0, .ref t0, .ref r0, .ref h0, .ref i0, .ref z0, .ref y0, .int tr, .int (nI 0)]))]) hD hS hA [0] rfl
        refine va_calll (va_runV (As := [.int (nI 2)]) (rest := []) ⟨hx, hb, hml, hown, hts⟩ (c_X9_lostTo lL D cI cS _ x0 (.ref g0) (.ref q0) (.ref e0) (.ref t0) (.ref r0) (.ref h0) (.ref i0) (.ref z0) (.ref y0) tr (nI 0) 2) (cwV 1 hts gX9_cell_X9_lostTo rfl rfl rfl cd_X9_lostTo ⟨Nat.le_of_ble_eq_true rfl, Nat.le_of_ble_eq_true rfl⟩) ⟨kB_blind, va_recv hK hP (ci := 8) (q0 := 0) rfl rfl, fun U hU hW => ⟨rfl, by rw [hU], by rw [hU]; exact hP.sub [0] rfl, va_K.moved hW.alike hK, (hD.sub [0] (by decide) rfl).weaken (fun _ _ _ _ => trivial)⟩⟩ rfl rfl hl.1 rfl (lv_room (Nat.le_of_ble_eq_true rfl)) dX9_cell_42 ⟨Nat.le_of_ble_eq_true rfl, Nat.le_of_ble_eq_true rfl⟩) hS (fun q _ h => hF q h) hF (fun r_14 u_14 t H1 locs ht hvm hw_14 hB hz1 hk1 hS => ?_)
        obtain ⟨hP, hD⟩ := kk_join2 (wc := [(x0, .inr (8, [.ref g0, .ref q0, .ref e0, .ref t0, .ref r0, .ref h0, .ref i0, .ref z0, .ref y0, .int tr, .int (nI 0)]))]) (w1 := [(x0, .inr (8, [.ref g0, .ref q0, .ref e0, .ref t0, .ref r0, .ref h0, .ref i0, .ref z0, .ref y0, .int tr, .int (nI 2)]))]) (ws' := [(x0, .inr (8, [.ref g0, .ref q0, .ref e0, .ref t0, .ref r0, .ref h0, .ref i0, .ref z0, .ref y0, .int tr, .int (nI 2)])), (y0, .inl (cS, 4, .inr (.inr (.inr (.inr ys))))), (s0, .inr (5, [.ref c0, .int (nI len), .int rl])), (c0, .inl (cI, 60, .inl cf))]) (wr := [(y0, .inl (cS, 4, .inr (.inr (.inr (.inr ys))))), (s0, .inr (5, [.ref c0, .int (nI len), .int rl])), (c0, .inl (cI, 60, .inl cf))]) (H1 := H1) hP hD [0] [1, 2, 3] rfl rfl rfl rfl 4 rfl (by decide) [x0, y0, s0, c0] rfl rfl hk1 (by rw [← ht]; exact hB)
        have hw_14 : r_14 = lostC ∧ True := hw_14
        clear hF hB hk1 hz1 hvm
        clear ht
        generalize H1 = H at hP hS ⊢
        obtain ⟨rfl, hw_14⟩ := hw_14
        have hq : lostC = sp_cell rl len cf (nI x1N) x2 (nI x3N) ∧ (nI 2) = nf_cell rl len (nI x1N) x2 (nI x3N) := by refine ⟨by simp only [sp_cell, lostC, hb_2, hb_4, hb_6, t_x1, t_x3, cond_true, cond_false], by simp only [nf_cell, hb_2, hb_4, hb_6, t_x1, t_x3, cond_true, cond_false]⟩
        refine kk_QQ hQQ ?_
        exact W.lret (v := lostC) hx hb hr (fun t ht hW => ⟨⟨lostC, (nI 2), rfl, hq, by show va_P D vwCl _ t.heap; rw [ht]; exact hP⟩, hS.F ht⟩) hS.2.2 dX9_cell_45
    · skip
      refine lv_ldc2 (v := (-9223372036854775808 : Int64)) hx hb hown hk_204 dX9_cell_19 ?_
      have hq : (-9223372036854775808 : Int64) = sp_cell rl len cf (nI x1N) x2 x3 ∧ (nI 0) = nf_cell rl len (nI x1N) x2 x3 := by refine ⟨by simp only [sp_cell, lostC, hb_2, hb_4, t_x1, cond_true, cond_false], by simp only [nf_cell, hb_2, hb_4, t_x1, cond_true, cond_false]⟩
      refine kk_QQ hQQ ?_
      exact W.lret (v := (-9223372036854775808 : Int64)) hx hb hr (fun t ht hW => ⟨⟨(-9223372036854775808 : Int64), (nI 0), rfl, hq, by show va_P D vwCl _ t.heap; rw [ht]; exact hP⟩, hS.F ht⟩) hS.2.2 dX9_cell_22
