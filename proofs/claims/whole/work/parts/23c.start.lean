/-- before any text: no coast -/
def C00 : Co := (0, 0, 0, fun _ => 0, fun _ => 0, fun _ => 0, fun _ => 0, fun _ => 0)
theorem okX_0 : okX C00 mZ mZ := Or.inl ⟨rfl, rfl, rfl, rfl, rfl⟩
theorem repC_0 : repC C00 zF zF zF zF zF := ⟨fun _ _ => nI_0.symm, fun _ _ => nI_0.symm, fun _ _ => nI_0.symm, fun _ _ => nI_0.symm, fun _ _ => nI_0.symm⟩
theorem repM_0 : repM mZ zF zF zF := fun i hi => absurd hi (Nat.not_lt_zero i)
abbrev stX (ad : Nat → Nat) (cI cS : ClassId) : va_W := [((ad 0), .inr (8, [.ref (ad 1), .ref (ad 7), .ref (ad 13), .ref (ad 17), .ref (ad 21), .ref (ad 25), .ref (ad 31), .ref (ad 37), .ref (ad 38), .int (nI 0), .int (nI 0)])), ((ad 1), .inr (1, [.int (nI 0), .int (nI 0), .int (nI 0), .ref (ad 2), .ref (ad 3), .ref (ad 4), .ref (ad 5), .ref (ad 6)])), ((ad 2), .inl (cI, 6, .inl zF)), ((ad 3), .inl (cI, 4, .inl zF)), ((ad 4), .inl (cI, 4, .inl zF)), ((ad 5), .inl (cI, 4, .inl zF)), ((ad 6), .inl (cI, 4, .inl zF)), ((ad 7), .inr (1, [.int (nI 0), .int (nI 0), .int (nI 0), .ref (ad 8), .ref (ad 9), .ref (ad 10), .ref (ad 11), .ref (ad 12)])), ((ad 8), .inl (cI, 6, .inl zF)), ((ad 9), .inl (cI, 4, .inl zF)), ((ad 10), .inl (cI, 4, .inl zF)), ((ad 11), .inl (cI, 4, .inl zF)), ((ad 12), .inl (cI, 4, .inl zF)), ((ad 13), .inr (0, [.int (nI 0), .ref (ad 14), .ref (ad 15), .ref (ad 16)])), ((ad 14), .inl (cI, 8, .inl zF)), ((ad 15), .inl (cI, 8, .inl zF)), ((ad 16), .inl (cI, 8, .inl zF)), ((ad 17), .inr (0, [.int (nI 0), .ref (ad 18), .ref (ad 19), .ref (ad 20)])), ((ad 18), .inl (cI, 8, .inl zF)), ((ad 19), .inl (cI, 8, .inl zF)), ((ad 20), .inl (cI, 8, .inl zF)), ((ad 21), .inr (0, [.int (nI 0), .ref (ad 22), .ref (ad 23), .ref (ad 24)])), ((ad 22), .inl (cI, 8, .inl zF)), ((ad 23), .inl (cI, 8, .inl zF)), ((ad 24), .inl (cI, 8, .inl zF)), ((ad 25), .inr (7, [.ref (ad 26), .ref (ad 27), .ref (ad 28), .ref (ad 29), .ref (ad 30)])), ((ad 26), .inl (cI, 96, .inl zF)), ((ad 27), .inl (cI, 96, .inl zF)), ((ad 28), .inl (cI, 96, .inl zF)), ((ad 29), .inl (cI, 96, .inl zF)), ((ad 30), .inl (cI, 96, .inl zF)), ((ad 31), .inr (7, [.ref (ad 32), .ref (ad 33), .ref (ad 34), .ref (ad 35), .ref (ad 36)])), ((ad 32), .inl (cI, 96, .inl zF)), ((ad 33), .inl (cI, 96, .inl zF)), ((ad 34), .inl (cI, 96, .inl zF)), ((ad 35), .inl (cI, 96, .inl zF)), ((ad 36), .inl (cI, 96, .inl zF)), ((ad 37), .inr (4, [.ref (ad 47), .ref (ad 53), .int (-9 : Int32), .int (nI 0)])), ((ad 38), .inl (cS, 4, .inr (.inr (.inr (.inr (va_up (va_up (va_up (va_up yF 0 (some (ad 39))) 1 (some (ad 40))) 2 (some (ad 41))) 3 (some (ad 42)))))))), ((ad 39), .inr (5, [.ref (ad 43), .int (nI 0), .int (-1 : Int32)])), ((ad 40), .inr (5, [.ref (ad 44), .int (nI 0), .int (-1 : Int32)])), ((ad 41), .inr (5, [.ref (ad 45), .int (nI 0), .int (-1 : Int32)])), ((ad 42), .inr (5, [.ref (ad 46), .int (nI 0), .int (-1 : Int32)])), ((ad 43), .inl (cI, 60, .inl zF)), ((ad 44), .inl (cI, 60, .inl zF)), ((ad 45), .inl (cI, 60, .inl zF)), ((ad 46), .inl (cI, 60, .inl zF)), ((ad 47), .inr (7, [.ref (ad 48), .ref (ad 49), .ref (ad 50), .ref (ad 51), .ref (ad 52)])), ((ad 48), .inl (cI, 96, .inl zF)), ((ad 49), .inl (cI, 96, .inl zF)), ((ad 50), .inl (cI, 96, .inl zF)), ((ad 51), .inl (cI, 96, .inl zF)), ((ad 52), .inl (cI, 96, .inl zF)), ((ad 53), .inr (7, [.ref (ad 54), .ref (ad 55), .ref (ad 56), .ref (ad 57), .ref (ad 58)])), ((ad 54), .inl (cI, 96, .inl zF)), ((ad 55), .inl (cI, 96, .inl zF)), ((ad 56), .inl (cI, 96, .inl zF)), ((ad 57), .inl (cI, 96, .inl zF)), ((ad 58), .inl (cI, 96, .inl zF))]
abbrev stM (bd : Nat → Nat) (cI : ClassId) : va_W := [((bd 0), .inr (9, [.int 0, .ref (bd 1), .int 0, .ref (bd 3), .int 0, .ref (bd 5), .ref (bd 6), .ref (bd 7), .int 0, .int (-9 : Int32), .int 0, .int 0, .int 0, .ref (bd 13), .ref (bd 14), .ref (bd 15), .ref (bd 16), .int 0, .ref (bd 18), .ref (bd 19), .ref (bd 20), .ref (bd 21), .ref (bd 22), .ref (bd 23), .ref (bd 24), .ref (bd 25), .int 0, .ref (bd 27), .ref (bd 28), .ref (bd 29), .ref (bd 30), .ref (bd 31), .ref (bd 32), .ref (bd 33), .ref (bd 34), .int 0])), ((bd 1), .inl (cI, 6, .inl zF)), ((bd 3), .inl (cI, 4, .inl zF)), ((bd 5), .inl (cI, 4, .inl zF)), ((bd 6), .inl (cI, 4, .inl zF)), ((bd 7), .inl (cI, 4, .inl zF)), ((bd 13), .inl (cI, 6, .inl zF)), ((bd 14), .inl (cI, 4, .inl zF)), ((bd 15), .inl (cI, 4, .inl zF)), ((bd 16), .inl (cI, 4, .inl zF)), ((bd 18), .inl (cI, 9, .inl zF)), ((bd 19), .inl (cI, 9, .inl zF)), ((bd 20), .inl (cI, 9, .inl zF)), ((bd 21), .inl (cI, 96, .inl zF)), ((bd 22), .inl (cI, 96, .inl zF)), ((bd 23), .inl (cI, 8, .inl zF)), ((bd 24), .inl (cI, 8, .inl zF)), ((bd 25), .inl (cI, 8, .inl zF)), ((bd 27), .inl (cI, 8, .inl zF)), ((bd 28), .inl (cI, 8, .inl zF)), ((bd 29), .inl (cI, 8, .inl zF)), ((bd 30), .inl (cI, 4, .inl zF)), ((bd 31), .inl (cI, 4, .inl (upd (upd (upd (upd zF 0 (-1 : Int32)) 1 (-1 : Int32)) 2 (-1 : Int32)) 3 (-1 : Int32)))), ((bd 32), .inl (cI, 4, .inl zF)), ((bd 33), .inl (cI, 240, .inl zF)), ((bd 34), .inl (cI, 60, .inl zF))]
theorem st_RX (ad : Nat → Nat) (cI cS : ClassId) : RX ad cI cS C00 mZ mZ (fun _ => (-1 : Int32)) (fun _ => 0) (fun _ => zF) (nI 0) (nI 0) (stX ad cI cS) :=
  ⟨zF, zF, zF, zF, zF, zF, zF, zF, zF, zF, zF, zF, zF, zF, zF, zF, zF, zF, zF, zF, zF, zF, zF, zF, zF, zF, zF, zF, zF, zF, zF, zF, zF, zF, zF, zF, zF, zF, zF, nI 0, nI 0, nI 0, nI 0, (-9 : Int32), nI 0, _, rfl, repC_0, repM_0, repM_0, fun j hj => by
    rcases (show j = 0 ∨ j = 1 ∨ j = 2 ∨ j = 3 by omega) with rfl | rfl | rfl | rfl <;> rfl⟩
theorem st_RM (bd : Nat → Nat) (cI : ClassId) : RM bd cI C00 mZ mZ (fun _ => (-1 : Int32)) (fun _ => 0) (fun _ => zF) (nI 0) (nI 0) (stM bd cI) :=
  ⟨zF, zF, zF, zF, zF, zF, zF, zF, zF, zF, zF, zF, zF, zF, zF, zF, zF, zF, zF, zF, zF, _, zF, zF, zF, 0, 0, 0, by rw [nI_0]; rfl, repC_0, repM_0, repM_0, fun j hj => ⟨Or.inl ⟨rfl, by
    rcases (show j = 0 ∨ j = 1 ∨ j = 2 ∨ j = 3 by omega) with rfl | rfl | rfl | rfl <;> rfl, rfl⟩, Nat.zero_le _, fun i hi => absurd hi (Nat.not_lt_zero i)⟩⟩
set_option maxHeartbeats 4000000 in
set_option maxRecDepth 100000 in
/-- THE LAW, from its entry -/
theorem whole_start {p : Program} {e : Env} {s : State} {m : MethodId} {below : List Frame} {meth : Method} {c : Code} (l : Launch) (hflags : l.flags = flags0) {b L : Nat} {xs : Nat → Int32} (hL : L ≤ 3584) (C0 : lw_At p s m meth c b L xs) : W p l e room_1 s m #[Value.ref b] below meth c s.heap [] 0 0 (lw_Z below #[Value.ref b] s) (entryFrame m ([Value.ref b] : List Value).toArray 4) := by
  obtain ⟨hx, hb, hr, hml, hown0, hts0, hX, hbl, hlocks, hgv⟩ := id C0
  have hown : s.vm.findClass RL = some m.cls := hown0
  have hts : ∀ w ∈ wsL_law, w.before #[Value.ref b] s = true := fun w h => hts0 w (wsL_law_in w h)
  obtain ⟨c0, iS0, hKn0⟩ := u_known (C := RX1) (T := TX1) (N := 4) (n := 4) hts0 inX1 (hts0 (.instantiable RX1 4) (by decide +kernel))
  obtain ⟨c1, iS1, hKn1⟩ := u_known (C := RX2) (T := TX2) (N := 8) (n := 8) hts0 inX2 (hts0 (.instantiable RX2 8) (by decide +kernel))
  obtain ⟨c2, iS2, hKn2⟩ := u_known (C := RX3) (T := TX3) (N := 2) (n := 2) hts0 inX3 (hts0 (.instantiable RX3 2) (by decide +kernel))
  obtain ⟨c3, iS3, hKn3⟩ := u_known (C := RX4) (T := TX4) (N := 2) (n := 2) hts0 inX4 (hts0 (.instantiable RX4 2) (by decide +kernel))
  obtain ⟨c4, iS4, hKn4⟩ := u_known (C := RX5) (T := TX5) (N := 4) (n := 4) hts0 inX5 (hts0 (.instantiable RX5 4) (by decide +kernel))
  obtain ⟨c5, iS5, hKn5⟩ := u_known (C := RX6) (T := TX6) (N := 3) (n := 3) hts0 inX6 (hts0 (.instantiable RX6 3) (by decide +kernel))
  obtain ⟨c6, iS6, hKn6⟩ := u_known (C := RX7) (T := TX7) (N := 4) (n := 4) hts0 inX7 (hts0 (.instantiable RX7 4) (by decide +kernel))
  obtain ⟨c7, iS7, hKn7⟩ := u_known (C := RX8) (T := TX8) (N := 5) (n := 5) hts0 inX8 (hts0 (.instantiable RX8 5) (by decide +kernel))
  obtain ⟨c8, iS8, hKn8⟩ := u_known (C := RX9) (T := TX9) (N := 11) (n := 11) hts0 inX9 (hts0 (.instantiable RX9 11) (by decide +kernel))
  obtain ⟨c9, iS9, hKn9⟩ := u_known (C := RX10) (T := TX10) (N := 36) (n := 36) hts0 inX10 (hts0 (.instantiable RX10 36) (by decide +kernel))
  obtain ⟨dC, dI, hKc⟩ : ∃ (dC : Nat → ClassId) (dI : Nat → Nat → Nat), ∀ (k : Nat) (q : vw_C), vwCl[k]? = some q → u_Kn s q.1 q.2.1 q.2.2 (dC k) (dI k) := by
    refine ⟨fun k => [c0, c1, c2, c3, c4, c5, c6, c7, c8, c9].getD k c0, fun k => [iS0, iS1, iS2, iS3, iS4, iS5, iS6, iS7, iS8, iS9].getD k iS0, ?_⟩
    intro k q hq
    match k, hq with
    | 0, hq => obtain rfl := Option.some.inj (show some ((RX1, TX1, 4) : vw_C) = some q from hq); exact hKn0
    | 1, hq => obtain rfl := Option.some.inj (show some ((RX2, TX2, 8) : vw_C) = some q from hq); exact hKn1
    | 2, hq => obtain rfl := Option.some.inj (show some ((RX3, TX3, 2) : vw_C) = some q from hq); exact hKn2
    | 3, hq => obtain rfl := Option.some.inj (show some ((RX4, TX4, 2) : vw_C) = some q from hq); exact hKn3
    | 4, hq => obtain rfl := Option.some.inj (show some ((RX5, TX5, 4) : vw_C) = some q from hq); exact hKn4
    | 5, hq => obtain rfl := Option.some.inj (show some ((RX6, TX6, 3) : vw_C) = some q from hq); exact hKn5
    | 6, hq => obtain rfl := Option.some.inj (show some ((RX7, TX7, 4) : vw_C) = some q from hq); exact hKn6
    | 7, hq => obtain rfl := Option.some.inj (show some ((RX8, TX8, 5) : vw_C) = some q from hq); exact hKn7
    | 8, hq => obtain rfl := Option.some.inj (show some ((RX9, TX9, 11) : vw_C) = some q from hq); exact hKn8
    | 9, hq => obtain rfl := Option.some.inj (show some ((RX10, TX10, 36) : vw_C) = some q from hq); exact hKn9
    | k + 10, hq => exact absurd (List.getElem?_eq_some_iff.mp hq).1 (by show ¬ k + 10 < 10; omega)
  obtain ⟨cI, kI, compI, f1, f2, f3⟩ := Cond.arrayClass_spec (hts0 (.arrayClass .int) (by decide +kernel))
  obtain ⟨compS, cS, kS, g1, g2, g3, g4, g5⟩ := Cond.arrayOver_spec (hts0 (.arrayOver (.object RX6)) (by decide +kernel))
  have hover : va_AO RX6 s := va_AO.of (hts0 (.arrayOver (.object RX6)) (by decide +kernel))
  have hK : va_K (dC, dI) vwCl (kT cI cS) s := by
    refine ⟨hKc, fun k q h => ?_⟩
    match k, h with
    | 0, h => obtain rfl := Option.some.inj (show some ((cI, .int) : ClassId × FieldType) = some q from h); exact ⟨fun N z => ⟨fun k h => (by cases h), kI, f2, compI, f3⟩, f1⟩
    | 1, h => obtain rfl := Option.some.inj (show some ((cS, .object RX6) : ClassId × FieldType) = some q from h); exact ⟨fun N z => ⟨fun k h => (by cases h), kS, g3, compS, g4⟩, kS, compS, g3, g4, g1, g5⟩
    | k + 2, h => exact absurd (List.getElem?_eq_some_iff.mp h).1 (by show ¬ k + 2 < 2; omega)
  have hA : ∀ q : Nat, s.heap.size ≤ q → (fun q : Nat => s.heap.size ≤ q) q := fun _ h => h
  have hbA : ¬ (fun q : Nat => s.heap.size ≤ q) b := Nat.not_le.mpr hbl
  have F : LF p s m #[Value.ref b] c := ⟨hx, hb, hml, hown, hts, va_Nw.of rfl (hts0 aSc (by decide +kernel)), va_Nw.of rfl (hts0 aLw (by decide +kernel))⟩
  have B : LB p s m #[Value.ref b] c (dC, dI) cI cS (fun q => s.heap.size ≤ q) b L xs := ⟨F, hK, hX, hbl, hbA, hA, hL⟩
  have hS : va_S (fun q : Nat => s.heap.size ≤ q) s.heap s.heap [] := va_S.rf
  have hP : va_P (dC, dI) vwCl [] s.heap := fun k q h => by simp at h
  have hD : va_D (fun q : Nat => s.heap.size ≤ q) [] := ⟨fun i j p q h => by simp at h, fun k q h => by simp at h⟩
  have hl := lv_entry ([.ref b]) (n := 4) (Nat.le_of_ble_eq_true rfl)
  rw [lg_entry_eq]
  generalize (lg_sl ([.ref b]) ++ List.replicate (4 - (lg_sl ([.ref b])).length) Slot.unset).toArray = ls at hl ⊢
  have hl : lv_has ls 4 [(0, .ref b)] := hl
  refine va_new (ci := 8) (fs := [.null, .null, .null, .null, .null, .null, .null, .null, .null, .int 0, .int 0]) (C := RX9) (T := TX9) (N := 11) hx hb hts0 inX9 tyX9 tyX9_ok hown (hts0 (.classLink RL 7 RX9) (by decide +kernel)) (hts0 (.instantiable RX9 11) (by decide +kernel)) (hts0 (.initialized RX9) (by decide +kernel)) hK hP hD hS hA rfl (fun j hj => by rcases (show j = 0 ∨ j = 1 ∨ j = 2 ∨ j = 3 ∨ j = 4 ∨ j = 5 ∨ j = 6 ∨ j = 7 ∨ j = 8 ∨ j = 9 ∨ j = 10 by omega) with rfl | rfl | rfl | rfl | rfl | rfl | rfl | rfl | rfl | rfl | rfl <;> rfl) (Nat.le_of_ble_eq_true rfl) (Nat.le_of_ble_eq_true rfl) dL_law_0 (fun q0 H hP hD hS => ?_)
  have hP : va_P (dC, dI) vwCl [(q0, .inr (8, [.null, .null, .null, .null, .null, .null, .null, .null, .null, .int 0, .int 0]))] H := hP
  have hD : va_D (fun q : Nat => s.heap.size ≤ q) [(q0, .inr (8, [.null, .null, .null, .null, .null, .null, .null, .null, .null, .int 0, .int 0]))] := hD
  refine W.widen (k := 1) (n := 11) (by decide) (by decide) ?_
  refine lv_dup hx hb dL_law_3 rfl ?_
  have hF := va_free (wc := [(q0, .inr (8, [.null, .null, .null, .null, .null, .null, .null, .null, .null, .int 0, .int 0]))]) hD hS hA [0] rfl
  refine va_callv (va_runI (As := []) (rest := [.ref q0]) ⟨hx, hb, hml, hown, hts⟩ (c_X9_init l (dC, dI) cI cS _ q0) (cwI 0 hts gL_law_X9_init rfl rfl rfl (hts0 (.initialized RX9) (by decide +kernel)) (hts0 (.methodLink RL 9 yX9_init) (by decide +kernel)) (hts0 (.instanceMethod yX9_init) (by decide +kernel)) rfl (by decide +kernel) ⟨Nat.le_of_ble_eq_true rfl, Nat.le_of_ble_eq_true rfl⟩) ⟨kBo_blind, fun U hU hW => ⟨rfl, ⟨by rw [hU], by rw [hU]; exact hP.sub [0] rfl, va_K.moved hW.alike hK, (hD.sub [0] (by decide) rfl).weaken (fun _ _ _ _ => trivial)⟩, va_AO.moved hW.alike hover⟩⟩ rfl rfl hl.1 rfl (lv_room (Nat.le_of_ble_eq_true rfl)) dL_law_4 ⟨Nat.le_of_ble_eq_true rfl, Nat.le_of_ble_eq_true rfl⟩) hS (fun q _ h => hF q h) hF (fun ad t H1 locs ht hvm hw hB hz1 hk1 hS => ?_)
  obtain ⟨hP1, hD1⟩ := hB
  rw [ht] at hP1
  have hwX : ad 0 = q0 := hw
  obtain ⟨hP, hD⟩ := va_join (wr := []) (w1 := stX ad cI cS) hP hD [0] [] rfl rfl (by decide) (by decide) hk1 hF hP1 hD1
  clear hF hk1 hz1 hvm hP1 hD1
  clear ht
  generalize H1 = H at hP hS ⊢
  have hP : va_P (dC, dI) vwCl (stX ad cI cS) H := hP
  have hD : va_D (fun q : Nat => s.heap.size ≤ q) (stX ad cI cS) := hD
  refine W.widen (k := 59) (n := 2355) (by decide) (by decide) ?_
  refine lv_astore_n (lv' := [(1, .ref q0), (0, .ref b)]) hx hb dL_law_7 rfl hl (by decide) rfl (fun ls hl => ?_)
  refine va_new (ci := 9) (fs := [.int 0, .null, .int 0, .null, .int 0, .null, .null, .null, .int 0, .int 0, .int 0, .int 0, .int 0, .null, .null, .null, .null, .int 0, .null, .null, .null, .null, .null, .null, .null, .null, .int 0, .null, .null, .null, .null, .null, .null, .null, .null, .int 0]) (C := RX10) (T := TX10) (N := 36) hx hb hts0 inX10 tyX10 tyX10_ok hown (hts0 (.classLink RL 10 RX10) (by decide +kernel)) (hts0 (.instantiable RX10 36) (by decide +kernel)) (hts0 (.initialized RX10) (by decide +kernel)) hK hP hD hS hA rfl (fun j hj => by rcases (show j = 0 ∨ j = 1 ∨ j = 2 ∨ j = 3 ∨ j = 4 ∨ j = 5 ∨ j = 6 ∨ j = 7 ∨ j = 8 ∨ j = 9 ∨ j = 10 ∨ j = 11 ∨ j = 12 ∨ j = 13 ∨ j = 14 ∨ j = 15 ∨ j = 16 ∨ j = 17 ∨ j = 18 ∨ j = 19 ∨ j = 20 ∨ j = 21 ∨ j = 22 ∨ j = 23 ∨ j = 24 ∨ j = 25 ∨ j = 26 ∨ j = 27 ∨ j = 28 ∨ j = 29 ∨ j = 30 ∨ j = 31 ∨ j = 32 ∨ j = 33 ∨ j = 34 ∨ j = 35 by omega) with rfl | rfl | rfl | rfl | rfl | rfl | rfl | rfl | rfl | rfl | rfl | rfl | rfl | rfl | rfl | rfl | rfl | rfl | rfl | rfl | rfl | rfl | rfl | rfl | rfl | rfl | rfl | rfl | rfl | rfl | rfl | rfl | rfl | rfl | rfl | rfl <;> rfl) (Nat.le_of_ble_eq_true rfl) (Nat.le_of_ble_eq_true rfl) dL_law_8 (fun m0 H hP hD hS => ?_)
  refine W.widen (k := 60) (n := 2391) (by decide) (by decide) ?_
  refine lv_dup hx hb dL_law_11 rfl ?_
  have hF := va_free (wc := [(m0, .inr (9, [.int 0, .null, .int 0, .null, .int 0, .null, .null, .null, .int 0, .int 0, .int 0, .int 0, .int 0, .null, .null, .null, .null, .int 0, .null, .null, .null, .null, .null, .null, .null, .null, .int 0, .null, .null, .null, .null, .null, .null, .null, .null, .int 0]))]) hD hS hA [59] rfl
  refine va_callv (va_runI (As := []) (rest := [.ref m0]) ⟨hx, hb, hml, hown, hts⟩ (c_X10_init l (dC, dI) cI cS _ m0) (cwI 0 hts gL_law_X10_init rfl rfl rfl (hts0 (.initialized RX10) (by decide +kernel)) (hts0 (.methodLink RL 12 yX10_init) (by decide +kernel)) (hts0 (.instanceMethod yX10_init) (by decide +kernel)) rfl (by decide +kernel) ⟨Nat.le_of_ble_eq_true rfl, Nat.le_of_ble_eq_true rfl⟩) ⟨kB_blind, fun U hU hW => ⟨rfl, by rw [hU], by rw [hU]; exact hP.sub [59] rfl, va_K.moved hW.alike hK, (hD.sub [59] (by decide) rfl).weaken (fun _ _ _ _ => trivial)⟩⟩ rfl rfl hl.1 rfl (lv_room (Nat.le_of_ble_eq_true rfl)) dL_law_12 ⟨Nat.le_of_ble_eq_true rfl, Nat.le_of_ble_eq_true rfl⟩) hS (fun q _ h => hF q h) hF (fun bd t H1 locs ht hvm hw hB hz1 hk1 hS => ?_)
  obtain ⟨hP1, hD1⟩ := hB
  rw [ht] at hP1
  have hw2 : bd 0 = m0 := hw
  obtain ⟨hP, hD⟩ := va_join (wr := stX ad cI cS) (w1 := stM bd cI) hP hD [59] [0, 1, 2, 3, 4, 5, 6, 7, 8, 9, 10, 11, 12, 13, 14, 15, 16, 17, 18, 19, 20, 21, 22, 23, 24, 25, 26, 27, 28, 29, 30, 31, 32, 33, 34, 35, 36, 37, 38, 39, 40, 41, 42, 43, 44, 45, 46, 47, 48, 49, 50, 51, 52, 53, 54, 55, 56, 57, 58] rfl rfl (by decide) (by decide) hk1 hF hP1 hD1
  clear hF hk1 hz1 hvm hP1 hD1
  clear ht
  generalize H1 = H at hP hS ⊢
  refine W.widen (k := 85) (n := 3010) (by decide) (by decide) ?_
  refine lv_astore_n (lv' := [(2, .ref m0), (1, .ref q0), (0, .ref b)]) hx hb dL_law_15 rfl hl (by decide) rfl (fun ls hl => ?_)
  refine lv_iconst (v := nI 0) hx hb dL_law_16 (by decide +kernel) ?_
  refine lv_istore_n (lv' := [(3, .int (nI 0)), (2, .ref m0), (1, .ref q0), (0, .ref b)]) hx hb dL_law_17 rfl hl (by decide) rfl (fun ls hl => ?_)
  have hl2 : lvL ad bd b 0 ls := by
    show lv_has ls 4 [(0, .ref b), (1, .ref (ad 0)), (2, .ref (bd 0)), (3, .int (nI 0))]
    rw [hwX, hw2]
    exact lv_sub hl [3, 2, 1, 0] rfl
  exact law_loop B hr hlocks (L / 7 + 2) 0 85 3010 C00 mZ mZ (fun _ => (-1 : Int32)) (fun _ => 0) (fun _ => zF) (nI 0) (nI 0) _ _ H locs ls (by omega) (Nat.zero_le _) (by omega) (by omega) okX_0 (st_RX ad cI cS) (st_RM bd cI) hP hD hS hl2
