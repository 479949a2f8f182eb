theorem law_le {i L : Nat} (hi : i ≤ 2 ^ 30) (hL : L ≤ 3584) (h : ¬ nI L - nI 7 < nI i) : i + 7 ≤ L := by
  rw [Int32.lt_iff_toInt_lt, nI_toInt (show i < 2 ^ 31 by omega)] at h
  by_cases h7 : 7 ≤ L
  · rw [pk_sub h7, nI_toInt (show L - 7 < 2 ^ 31 by omega)] at h
    omega
  · exfalso
    apply h
    have h9 : ∀ q, q < 7 → (nI q - nI 7).toInt < 0 := by decide +kernel
    have := h9 L (by omega)
    omega

set_option maxHeartbeats 4000000 in
set_option maxRecDepth 100000 in
theorem law_loop {p : Program} {l : Launch} {e : Env} {s : State} {m : MethodId} {below : List Frame} {meth : Method} {c : Code} {D : va_G} {cI cS : ClassId} {b L : Nat} {xs : Nat → Int32} {ad bd : Nat → Nat} (B : LB p s m #[Value.ref b] c D cI cS (fun q => s.heap.size ≤ q) b L xs) (hr : meth.sig.returnType = ret) (hlocks : meth.locks = false) : ∀ (f i k n : Nat) (C : Co) (T E : Mv) (rl : Nat → Int32) (ln : Nat → Nat) (cf : Nat → Nat → Int32) (tr ft : Int32) (wX wM : va_W) (H : Heap) (locs : List Loc) (ls : Array Slot), L + 7 ≤ i + 7 * f → i ≤ L → k + 2 * f + 2 ≤ 600000 → n + 18 * f + 18 ≤ 7302250 → okX C T E → RX ad cI cS C T E rl ln cf tr ft wX → RM bd cI C T E rl ln cf tr ft wM → va_P D vwCl (wX ++ wM) H → va_D (fun q => s.heap.size ≤ q) (wX ++ wM) → va_S (fun q => s.heap.size ≤ q) s.heap H locs → lvL ad bd b i ls → W p l e room_1 s m #[Value.ref b] below meth c H locs k n (lw_Z below #[Value.ref b] s) (F0 m 18 ls []) := by
  intro f
  induction f with
  | zero =>
    intro i k n C T E rl ln cf tr ft wX wM H locs ls hf hiL
    exact absurd hf (by omega)
  | succ f ih =>
    intro i k n C T E rl ln cf tr ft wX wM H locs ls hf hiL hk hn hX hRX hRM hP hD hS hl
    obtain ⟨F, hK, hXs, hbl, hbA, hA, hL⟩ := id B
    obtain ⟨hx, hb, -, -, -, -, -⟩ := id F
    refine lv_iload_n hx hb dL_law_18 rfl (lv_at hl 3 rfl) ?_
    refine lv_aload_n hx hb dL_law_19 rfl (lv_at hl 0 rfl) ?_
    refine va_slen hx hb hXs hbl hbA hS dL_law_20 ?_
    refine lv_bipush (v := nI 7) hx hb dL_law_21 (by decide +kernel) ?_
    refine lv_isub hx hb dL_law_23 ?_
    refine lv_icmp_gt (tgt := 1353) hx hb dL_law_24 (by decide) (fun _ => ?_) (fun hc => ?_)
    · refine lv_iconst (v := 1) hx hb dL_law_1353 (by decide +kernel) ?_
      refine va_forget (fun q h => hS.2.2 q h) ?_
      refine W.widen (k := 600000) (n := 7302250) (by omega) (by omega) ?_
      exact lw_ret hx hb hr hlocks dL_law_1354
    · have hi : i + 7 ≤ L := law_le (by omega) hL hc
      refine lv_aload_n hx hb dL_law_27 rfl (lv_at hl 0 rfl) ?_
      refine lv_iload_n hx hb dL_law_28 rfl (lv_at hl 3 rfl) ?_
      refine kk_sld hx hb hXs hbl hbA hS (by omega) hL dL_law_29 ?_
      refine lv_bipush (v := nI 63) hx hb dL_law_30 (by decide +kernel) ?_
      refine lv_iand hx hb dL_law_32 ?_
      have kk : LKK p l e s m #[Value.ref b] below meth c (k + 1) (n + 9) (lw_Z below #[Value.ref b] s) D cI cS (fun q => s.heap.size ≤ q) ls ad bd := by
        intro C T E rl ln cf tr ft wX wM H locs hX hRX hRM hP hD hS
        refine lv_iinc (v := nI (i + 7)) (lv' := [(3, .int (nI (i + 7))), (0, .ref b), (1, .ref (ad 0)), (2, .ref (bd 0))]) hx hb dL_law_1347 hl (k := 3) rfl (nI_add i 7) (by decide) rfl (fun ls hl => ?_)
        refine lv_goto (tgt := 18) hx hb dL_law_1350 (by decide) ?_
        exact ih (i + 7) (k + 1) (n + 9) C T E rl ln cf tr ft wX wM H locs ls (by omega) (by omega) (by omega) (by omega) hX hRX hRM hP hD hS (lv_sub hl [1, 2, 3, 0] rfl)
      refine law_sw hx hb (fun t ht => ?_)
      simp only [List.mem_cons, List.not_mem_nil, or_false] at ht
      rcases ht with rfl | rfl | rfl | rfl | rfl | rfl | rfl | rfl | rfl | rfl | rfl | rfl | rfl | rfl | rfl | rfl | rfl | rfl | rfl | rfl | rfl | rfl | rfl | rfl | rfl | rfl | rfl | rfl | rfl | rfl | rfl | rfl | rfl | rfl | rfl | rfl
      · refine W.widen (k := k + 1) (n := n + 9) (by omega) (by omega) ?_
        exact kk C T E rl ln cf tr ft wX wM H locs hX hRX hRM hP hD hS
      · exact law_coast B (by omega) (by omega) hi hl hX hRX hRM hP hD hS kk
      · exact law_sky B (by omega) (by omega) hi hl hX hRX hRM hP hD hS kk
      · exact law_shade B (by omega) (by omega) hi hl hX hRX hRM hP hD hS kk
      · exact law_ofLamp B (by omega) (by omega) hi hl hX hRX hRM hP hD hS kk
      · exact law_cloud B (by omega) (by omega) hi hl hX hRX hRM hP hD hS kk
      · exact law_age B (by omega) (by omega) hi hl hX hRX hRM hP hD hS kk
      · exact law_move B (by omega) (by omega) hi hl hX hRX hRM hP hD hS kk
      · exact law_undo B (by omega) (by omega) hi hl hX hRX hRM hP hD hS kk
      · exact law_where B (by omega) (by omega) hi hl hX hRX hRM hP hD hS kk
      · exact law_gives B (by omega) (by omega) hi hl hX hRX hRM hP hD hS kk
      · exact law_falls B (by omega) (by omega) hi hl hX hRX hRM hP hD hS kk
      · exact law_light B (by omega) (by omega) hi hl hX hRX hRM hP hD hS kk
      · exact law_dark B (by omega) (by omega) hi hl hX hRX hRM hP hD hS kk
      · exact law_set B (by omega) (by omega) hi hl hX hRX hRM hP hD hS kk
      · exact law_show B (by omega) (by omega) hi hl hX hRX hRM hP hD hS kk
      · exact law_moves B (by omega) (by omega) hi hl hX hRX hRM hP hD hS kk
      · exact law_worth B (by omega) (by omega) hi hl hX hRX hRM hP hD hS kk
      · exact law_reading B (by omega) (by omega) hi hl hX hRX hRM hP hD hS kk
      · exact law_back B (by omega) (by omega) hi hl hX hRX hRM hP hD hS kk
      · exact law_stood B (by omega) (by omega) hi hl hX hRX hRM hP hD hS kk
      · exact law_kinds B (by omega) (by omega) hi hl hX hRX hRM hP hD hS kk
      · exact law_ages B (by omega) (by omega) hi hl hX hRX hRM hP hD hS kk
      · exact law_clouds B (by omega) (by omega) hi hl hX hRX hRM hP hD hS kk
      · exact law_odds B (by omega) (by omega) hi hl hX hRX hRM hP hD hS kk
      · exact law_sheet B (by omega) (by omega) hi hl hX hRX hRM hP hD hS kk
      · exact law_lose B (by omega) (by omega) hi hl hX hRX hRM hP hD hS kk
      · exact law_put B (by omega) (by omega) hi hl hX hRX hRM hP hD hS kk
      · exact law_cell B (by omega) (by omega) hi hl hX hRX hRM hP hD hS kk
      · exact law_copy B (by omega) (by omega) hi hl hX hRX hRM hP hD hS kk
      · exact law_tell B (by omega) (by omega) hi hl hX hRX hRM hP hD hS kk
      · exact law_see B (by omega) (by omega) hi hl hX hRX hRM hP hD hS kk
      · exact law_as B (by omega) (by omega) hi hl hX hRX hRM hP hD hS kk
      · exact law_trace B (by omega) (by omega) hi hl hX hRX hRM hP hD hS kk
      · exact law_fault B (by omega) (by omega) hi hl hX hRX hRM hP hD hS kk
      · exact law_many B (by omega) (by omega) hi hl hX hRX hRM hP hD hS kk
