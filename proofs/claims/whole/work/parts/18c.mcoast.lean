theorem sp_coast_b {rl : Int32} {len : Nat} {cf : Nat → Int32} {x y z q : Int32} (h1 : inB x 4 = true) (h2 : inB y 3 = true) (h : cb_r rl len y z q < 0) : sp_coast rl len cf x y z q = cb_r rl len y z q ∧ nf_coast rl len x y z q = cb_f rl len y z q ∧ ok_coast rl len cf x y z q = false := by
  unfold cb_r at h
  unfold sp_coast nf_coast ok_coast cb_r cb_f
  rw [h1, h2]
  cases h3 : decide (rl ≠ (-1 : Int32) ∧ rl ≠ y) with
  | true => simp only [cond_true, cond_false, and_self]
  | false =>
    cases h4 : decide (rl = (-1 : Int32)) with
    | true => simp only [cond_true, cond_false, and_self]
    | false =>
      by_cases h5 : 0 ≤ q
      · rw [h3, h4] at h
        simp only [if_pos h5, cond_true, cond_false] at h ⊢
        cases h6 : hasC len z q with
        | true =>
          rw [h6] at h
          simp only [cond_true] at h
          exact absurd h (by decide +kernel)
        | false => simp only [cond_true, cond_false, and_self]
      · simp only [if_neg h5, cond_true, cond_false]
        exact ⟨trivial, trivial, trivial⟩
theorem sp_moves_b {C : Co} {rl : Int32} {len : Nat} {cf : Nat → Int32} {x y k l i n : Int32} (h1 : inB x (cSp C) = true) (h2 : inB y 24 = true) (h3 : inB k 4 = true) (h4 : inB l 3 = true) (h5 : wB n 0 8 = true) (h : cb_r rl len l i (nI (tn n * 3)) < 0) : sp_moves C rl len cf x y k l i n = cb_r rl len l i (nI (tn n * 3)) ∧ nf_moves C rl len x y k l i n = cb_f rl len l i (nI (tn n * 3)) := by
  obtain ⟨q, -, hq, rfl⟩ := wB_t h5
  have hp : (0 : Int32) ≤ nI (tn (nI q) * 3) := by
    show (0 : Int32) ≤ nI ((nI q).toNatClampNeg * 3)
    rw [nI_clamp (show q < 2 ^ 31 by omega), kk_0le, nI_toInt (by omega)]
    omega
  unfold cb_r at h
  unfold sp_moves nf_moves cb_r cb_f
  rw [h1, h2, h3, h4, h5]
  simp only [if_pos hp, cond_true] at h ⊢
  cases h6 : decide (rl ≠ (-1 : Int32) ∧ rl ≠ l) with
  | true => simp only [cond_true, cond_false, and_self]
  | false =>
    cases h7 : decide (rl = (-1 : Int32)) with
    | true => simp only [cond_true, cond_false, and_self]
    | false =>
      rw [h6, h7] at h
      simp only [cond_false] at h ⊢
      cases h8 : hasC len i (nI (tn (nI q) * 3)) with
      | true =>
        rw [h8] at h
        simp only [cond_true] at h
        exact absurd h (by decide +kernel)
      | false => simp only [cond_true, cond_false, and_self]
