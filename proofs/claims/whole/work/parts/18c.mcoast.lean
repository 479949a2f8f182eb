theorem cb_gen {α : Type} {a b c : Bool} {p : Prop} [Decidable p] {A B D D' E F : α} (h : ¬ (a = false ∧ b = false ∧ p ∧ c = true)) : (bif a then A else (bif b then B else (if p then (bif c then D else E) else F))) = (bif a then A else (bif b then B else (if p then (bif c then D' else E) else F))) := by
  cases a with
  | true => rfl
  | false =>
    cases b with
    | true => rfl
    | false =>
      by_cases hp : p
      · cases c with
        | true => exact absurd ⟨rfl, rfl, hp, rfl⟩ h
        | false => rfl
      · show (if p then _ else F) = (if p then _ else F)
        rw [if_neg hp, if_neg hp]
theorem cb_neg {rl : Int32} {len : Nat} {y z q : Int32} (h : cb_r rl len y z q < 0) : ¬ (decide (rl ≠ (-1 : Int32) ∧ rl ≠ y) = false ∧ decide (rl = (-1 : Int32)) = false ∧ 0 ≤ q ∧ hasC len z q = true) := by
  rintro ⟨h1, h2, h3, h4⟩
  unfold cb_r at h
  rw [h1, h2, h4, if_pos h3] at h
  exact absurd h (by decide +kernel)
theorem sp_coast_b {rl : Int32} {len : Nat} {cf : Nat → Int32} {x y z q : Int32} (h1 : inB x 4 = true) (h2 : inB y 3 = true) (h : cb_r rl len y z q < 0) : sp_coast rl len cf x y z q = cb_r rl len y z q ∧ nf_coast rl len x y z q = cb_f rl len y z q ∧ ok_coast rl len cf x y z q = false := by
  have hn := cb_neg h
  unfold sp_coast nf_coast ok_coast cb_r cb_f
  rw [h1, h2]
  refine ⟨cb_gen hn, cb_gen hn, ?_⟩
  refine (cb_gen (D' := false) hn).trans ?_
  cases decide (rl ≠ (-1 : Int32) ∧ rl ≠ y) with
  | true => rfl
  | false =>
    cases decide (rl = (-1 : Int32)) with
    | true => rfl
    | false =>
      cases hasC len z q with
      | true => exact ite_self _
      | false => exact ite_self _
theorem sp_moves_b {C : Co} {rl : Int32} {len : Nat} {cf : Nat → Int32} {x y k l i n : Int32} (h1 : inB x (cSp C) = true) (h2 : inB y 24 = true) (h3 : inB k 4 = true) (h4 : inB l 3 = true) (h5 : wB n 0 8 = true) (h : cb_r rl len l i (nI (tn n * 3)) < 0) : sp_moves C rl len cf x y k l i n = cb_r rl len l i (nI (tn n * 3)) ∧ nf_moves C rl len x y k l i n = cb_f rl len l i (nI (tn n * 3)) := by
  have hp : (0 : Int32) ≤ nI (tn n * 3) := by
    obtain ⟨q, -, hq, e⟩ := wB_t h5
    have e2 : tn n = q := (congrArg tn e).trans (nI_clamp (show q < 2 ^ 31 by omega))
    rw [e2, kk_0le, nI_toInt (by omega)]
    omega
  have hn := cb_neg h
  unfold sp_moves nf_moves cb_r cb_f
  rw [h1, h2, h3, h4, h5]
  refine ⟨?_, ?_⟩
  · refine Eq.trans ?_ (cb_gen (D := if trN C cf (tn i) (tn n) = nI 0 then nI (Li C (plc (mvS cf (tn i) (tn n)) (cSt C)) (tn x) (tn y)) else trN C cf (tn i) (tn n)) (D' := nI 0) hn)
    rw [if_pos hp]
    rfl
  · rw [if_pos hp]
    rfl
