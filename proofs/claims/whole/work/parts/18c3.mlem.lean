/-! moves of the model: its numbers, each in a small context -/
theorem lm_z0 {x : Nat} {f1 f2 f3 q1 q2 q3 : Nat → Int32} (z : ∀ j, j < x → f1 j = q1 j ∧ f2 j = q2 j ∧ f3 j = q3 j) : ∀ j, j < x + 1 → upd f1 x (q1 x) j = q1 j ∧ upd f2 x (q2 x) j = q2 j ∧ upd f3 x (q3 x) j = q3 j := fun j h => by
  by_cases e : j = x
  · rw [e]
    exact ⟨up_at _ _ _, up_at _ _ _, up_at _ _ _⟩
  · rw [up_ne _ _ e, up_ne _ _ e, up_ne _ _ e]
    exact z j (by omega)
theorem lm_z1 {x i : Nat} {cf f1 f2 f3 : Nat → Int32} (z : ∀ j, j < x → f1 j = cf (i + j * 3) ∧ f2 j = cf (i + j * 3 + 1) ∧ f3 j = cf (i + j * 3 + 2)) : ∀ j, j < x + 1 → upd f1 x (cf (i + x * 3)) j = cf (i + j * 3) ∧ upd f2 x (cf (i + x * 3 + 1)) j = cf (i + j * 3 + 1) ∧ upd f3 x (cf (i + x * 3 + 2)) j = cf (i + j * 3 + 2) := fun j h => by
  by_cases e : j = x
  · rw [e]
    exact ⟨up_at _ _ _, up_at _ _ _, up_at _ _ _⟩
  · rw [up_ne _ _ e, up_ne _ _ e, up_ne _ _ e]
    exact z j (by omega)
theorem lm_z3 {x n : Nat} {f1 f2 f3 k1 k2 k3 q1 q2 q3 : Nat → Int32} (z0 : ∀ j, j < n → k1 j = q1 j ∧ k2 j = q2 j ∧ k3 j = q3 j) (hx : x < n) (z : ∀ j, j < x → f1 j = q1 j ∧ f2 j = q2 j ∧ f3 j = q3 j) : ∀ j, j < x + 1 → upd f1 x (k1 x) j = q1 j ∧ upd f2 x (k2 x) j = q2 j ∧ upd f3 x (k3 x) j = q3 j := by
  obtain ⟨h1, h2, h3⟩ := z0 x hx
  rw [h1, h2, h3]
  exact lm_z0 z
theorem lm_q {T : Mv} {x : Nat} {f1 f2 f3 q1 q2 q3 : Nat → Int32} (z : ∀ j, j < x → f1 j = q1 j ∧ f2 j = q2 j ∧ f3 j = q3 j) (hx : mN T ≤ x) (hr : repM T q1 q2 q3) : repM T f1 f2 f3 := fun i hi => by
  obtain ⟨h1, h2, h3⟩ := z i (Nat.lt_of_lt_of_le hi hx)
  obtain ⟨r1, r2, r3⟩ := hr i hi
  exact ⟨h1.trans r1, h2.trans r2, h3.trans r3⟩
theorem lm_t {C : Co} {cf : Nat → Int32} {i x : Nat} (z : ∀ m, m < x → trC C cf i m = nI 0) (h1 : inB (cf (i + x * 3)) (cLa C) = true) (h2 : inB (cf (i + x * 3 + 1)) 24 = true) (h3 : inB (cf (i + x * 3 + 2)) (cSp C) = true) : ∀ m, m < x + 1 → trC C cf i m = nI 0 := fun m h => by
  by_cases e : m = x
  · rw [e]
    unfold trC
    rw [h1, h2, h3]
    rfl
  · exact z m (by omega)
theorem lm_u {C : Co} {cf : Nat → Int32} {i x : Nat} (z : ∀ m, m < x → inB (cf (i + m * 3)) (cLa C) = true ∧ inB (cf (i + m * 3 + 1)) 24 = true ∧ inB (cf (i + m * 3 + 2)) (cSp C) = true) (h1 : inB (cf (i + x * 3)) (cLa C) = true) (h2 : inB (cf (i + x * 3 + 1)) 24 = true) (h3 : inB (cf (i + x * 3 + 2)) (cSp C) = true) : ∀ m, m < x + 1 → inB (cf (i + m * 3)) (cLa C) = true ∧ inB (cf (i + m * 3 + 1)) 24 = true ∧ inB (cf (i + m * 3 + 2)) (cSp C) = true := fun m h => by
  by_cases e : m = x
  · rw [e]
    exact ⟨h1, h2, h3⟩
  · exact z m (by omega)
