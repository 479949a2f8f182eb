/-! the model's coast: its numbers, each in a small context -/
theorem co_z1 {x : Nat} {f q : Nat → Int32} (z1 : ∀ j, j < x → f j = q j) : ∀ j, j < x + 1 → upd f x (q x) j = q j := fun j h => by
  by_cases e : j = x
  · rw [e]
    exact up_at _ _ _
  · rw [up_ne _ _ e]
    exact z1 j (by omega)
theorem co_z2 {x : Nat} {f1 f2 f3 f4 q1 q2 q3 : Nat → Int32} {v : Int32} (z : ∀ j, j < x → f1 j = q1 j ∧ f2 j = q2 j ∧ f3 j = q3 j ∧ f4 j = v) : ∀ j, j < x + 1 → upd f1 x (q1 x) j = q1 j ∧ upd f2 x (q2 x) j = q2 j ∧ upd f3 x (q3 x) j = q3 j ∧ upd f4 x v j = v := fun j h => by
  by_cases e : j = x
  · rw [e]
    exact ⟨up_at _ _ _, up_at _ _ _, up_at _ _ _, up_at _ _ _⟩
  · rw [up_ne _ _ e, up_ne _ _ e, up_ne _ _ e, up_ne _ _ e]
    exact z j (by omega)
theorem co_bf {α : Type} {b : Bool} {A B : α} (h : b = false) : (bif b then A else B) = B := by rw [h]; rfl
theorem co_bt {α : Type} {b : Bool} {A B : α} (h : b = true) : (bif b then A else B) = A := by rw [h]; rfl
theorem co_a {rl : Int32} {len : Nat} {cf : Nat → Int32} {x y z q : Int32} {C : Co} {T E : Mv} {G : Co} {sk sh ki st cl : Nat → Int32} (h1 : inB x 4 = false) (hr : repC C sk sh ki st cl) : (-1 : Int32) = sp_coast rl len cf x y z q ∧ nI 0 = nf_coast rl len x y z q ∧ C = (bif ok_coast rl len cf x y z q then G else C) ∧ T = (bif ok_coast rl len cf x y z q then mZ else T) ∧ E = (bif ok_coast rl len cf x y z q then mZ else E) ∧ repC C sk sh ki st cl := by
  have h : ok_coast rl len cf x y z q = false := co_bf h1
  refine ⟨(co_bf h1).symm, (co_bf h1).symm, (co_bf h).symm, (co_bf h).symm, (co_bf h).symm, hr⟩
theorem co_b {rl : Int32} {len : Nat} {cf : Nat → Int32} {x y z q : Int32} {C : Co} {T E : Mv} {G : Co} {sk sh ki st cl : Nat → Int32} (h1 : inB x 4 = true) (h2 : inB y 3 = false) (hr : repC C sk sh ki st cl) : (-2 : Int32) = sp_coast rl len cf x y z q ∧ nI 0 = nf_coast rl len x y z q ∧ C = (bif ok_coast rl len cf x y z q then G else C) ∧ T = (bif ok_coast rl len cf x y z q then mZ else T) ∧ E = (bif ok_coast rl len cf x y z q then mZ else E) ∧ repC C sk sh ki st cl := by
  have h : ok_coast rl len cf x y z q = false := (co_bt h1).trans (co_bf h2)
  exact ⟨((co_bt h1).trans (co_bf h2)).symm, ((co_bt h1).trans (co_bf h2)).symm, (co_bf h).symm, (co_bf h).symm, (co_bf h).symm, hr⟩
theorem co_r {rl : Int32} {len : Nat} {cf : Nat → Int32} {x y z q : Int32} {s t : Nat} (hz : tn z = s) (hq : tn q = t) (h1 : inB x 4 = true) (h2 : inB y 3 = true) (h3 : decide (rl ≠ (-1 : Int32) ∧ rl ≠ y) = false) (h4 : decide (rl = (-1 : Int32)) = false) (h5 : 0 ≤ q) (h6 : hasC len z q = true) : sp_coast rl len cf x y z q = (bif (rdT (cdT cf s t) t).1 then nI (rLa (cdT cf s t)) else (-100 : Int32) - nI (rdT (cdT cf s t) t).2) ∧ nf_coast rl len x y z q = nI 0 ∧ ok_coast rl len cf x y z q = (rdT (cdT cf s t) t).1 := by
  subst hz hq
  refine ⟨?_, ?_, ?_⟩
  · exact (co_bt h1).trans ((co_bt h2).trans ((co_bf h3).trans ((co_bf h4).trans ((if_pos h5).trans (co_bt h6)))))
  · exact (co_bt h1).trans ((co_bt h2).trans ((co_bf h3).trans ((co_bf h4).trans ((if_pos h5).trans (co_bt h6)))))
  · exact (co_bt h1).trans ((co_bt h2).trans ((co_bf h3).trans ((co_bf h4).trans ((if_pos h5).trans (co_bt h6)))))
theorem co_no {rl : Int32} {len : Nat} {cf : Nat → Int32} {x y z q : Int32} {s t a : Nat} {C : Co} {T E : Mv} {G : Co} {sk sh ki st cl : Nat → Int32} (hz : tn z = s) (hq : tn q = t) (h1 : inB x 4 = true) (h2 : inB y 3 = true) (h3 : decide (rl ≠ (-1 : Int32) ∧ rl ≠ y) = false) (h4 : decide (rl = (-1 : Int32)) = false) (h5 : 0 ≤ q) (h6 : hasC len z q = true) (h7 : (rdT (cdT cf s t) t).1 = false) (ha : a = (rdT (cdT cf s t) t).2) (hr : repC C sk sh ki st cl) : (-100 : Int32) - nI a = sp_coast rl len cf x y z q ∧ nI 0 = nf_coast rl len x y z q ∧ C = (bif ok_coast rl len cf x y z q then G else C) ∧ T = (bif ok_coast rl len cf x y z q then mZ else T) ∧ E = (bif ok_coast rl len cf x y z q then mZ else E) ∧ repC C sk sh ki st cl := by
  obtain ⟨p1, p2, p3⟩ := co_r (rl := rl) (cf := cf) (x := x) (y := y) hz hq h1 h2 h3 h4 h5 h6
  have h := p3.trans h7
  exact ⟨by rw [p1, co_bf h7, ha], p2.symm, (co_bf h).symm, (co_bf h).symm, (co_bf h).symm, hr⟩
theorem co_yes {rl : Int32} {len : Nat} {cf : Nat → Int32} {x y z q : Int32} {s t a b n1 n2 : Nat} {C : Co} {T E : Mv} {sk sh ki st cl qs qh qk qt : Nat → Int32} (hz : tn z = s) (hq : tn q = t) (h1 : inB x 4 = true) (h2 : inB y 3 = true) (h3 : decide (rl ≠ (-1 : Int32) ∧ rl ≠ y) = false) (h4 : decide (rl = (-1 : Int32)) = false) (h5 : 0 ≤ q) (h6 : hasC len z q = true) (h7 : (rdT (cdT cf s t) t).1 = true)
    (hre : a = rSp (cdT cf s t) ∧ b = rLa (cdT cf s t) ∧ (∀ j, j < 6 → qs j = nI (dv (cdT cf s t) (1 + j))) ∧ (∀ j, j < rSp (cdT cf s t) → qh j = nI (dv (cdT cf s t) (8 + 2 * j))) ∧ (∀ j, j < rLa (cdT cf s t) → qk j = nI (kdOf ((cdT cf s t) (aLa (cdT cf s t) + 3 * j + 1)))) ∧ ∀ j, j < rLa (cdT cf s t) → qt j = nI (dv (cdT cf s t) (aLa (cdT cf s t) + 3 * j + 2)))
    (z1 : ∀ j, j < n1 → sk j = qs j) (z2 : ∀ j, j < n2 → sh j = qh j ∧ ki j = qk j ∧ st j = qt j ∧ cl j = nI 0) (hn1 : 6 ≤ n1) (hn2 : 4 ≤ n2) : nI (rLa (cdT cf s t)) = sp_coast rl len cf x y z q ∧ nI 0 = nf_coast rl len x y z q ∧ nC (cdT cf s t) = (bif ok_coast rl len cf x y z q then nC (cdT cf (tn z) (tn q)) else C) ∧ mZ = (bif ok_coast rl len cf x y z q then mZ else T) ∧ mZ = (bif ok_coast rl len cf x y z q then mZ else E) ∧ repC (nC (cdT cf s t)) sk sh ki st cl := by
  obtain ⟨p1, p2, p3⟩ := co_r (rl := rl) (cf := cf) (x := x) (y := y) hz hq h1 h2 h3 h4 h5 h6
  have h := p3.trans h7
  obtain ⟨-, -, r3, r4, r5, r6⟩ := hre
  have hg1 : rSp (cdT cf s t) ≤ 4 := runP_le _ _
  have hg2 : rLa (cdT cf s t) ≤ 4 := runP_le _ _
  refine ⟨by rw [p1, co_bt h7], p2.symm, by rw [co_bt h, hz, hq], (co_bt h).symm, (co_bt h).symm, ?_⟩
  refine ⟨fun j hj => (z1 j (Nat.lt_of_lt_of_le hj hn1)).trans (r3 j hj), fun j hj => ?_, fun j hj => ?_, fun j hj => ?_, fun j hj => (z2 j (Nat.lt_of_lt_of_le hj hn2)).2.2.2⟩
  · have hj' : j < rSp (cdT cf s t) := hj
    exact (z2 j (by omega)).1.trans (r4 j hj')
  · have hj' : j < rLa (cdT cf s t) := hj
    exact (z2 j (by omega)).2.1.trans (r5 j hj')
  · have hj' : j < rLa (cdT cf s t) := hj
    exact (z2 j (by omega)).2.2.1.trans (r6 j hj')
