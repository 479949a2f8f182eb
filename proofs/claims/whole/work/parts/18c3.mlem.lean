/-! moves of the model: its numbers, each in a small context -/
theorem lm_z0 {x : Nat} {f1 f2 f3 q1 q2 q3 : Nat → Int32} (z : ∀ j, j < x → f1 j = q1 j ∧ f2 j = q2 j ∧ f3 j = q3 j) : ∀ j, j < x + 1 → upd f1 x (q1 x) j = q1 j ∧ upd f2 x (q2 x) j = q2 j ∧ upd f3 x (q3 x) j = q3 j := fun j h => by
  by_cases e : j = x
  · rw [e]
    exact ⟨up_at _ _ _, up_at _ _ _, up_at _ _ _⟩
  · rw [up_ne _ _ e, up_ne _ _ e, up_ne _ _ e]
    exact z j (by omega)
theorem lm_z1 {x i : Nat} {cf f1 f2 f3 : Nat → Int32} (z : ∀ j, j < x → f1 j = cf (i + j * 3) ∧ f2 j = cf (i + j * 3 + 1) ∧ f3 j = cf (i + j * 3 + 2)) : ∀ j, j < x + 1 → upd f1 x (cf (i + x * 3)) j = cf (i + j * 3) ∧ upd f2 x (cf (i + x * 3 + 1)) j = cf (i + j * 3 + 1) ∧ upd f3 x (cf (i + x * 3 + 2)) j = cf (i + j * 3 + 2) := fun j h => by
  by_cases e : j = x
  · rw [e]
    exact ⟨up_at _ _ _, up_at _ _ _, up_at _ _ _⟩
  · rw [up_ne _ _ e, up_ne _ _ e, up_ne _ _ e]
    exact z j (by omega)
theorem lm_z3 {x n : Nat} {f1 f2 f3 k1 k2 k3 q1 q2 q3 : Nat → Int32} (z0 : ∀ j, j < n → k1 j = q1 j ∧ k2 j = q2 j ∧ k3 j = q3 j) (hx : x < n) (z : ∀ j, j < x → f1 j = q1 j ∧ f2 j = q2 j ∧ f3 j = q3 j) : ∀ j, j < x + 1 → upd f1 x (k1 x) j = q1 j ∧ upd f2 x (k2 x) j = q2 j ∧ upd f3 x (k3 x) j = q3 j := by
  obtain ⟨h1, h2, h3⟩ := z0 x hx
  rw [h1, h2, h3]
  exact lm_z0 z
theorem lm_q {T : Mv} {x : Nat} {f1 f2 f3 q1 q2 q3 : Nat → Int32} (z : ∀ j, j < x → f1 j = q1 j ∧ f2 j = q2 j ∧ f3 j = q3 j) (hx : mN T ≤ x) (hr : repM T q1 q2 q3) : repM T f1 f2 f3 := fun i hi => by
  obtain ⟨h1, h2, h3⟩ := z i (Nat.lt_of_lt_of_le hi hx)
  obtain ⟨r1, r2, r3⟩ := hr i hi
  exact ⟨h1.trans r1, h2.trans r2, h3.trans r3⟩
theorem lm_t {C : Co} {cf : Nat → Int32} {i x : Nat} (z : ∀ m, m < x → trC C cf i m = nI 0) (h1 : inB (cf (i + x * 3)) (cLa C) = true) (h2 : inB (cf (i + x * 3 + 1)) 24 = true) (h3 : inB (cf (i + x * 3 + 2)) (cSp C) = true) : ∀ m, m < x + 1 → trC C cf i m = nI 0 := fun m h => by
  by_cases e : m = x
  · rw [e]
    unfold trC
    rw [h1, h2, h3]
    rfl
  · exact z m (by omega)
theorem lm_u {C : Co} {cf : Nat → Int32} {i x : Nat} (z : ∀ m, m < x → inB (cf (i + m * 3)) (cLa C) = true ∧ inB (cf (i + m * 3 + 1)) 24 = true ∧ inB (cf (i + m * 3 + 2)) (cSp C) = true) (h1 : inB (cf (i + x * 3)) (cLa C) = true) (h2 : inB (cf (i + x * 3 + 1)) 24 = true) (h3 : inB (cf (i + x * 3 + 2)) (cSp C) = true) : ∀ m, m < x + 1 → inB (cf (i + m * 3)) (cLa C) = true ∧ inB (cf (i + m * 3 + 1)) 24 = true ∧ inB (cf (i + m * 3 + 2)) (cSp C) = true := fun m h => by
  by_cases e : m = x
  · rw [e]
    exact ⟨h1, h2, h3⟩
  · exact z m (by omega)
theorem mv_a {C : Co} {rl : Int32} {len : Nat} {cf : Nat → Int32} {x y k l i n : Int32} (h1 : inB x (cSp C) = false) {P : Prop} (hp : P) : (-1 : Int32) = sp_moves C rl len cf x y k l i n ∧ nI 0 = nf_moves C rl len x y k l i n ∧ P := ⟨(co_bf h1).symm, (co_bf h1).symm, hp⟩
theorem mv_b {C : Co} {rl : Int32} {len : Nat} {cf : Nat → Int32} {x y k l i n : Int32} (h1 : inB x (cSp C) = true) (h2 : inB y 24 = false) {P : Prop} (hp : P) : (-2 : Int32) = sp_moves C rl len cf x y k l i n ∧ nI 0 = nf_moves C rl len x y k l i n ∧ P := ⟨((co_bt h1).trans (co_bf h2)).symm, ((co_bt h1).trans (co_bf h2)).symm, hp⟩
theorem mv_c {C : Co} {rl : Int32} {len : Nat} {cf : Nat → Int32} {x y k l i n : Int32} (h1 : inB x (cSp C) = true) (h2 : inB y 24 = true) (h3 : inB k 4 = false) {P : Prop} (hp : P) : (-1 : Int32) = sp_moves C rl len cf x y k l i n ∧ nI 0 = nf_moves C rl len x y k l i n ∧ P := ⟨((co_bt h1).trans ((co_bt h2).trans (co_bf h3))).symm, ((co_bt h1).trans ((co_bt h2).trans (co_bf h3))).symm, hp⟩
theorem mv_d {C : Co} {rl : Int32} {len : Nat} {cf : Nat → Int32} {x y k l i n : Int32} (h1 : inB x (cSp C) = true) (h2 : inB y 24 = true) (h3 : inB k 4 = true) (h4 : inB l 3 = false) {P : Prop} (hp : P) : (-2 : Int32) = sp_moves C rl len cf x y k l i n ∧ nI 0 = nf_moves C rl len x y k l i n ∧ P := ⟨((co_bt h1).trans ((co_bt h2).trans ((co_bt h3).trans (co_bf h4)))).symm, ((co_bt h1).trans ((co_bt h2).trans ((co_bt h3).trans (co_bf h4)))).symm, hp⟩
theorem mv_e {C : Co} {rl : Int32} {len : Nat} {cf : Nat → Int32} {x y k l i n : Int32} (h1 : inB x (cSp C) = true) (h2 : inB y 24 = true) (h3 : inB k 4 = true) (h4 : inB l 3 = true) (h5 : wB n 0 8 = false) {P : Prop} (hp : P) : (-2 : Int32) = sp_moves C rl len cf x y k l i n ∧ nI 0 = nf_moves C rl len x y k l i n ∧ P := ⟨((co_bt h1).trans ((co_bt h2).trans ((co_bt h3).trans ((co_bt h4).trans (co_bf h5))))).symm, ((co_bt h1).trans ((co_bt h2).trans ((co_bt h3).trans ((co_bt h4).trans (co_bf h5))))).symm, hp⟩
theorem mv_r {C : Co} {rl : Int32} {len : Nat} {cf : Nat → Int32} {x y k l i n : Int32} {s w a b : Nat} (hx : tn x = s) (hy : tn y = w) (hi : tn i = a) (hn : tn n = b) (h1 : inB x (cSp C) = true) (h2 : inB y 24 = true) (h3 : inB k 4 = true) (h4 : inB l 3 = true) (h5 : wB n 0 8 = true) (h6 : decide (rl ≠ (-1 : Int32) ∧ rl ≠ l) = false) (h7 : decide (rl = (-1 : Int32)) = false) (h8 : hasC len i (nI (b * 3)) = true) : sp_moves C rl len cf x y k l i n = (if trN C cf a b = nI 0 then nI (Li C (plc (mvS cf a b) (cSt C)) s w) else trN C cf a b) ∧ nf_moves C rl len x y k l i n = nI 0 := by
  subst hx hy hi hn
  exact ⟨(co_bt h1).trans ((co_bt h2).trans ((co_bt h3).trans ((co_bt h4).trans ((co_bt h5).trans ((co_bf h6).trans ((co_bf h7).trans (co_bt h8))))))), (co_bt h1).trans ((co_bt h2).trans ((co_bt h3).trans ((co_bt h4).trans ((co_bt h5).trans ((co_bf h6).trans ((co_bf h7).trans (co_bt h8))))))) ⟩
theorem mv_ok {C : Co} {rl : Int32} {len : Nat} {cf : Nat → Int32} {x y k l i n : Int32} {s w a b : Nat} (hx : tn x = s) (hy : tn y = w) (hi : tn i = a) (hn : tn n = b) (h1 : inB x (cSp C) = true) (h2 : inB y 24 = true) (h3 : inB k 4 = true) (h4 : inB l 3 = true) (h5 : wB n 0 8 = true) (h6 : decide (rl ≠ (-1 : Int32) ∧ rl ≠ l) = false) (h7 : decide (rl = (-1 : Int32)) = false) (h8 : hasC len i (nI (b * 3)) = true) (ht : trN C cf a b = nI 0) {P : Prop} (hp : P) : nI (Li C (plc (mvS cf a b) (cSt C)) s w) = sp_moves C rl len cf x y k l i n ∧ nI 0 = nf_moves C rl len x y k l i n ∧ P := by
  obtain ⟨p1, p2⟩ := mv_r (cf := cf) hx hy hi hn h1 h2 h3 h4 h5 h6 h7 h8
  exact ⟨(p1.trans (if_pos ht)).symm, p2.symm, hp⟩
theorem mv_no {C : Co} {rl : Int32} {len : Nat} {cf : Nat → Int32} {x y k l i n v : Int32} {s w a b j : Nat} (hx : tn x = s) (hy : tn y = w) (hi : tn i = a) (hn : tn n = b) (h1 : inB x (cSp C) = true) (h2 : inB y 24 = true) (h3 : inB k 4 = true) (h4 : inB l 3 = true) (h5 : wB n 0 8 = true) (h6 : decide (rl ≠ (-1 : Int32) ∧ rl ≠ l) = false) (h7 : decide (rl = (-1 : Int32)) = false) (h8 : hasC len i (nI (b * 3)) = true) (z : ∀ m, m < j → trC C cf a m = nI 0) (hj : j < b) (ht : trC C cf a j = v) (hv : ¬ v = nI 0) {P : Prop} (hp : P) : v = sp_moves C rl len cf x y k l i n ∧ nI 0 = nf_moves C rl len x y k l i n ∧ P := by
  obtain ⟨p1, p2⟩ := mv_r (cf := cf) hx hy hi hn h1 h2 h3 h4 h5 h6 h7 h8
  have h := trN_f z ht hv hj
  refine ⟨(p1.trans ?_).symm, p2.symm, hp⟩
  rw [h, if_neg hv]
theorem tr_a {C : Co} {cf : Nat → Int32} {i j : Nat} (h1 : inB (cf (i + j * 3)) (cLa C) = false) : trC C cf i j = (-1) := co_bf h1
theorem tr_b {C : Co} {cf : Nat → Int32} {i j : Nat} (h1 : inB (cf (i + j * 3)) (cLa C) = true) (h2 : inB (cf (i + j * 3 + 1)) 24 = false) : trC C cf i j = (-2) := (co_bt h1).trans (co_bf h2)
theorem tr_c {C : Co} {cf : Nat → Int32} {i j : Nat} (h1 : inB (cf (i + j * 3)) (cLa C) = true) (h2 : inB (cf (i + j * 3 + 1)) 24 = true) (h3 : inB (cf (i + j * 3 + 2)) (cSp C) = false) : trC C cf i j = (-1) := (co_bt h1).trans ((co_bt h2).trans (co_bf h3))
theorem mv_bar {C : Co} {rl : Int32} {len : Nat} {cf : Nat → Int32} {x y k l i n : Int32} {b : Nat} (hn : tn n = b) (h1 : inB x (cSp C) = true) (h2 : inB y 24 = true) (h3 : inB k 4 = true) (h4 : inB l 3 = true) (h5 : wB n 0 8 = true) (h : cb_r rl len l i (nI (b * 3)) < 0) {P : Prop} (hp : P) : cb_r rl len l i (nI (b * 3)) = sp_moves C rl len cf x y k l i n ∧ cb_f rl len l i (nI (b * 3)) = nf_moves C rl len x y k l i n ∧ P := by
  subst hn
  obtain ⟨p1, p2⟩ := sp_moves_b (cf := cf) h1 h2 h3 h4 h5 h
  exact ⟨p1.symm, p2.symm, hp⟩
