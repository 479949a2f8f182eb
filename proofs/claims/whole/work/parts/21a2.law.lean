/-! what is behind a call: the sheets of the model are the class's, and a coast stays one -/
theorem bif_ft {a b : Bool} (h : (bif a then b else false) = true) : a = true ∧ b = true := by
  cases a with
  | true => exact ⟨rfl, h⟩
  | false => cases h
theorem bif_tf {a b : Bool} (h : (bif a then false else b) = true) : a = false ∧ b = true := by
  cases a with
  | true => cases h
  | false => exact ⟨rfl, h⟩
theorem ite_ft {p : Prop} [Decidable p] {b : Bool} (h : (if p then b else false) = true) : p ∧ b = true := by
  by_cases hp : p
  · rw [if_pos hp] at h
    exact ⟨hp, h⟩
  · rw [if_neg hp] at h
    cases h
theorem wB_tn {x : Int32} {a b : Nat} (h : wB x a b = true) (hb : b < 2 ^ 31) : a ≤ tn x ∧ tn x ≤ b ∧ x = nI (tn x) := by
  obtain ⟨k, h1, h2, rfl⟩ := wB_t h
  have e : tn (nI k) = k := nI_clamp (show k < 2 ^ 31 by omega)
  rw [e]
  exact ⟨h1, h2, rfl⟩
theorem inB_lt {x : Int32} {n : Nat} (h : inB x n = true) (hn : n < 2 ^ 31) : tn x < n := by
  obtain ⟨k, h1, rfl⟩ := inB_t h
  have e : tn (nI k) = k := nI_clamp (show k < 2 ^ 31 by omega)
  rw [e]
  exact h1
theorem inB_m1 {y : Int32} (h : inB y 3 = true) : y ≠ (-1 : Int32) := fun e => by
  rw [e] at h
  exact absurd h (by decide +kernel)
theorem oks_sheet {x y z : Int32} (h : ok_sheet x y z = true) : inB x 4 = true ∧ inB y 3 = true ∧ tn z ≤ 60 ∧ z = nI (tn z) := by
  obtain ⟨h1, h⟩ := bif_ft h
  obtain ⟨h2, h⟩ := bif_ft h
  obtain ⟨h3, h⟩ := ite_ft h
  obtain ⟨h4, -⟩ := ite_ft h
  obtain ⟨k, hk, rfl⟩ := kk_rng h4 h3 (by decide)
  have e : tn (nI k) = k := nI_clamp (show k < 2 ^ 31 by omega)
  rw [e]
  exact ⟨h1, h2, hk, rfl⟩
theorem hasC_tn {len : Nat} {x y : Int32} (hl : len < 2 ^ 31) (h : hasC len x y = true) : tn x + tn y ≤ len := by
  obtain ⟨k, n, h1, rfl, rfl⟩ := hasC_2 hl h
  have e1 : tn (nI k) = k := nI_clamp (show k < 2 ^ 31 by omega)
  have e2 : tn (nI n) = n := nI_clamp (show n < 2 ^ 31 by omega)
  rw [e1, e2]
  exact h1
theorem oks_copy {ra rb : Int32} {la lb : Nat} {x i y j n : Int32} (hla : la < 2 ^ 31) (hlb : lb < 2 ^ 31) (h : ok_copy ra la rb lb x i y j n = true) : inB x 4 = true ∧ inB y 4 = true ∧ tn i + tn n ≤ la ∧ tn j + tn n ≤ lb := by
  obtain ⟨h1, h⟩ := bif_ft h
  obtain ⟨h2, h⟩ := bif_ft h
  obtain ⟨-, h⟩ := bif_tf h
  obtain ⟨-, h⟩ := bif_tf h
  obtain ⟨-, h⟩ := bif_tf h
  obtain ⟨h3, h⟩ := bif_ft h
  obtain ⟨h4, -⟩ := bif_ft h
  exact ⟨h1, h2, hasC_tn hla h3, hasC_tn hlb h4⟩
theorem oks_put {rl : Int32} {len : Nat} {x y : Int32} (hl : len < 2 ^ 31) (h : ok_put rl len x y = true) : inB x 4 = true ∧ tn y < len := by
  obtain ⟨h1, h⟩ := bif_ft h
  obtain ⟨-, h⟩ := bif_tf h
  obtain ⟨h3, -⟩ := bif_ft h
  have h4 := hasC_tn hl h3
  have e : tn (nI 1) = 1 := nI_clamp (by decide)
  rw [e] at h4
  exact ⟨h1, by omega⟩
section ZS
variable {x1 x2 x3 x4 x5 : Int32} {J0 K0 : Nat} {rl : Nat → Int32} {ln : Nat → Nat} {cf : Nat → Nat → Int32} {zz zl zs zz2 zl2 zs2 cf2 : Nat → Int32}
theorem zS_sheet (hj : jx x1 = J0) (hz : zS rl ln cf zz zl zs) (h9 : bif ok_sheet x1 x2 x3 then zz2 = upd zz (tn x1) x3 ∧ zl2 = upd zl (tn x1) x2 ∧ (∀ j, j < tn x3 → zs2 (60 * tn x1 + j) = nI 0) ∧ ∀ j, ¬ (60 * tn x1 ≤ j ∧ j < 60 * tn x1 + tn x3) → zs2 j = zs j else zz2 = zz ∧ zl2 = zl ∧ zs2 = zs) (hcf2 : bif ok_sheet x1 x2 x3 then ∀ j, j < tn x3 → cf2 j = nI 0 else cf2 = cf J0) : zS (setf rl J0 (bif ok_sheet x1 x2 x3 then x2 else rl J0)) (setf ln J0 (bif ok_sheet x1 x2 x3 then tn x3 else ln J0)) (setf cf J0 cf2) zz2 zl2 zs2 := by
  cases hok : ok_sheet x1 x2 x3 with
  | false =>
    rw [hok] at h9 hcf2
    have h9' : zz2 = zz ∧ zl2 = zl ∧ zs2 = zs := h9
    obtain ⟨rfl, rfl, rfl⟩ := h9'
    have hc : cf2 = cf J0 := hcf2
    rw [hc]
    intro j hj4
    by_cases e : j = J0
    · rw [e, setf_at, setf_at, setf_at]
      exact hz J0 (by omega)
    · rw [setf_ne _ _ e, setf_ne _ _ e, setf_ne _ _ e]
      exact hz j hj4
  | true =>
    rw [hok] at h9 hcf2
    obtain ⟨h1, h2, h3, h4⟩ := oks_sheet hok
    have ht : tn x1 = J0 := jx_in hj h1
    rw [ht] at h9
    have h9' : zz2 = upd zz J0 x3 ∧ zl2 = upd zl J0 x2 ∧ (∀ j, j < tn x3 → zs2 (60 * J0 + j) = nI 0) ∧ ∀ j, ¬ (60 * J0 ≤ j ∧ j < 60 * J0 + tn x3) → zs2 j = zs j := h9
    obtain ⟨rfl, rfl, h5, h6⟩ := h9'
    have hc : ∀ j, j < tn x3 → cf2 j = nI 0 := hcf2
    intro j hj4
    by_cases e : j = J0
    · rw [e, setf_at, setf_at, setf_at]
      exact ⟨Or.inr ⟨inB_m1 h2, (up_at _ _ _).trans h4, up_at _ _ _⟩, h3, fun i hi => (h5 i hi).trans (hc i hi).symm⟩
    · rw [setf_ne _ _ e, setf_ne _ _ e, setf_ne _ _ e]
      obtain ⟨a1, a2, a3⟩ := hz j hj4
      refine ⟨?_, a2, fun i hi => ?_⟩
      · rw [up_ne _ _ e, up_ne _ _ e]
        exact a1
      · rw [h6 _ (by omega)]
        exact a3 i hi
theorem zS_lose (hj : jx x1 = J0) (hz : zS rl ln cf zz zl zs) : zS (setf rl J0 (bif ok_lose (rl J0) x1 then (-1) else rl J0)) (setf ln J0 (bif ok_lose (rl J0) x1 then 0 else ln J0)) cf (bif inB x1 4 then upd zz (tn x1) (-1) else zz) zl zs := by
  cases h1 : inB x1 4 with
  | false =>
    have hok : ok_lose (rl J0) x1 = false := co_bf h1
    rw [hok]
    intro j hj4
    by_cases e : j = J0
    · rw [e, setf_at, setf_at]
      exact hz J0 (by omega)
    · rw [setf_ne _ _ e, setf_ne _ _ e]
      exact hz j hj4
  | true =>
    have ht : tn x1 = J0 := jx_in hj h1
    rw [ht]
    intro j hj4
    by_cases e : j = J0
    · rw [e, setf_at, setf_at]
      obtain ⟨a1, a2, a3⟩ := hz J0 (by omega)
      rcases a1 with ⟨b1, b2, b3⟩ | ⟨b1, b2, b3⟩
      · have hok : ok_lose (rl J0) x1 = false := (co_bt h1).trans (co_bt (decide_eq_true b1))
        rw [hok]
        exact ⟨Or.inl ⟨b1, up_at _ _ _, b3⟩, a2, a3⟩
      · have hok : ok_lose (rl J0) x1 = true := (co_bt h1).trans (co_bf (decide_eq_false b1))
        rw [hok]
        exact ⟨Or.inl ⟨rfl, up_at _ _ _, rfl⟩, Nat.zero_le _, fun i hi => absurd hi (Nat.not_lt_zero i)⟩
    · rw [setf_ne _ _ e, setf_ne _ _ e]
      obtain ⟨a1, a2, a3⟩ := hz j hj4
      refine ⟨?_, a2, a3⟩
      show (rl j = (-1 : Int32) ∧ upd zz J0 (-1) j = (-1 : Int32) ∧ ln j = 0) ∨ (rl j ≠ (-1 : Int32) ∧ upd zz J0 (-1) j = nI (ln j) ∧ zl j = rl j)
      rw [up_ne _ _ e]
      exact a1
theorem zS_put (hj : jx x1 = J0) (hz : zS rl ln cf zz zl zs) : zS rl ln (setf cf J0 (bif ok_put (rl J0) (ln J0) x1 x2 then upd (cf J0) (tn x2) (cutL (rl J0) x3) else cf J0)) zz zl (bif ok_put (rl J0) (ln J0) x1 x2 then upd zs (60 * tn x1 + tn x2) (cutL (rl J0) x3) else zs) := by
  have hJ : J0 < 4 := by rw [← hj]; exact jx_lt _
  cases hok : ok_put (rl J0) (ln J0) x1 x2 with
  | false =>
    intro j hj4
    by_cases e : j = J0
    · rw [e, setf_at]
      exact hz J0 hJ
    · rw [setf_ne _ _ e]
      exact hz j hj4
  | true =>
    obtain ⟨h1, h2⟩ := oks_put (by have := (hz J0 hJ).2.1; omega) hok
    have ht : tn x1 = J0 := jx_in hj h1
    have hl := (hz J0 hJ).2.1
    rw [ht]
    intro j hj4
    obtain ⟨a1, a2, a3⟩ := hz j hj4
    refine ⟨a1, a2, fun i hi => ?_⟩
    show upd zs (60 * J0 + tn x2) (cutL (rl J0) x3) (60 * j + i) = setf cf J0 (upd (cf J0) (tn x2) (cutL (rl J0) x3)) j i
    by_cases e : j = J0
    · rw [e, setf_at]
      by_cases e2 : i = tn x2
      · rw [e2, up_at, up_at]
      · rw [up_ne _ _ e2, up_ne _ _ (by omega)]
        rw [e] at a3 hi
        exact a3 i hi
    · rw [setf_ne _ _ e, up_ne _ _ (by omega)]
      exact a3 i hi
theorem zS_copy (hj : jx x1 = J0) (hj2 : jx x3 = K0) (hz : zS rl ln cf zz zl zs) (h9 : bif ok_copy (rl J0) (ln J0) (rl K0) (ln K0) x1 x2 x3 x4 x5 then ∀ j, zs2 j = (if 60 * tn x3 + tn x4 ≤ j ∧ j < 60 * tn x3 + tn x4 + tn x5 then zs (60 * tn x1 + tn x2 + (j - (60 * tn x3 + tn x4))) else zs j) else zs2 = zs) : zS rl ln (setf cf K0 (bif ok_copy (rl J0) (ln J0) (rl K0) (ln K0) x1 x2 x3 x4 x5 then va_cpy (cf J0) (cf K0) (tn x2) (tn x4) (tn x5) else cf K0)) zz zl zs2 := by
  have hJ : J0 < 4 := by rw [← hj]; exact jx_lt _
  have hK : K0 < 4 := by rw [← hj2]; exact jx_lt _
  have hlJ := (hz J0 hJ).2.1
  have hlK := (hz K0 hK).2.1
  cases hok : ok_copy (rl J0) (ln J0) (rl K0) (ln K0) x1 x2 x3 x4 x5 with
  | false =>
    rw [hok] at h9
    have h9' : zs2 = zs := h9
    rw [h9']
    intro j hj4
    by_cases e : j = K0
    · rw [e, setf_at]
      exact hz K0 hK
    · rw [setf_ne _ _ e]
      exact hz j hj4
  | true =>
    rw [hok] at h9
    obtain ⟨h1, h2, h3, h4⟩ := oks_copy (by omega) (by omega) hok
    have ht1 : tn x1 = J0 := jx_in hj h1
    have ht3 : tn x3 = K0 := jx_in hj2 h2
    rw [ht1, ht3] at h9
    have h9' : ∀ j, zs2 j = (if 60 * K0 + tn x4 ≤ j ∧ j < 60 * K0 + tn x4 + tn x5 then zs (60 * J0 + tn x2 + (j - (60 * K0 + tn x4))) else zs j) := h9
    intro j hj4
    obtain ⟨a1, a2, a3⟩ := hz j hj4
    refine ⟨a1, a2, fun i hi => ?_⟩
    show zs2 (60 * j + i) = setf cf K0 (va_cpy (cf J0) (cf K0) (tn x2) (tn x4) (tn x5)) j i
    rw [h9' (60 * j + i)]
    by_cases e : j = K0
    · rw [e, setf_at]
      rw [e] at a3 hi
      show _ = (if tn x4 ≤ i ∧ i < tn x4 + tn x5 then cf J0 (tn x2 + (i - tn x4)) else cf K0 i)
      by_cases h : tn x4 ≤ i ∧ i < tn x4 + tn x5
      · rw [if_pos (by omega), if_pos h, show 60 * J0 + tn x2 + (60 * K0 + i - (60 * K0 + tn x4)) = 60 * J0 + (tn x2 + (i - tn x4)) by omega]
        exact (hz J0 hJ).2.2 _ (by omega)
      · rw [if_neg (by omega), if_neg h]
        exact a3 i hi
    · rw [setf_ne _ _ e, if_neg (by omega)]
      exact a3 i hi
end ZS
theorem okM_app {C : Co} {T : Mv} {a b c : Nat} (h : okM C T) (h8 : ¬ mN T = 8) (ha : a < cLa C) (hb : b < 24) (hc : c < cSp C) : okM C (mApp T a b c) := by
  refine ⟨?_, fun i hi => ?_⟩
  · show mN T + 1 ≤ 8
    have := h.1
    omega
  · have hi' : i < mN T + 1 := hi
    show (if i = mN T then a else mW T i) < cLa C ∧ (if i = mN T then b else mT T i) < 24 ∧ (if i = mN T then c else mV T i) < cSp C
    by_cases e : i = mN T
    · rw [if_pos e, if_pos e, if_pos e]
      exact ⟨ha, hb, hc⟩
    · rw [if_neg e, if_neg e, if_neg e]
      exact h.2 i (by omega)
theorem okE_app {C : Co} {T : Mv} {a b c : Nat} (h : okE C T) (h8 : ¬ mN T = 8) (ha : a < cSp C) (hb : b < 24) (hc : c < 1000) : okE C (mApp T a b c) := by
  refine ⟨?_, fun i hi => ?_⟩
  · show mN T + 1 ≤ 8
    have := h.1
    omega
  · have hi' : i < mN T + 1 := hi
    show (if i = mN T then a else mW T i) < cSp C ∧ (if i = mN T then b else mT T i) < 24 ∧ (if i = mN T then c else mV T i) < 1000
    by_cases e : i = mN T
    · rw [if_pos e, if_pos e, if_pos e]
      exact ⟨ha, hb, hc⟩
    · rw [if_neg e, if_neg e, if_neg e]
      exact h.2 i (by omega)
theorem okM_cut {C : Co} {T : Mv} {k : Nat} (h : okM C T) : okM C (mCut T k) := ⟨Nat.le_trans (Nat.sub_le _ _) h.1, fun i hi => h.2 i (Nat.lt_of_lt_of_le hi (Nat.sub_le _ _))⟩
theorem okE_cut {C : Co} {T : Mv} {k : Nat} (h : okE C T) : okE C (mCut T k) := ⟨Nat.le_trans (Nat.sub_le _ _) h.1, fun i hi => h.2 i (Nat.lt_of_lt_of_le hi (Nat.sub_le _ _))⟩
theorem okX_cloud {C : Co} {T E : Mv} (h : okX C T E) (x y : Int32) : okX (nx_cloud C x y) T E := by
  unfold nx_cloud
  cases isC C with
  | false => exact h
  | true =>
    cases inB x 4 with
    | false => exact h
    | true =>
      cases h3 : wB y 0 9 with
      | false => exact h
      | true =>
        have hy := (wB_tn h3 (by decide)).2.1
        show okX (cCld C (tn x) (tn y)) T E
        rcases h with h | ⟨a, b, c, d, e, f⟩
        · exact Or.inl h
        · exact Or.inr ⟨okC_cld a hy, b, c, d, e, f⟩
theorem okX_age {C : Co} {T E : Mv} (h : okX C T E) (x : Int32) : okX (nx_age C x) T E := by
  unfold nx_age
  cases h3 : wB x 1 12 with
  | false => exact h
  | true =>
    cases h1 : isC C with
    | false => exact h
    | true =>
      obtain ⟨hy1, hy2, -⟩ := wB_tn h3 (by decide)
      show okX (cAge C (tn x)) T E
      rcases h with h | ⟨a, b, c, d, e, f⟩
      · have h2 : 0 < cLa C := of_decide_eq_true h1
        omega
      · exact Or.inr ⟨okC_age a hy1 hy2, b, c, d, e, f⟩
theorem okX_move {C : Co} {T E : Mv} (h : okX C T E) (x y z : Int32) : okX C (nx_move C T x y z) E := by
  unfold nx_move
  cases h1 : inB x (cLa C) with
  | false => exact h
  | true =>
    cases h2 : inB z (cSp C) with
    | false => exact h
    | true =>
      cases h3 : inB y 24 with
      | false => exact h
      | true =>
        show okX C (if mN T = 8 then T else mApp T (tn x) (tn y) (tn z)) E
        by_cases h8 : mN T = 8
        · rw [if_pos h8]
          exact h
        · rw [if_neg h8]
          have hs := okX_le h
          have q1 := inB_lt h1 (by omega)
          have q2 := inB_lt h2 (by omega)
          have q3 := inB_lt h3 (by decide)
          rcases h with h | ⟨a, b, c, d, e, f⟩
          · omega
          · exact Or.inr ⟨a, b, c, d, okM_app e h8 q1 q3 q2, f⟩
theorem okX_reading {C : Co} {T E : Mv} (h : okX C T E) (x y z : Int32) : okX C T (nx_reading C E x y z) := by
  unfold nx_reading
  cases h1 : inB x (cSp C) with
  | false => exact h
  | true =>
    cases h2 : inB y 24 with
    | false => exact h
    | true =>
      cases h3 : wB z 0 999 with
      | false => exact h
      | true =>
        show okX C T (if mN E = 8 then E else mApp E (tn x) (tn y) (tn z))
        by_cases h8 : mN E = 8
        · rw [if_pos h8]
          exact h
        · rw [if_neg h8]
          have hs := okX_le h
          have q1 := inB_lt h1 (by omega)
          have q2 := inB_lt h2 (by decide)
          have q3 := (wB_tn h3 (by decide)).2.1
          rcases h with h | ⟨a, b, c, d, e, f⟩
          · omega
          · exact Or.inr ⟨a, b, c, d, e, okE_app f h8 q1 q2 (by omega)⟩
theorem okX_undo {C : Co} {T E : Mv} (h : okX C T E) (x : Int32) : okX C (nx_undo T x) E := by
  unfold nx_undo
  cases inB x (mN T + 1) with
  | false => exact h
  | true =>
    show okX C (mCut T (tn x)) E
    rcases h with ⟨h1, h2, h3, h4, h5⟩ | ⟨a, b, c, d, e, f⟩
    · exact Or.inl ⟨h1, h2, h3, by show mN T - tn x = 0; omega, h5⟩
    · exact Or.inr ⟨a, b, c, d, okM_cut e, f⟩
theorem okX_back {C : Co} {T E : Mv} (h : okX C T E) (x : Int32) : okX C T (nx_undo E x) := by
  unfold nx_undo
  cases inB x (mN E + 1) with
  | false => exact h
  | true =>
    show okX C T (mCut E (tn x))
    rcases h with ⟨h1, h2, h3, h4, h5⟩ | ⟨a, b, c, d, e, f⟩
    · exact Or.inl ⟨h1, h2, h3, h4, by show mN E - tn x = 0; omega⟩
    · exact Or.inr ⟨a, b, c, d, e, okE_cut f⟩
theorem runP_all {p : Nat → Bool} : ∀ {n j : Nat}, j < runP p n → p j = true
  | 0, j, h => absurd h (Nat.not_lt_zero j)
  | n + 1, j, h => by
    rw [runP_s] at h
    by_cases hc : runP p n = n ∧ p n = true
    · rw [if_pos hc] at h
      by_cases e : j = n
      · rw [e]
        exact hc.2
      · exact runP_all (n := n) (by omega)
    · rw [if_neg hc] at h
      exact runP_all h
theorem kdOf_l2 (x : Int32) : kdOf x ≤ 2 := by
  unfold kdOf
  split
  · omega
  · split <;> omega
theorem rdT_ok {c : Nat → Int32} {n : Nat} (h : (rdT c n).1 = true) : okX (nC c) mZ mZ := by
  unfold rdT at h
  by_cases h1 : isO c = false
  · rw [if_pos h1] at h
    cases h
  · rw [if_neg h1] at h
    by_cases h2 : rSk c < 6
    · rw [if_pos h2] at h
      cases h
    · rw [if_neg h2] at h
      by_cases h3 : rSp c < 4 ∧ c (aLa c) = nI 59
      · rw [if_pos h3] at h
        cases h
      · rw [if_neg h3] at h
        by_cases h4 : rSp c = 0
        · rw [if_pos h4] at h
          cases h
        · rw [if_neg h4] at h
          by_cases h5 : rLa c < 4 ∧ c (aLa c + 3 * rLa c) = nI 44
          · rw [if_pos h5] at h
            cases h
          · rw [if_neg h5] at h
            by_cases h6 : rLa c = 0
            · rw [if_pos h6] at h
              cases h
            · have g1 : rSp c ≤ 4 := runP_le _ _
              have g2 : rLa c ≤ 4 := runP_le _ _
              refine Or.inr ⟨⟨g1, g2, (by decide : 0 < 6), (by decide : 6 ≤ 12), fun w hw => ?_, fun k hk => ?_, fun s hs => ?_, fun d hd => Nat.zero_le _⟩, Nat.pos_of_ne_zero h6, Nat.pos_of_ne_zero h4, fun k hk => kdOf_l2 _, ⟨Nat.zero_le _, fun i hi => absurd hi (Nat.not_lt_zero i)⟩, ⟨Nat.zero_le _, fun i hi => absurd hi (Nat.not_lt_zero i)⟩⟩
              · have q : dg c (1 + w) 10 = true := runP_all (p := fun w => dg c (1 + w) 10) (n := 6) (j := w) (by show w < rSk c; omega)
                have := (dg_t q).1
                show dv c (1 + w) ≤ 9
                omega
              · have q : pLa c k = true := runP_all (n := 4) hk
                unfold pLa at q
                rw [Bool.and_eq_true, Bool.and_eq_true] at q
                have := (dg_t q.2.2).1
                exact ⟨Nat.le_trans (kdOf_l2 _) (by decide), this⟩
              · have q : pSp c s = true := runP_all (n := 4) hs
                unfold pSp at q
                rw [Bool.and_eq_true] at q
                have := (dg_t q.2).1
                show dv c (8 + 2 * s) ≤ 9
                omega
theorem okX_coast {C : Co} {T E : Mv} (h : okX C T E) {rl : Int32} {len : Nat} {cf : Nat → Int32} {x y z q : Int32} : okX (bif ok_coast rl len cf x y z q then nC (cdT cf (tn z) (tn q)) else C) (bif ok_coast rl len cf x y z q then mZ else T) (bif ok_coast rl len cf x y z q then mZ else E) := by
  cases hok : ok_coast rl len cf x y z q with
  | false => exact h
  | true =>
    obtain ⟨-, hok⟩ := bif_ft hok
    obtain ⟨-, hok⟩ := bif_ft hok
    obtain ⟨-, hok⟩ := bif_tf hok
    obtain ⟨-, hok⟩ := bif_tf hok
    obtain ⟨-, hok⟩ := ite_ft hok
    obtain ⟨-, hok⟩ := bif_ft hok
    exact rdT_ok hok
theorem repC_agex {C : Co} {sk sh ki st cl : Nat → Int32} {x : Int32} (h : repC C sk sh ki st cl) : repC (nx_age C x) sk sh ki st cl := by
  unfold nx_age
  cases wB x 1 12 with
  | false => exact h
  | true =>
    cases isC C with
    | false => exact h
    | true => exact repC_age h
theorem repM_undox {T : Mv} {wf tf vf : Nat → Int32} {x : Int32} (h : repM T wf tf vf) : repM (nx_undo T x) wf tf vf := by
  unfold nx_undo
  cases inB x (mN T + 1) with
  | false => exact h
  | true => exact repM_cut h
