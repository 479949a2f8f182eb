/-! how the model tells where a lamp stands: one walk over the moves -/
def stP (M : Mv) (st : Nat → Nat) (k w : Nat) : Nat → Nat × Nat
  | 0 => (st k, 0)
  | n + 1 => if mW M n = k ∧ mT M n ≤ w ∧ (stP M st k w n).2 ≤ mT M n + 1 then (mV M n, mT M n + 1) else stP M st k w n
theorem stP_s (M : Mv) (st : Nat → Nat) (k w n : Nat) : stP M st k w (n + 1) = if mW M n = k ∧ mT M n ≤ w ∧ (stP M st k w n).2 ≤ mT M n + 1 then (mV M n, mT M n + 1) else stP M st k w n := rfl
/-- by the first n moves alone -/
def plcN (M : Mv) (st : Nat → Nat) (k n : Nat) : Nat → Nat
  | 0 => plAt M k 0 (st k) n
  | w + 1 => plAt M k (w + 1) (plcN M st k n w) n
theorem plcN_mN (M : Mv) (st : Nat → Nat) (k : Nat) : ∀ w, plcN M st k (mN M) w = plc M st k w
  | 0 => rfl
  | w + 1 => by
    show plAt M k (w + 1) (plcN M st k (mN M) w) (mN M) = plAt M k (w + 1) (plc M st k w) (mN M)
    rw [plcN_mN M st k w]
theorem plAt_no {M : Mv} {k v d : Nat} : ∀ {n : Nat}, (∀ i, i < n → ¬ (mT M i = v ∧ mW M i = k)) → plAt M k v d n = d
  | 0, _ => rfl
  | n + 1, h => by
    rw [plAt_s, if_neg (h n (by omega))]
    exact plAt_no (fun i hi => h i (by omega))
theorem plAt_any {M : Mv} {k v d d' : Nat} : ∀ {n : Nat}, (∃ i, i < n ∧ mT M i = v ∧ mW M i = k) → plAt M k v d n = plAt M k v d' n
  | 0, h => by
    obtain ⟨i, h1, _⟩ := h
    omega
  | n + 1, h => by
    rw [plAt_s, plAt_s]
    by_cases e : mT M n = v ∧ mW M n = k
    · rw [if_pos e, if_pos e]
    · rw [if_neg e, if_neg e]
      obtain ⟨i, h1, h2⟩ := h
      refine plAt_any ⟨i, ?_, h2⟩
      by_cases h3 : i = n
      · subst h3
        exact absurd h2 e
      · omega
theorem plcN_0 {M : Mv} {st : Nat → Nat} {k : Nat} : ∀ w, plcN M st k 0 w = st k
  | 0 => rfl
  | w + 1 => plcN_0 w
theorem plcN_d (M : Mv) (st : Nat → Nat) (k n v : Nat) : ∃ d, (plcN M st k n v = plAt M k v d n) := by
  cases v with
  | zero => exact ⟨_, rfl⟩
  | succ v => exact ⟨_, rfl⟩
theorem plcN_run {M : Mv} {st : Nat → Nat} {k n v : Nat} : ∀ {w : Nat}, v ≤ w → (∀ u, v < u → u ≤ w → ∀ i, i < n → ¬ (mT M i = u ∧ mW M i = k)) → plcN M st k n w = plcN M st k n v
  | 0, h, _ => by rw [show v = 0 by omega]
  | w + 1, h, hn => by
    by_cases e : v = w + 1
    · rw [e]
    · show plAt M k (w + 1) (plcN M st k n w) n = _
      rw [plAt_no (hn (w + 1) (by omega) (Nat.le_refl _))]
      exact plcN_run (by omega) (fun u h1 h2 => hn u h1 (by omega))
theorem plcN_skip {M : Mv} {st : Nat → Nat} {k n : Nat} : ∀ {w : Nat}, (∀ v, v ≤ w → ¬ (mT M n = v ∧ mW M n = k)) → plcN M st k (n + 1) w = plcN M st k n w
  | 0, h => by
    show plAt M k 0 (st k) (n + 1) = plAt M k 0 (st k) n
    rw [plAt_s, if_neg (h 0 (Nat.le_refl _))]
  | w + 1, h => by
    show plAt M k (w + 1) (plcN M st k (n + 1) w) (n + 1) = plAt M k (w + 1) (plcN M st k n w) n
    rw [plAt_s, if_neg (h (w + 1) (Nat.le_refl _)), plcN_skip (fun v hv => h v (by omega))]
theorem plcN_from {M : Mv} {st : Nat → Nat} {k n v : Nat} (h0 : plcN M st k (n + 1) v = plcN M st k n v) : ∀ {w : Nat}, v ≤ w → (∀ u, v < u → u ≤ w → ¬ (mT M n = u ∧ mW M n = k)) → plcN M st k (n + 1) w = plcN M st k n w
  | 0, h, _ => by rw [show v = 0 by omega] at h0; exact h0
  | w + 1, h, hn => by
    by_cases e : v = w + 1
    · rw [← e]; exact h0
    · show plAt M k (w + 1) (plcN M st k (n + 1) w) (n + 1) = plAt M k (w + 1) (plcN M st k n w) n
      rw [plAt_s, if_neg (hn (w + 1) (by omega) (Nat.le_refl _)), plcN_from h0 (by omega) (fun u h1 h2 => hn u h1 (by omega))]
theorem plcN_hit {M : Mv} {st : Nat → Nat} {k n v : Nat} (h1 : mT M n = v) (h2 : mW M n = k) : plcN M st k (n + 1) v = mV M n := by
  obtain ⟨d, e⟩ := plcN_d M st k (n + 1) v
  rw [e, plAt_s, if_pos ⟨h1, h2⟩]
theorem plcN_old {M : Mv} {st : Nat → Nat} {k n v : Nat} (h : ∃ i, i < n ∧ mT M i = v ∧ mW M i = k) (hn : ¬ (mT M n = v ∧ mW M n = k)) : plcN M st k (n + 1) v = plcN M st k n v := by
  obtain ⟨d, e⟩ := plcN_d M st k (n + 1) v
  obtain ⟨d2, e2⟩ := plcN_d M st k n v
  rw [e, e2, plAt_s, if_neg hn]
  exact plAt_any h
theorem stP_inv (M : Mv) (st : Nat → Nat) (k w : Nat) : ∀ n, (stP M st k w n).1 = plcN M st k n w ∧ (stP M st k w n).2 ≤ w + 1 ∧ (∀ v, v ≤ w → (stP M st k w n).2 ≤ v → ∀ i, i < n → ¬ (mT M i = v ∧ mW M i = k)) ∧ (0 < (stP M st k w n).2 → ∃ i, i < n ∧ mT M i = (stP M st k w n).2 - 1 ∧ mW M i = k)
  | 0 => ⟨(plcN_0 w).symm, Nat.zero_le _, fun _ _ _ i hi => absurd hi (Nat.not_lt_zero i), fun h => absurd h (Nat.lt_irrefl 0)⟩
  | n + 1 => by
    obtain ⟨i1, i2, i3, i4⟩ := stP_inv M st k w n
    rw [stP_s]
    by_cases hc : mW M n = k ∧ mT M n ≤ w ∧ (stP M st k w n).2 ≤ mT M n + 1
    · rw [if_pos hc]
      have no : ∀ u, mT M n < u → u ≤ w → ∀ i, i < n + 1 → ¬ (mT M i = u ∧ mW M i = k) := by
        intro u h1 h2 i hi h3
        by_cases e : i = n
        · subst e; omega
        · exact i3 u h2 (by omega) i (by omega) h3
      refine ⟨?_, ?_, ?_, ?_⟩
      · show mV M n = _
        rw [plcN_run hc.2.1 no, plcN_hit rfl hc.1]
      · show mT M n + 1 ≤ w + 1
        omega
      · intro v h1 h2
        exact no v h2 h1
      · intro _
        exact ⟨n, by omega, rfl, hc.1⟩
    · rw [if_neg hc]
      have i3' : ∀ v, v ≤ w → (stP M st k w n).2 ≤ v → ∀ i, i < n + 1 → ¬ (mT M i = v ∧ mW M i = k) := by
        intro v h1 h2 i hi h3
        by_cases e : i = n
        · subst e
          exact hc ⟨h3.2, by omega, by omega⟩
        · exact i3 v h1 h2 i (by omega) h3
      refine ⟨?_, i2, i3', fun h => ?_⟩
      · rw [i1]
        by_cases hs : (stP M st k w n).2 = 0
        · exact (plcN_skip (fun v hv => i3' v hv (by omega) n (by omega))).symm
        · have h1 : 0 < (stP M st k w n).2 := by omega
          refine (plcN_from (v := (stP M st k w n).2 - 1) ?_ (by omega) ?_).symm
          · refine plcN_old (i4 h1) ?_
            intro h3
            exact hc ⟨h3.2, by omega, by omega⟩
          · intro u h2 h3
            exact i3' u h3 (by omega) n (by omega)
      · obtain ⟨i, h1, h2⟩ := i4 h
        exact ⟨i, by omega, h2⟩
theorem stP_plc (M : Mv) (st : Nat → Nat) (k w : Nat) : (stP M st k w (mN M)).1 = plc M st k w := by
  rw [(stP_inv M st k w (mN M)).1, plcN_mN]
theorem stP_le {M : Mv} {st : Nat → Nat} {k w B : Nat} (h0 : st k < B) : ∀ n, (∀ i, i < n → mV M i < B) → (stP M st k w n).1 < B
  | 0, _ => h0
  | n + 1, h => by
    rw [stP_s]
    split
    · exact h n (by omega)
    · exact stP_le h0 n (fun i hi => h i (by omega))
/-- the watch since which, as the model keeps it: -1 for none -/
def snI (n : Nat) : Int32 := if n = 0 then (-1 : Int32) else nI (n - 1)
theorem snI_lt {a b : Nat} (ha : a < 2 ^ 31) (hb : b < 2 ^ 31) : nI a < snI b ↔ a + 1 < b := by
  unfold snI
  by_cases h : b = 0
  · rw [if_pos h, Int32.lt_iff_toInt_lt, nI_toInt ha, show (-1 : Int32).toInt = -1 from by decide]
    omega
  · rw [if_neg h, Int32.lt_iff_toInt_lt, nI_toInt ha, nI_toInt (by omega)]
    omega
/-! one move more behind all -/
theorem mApp_W {M : Mv} {a b c i : Nat} (h : i < mN M) : mW (mApp M a b c) i = mW M i := by
  show (if i = mN M then a else mW M i) = _
  rw [if_neg (by omega)]
theorem mApp_T {M : Mv} {a b c i : Nat} (h : i < mN M) : mT (mApp M a b c) i = mT M i := by
  show (if i = mN M then b else mT M i) = _
  rw [if_neg (by omega)]
theorem mApp_V {M : Mv} {a b c i : Nat} (h : i < mN M) : mV (mApp M a b c) i = mV M i := by
  show (if i = mN M then c else mV M i) = _
  rw [if_neg (by omega)]
theorem mApp_W1 (M : Mv) (a b c : Nat) : mW (mApp M a b c) (mN M) = a := if_pos rfl
theorem mApp_T1 (M : Mv) (a b c : Nat) : mT (mApp M a b c) (mN M) = b := if_pos rfl
theorem mApp_V1 (M : Mv) (a b c : Nat) : mV (mApp M a b c) (mN M) = c := if_pos rfl
theorem plAt_app {M : Mv} {a b c k v d : Nat} : ∀ {n : Nat}, n ≤ mN M → plAt (mApp M a b c) k v d n = plAt M k v d n
  | 0, _ => rfl
  | n + 1, h => by
    rw [plAt_s, plAt_s, mApp_W (show n < mN M by omega), mApp_T (show n < mN M by omega), mApp_V (show n < mN M by omega), plAt_app (by omega)]
theorem plAt_app1 (M : Mv) (a b c k v d : Nat) : plAt (mApp M a b c) k v d (mN (mApp M a b c)) = if b = v ∧ a = k then c else plAt M k v d (mN M) := by
  show plAt (mApp M a b c) k v d (mN M + 1) = _
  rw [plAt_s, mApp_W1, mApp_T1, mApp_V1, plAt_app (Nat.le_refl _)]
theorem nxtE_min {M : Mv} {k w i : Nat} : ∀ {n : Nat}, i < n → mW M i = k → w < mT M i → nxtE M k w n ≤ mT M i
  | n + 1, h, h1, h2 => by
    rw [nxtE_s]
    by_cases e : i = n
    · subst e
      rw [if_pos ⟨h1, h2⟩]
      exact Nat.min_le_right _ _
    · have h3 := nxtE_min (n := n) (by omega) h1 h2
      split <;> omega
theorem nxtE_at (M : Mv) (k w : Nat) : ∀ n, nxtE M k w n = 24 ∨ ∃ i, i < n ∧ mW M i = k ∧ w < mT M i ∧ mT M i = nxtE M k w n
  | 0 => Or.inl rfl
  | n + 1 => by
    rw [nxtE_s]
    have ih := nxtE_at M k w n
    by_cases h : mW M n = k ∧ w < mT M n
    · rw [if_pos h]
      by_cases h2 : mT M n ≤ nxtE M k w n
      · exact Or.inr ⟨n, by omega, h.1, h.2, by omega⟩
      · rcases ih with h3 | ⟨i, q1, q2, q3, q4⟩
        · exact Or.inl (by omega)
        · exact Or.inr ⟨i, by omega, q2, q3, by omega⟩
    · rw [if_neg h]
      rcases ih with h3 | ⟨i, q1, q2, q3, q4⟩
      · exact Or.inl h3
      · exact Or.inr ⟨i, by omega, q2, q3, q4⟩
theorem nxtE_lt {M : Mv} {k w : Nat} (hw : w < 24) (n : Nat) : w < nxtE M k w n := by
  rcases nxtE_at M k w n with h | ⟨i, _, _, h, e⟩ <;> omega
theorem plc_app {M : Mv} {st : Nat → Nat} {k w s : Nat} (hw : w < 24) (j : Nat) : ∀ v, v < 24 → plc (mApp M k w s) st j v = if j = k ∧ w ≤ v ∧ v < nxtE M k w (mN M) then s else plc M st j v
  | 0, h => by
    show plAt (mApp M k w s) j 0 (st j) (mN (mApp M k w s)) = if _ then s else plAt M j 0 (st j) (mN M)
    have hn := nxtE_lt (M := M) (k := k) hw (mN M)
    rw [plAt_app1]
    by_cases e : w = 0 ∧ k = j
    · rw [if_pos e, if_pos ⟨e.2.symm, by omega, by omega⟩]
    · rw [if_neg e, if_neg (fun h => e ⟨by omega, h.1.symm⟩)]
  | v + 1, h => by
    show plAt (mApp M k w s) j (v + 1) (plc (mApp M k w s) st j v) (mN (mApp M k w s)) = if _ then s else plAt M j (v + 1) (plc M st j v) (mN M)
    have hn := nxtE_lt (M := M) (k := k) hw (mN M)
    rw [plAt_app1, plc_app hw j v (by omega)]
    by_cases e : j = k
    · subst e
      by_cases e1 : w = v + 1
      · rw [if_pos ⟨e1, rfl⟩, if_pos ⟨rfl, by omega, by omega⟩]
      · rw [if_neg (fun h => e1 h.1)]
        by_cases e2 : w ≤ v + 1 ∧ v + 1 < nxtE M j w (mN M)
        · rw [if_pos (show j = j ∧ w ≤ v + 1 ∧ v + 1 < nxtE M j w (mN M) from ⟨rfl, e2⟩), if_pos (show j = j ∧ w ≤ v ∧ v < nxtE M j w (mN M) from ⟨rfl, by omega, by omega⟩), plAt_no]
          intro i hi h3
          have := nxtE_min (M := M) (n := mN M) hi h3.2 (w := w) (by omega)
          omega
        · rw [if_neg (show ¬ (j = j ∧ w ≤ v + 1 ∧ v + 1 < nxtE M j w (mN M)) from fun h => e2 h.2)]
          by_cases e3 : w ≤ v ∧ v < nxtE M j w (mN M)
          · rw [if_pos (show j = j ∧ w ≤ v ∧ v < nxtE M j w (mN M) from ⟨rfl, e3⟩)]
            apply plAt_any
            rcases nxtE_at M j w (mN M) with h3 | ⟨i, q1, q2, q3, q4⟩
            · omega
            · exact ⟨i, q1, by omega, q2⟩
          · rw [if_neg (show ¬ (j = j ∧ w ≤ v ∧ v < nxtE M j w (mN M)) from fun h => e3 h.2)]
    · rw [if_neg (fun h => e h.2.symm), if_neg (fun h => e h.1), if_neg (fun h => e h.1)]
/-! what light depends on -/
theorem Fa_congr {C : Co} {pl pl' : Nat → Nat → Nat} (hA : 0 < cAg C) : ∀ (n w : Nat), w < n → (∀ v, v ≤ w → ∀ j, j < cLa C → pl j v = pl' j v) → ∀ k, k < cLa C → Fa C pl w k = Fa C pl' w k
  | 0, w, h, _, _, _ => absurd h (Nat.not_lt_zero w)
  | n + 1, w, h, hp, k, hk => by
    rw [Fa_eq hA, Fa_eq hA, hp w (Nat.le_refl _) k hk]
    congr 2
    apply sumN_congr
    intro j hj
    rw [hp w (Nat.le_refl _) j hj]
    by_cases hw : w < cAg C
    · simp [Gi, hw]
    · simp only [Gi, if_neg hw]
      rw [Fa_congr hA n (w - cAg C) (by omega) (fun v hv => hp v (by omega)) j hj]
theorem Gi_congr {C : Co} {pl pl' : Nat → Nat → Nat} (hA : 0 < cAg C) {w : Nat} (hp : ∀ v, v ≤ w → ∀ j, j < cLa C → pl j v = pl' j v) {k : Nat} (hk : k < cLa C) : Gi C pl w k = Gi C pl' w k := by
  unfold Gi
  rw [Fa_congr hA _ (w - cAg C) (Nat.lt_succ_self _) (fun v hv => hp v (by omega)) k hk]
theorem Li_congr {C : Co} {pl pl' : Nat → Nat → Nat} (hA : 0 < cAg C) {w : Nat} (hp : ∀ v, v ≤ w → ∀ j, j < cLa C → pl j v = pl' j v) (s : Nat) : Li C pl s w = Li C pl' s w := by
  unfold Li
  congr 1
  apply sumN_congr
  intro j hj
  rw [hp w (Nat.le_refl _) j hj, Gi_congr hA hp hj]
/-! the model's light: a lamp may be left out; its kind is 3 here -/
/-- the kinds that its cells hold, but for the lamp that is left out -/
def kdM (D : Co) (wo : Nat) (wv : Int32) (kq : Nat → Nat) (ki : Nat → Int32) : Prop := (∀ k, k < cLa D → ki k = nI (kq k) ∧ kq k ≤ 2 ∧ (k ≠ wo → cKi D k = kq k) ∧ (k = wo → cKi D k = 3)) ∧ ∀ k, k < 4 → (nI k = wv ↔ k = wo)
/-- the sum that all lamps but one give at a spot -/
def gvN (D : Co) (pl : Nat → Nat → Nat) (s w b n : Nat) : Nat := sumN (fun j => if j ≠ b ∧ pl j w = s then Gi D pl w j else 0) n
theorem gvN_s (D : Co) (pl : Nat → Nat → Nat) (s w b n : Nat) : gvN D pl s w b (n + 1) = gvN D pl s w b n + (if n ≠ b ∧ pl n w = s then Gi D pl w n else 0) := rfl
theorem gvN_le (D : Co) (pl : Nat → Nat → Nat) (s w b n : Nat) : gvN D pl s w b n ≤ n * 99 := by
  apply sumN_le
  intro j _
  split
  · exact Gi_le D pl w j
  · exact Nat.zero_le _
theorem Gi_3 {D : Co} {pl : Nat → Nat → Nat} {w k : Nat} (h : cKi D k = 3) : Gi D pl w k = 0 := by
  unfold Gi
  split
  · rfl
  · unfold glow
    rw [if_pos (Or.inr h)]
theorem Fa_gv {D : Co} {pl : Nat → Nat → Nat} (h : 0 < cAg D) (w k : Nat) : Fa D pl w k = min 999 (day D (pl k w) w + gvN D pl (pl k w) w k (cLa D)) := Fa_eq h w k
theorem Li_gv {D : Co} {pl : Nat → Nat → Nat} {s w b : Nat} (h : cLa D ≤ b) : Li D pl s w = day D s w + gvN D pl s w b (cLa D) := by
  unfold Li gvN
  congr 1
  apply sumN_congr
  intro j hj
  simp [show j ≠ b by omega]
theorem glow_q {q f : Nat} (hq : q ≤ 2) : glow q f = min 99 (if q = 2 then 2 * (if q = 0 ∨ f = 0 then f else f + 1) else (if q = 0 ∨ f = 0 then f else f + 1)) := by
  unfold glow
  by_cases h : f = 0
  · subst h
    simp
  · simp only [h, false_or, or_false, show ¬ q = 3 by omega, if_false]
    by_cases h0 : q = 0
    · subst h0
      simp
    · simp only [h0, if_false]
      split <;> rfl
/-- tables as the model has them: 24 to a lamp -/
def tmF (D : Co) (pl : Nat → Nat → Nat) (f : Nat → Int32) (b : Nat) : Prop := ∀ w, w < b → ∀ k, k < cLa D → f (24 * k + w) = nI (Fa D pl w k)
def tmG (D : Co) (pl : Nat → Nat → Nat) (wo : Nat) (f : Nat → Int32) (b : Nat) : Prop := ∀ w, w < b → ∀ k, k < cLa D → k ≠ wo → f (24 * k + w) = nI (Gi D pl w k)
