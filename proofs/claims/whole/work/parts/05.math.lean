/-! the coast as numbers: what both sides are held against -/
/-- spots, lamps, age, sky, shade, kind, stood, cloud -/
abbrev Co : Type := Nat × Nat × Nat × (Nat → Nat) × (Nat → Nat) × (Nat → Nat) × (Nat → Nat) × (Nat → Nat)
def cSp (C : Co) : Nat := C.1
def cLa (C : Co) : Nat := C.2.1
def cAg (C : Co) : Nat := C.2.2.1
def cSk (C : Co) : Nat → Nat := C.2.2.2.1
def cSh (C : Co) : Nat → Nat := C.2.2.2.2.1
def cKi (C : Co) : Nat → Nat := C.2.2.2.2.2.1
def cSt (C : Co) : Nat → Nat := C.2.2.2.2.2.2.1
def cCl (C : Co) : Nat → Nat := C.2.2.2.2.2.2.2
/-- entries: how many, who, watch, value -/
abbrev Mv : Type := Nat × (Nat → Nat) × (Nat → Nat) × (Nat → Nat)
def mN (M : Mv) : Nat := M.1
def mW (M : Mv) : Nat → Nat := M.2.1
def mT (M : Mv) : Nat → Nat := M.2.2.1
def mV (M : Mv) : Nat → Nat := M.2.2.2
def plAt (M : Mv) (k w d : Nat) : Nat → Nat
  | 0 => d
  | n + 1 => if mT M n = w ∧ mW M n = k then mV M n else plAt M k w d n
/-- where lamp k stands in a watch -/
def plc (M : Mv) (st : Nat → Nat) (k : Nat) : Nat → Nat
  | 0 => plAt M k 0 (st k) (mN M)
  | w + 1 => plAt M k (w + 1) (plc M st k w) (mN M)
def day (C : Co) (s w : Nat) : Nat := cSk C (w % 6) - cSh C s - cCl C (w / 6)
def glow (kind f : Nat) : Nat := if f = 0 ∨ kind = 3 then 0 else if kind = 0 then min 99 f else if kind = 2 then min 99 (2 * (f + 1)) else min 99 (f + 1)
def sumN (f : Nat → Nat) : Nat → Nat
  | 0 => 0
  | n + 1 => sumN f n + f n
def fal (C : Co) (pl : Nat → Nat → Nat) : Nat → Nat → Nat → Nat
  | 0, _, _ => 0
  | f + 1, w, k => min 999 (day C (pl k w) w + sumN (fun j => if j ≠ k ∧ pl j w = pl k w then (if w < cAg C then 0 else glow (cKi C j) (fal C pl f (w - cAg C) j)) else 0) (cLa C))
def Fa (C : Co) (pl : Nat → Nat → Nat) (w k : Nat) : Nat := fal C pl (w + 1) w k
def Gi (C : Co) (pl : Nat → Nat → Nat) (w k : Nat) : Nat := if w < cAg C then 0 else glow (cKi C k) (Fa C pl (w - cAg C) k)
def Li (C : Co) (pl : Nat → Nat → Nat) (s w : Nat) : Nat := day C s w + sumN (fun j => if pl j w = s then Gi C pl w j else 0) (cLa C)
theorem sumN_congr {f g : Nat → Nat} : ∀ {n : Nat}, (∀ j, j < n → f j = g j) → sumN f n = sumN g n
  | 0, _ => rfl
  | n + 1, h => by
    show sumN f n + f n = sumN g n + g n
    rw [sumN_congr (fun j hj => h j (by omega)), h n (by omega)]
theorem sumN_le {f : Nat → Nat} {B : Nat} : ∀ {n : Nat}, (∀ j, j < n → f j ≤ B) → sumN f n ≤ n * B
  | 0, _ => Nat.zero_le _
  | n + 1, h => by
    have h1 := sumN_le (f := f) (B := B) (n := n) (fun j hj => h j (by omega))
    have h2 := h n (by omega)
    show sumN f n + f n ≤ _
    rw [Nat.succ_mul]
    omega
theorem sumN_but {f : Nat → Nat} {p : Nat → Prop} [DecidablePred p] {k : Nat} (hp : p k) : ∀ {n : Nat}, sumN (fun j => if p j then f j else 0) n = sumN (fun j => if j ≠ k ∧ p j then f j else 0) n + (if k < n then f k else 0)
  | 0 => by simp [sumN]
  | n + 1 => by
    show sumN _ n + _ = sumN _ n + _ + _
    rw [sumN_but hp (n := n)]
    by_cases h : n = k
    · subst h
      simp [hp]
    · by_cases h2 : k < n
      · simp [h, h2, show k < n + 1 by omega]
        omega
      · simp [h, h2, show ¬ k < n + 1 by omega]
theorem glow_le (kind f : Nat) : glow kind f ≤ 99 := by
  unfold glow
  split
  · omega
  · split
    · omega
    · split <;> omega
theorem fal_fuel {C : Co} {pl : Nat → Nat → Nat} (h : 0 < cAg C) : ∀ (f g w k : Nat), w < f → w < g → fal C pl f w k = fal C pl g w k
  | 0, _, _, _, h1, _ => by omega
  | _, 0, _, _, _, h2 => by omega
  | f + 1, g + 1, w, k, h1, h2 => by
    unfold fal
    congr 2
    apply sumN_congr
    intro j _
    by_cases hw : w < cAg C
    · simp [hw]
    · rw [fal_fuel h f g (w - cAg C) j (by omega) (by omega)]
theorem Fa_eq {C : Co} {pl : Nat → Nat → Nat} (h : 0 < cAg C) (w k : Nat) : Fa C pl w k = min 999 (day C (pl k w) w + sumN (fun j => if j ≠ k ∧ pl j w = pl k w then Gi C pl w j else 0) (cLa C)) := by
  show fal C pl (w + 1) w k = _
  unfold fal
  congr 2
  apply sumN_congr
  intro j _
  by_cases hw : w < cAg C
  · simp [Gi, hw]
  · simp only [Gi, if_neg hw, Fa]
    rw [fal_fuel h w (w - cAg C + 1) (w - cAg C) j (by omega) (by omega)]
theorem Gi_le (C : Co) (pl : Nat → Nat → Nat) (w k : Nat) : Gi C pl w k ≤ 99 := by
  unfold Gi
  split
  · omega
  · exact glow_le _ _
theorem Fa_le {C : Co} {pl : Nat → Nat → Nat} (h : 0 < cAg C) (w k : Nat) : Fa C pl w k ≤ 999 := by
  rw [Fa_eq h]
  exact Nat.min_le_left _ _
def okC (C : Co) : Prop := cSp C ≤ 4 ∧ cLa C ≤ 4 ∧ 0 < cAg C ∧ cAg C ≤ 12 ∧ (∀ w, w < 6 → cSk C w ≤ 9) ∧ (∀ k, k < cLa C → cKi C k ≤ 3 ∧ cSt C k < cSp C) ∧ (∀ s, s < cSp C → cSh C s ≤ 9) ∧ ∀ d, d < 4 → cCl C d ≤ 9
def okM (C : Co) (M : Mv) : Prop := mN M ≤ 8 ∧ ∀ i, i < mN M → mW M i < cLa C ∧ mT M i < 24 ∧ mV M i < cSp C
theorem day_le {C : Co} (h : okC C) (s w : Nat) : day C s w ≤ 9 := by
  have := h.2.2.2.2.1 (w % 6) (Nat.mod_lt _ (by decide))
  unfold day
  omega
/-- the sum of light at a spot by the first n lamps -/
def Ls (C : Co) (pl : Nat → Nat → Nat) (s w n : Nat) : Nat := day C s w + sumN (fun j => if pl j w = s then Gi C pl w j else 0) n
theorem Ls_le {C : Co} (h : okC C) (pl : Nat → Nat → Nat) (s w : Nat) {n : Nat} (hn : n ≤ 4) : Ls C pl s w n ≤ 405 := by
  have h1 := day_le h s w
  have h2 := sumN_le (f := fun j => if pl j w = s then Gi C pl w j else 0) (B := 99) (n := n) (fun j _ => by
    show (if pl j w = s then Gi C pl w j else 0) ≤ 99
    split
    · exact Gi_le C pl w j
    · omega)
  unfold Ls
  omega
theorem Li_Ls (C : Co) (pl : Nat → Nat → Nat) (s w : Nat) : Li C pl s w = Ls C pl s w (cLa C) := rfl
theorem Li_le {C : Co} (h : okC C) (pl : Nat → Nat → Nat) (s w : Nat) : Li C pl s w ≤ 405 := Ls_le h pl s w h.2.1
theorem Fa_Li {C : Co} {pl : Nat → Nat → Nat} (h : 0 < cAg C) (w k : Nat) (hk : k < cLa C) : Gi C pl w k ≤ Li C pl (pl k w) w ∧ Fa C pl w k = min 999 (Li C pl (pl k w) w - Gi C pl w k) := by
  have e : Li C pl (pl k w) w = day C (pl k w) w + sumN (fun j => if j ≠ k ∧ pl j w = pl k w then Gi C pl w j else 0) (cLa C) + Gi C pl w k := by
    unfold Li
    rw [sumN_but (k := k) (p := fun j => pl j w = pl k w) rfl, if_pos hk]
    omega
  refine ⟨by omega, ?_⟩
  rw [Fa_eq h, e]
  congr 1
  omega
theorem plAt_lt {C : Co} {M : Mv} (hM : okM C M) {k w d : Nat} (hd : d < cSp C) : ∀ n, n ≤ mN M → plAt M k w d n < cSp C
  | 0, _ => hd
  | n + 1, h => by
    unfold plAt
    split
    · exact (hM.2 n (by omega)).2.2
    · exact plAt_lt hM hd n (by omega)
theorem plc_lt {C : Co} {M : Mv} (hC : okC C) (hM : okM C M) {k : Nat} (hk : k < cLa C) : ∀ w, plc M (cSt C) k w < cSp C
  | 0 => plAt_lt hM (hC.2.2.2.2.2.1 k hk).2 _ (Nat.le_refl _)
  | w + 1 => plAt_lt hM (plc_lt hC hM hk w) _ (Nat.le_refl _)
/-- the rows of cells that hold the coast, and entries -/
def repC (C : Co) (sk sh ki st cl : Nat → Int32) : Prop := (∀ w, w < 6 → sk w = nI (cSk C w)) ∧ (∀ s, s < cSp C → sh s = nI (cSh C s)) ∧ (∀ k, k < cLa C → ki k = nI (cKi C k)) ∧ (∀ k, k < cLa C → st k = nI (cSt C k)) ∧ ∀ d, d < 4 → cl d = nI (cCl C d)
def repM (M : Mv) (wf tf vf : Nat → Int32) : Prop := ∀ i, i < mN M → wf i = nI (mW M i) ∧ tf i = nI (mT M i) ∧ vf i = nI (mV M i)
theorem kk_day : ∀ a, a < 10 → ∀ b, b < 10 → ∀ c, c < 10 → (if nI 0 < nI a - nI b - nI c then nI a - nI b - nI c else nI 0) = nI (a - b - c) := by decide +kernel
theorem kk_day2 : ∀ a, a < 10 → ∀ b, b < 10 → ∀ c, c < 10 → (nI a - nI b - nI c < 0 → a - b - c = 0) ∧ (¬ nI a - nI b - nI c < 0 → nI a - nI b - nI c = nI (a - b - c)) := by decide +kernel
/-- tables of watches: rows of four -/
def tP (C : Co) (pl : Nat → Nat → Nat) (f : Nat → Int32) (a b : Nat) : Prop := ∀ w, a ≤ w → w < b → ∀ k, k < cLa C → f (w * 4 + k) = nI (pl k w)
def tG (C : Co) (pl : Nat → Nat → Nat) (f : Nat → Int32) (a b : Nat) : Prop := ∀ w, a ≤ w → w < b → ∀ k, k < cLa C → f (w * 4 + k) = nI (Gi C pl w k)
def tF (C : Co) (pl : Nat → Nat → Nat) (f : Nat → Int32) (a b : Nat) : Prop := ∀ w, a ≤ w → w < b → ∀ k, k < cLa C → f (w * 4 + k) = nI (Fa C pl w k)
def tD (C : Co) (f : Nat → Int32) (a b : Nat) : Prop := ∀ w, a ≤ w → w < b → ∀ s, s < cSp C → f (w * 4 + s) = nI (day C s w)
def tL (C : Co) (pl : Nat → Nat → Nat) (f : Nat → Int32) (a b : Nat) : Prop := ∀ w, a ≤ w → w < b → ∀ s, s < cSp C → f (w * 4 + s) = nI (Li C pl s w)
/-- cells below a place are as they were -/
def kpt (f g : Nat → Int32) (n : Nat) : Prop := ∀ i, i < n → g i = f i
theorem kpt_rf (f : Nat → Int32) (n : Nat) : kpt f f n := fun _ _ => rfl
theorem kpt_up {f g : Nat → Int32} {n i : Nat} {x : Int32} (h : kpt f g n) (hi : n ≤ i) : kpt f (upd g i x) n := fun j hj => by rw [up_ne g x (by omega)]; exact h j hj
theorem kpt_le {f g : Nat → Int32} {n m : Nat} (h : kpt f g n) (hm : m ≤ n) : kpt f g m := fun j hj => h j (by omega)
theorem kpt_tr {f g h : Nat → Int32} {n : Nat} (h1 : kpt f g n) (h2 : kpt g h n) : kpt f h n := fun j hj => (h2 j hj).trans (h1 j hj)
theorem tF_kpt {C : Co} {pl : Nat → Nat → Nat} {f g : Nat → Int32} {a b n : Nat} (hC : cLa C ≤ 4) (h : tF C pl f a b) (hk : kpt f g n) (hn : b * 4 ≤ n) : tF C pl g a b := fun w h1 h2 k h3 => (hk _ (by omega)).trans (h w h1 h2 k h3)
theorem tG_kpt {C : Co} {pl : Nat → Nat → Nat} {f g : Nat → Int32} {a b n : Nat} (hC : cLa C ≤ 4) (h : tG C pl f a b) (hk : kpt f g n) (hn : b * 4 ≤ n) : tG C pl g a b := fun w h1 h2 k h3 => (hk _ (by omega)).trans (h w h1 h2 k h3)
theorem tL_kpt {C : Co} {pl : Nat → Nat → Nat} {f g : Nat → Int32} {a b n : Nat} (hC : cSp C ≤ 4) (h : tL C pl f a b) (hk : kpt f g n) (hn : b * 4 ≤ n) : tL C pl g a b := fun w h1 h2 k h3 => (hk _ (by omega)).trans (h w h1 h2 k h3)
/-- a row while it is written: the first n lamps -/
def rG (C : Co) (pl : Nat → Nat → Nat) (f : Nat → Int32) (w n : Nat) : Prop := ∀ k, k < n → f (w * 4 + k) = nI (Gi C pl w k)
def rF (C : Co) (pl : Nat → Nat → Nat) (f : Nat → Int32) (w n : Nat) : Prop := ∀ k, k < n → f (w * 4 + k) = nI (Fa C pl w k)
def rL (C : Co) (pl : Nat → Nat → Nat) (f : Nat → Int32) (w n : Nat) : Prop := ∀ s, s < cSp C → f (w * 4 + s) = nI (Ls C pl s w n)
theorem rG_up {C : Co} {pl : Nat → Nat → Nat} {f : Nat → Int32} {w n : Nat} {x : Int32} (h : rG C pl f w n) (hx : x = nI (Gi C pl w n)) : rG C pl (upd f (w * 4 + n) x) w (n + 1) := fun k hk => by
  by_cases e : k = n
  · subst e
    rw [up_at, hx]
  · rw [up_ne f x (by omega)]
    exact h k (by omega)
theorem rF_up {C : Co} {pl : Nat → Nat → Nat} {f : Nat → Int32} {w n : Nat} {x : Int32} (h : rF C pl f w n) (hx : x = nI (Fa C pl w n)) : rF C pl (upd f (w * 4 + n) x) w (n + 1) := fun k hk => by
  by_cases e : k = n
  · subst e
    rw [up_at, hx]
  · rw [up_ne f x (by omega)]
    exact h k (by omega)
theorem rL_up {C : Co} {pl : Nat → Nat → Nat} {f : Nat → Int32} {w n : Nat} {x : Int32} (h : rL C pl f w n) (hx : x = nI (Ls C pl (pl n w) w n + Gi C pl w n)) : rL C pl (upd f (w * 4 + pl n w) x) w (n + 1) := fun s hs => by
  have e2 : Ls C pl s w (n + 1) = Ls C pl s w n + (if pl n w = s then Gi C pl w n else 0) := by
    unfold Ls
    exact (Nat.add_assoc _ _ _).symm
  rw [e2]
  by_cases e : s = pl n w
  · subst e
    rw [up_at, hx, if_pos rfl]
  · rw [up_ne f x (by omega), if_neg (fun z => e z.symm)]
    exact h s hs
theorem tG_row {C : Co} {pl : Nat → Nat → Nat} {f : Nat → Int32} {a w : Nat} (h : tG C pl f a w) (hr : rG C pl f w (cLa C)) : tG C pl f a (w + 1) := fun v h1 h2 k hk => by
  by_cases e : v = w
  · subst e; exact hr k hk
  · exact h v h1 (by omega) k hk
theorem tF_row {C : Co} {pl : Nat → Nat → Nat} {f : Nat → Int32} {a w : Nat} (h : tF C pl f a w) (hr : rF C pl f w (cLa C)) : tF C pl f a (w + 1) := fun v h1 h2 k hk => by
  by_cases e : v = w
  · subst e; exact hr k hk
  · exact h v h1 (by omega) k hk
theorem tL_row {C : Co} {pl : Nat → Nat → Nat} {f : Nat → Int32} {a w : Nat} (h : tL C pl f a w) (hr : rL C pl f w (cLa C)) : tL C pl f a (w + 1) := fun v h1 h2 s hs => by
  by_cases e : v = w
  · subst e; exact hr s hs
  · exact h v h1 (by omega) s hs
theorem rL_0 {C : Co} {pl : Nat → Nat → Nat} {d l : Nat → Int32} {a b w : Nat} (hC : cSp C ≤ 4) (h : tD C d a b) (h1 : a ≤ w) (h2 : w < b) : rL C pl (va_cpy d l (w * 4) (w * 4) 4) w 0 := fun s hs => by
  rw [pk_cpy_in (by omega) (by omega), show w * 4 + (w * 4 + s - w * 4) = w * 4 + s by omega, h w h1 h2 s hs]
  rfl
theorem kpt_cpy (d l : Nat → Int32) (n m : Nat) : kpt l (va_cpy d l n n m) n := fun i hi => pk_cpy_out (Or.inl hi)
theorem kk_sub_ge {a b : Nat} (ha : a < 2 ^ 30) (hb : b < 2 ^ 30) (h : 0 ≤ nI a - nI b) : b ≤ a := by
  rw [kk_0le, pk_sub_toInt ha hb] at h
  omega
theorem kk_sub_lt {a b : Nat} (ha : a < 2 ^ 30) (hb : b < 2 ^ 30) (h : ¬ 0 ≤ nI a - nI b) : a < b := by
  rw [kk_0le, pk_sub_toInt ha hb] at h
  omega
def allL (C : Co) (pl : Nat → Nat → Nat) : Nat := sumN (fun w => sumN (fun s => Li C pl s w) (cSp C)) 24
def cntB (C : Co) (pl : Nat → Nat → Nat) (s v : Nat) : Nat := sumN (fun w => if Li C pl s w < v then 1 else 0) 24
/-- the first watch behind one that has an entry of k -/
def nxtE (M : Mv) (k w : Nat) : Nat → Nat
  | 0 => 24
  | n + 1 => if mW M n = k ∧ w < mT M n then min (nxtE M k w n) (mT M n) else nxtE M k w n
theorem nxtE_le (M : Mv) (k w : Nat) : ∀ n, nxtE M k w n ≤ 24
  | 0 => Nat.le_refl _
  | n + 1 => by
    have h := nxtE_le M k w n
    unfold nxtE
    split <;> omega
/-- where lamp k stood ahead of a watch -/
def plP (M : Mv) (st : Nat → Nat) (k : Nat) : Nat → Nat
  | 0 => st k
  | w + 1 => plc M st k w
theorem plc_P (M : Mv) (st : Nat → Nat) (k w : Nat) : plc M st k w = plAt M k w (plP M st k w) (mN M) := by cases w <;> rfl
theorem plP_0 (M : Mv) (st : Nat → Nat) (k : Nat) {w : Nat} (h : w = 0) : plP M st k w = st k := by subst h; rfl
theorem plP_s (M : Mv) (st : Nat → Nat) (k : Nat) {w : Nat} (h : ¬ w = 0) : plP M st k w = plc M st k (w - 1) := by
  cases w with
  | zero => exact absurd rfl h
  | succ w => rfl
theorem nxtE_s (M : Mv) (k w n : Nat) : nxtE M k w (n + 1) = if mW M n = k ∧ w < mT M n then min (nxtE M k w n) (mT M n) else nxtE M k w n := rfl
theorem plAt_s (M : Mv) (k w d n : Nat) : plAt M k w d (n + 1) = if mT M n = w ∧ mW M n = k then mV M n else plAt M k w d n := rfl
theorem sumN_s (f : Nat → Nat) (n : Nat) : sumN f (n + 1) = sumN f n + f n := rfl
