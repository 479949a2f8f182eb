theorem kk_rng {x : Int32} {n : Nat} (h1 : 0 ≤ x) (h2 : x ≤ nI n) (hn : n < 2 ^ 31) : ∃ k, k ≤ n ∧ x = nI k := by
  rw [kk_0le] at h1
  rw [kk_le hn] at h2
  obtain ⟨h3, h4⟩ := kk_ofInt h1
  exact ⟨x.toInt.toNat, by omega, h4⟩
theorem hasC_n {len n : Nat} {x : Int32} (hn : n < 2 ^ 31) (hl : len < 2 ^ 31) (h : hasC len x (nI n) = true) : ∃ k, k + n ≤ len ∧ x = nI k := by
  have h1 := of_decide_eq_true h
  rw [nI_toInt hn] at h1
  obtain ⟨h3, h4⟩ := kk_ofInt h1.1
  exact ⟨x.toInt.toNat, by omega, h4⟩
theorem hasC_2 {len : Nat} {x y : Int32} (hl : len < 2 ^ 31) (h : hasC len x y = true) : ∃ k n, k + n ≤ len ∧ x = nI k ∧ y = nI n := by
  have h1 := of_decide_eq_true h
  obtain ⟨h3, h4⟩ := kk_ofInt h1.1
  obtain ⟨h5, h6⟩ := kk_ofInt h1.2.2.1
  exact ⟨x.toInt.toNat, y.toInt.toNat, by omega, h4, h6⟩
def sp_many (C : Co) (T E : Mv) (x : Int32) : Int32 := if x = nI 0 then nI (cLa C) else if x = nI 1 then nI (cSp C) else if x = nI 2 then nI (mN T) else if x = nI 3 then nI (mN E) else if x = nI 4 then nI (cAg C) else (-2)
theorem odds_end : ∀ m, m < 17 → ∀ h, h < 5 → (∀ j, j < h → ¬ m % (16 / 2 ^ j) = 0) → (h = 4 ∨ m % (16 / 2 ^ h) = 0) → m / (16 / 2 ^ h) = m / Nat.gcd m 16 ∧ 16 / (16 / 2 ^ h) = 16 / Nat.gcd m 16 := by decide +kernel
theorem odds_pos : ∀ h, h < 5 → 0 < 16 / 2 ^ h ∧ 16 / 2 ^ h ≤ 16 := by decide +kernel
theorem odds_half : ∀ h, h < 4 → 16 / 2 ^ h / 2 = 16 / 2 ^ (h + 1) := by decide +kernel
def sp_sheet (x y z : Int32) : Int32 := bif inB x 4 then (bif inB y 3 then (if z ≤ nI 60 then (if 0 ≤ z then nI 1 else (-10 : Int32) - nI 4) else (-2)) else (-2)) else (-1)
def nf_sheet (x y z : Int32) : Int32 := bif inB x 4 then (bif inB y 3 then (if z ≤ nI 60 then (if 0 ≤ z then nI 0 else nI 4) else nI 0) else nI 0) else nI 0
def ok_sheet (x y z : Int32) : Bool := bif inB x 4 then (bif inB y 3 then (if z ≤ nI 60 then (if 0 ≤ z then true else false) else false) else false) else false
def sp_lose (rl x : Int32) : Int32 := bif inB x 4 then (bif decide (rl = (-1 : Int32)) then nI 0 else nI 1) else (-1)
def ok_lose (rl x : Int32) : Bool := bif inB x 4 then (bif decide (rl = (-1 : Int32)) then false else true) else false
def sp_put (rl : Int32) (len : Nat) (x y : Int32) : Int32 := bif inB x 4 then (bif decide (rl = (-1 : Int32)) then (-10 : Int32) - nI 1 else (bif hasC len y (nI 1) then nI 1 else (-10 : Int32) - nI 3)) else (-1)
def nf_put (rl : Int32) (len : Nat) (x y : Int32) : Int32 := bif inB x 4 then (bif decide (rl = (-1 : Int32)) then nI 1 else (bif hasC len y (nI 1) then nI 0 else nI 3)) else nI 0
def ok_put (rl : Int32) (len : Nat) (x y : Int32) : Bool := bif inB x 4 then (bif decide (rl = (-1 : Int32)) then false else (bif hasC len y (nI 1) then true else false)) else false
def sp_cell (rl : Int32) (len : Nat) (cf : Nat → Int32) (x y z : Int32) : Int64 := bif inB x 4 then (bif inB z 3 then (bif decide (rl ≠ (-1 : Int32) ∧ rl ≠ z) then lostC else (bif decide (rl = (-1 : Int32)) then lostC else (bif hasC len y (nI 1) then (cf (tn y)).toInt64 else lostC))) else lostC) else lostC
def nf_cell (rl : Int32) (len : Nat) (x y z : Int32) : Int32 := bif inB x 4 then (bif inB z 3 then (bif decide (rl ≠ (-1 : Int32) ∧ rl ≠ z) then nI 2 else (bif decide (rl = (-1 : Int32)) then nI 1 else (bif hasC len y (nI 1) then nI 0 else nI 3))) else nI 0) else nI 0
