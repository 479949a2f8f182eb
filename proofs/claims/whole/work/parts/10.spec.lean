/-! what each call answers, and what the coast is behind it -/
abbrev tn (x : Int32) : Nat := x.toNatClampNeg
def mApp (M : Mv) (a b c : Nat) : Mv := (mN M + 1, (fun j => if j = mN M then a else mW M j), (fun j => if j = mN M then b else mT M j), (fun j => if j = mN M then c else mV M j))
def mCut (M : Mv) (k : Nat) : Mv := (mN M - k, mW M, mT M, mV M)
def cCld (C : Co) (d v : Nat) : Co := (cSp C, cLa C, cAg C, cSk C, cSh C, cKi C, cSt C, fun j => if j = d then v else cCl C j)
def cAge (C : Co) (v : Nat) : Co := (cSp C, cLa C, v, cSk C, cSh C, cKi C, cSt C, cCl C)
def cKnd (C : Co) (k v : Nat) : Co := (cSp C, cLa C, cAg C, cSk C, cSh C, (fun j => if j = k then v else cKi C j), cSt C, cCl C)
def cStd (C : Co) (k v : Nat) : Co := (cSp C, cLa C, cAg C, cSk C, cSh C, cKi C, (fun j => if j = k then v else cSt C j), cCl C)
def cAll (C : Co) (f : Nat → Nat) : Co := (cSp C, cLa C, cAg C, cSk C, cSh C, cKi C, cSt C, f)
def okE (C : Co) (M : Mv) : Prop := mN M ≤ 8 ∧ ∀ i, i < mN M → mW M i < cSp C ∧ mT M i < 24 ∧ mV M i < 1000
/-- there is a coast, or there is none -/
def okX (C : Co) (T E : Mv) : Prop := (cLa C = 0 ∧ cSp C = 0 ∧ cAg C = 0 ∧ mN T = 0 ∧ mN E = 0) ∨ (okC C ∧ 0 < cLa C ∧ 0 < cSp C ∧ (∀ k, k < cLa C → cKi C k ≤ 2) ∧ okM C T ∧ okE C E)
theorem okX_le {C : Co} {T E : Mv} (h : okX C T E) : cSp C ≤ 4 ∧ cLa C ≤ 4 ∧ mN T ≤ 8 ∧ mN E ≤ 8 := by
  rcases h with h | ⟨h, -, -, -, h4, h5⟩
  · omega
  · exact ⟨h.1, h.2.1, h4.1, h5.1⟩
theorem okX_sp {C : Co} {T E : Mv} (h : okX C T E) {s : Nat} (hs : s < cSp C) : okC C ∧ okM C T ∧ okE C E := by
  rcases h with h | ⟨h, -, -, -, h4, h5⟩
  · omega
  · exact ⟨h, h4, h5⟩
theorem okX_la {C : Co} {T E : Mv} (h : okX C T E) {s : Nat} (hs : s < cLa C) : okC C ∧ okM C T ∧ okE C E := by
  rcases h with h | ⟨h, -, -, -, h4, h5⟩
  · omega
  · exact ⟨h, h4, h5⟩
def isC (C : Co) : Bool := decide (0 < cLa C)
def sp_sky (C : Co) (x : Int32) : Int32 := bif wB x 0 5 then (bif isC C then nI (cSk C (tn x)) else (-3)) else (-2)
def sp_shade (C : Co) (x : Int32) : Int32 := bif inB x (cSp C) then nI (cSh C (tn x)) else (-1)
def sp_ofLamp (C : Co) (x y : Int32) : Int32 := bif inB x (cLa C) then (bif wB y 0 1 then nI (if tn y = 0 then cKi C (tn x) else cSt C (tn x)) else (-2)) else (-1)
def sp_cloud (C : Co) (x y : Int32) : Int32 := bif isC C then (bif inB x 4 then (bif wB y 0 9 then nI (cCl C (tn x)) else (-2)) else (-2)) else (-3)
def nx_cloud (C : Co) (x y : Int32) : Co := bif isC C then (bif inB x 4 then (bif wB y 0 9 then cCld C (tn x) (tn y) else C) else C) else C
def sp_age (C : Co) (x : Int32) : Int32 := bif wB x 1 12 then (bif isC C then nI (cAg C) else (-3)) else (-2)
def nx_age (C : Co) (x : Int32) : Co := bif wB x 1 12 then (bif isC C then cAge C (tn x) else C) else C
def sp_move (C : Co) (T : Mv) (x y z : Int32) : Int32 := bif inB x (cLa C) then (bif inB z (cSp C) then (bif inB y 24 then (if mN T = 8 then (-4) else nI (mN T)) else (-2)) else (-1)) else (-1)
def nx_move (C : Co) (T : Mv) (x y z : Int32) : Mv := bif inB x (cLa C) then (bif inB z (cSp C) then (bif inB y 24 then (if mN T = 8 then T else mApp T (tn x) (tn y) (tn z)) else T) else T) else T
def sp_undo (T : Mv) (x : Int32) : Int32 := bif inB x (mN T + 1) then nI (mN T - tn x) else (-2)
def nx_undo (T : Mv) (x : Int32) : Mv := bif inB x (mN T + 1) then mCut T (tn x) else T
def sp_reading (C : Co) (E : Mv) (x y z : Int32) : Int32 := bif inB x (cSp C) then (bif inB y 24 then (bif wB z 0 999 then (if mN E = 8 then (-4) else nI (mN E)) else (-2)) else (-2)) else (-1)
def nx_reading (C : Co) (E : Mv) (x y z : Int32) : Mv := bif inB x (cSp C) then (bif inB y 24 then (bif wB z 0 999 then (if mN E = 8 then E else mApp E (tn x) (tn y) (tn z)) else E) else E) else E
/-- the table of places that the told moves make -/
abbrev plT (C : Co) (T : Mv) : Nat → Nat → Nat := plc T (cSt C)
def sp_where (C : Co) (T : Mv) (x y : Int32) : Int32 := bif inB x (cLa C) then (bif inB y 24 then nI (plT C T (tn x) (tn y)) else (-2)) else (-1)
def sp_gives (C : Co) (T : Mv) (x y : Int32) : Int32 := bif inB x (cLa C) then (bif inB y 24 then nI (Gi C (plT C T) (tn y) (tn x)) else (-2)) else (-1)
def sp_falls (C : Co) (T : Mv) (x y : Int32) : Int32 := bif inB x (cLa C) then (bif inB y 24 then nI (Fa C (plT C T) (tn y) (tn x)) else (-2)) else (-1)
def sp_light (C : Co) (T : Mv) (x y : Int32) : Int32 := bif inB x (cSp C) then (bif inB y 24 then nI (Li C (plT C T) (tn x) (tn y)) else (-2)) else (-1)
/-- the first watch from w on in which it is below v -/
def dk (C : Co) (pl : Nat → Nat → Nat) (s v : Nat) : Nat → Nat → Int32
  | 0, _ => (-9)
  | f + 1, w => if Li C pl s w < v then nI w else dk C pl s v f (w + 1)
theorem dk_s (C : Co) (pl : Nat → Nat → Nat) (s v f w : Nat) : dk C pl s v (f + 1) w = if Li C pl s w < v then nI w else dk C pl s v f (w + 1) := rfl
def sp_dark (C : Co) (T : Mv) (x y z : Int32) : Int32 := bif inB x (cSp C) then (bif inB y 24 then (bif wB z 0 999 then dk C (plT C T) (tn x) (tn z) (24 - tn y) (tn y) else (-2)) else (-2)) else (-1)
def sp_worth (C : Co) (T : Mv) (x : Int32) : Int32 := bif inB x (cLa C) then nI (allL C (plT C T)) - nI (allL (cKnd C (tn x) 3) (plT C T)) else (-1)
/-- all readings are so -/
def soN (C : Co) (T E : Mv) : Nat → Bool
  | 0 => true
  | n + 1 => soN C T E n && decide (Li C (plT C T) (mW E n) (mT E n) = mV E n)
theorem soN_s (C : Co) (T E : Mv) (n : Nat) : soN C T E (n + 1) = (soN C T E n && decide (Li C (plT C T) (mW E n) (mT E n) = mV E n)) := rfl
theorem soN_f {C : Co} {T E : Mv} {i : Nat} (h : ¬ Li C (plT C T) (mW E i) (mT E i) = mV E i) : ∀ {n : Nat}, i < n → soN C T E n = false
  | n + 1, hi => by
    rw [soN_s]
    by_cases e : i = n
    · subst e
      rw [decide_eq_false h, Bool.and_false]
    · rw [soN_f h (show i < n by omega), Bool.false_and]
def bit (b : Bool) (n : Nat) : Int32 := bif b then nI 1 <<< (nI n &&& 31) else nI 0
/-- the bits o .. o + n - 1, of what holds -/
def bts (p : Nat → Bool) (o : Nat) : Nat → Int32
  | 0 => nI 0
  | n + 1 => bts p o n ||| bit (p (o + n)) (o + n)
theorem bts_s (p : Nat → Bool) (o n : Nat) : bts p o (n + 1) = bts p o n ||| bit (p (o + n)) (o + n) := rfl
def sp_stood (C : Co) (T E : Mv) (x : Int32) : Int32 := bif inB x (cLa C) then bts (fun v => soN (cStd C (tn x) v) T E (mN E)) 0 (cSp C) else (-1)
def sp_kinds (C : Co) (T E : Mv) (x : Int32) : Int32 := bif inB x (cLa C) then bts (fun v => soN (cKnd C (tn x) v) T E (mN E)) 0 3 else (-1)
def sp_ages (C : Co) (T E : Mv) : Int32 := bif isC C then bts (fun v => soN (cAge C v) T E (mN E)) 1 12 else (-3)
def sp_clouds (C : Co) (T E : Mv) (x : Int32) : Int32 := bif inB x 4 then (bif isC C then bts (fun v => soN (cCld C (tn x) v) T E (mN E)) 0 10 else (-3)) else (-2)
/-- the clouds of a case: bit d says that day d is overcast -/
def cas (n d : Nat) : Nat := if n / 2 ^ d % 2 = 1 then 9 else 0
def cnt (C : Co) (T : Mv) (s w v : Nat) : Nat → Nat
  | 0 => 0
  | n + 1 => cnt C T s w v n + (if v ≤ Li (cAll C (cas n)) (plT C T) s w then 1 else 0)
theorem cnt_s (C : Co) (T : Mv) (s w v n : Nat) : cnt C T s w v (n + 1) = cnt C T s w v n + (if v ≤ Li (cAll C (cas n)) (plT C T) s w then 1 else 0) := rfl
theorem cnt_le (C : Co) (T : Mv) (s w v : Nat) : ∀ n, cnt C T s w v n ≤ n
  | 0 => Nat.le_refl _
  | n + 1 => by
    have h := cnt_le C T s w v n
    rw [cnt_s]
    split <;> omega
def sp_odds (C : Co) (T : Mv) (x y z q : Int32) : Int64 := bif inB x (cSp C) then (bif inB y 24 then (bif wB z 0 999 then (bif wB q 0 1 then lN ((if tn q = 0 then cnt C T (tn x) (tn y) (tn z) 16 else 16) / Nat.gcd (cnt C T (tn x) (tn y) (tn z) 16) 16) else lostC) else lostC) else lostC) else lostC
def sp_tell (C : Co) (x : Int32) : Int32 := bif inB x (cLa C) then (if cKi C (tn x) = 2 then nI (cSt C (tn x) + 100 + cSt C (tn x)) else if cKi C (tn x) = 1 then nI (cSt C (tn x) + 100) else nI (cSt C (tn x))) else (-1)
def nx_tell (C : Co) (x tr : Int32) : Int32 := bif inB x (cLa C) then (if cKi C (tn x) = 2 then trc (trc (trc (trc tr 3) 2) 1) 1 else if cKi C (tn x) = 1 then trc (trc tr 2) 1 else trc tr 1) else tr
def sp_see (C : Co) (x : Int32) : Int32 := bif inB x (cLa C) then (if cKi C (tn x) = 2 then nI 60 else nI (tn x)) else (-1)
def nx_see (C : Co) (x tr : Int32) : Int32 := bif inB x (cLa C) then (if cKi C (tn x) = 2 then trc tr 5 else trc tr 4) else tr
def sp_as (C : Co) (x y : Int32) : Int32 := bif inB x (cLa C) then (bif wB y 0 2 then (if tn y ≤ cKi C (tn x) then nI 1 else (-10 : Int32) - nI 2) else (-2)) else (-1)
def nx_as (C : Co) (x y : Int32) : Int32 := bif inB x (cLa C) then (bif wB y 0 2 then (if tn y ≤ cKi C (tn x) then nI 0 else nI 2) else nI 0) else nI 0
theorem repC_cld {C : Co} {sk sh ki st cl : Nat → Int32} {d v : Nat} (h : repC C sk sh ki st cl) : repC (cCld C d v) sk sh ki st (upd cl d (nI v)) := ⟨h.1, h.2.1, h.2.2.1, h.2.2.2.1, fun j hj => by
  show _ = nI (if j = d then v else cCl C j)
  by_cases e : j = d
  · subst e; rw [up_at, if_pos rfl]
  · rw [up_ne _ _ e, if_neg e]; exact h.2.2.2.2 j hj⟩
theorem repC_age {C : Co} {sk sh ki st cl : Nat → Int32} {v : Nat} (h : repC C sk sh ki st cl) : repC (cAge C v) sk sh ki st cl := h
theorem repC_knd {C : Co} {sk sh ki st cl : Nat → Int32} {k v : Nat} (h : repC C sk sh ki st cl) : repC (cKnd C k v) sk sh (upd ki k (nI v)) st cl := ⟨h.1, h.2.1, fun j hj => by
  show _ = nI (if j = k then v else cKi C j)
  by_cases e : j = k
  · subst e; rw [up_at, if_pos rfl]
  · rw [up_ne _ _ e, if_neg e]; exact h.2.2.1 j hj, h.2.2.2.1, h.2.2.2.2⟩
theorem repC_std {C : Co} {sk sh ki st cl : Nat → Int32} {k v : Nat} (h : repC C sk sh ki st cl) : repC (cStd C k v) sk sh ki (upd st k (nI v)) cl := ⟨h.1, h.2.1, h.2.2.1, fun j hj => by
  show _ = nI (if j = k then v else cSt C j)
  by_cases e : j = k
  · subst e; rw [up_at, if_pos rfl]
  · rw [up_ne _ _ e, if_neg e]; exact h.2.2.2.1 j hj, h.2.2.2.2⟩
theorem repC_cp {C : Co} {sk sh ki st cl sk' sh' ki' st' cl' : Nat → Int32} (hC : cSp C ≤ 4) (hL : cLa C ≤ 4) (h : repC C sk sh ki st cl) (e : (∀ j, j < 6 → sk' j = sk j) ∧ (∀ j, j < 4 → sh' j = sh j) ∧ (∀ j, j < 4 → ki' j = ki j) ∧ (∀ j, j < 4 → st' j = st j) ∧ (∀ j, j < 4 → cl' j = cl j)) : repC C sk' sh' ki' st' cl' :=
  ⟨fun j hj => (e.1 j hj).trans (h.1 j hj), fun j hj => (e.2.1 j (by omega)).trans (h.2.1 j hj), fun j hj => (e.2.2.1 j (by omega)).trans (h.2.2.1 j hj), fun j hj => (e.2.2.2.1 j (by omega)).trans (h.2.2.2.1 j hj), fun j hj => (e.2.2.2.2 j hj).trans (h.2.2.2.2 j hj)⟩
theorem repM_app {M : Mv} {wf tf vf : Nat → Int32} {a b c : Nat} (h : repM M wf tf vf) : repM (mApp M a b c) (upd wf (mN M) (nI a)) (upd tf (mN M) (nI b)) (upd vf (mN M) (nI c)) := fun i hi => by
  have hi' : i < mN M + 1 := hi
  by_cases e : i = mN M
  · subst e
    refine ⟨?_, ?_, ?_⟩
    · rw [up_at]; show _ = nI (if mN M = mN M then a else _); rw [if_pos rfl]
    · rw [up_at]; show _ = nI (if mN M = mN M then b else _); rw [if_pos rfl]
    · rw [up_at]; show _ = nI (if mN M = mN M then c else _); rw [if_pos rfl]
  · have h2 := h i (by omega)
    refine ⟨?_, ?_, ?_⟩
    · rw [up_ne _ _ e, h2.1]; show _ = nI (if i = mN M then a else _); rw [if_neg e]
    · rw [up_ne _ _ e, h2.2.1]; show _ = nI (if i = mN M then b else _); rw [if_neg e]
    · rw [up_ne _ _ e, h2.2.2]; show _ = nI (if i = mN M then c else _); rw [if_neg e]
theorem repM_cut {M : Mv} {wf tf vf : Nat → Int32} {k : Nat} (h : repM M wf tf vf) : repM (mCut M k) wf tf vf := fun i hi => h i (Nat.lt_of_lt_of_le hi (Nat.sub_le _ _))
theorem okC_knd {C : Co} {k v : Nat} (h : okC C) (hv : v ≤ 3) : okC (cKnd C k v) := ⟨h.1, h.2.1, h.2.2.1, h.2.2.2.1, h.2.2.2.2.1, fun j hj => ⟨by
  show (if j = k then v else cKi C j) ≤ 3
  split
  · exact hv
  · exact (h.2.2.2.2.2.1 j hj).1, (h.2.2.2.2.2.1 j hj).2⟩, h.2.2.2.2.2.2⟩
theorem okC_std {C : Co} {k v : Nat} (h : okC C) (hv : v < cSp C) : okC (cStd C k v) := ⟨h.1, h.2.1, h.2.2.1, h.2.2.2.1, h.2.2.2.2.1, fun j hj => ⟨(h.2.2.2.2.2.1 j hj).1, by
  show (if j = k then v else cSt C j) < cSp C
  split
  · exact hv
  · exact (h.2.2.2.2.2.1 j hj).2⟩, h.2.2.2.2.2.2⟩
theorem okC_age {C : Co} {v : Nat} (h : okC C) (h1 : 0 < v) (h2 : v ≤ 12) : okC (cAge C v) := ⟨h.1, h.2.1, h1, h2, h.2.2.2.2⟩
theorem okC_cld {C : Co} {d v : Nat} (h : okC C) (hv : v ≤ 9) : okC (cCld C d v) := ⟨h.1, h.2.1, h.2.2.1, h.2.2.2.1, h.2.2.2.2.1, h.2.2.2.2.2.1, h.2.2.2.2.2.2.1, fun j hj => by
  show (if j = d then v else cCl C j) ≤ 9
  split
  · exact hv
  · exact h.2.2.2.2.2.2.2 j hj⟩
theorem okC_all {C : Co} {f : Nat → Nat} (h : okC C) (hv : ∀ j, j < 4 → f j ≤ 9) : okC (cAll C f) := ⟨h.1, h.2.1, h.2.2.1, h.2.2.2.1, h.2.2.2.2.1, h.2.2.2.2.2.1, h.2.2.2.2.2.2.1, hv⟩
theorem cas_le (n d : Nat) : cas n d ≤ 9 := by
  unfold cas
  split <;> omega
theorem kk_bitN : ∀ n, n < 16 → ∀ d, d < 4 → ((nI n >>> (nI d &&& 31)) &&& nI 1 = nI 1 ↔ n / 2 ^ d % 2 = 1) := by decide +kernel
