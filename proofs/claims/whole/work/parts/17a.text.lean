/-! a text, code by code: c j is the code at place j, -9 behind the end -/
def cdT (f : Nat → Int32) (a n : Nat) : Nat → Int32 := fun j => if j < n then f (a + j) else (-9)
theorem cdT_in {f : Nat → Int32} {a n j : Nat} (h : j < n) : cdT f a n j = f (a + j) := if_pos h
theorem cdT_out {f : Nat → Int32} {a n j : Nat} (h : ¬ j < n) : cdT f a n j = (-9) := if_neg h
theorem cdT_ext {f g : Nat → Int32} {a b n : Nat} (h : ∀ j, j < n → f (a + j) = g (b + j)) : cdT f a n = cdT g b n := by
  funext j
  unfold cdT
  split
  · rename_i hj
    exact h j hj
  · rfl
theorem neg9 {k : Nat} (h : k < 2 ^ 31) : ¬ (-9 : Int32) = nI k := fun e => by
  have h1 := congrArg Int32.toInt e
  rw [nI_toInt h, show (-9 : Int32).toInt = -9 from by decide +kernel] at h1
  omega
def dg (c : Nat → Int32) (j b : Nat) : Bool := inB (c j - nI 48) b
def dv (c : Nat → Int32) (j : Nat) : Nat := tn (c j - nI 48)
theorem dg_t {c : Nat → Int32} {j b : Nat} (h : dg c j b = true) : dv c j < b ∧ c j - nI 48 = nI (dv c j) := by
  have h3 := of_decide_eq_true h
  obtain ⟨h7, h8⟩ := kk_ofInt (x := c j - nI 48) h3.1
  have h9 : dv c j = (c j - nI 48).toInt.toNat := by
    exact (congrArg tn h8).trans (nI_clamp h7)
  rw [h9]
  exact ⟨by omega, h8⟩
def runP (p : Nat → Bool) : Nat → Nat
  | 0 => 0
  | n + 1 => if runP p n = n ∧ p n = true then n + 1 else runP p n
theorem runP_s (p : Nat → Bool) (n : Nat) : runP p (n + 1) = if runP p n = n ∧ p n = true then n + 1 else runP p n := rfl
theorem runP_t {p : Nat → Bool} : ∀ {n : Nat}, (∀ j, j < n → p j = true) → runP p n = n
  | 0, _ => rfl
  | n + 1, h => by rw [runP_s, if_pos ⟨runP_t (fun j hj => h j (by omega)), h n (by omega)⟩]
theorem runP_f {p : Nat → Bool} {j : Nat} (ht : ∀ i, i < j → p i = true) (hf : p j = false) : ∀ {n : Nat}, j < n → runP p n = j
  | n + 1, h => by
    rw [runP_s]
    by_cases e : j = n
    · subst e
      rw [if_neg (fun z => by rw [hf] at z; exact absurd z.2 (by decide)), runP_t ht]
    · have h1 := runP_f ht hf (n := n) (by omega)
      rw [h1, if_neg (fun z => by omega)]
def isO (c : Nat → Int32) : Bool := decide (c 0 = nI 111)
def rSk (c : Nat → Int32) : Nat := runP (fun w => dg c (1 + w) 10) 6
def pSp (c : Nat → Int32) (s : Nat) : Bool := decide (c (7 + 2 * s) = nI 59) && dg c (8 + 2 * s) 10
def rSp (c : Nat → Int32) : Nat := runP (pSp c) 4
def aLa (c : Nat → Int32) : Nat := 7 + 2 * rSp c
def isK (x : Int32) : Bool := decide (x = nI 108) || (decide (x = nI 109) || decide (x = nI 102))
def kdOf (x : Int32) : Nat := if x = nI 108 then 0 else if x = nI 109 then 1 else 2
def pLa (c : Nat → Int32) (k : Nat) : Bool := decide (c (aLa c + 3 * k) = nI 44) && (isK (c (aLa c + 3 * k + 1)) && dg c (aLa c + 3 * k + 2) (rSp c))
def rLa (c : Nat → Int32) : Nat := runP (pLa c) 4
/-- whether a text is taken, and where its reading stops -/
def rdT (c : Nat → Int32) (n : Nat) : Bool × Nat :=
  if isO c = false then (false, 0)
  else if rSk c < 6 then (false, 1 + rSk c)
  else if rSp c < 4 ∧ c (aLa c) = nI 59 then (false, aLa c + 1)
  else if rSp c = 0 then (false, 7)
  else if rLa c < 4 ∧ c (aLa c + 3 * rLa c) = nI 44 then (false, if isK (c (aLa c + 3 * rLa c + 1)) = true then aLa c + 3 * rLa c + 2 else aLa c + 3 * rLa c + 1)
  else if rLa c = 0 then (false, aLa c)
  else (decide (aLa c + 3 * rLa c = n), aLa c + 3 * rLa c)
/-- the coast of a text that is taken -/
def nC (c : Nat → Int32) : Co := (rSp c, rLa c, 6, fun w => dv c (1 + w), fun s => dv c (8 + 2 * s), fun k => kdOf (c (aLa c + 3 * k + 1)), fun k => dv c (aLa c + 3 * k + 2), fun _ => 0)
abbrev mZ : Mv := (0, fun _ => 0, fun _ => 0, fun _ => 0)
theorem rdT_o {c : Nat → Int32} {n : Nat} (h : ¬ c 0 = nI 111) : rdT c n = (false, 0) := by
  unfold rdT
  rw [if_pos (show isO c = false from decide_eq_false h)]
theorem rdT_sky {c : Nat → Int32} {n w : Nat} (h : c 0 = nI 111) (hw : w < 6) (ht : ∀ j, j < w → dg c (1 + j) 10 = true) (hf : dg c (1 + w) 10 = false) : rdT c n = (false, 1 + w) := by
  have h1 : rSk c = w := runP_f (p := fun w => dg c (1 + w) 10) ht hf hw
  have h0 : ¬ isO c = false := by rw [show isO c = true from decide_eq_true h]; decide
  unfold rdT
  rw [if_neg h0, if_pos (by omega), h1]
/-- the sky is read -/
def oSk (c : Nat → Int32) : Prop := c 0 = nI 111 ∧ ∀ j, j < 6 → dg c (1 + j) 10 = true
theorem rdT_up {c : Nat → Int32} {n : Nat} (h : oSk c) : rdT c n = if rSp c < 4 ∧ c (aLa c) = nI 59 then (false, aLa c + 1)
  else if rSp c = 0 then (false, 7)
  else if rLa c < 4 ∧ c (aLa c + 3 * rLa c) = nI 44 then (false, if isK (c (aLa c + 3 * rLa c + 1)) = true then aLa c + 3 * rLa c + 2 else aLa c + 3 * rLa c + 1)
  else if rLa c = 0 then (false, aLa c)
  else (decide (aLa c + 3 * rLa c = n), aLa c + 3 * rLa c) := by
  have h1 : rSk c = 6 := runP_t (p := fun w => dg c (1 + w) 10) h.2
  have h0 : ¬ isO c = false := by rw [show isO c = true from decide_eq_true h.1]; decide
  unfold rdT
  rw [if_neg h0, if_neg (by omega)]
theorem rSp_f {c : Nat → Int32} {s : Nat} (hs : s < 4) (ht : ∀ j, j < s → pSp c j = true) (hf : ¬ c (7 + 2 * s) = nI 59 ∨ dg c (8 + 2 * s) 10 = false) : rSp c = s := by
  refine runP_f ht ?_ hs
  unfold pSp
  rcases hf with h | h
  · rw [decide_eq_false h, Bool.false_and]
  · rw [h, Bool.and_false]
theorem rdT_sp1 {c : Nat → Int32} {n s : Nat} (h : oSk c) (hs : s < 4) (ht : ∀ j, j < s → pSp c j = true) (h1 : c (7 + 2 * s) = nI 59) (hf : dg c (8 + 2 * s) 10 = false) : rdT c n = (false, 8 + 2 * s) := by
  have e := rSp_f hs ht (Or.inr hf)
  rw [rdT_up h, if_pos ⟨by omega, by rw [aLa, e]; exact h1⟩, aLa, e]
  congr 1
  omega
theorem rdT_sp0 {c : Nat → Int32} {n : Nat} (h : oSk c) (hf : ¬ c 7 = nI 59) : rdT c n = (false, 7) := by
  have e : rSp c = 0 := rSp_f (s := 0) (by decide) (fun j hj => absurd hj (Nat.not_lt_zero j)) (Or.inl hf)
  rw [rdT_up h, if_neg (by rw [aLa, e]; exact fun z => hf z.2), if_pos e]
/-- sky and spots are read -/
def oSp (c : Nat → Int32) : Prop := oSk c ∧ 0 < rSp c ∧ rSp c ≤ 4 ∧ ¬ (rSp c < 4 ∧ c (aLa c) = nI 59) ∧ ∀ j, j < rSp c → pSp c j = true
theorem oSp_of {c : Nat → Int32} {s : Nat} (h : oSk c) (h0 : 0 < s) (hs : s ≤ 4) (ht : ∀ j, j < s → pSp c j = true) (hf : s = 4 ∨ ¬ c (7 + 2 * s) = nI 59) : rSp c = s ∧ oSp c := by
  have e : rSp c = s := by
    rcases Nat.lt_or_ge s 4 with h4 | h4
    · rcases hf with h5 | h5
      · omega
      · exact rSp_f h4 ht (Or.inl h5)
    · have : s = 4 := by omega
      subst this
      exact runP_t ht
  refine ⟨e, h, by omega, by omega, ?_, by rw [e]; exact ht⟩
  rw [aLa, e]
  rintro ⟨h1, h2⟩
  rcases hf with h5 | h5
  · omega
  · exact h5 h2
theorem rdT_la {c : Nat → Int32} {n : Nat} (h : oSp c) : rdT c n = if rLa c < 4 ∧ c (aLa c + 3 * rLa c) = nI 44 then (false, if isK (c (aLa c + 3 * rLa c + 1)) = true then aLa c + 3 * rLa c + 2 else aLa c + 3 * rLa c + 1)
  else if rLa c = 0 then (false, aLa c)
  else (decide (aLa c + 3 * rLa c = n), aLa c + 3 * rLa c) := by rw [rdT_up h.1, if_neg h.2.2.2.1, if_neg (by have := h.2.1; omega)]
theorem rLa_f {c : Nat → Int32} {k : Nat} (hk : k < 4) (ht : ∀ j, j < k → pLa c j = true) (hf : ¬ c (aLa c + 3 * k) = nI 44 ∨ isK (c (aLa c + 3 * k + 1)) = false ∨ dg c (aLa c + 3 * k + 2) (rSp c) = false) : rLa c = k := by
  refine runP_f ht ?_ hk
  unfold pLa
  rcases hf with h | h | h
  · rw [decide_eq_false h, Bool.false_and]
  · rw [h, Bool.false_and, Bool.and_false]
  · rw [h, Bool.and_false, Bool.and_false]
theorem rdT_la1 {c : Nat → Int32} {n k : Nat} (h : oSp c) (hk : k < 4) (ht : ∀ j, j < k → pLa c j = true) (h1 : c (aLa c + 3 * k) = nI 44) (hf : isK (c (aLa c + 3 * k + 1)) = false) : rdT c n = (false, aLa c + 3 * k + 1) := by
  have e := rLa_f hk ht (Or.inr (Or.inl hf))
  rw [rdT_la h, e, if_pos ⟨hk, h1⟩, if_neg (by rw [hf]; decide)]
theorem rdT_la2 {c : Nat → Int32} {n k : Nat} (h : oSp c) (hk : k < 4) (ht : ∀ j, j < k → pLa c j = true) (h1 : c (aLa c + 3 * k) = nI 44) (h2 : isK (c (aLa c + 3 * k + 1)) = true) (hf : dg c (aLa c + 3 * k + 2) (rSp c) = false) : rdT c n = (false, aLa c + 3 * k + 2) := by
  have e := rLa_f hk ht (Or.inr (Or.inr hf))
  rw [rdT_la h, e, if_pos ⟨hk, h1⟩, if_pos h2]
theorem rdT_la0 {c : Nat → Int32} {n : Nat} (h : oSp c) (hf : ¬ c (aLa c) = nI 44) : rdT c n = (false, aLa c) := by
  have e : rLa c = 0 := rLa_f (k := 0) (by decide) (fun j hj => absurd hj (Nat.not_lt_zero j)) (Or.inl hf)
  rw [rdT_la h, e, if_neg (fun z => hf z.2), if_pos rfl]
/-- the lamps are read: where the reading stands -/
theorem rdT_end {c : Nat → Int32} {n k : Nat} (h : oSp c) (h0 : 0 < k) (hk : k ≤ 4) (ht : ∀ j, j < k → pLa c j = true) (hf : k = 4 ∨ ¬ c (aLa c + 3 * k) = nI 44) : rLa c = k ∧ rdT c n = (decide (aLa c + 3 * k = n), aLa c + 3 * k) := by
  have e : rLa c = k := by
    rcases Nat.lt_or_ge k 4 with h4 | h4
    · rcases hf with h5 | h5
      · omega
      · exact rLa_f h4 ht (Or.inl h5)
    · have : k = 4 := by omega
      subst this
      exact runP_t ht
  refine ⟨e, ?_⟩
  rw [rdT_la h, e, if_neg ?_, if_neg (by omega)]
  rintro ⟨h1, h2⟩
  rcases hf with h5 | h5
  · omega
  · exact h5 h2
theorem pSp_t {c : Nat → Int32} {s : Nat} (h1 : c (7 + 2 * s) = nI 59) (h2 : dg c (8 + 2 * s) 10 = true) : pSp c s = true := by
  unfold pSp
  rw [decide_eq_true h1, h2]
  rfl
theorem pLa_t {c : Nat → Int32} {k : Nat} (h1 : c (aLa c + 3 * k) = nI 44) (h2 : isK (c (aLa c + 3 * k + 1)) = true) (h3 : dg c (aLa c + 3 * k + 2) (rSp c) = true) : pLa c k = true := by
  unfold pLa
  rw [decide_eq_true h1, h2, h3]
  rfl
theorem isK_0 {x : Int32} (h : x = nI 108) : isK x = true ∧ kdOf x = 0 := ⟨by unfold isK; rw [decide_eq_true h]; rfl, if_pos h⟩
theorem isK_1 {x : Int32} (h0 : ¬ x = nI 108) (h : x = nI 109) : isK x = true ∧ kdOf x = 1 := ⟨by unfold isK; rw [decide_eq_true h, decide_eq_false h0]; rfl, by unfold kdOf; rw [if_neg h0, if_pos h]⟩
theorem isK_2 {x : Int32} (h0 : ¬ x = nI 108) (h1 : ¬ x = nI 109) (h : x = nI 102) : isK x = true ∧ kdOf x = 2 := ⟨by unfold isK; rw [decide_eq_true h, decide_eq_false h0, decide_eq_false h1]; rfl, by unfold kdOf; rw [if_neg h0, if_neg h1]⟩
theorem isK_n {x : Int32} (h0 : ¬ x = nI 108) (h1 : ¬ x = nI 109) (h : ¬ x = nI 102) : isK x = false := by unfold isK; rw [decide_eq_false h, decide_eq_false h0, decide_eq_false h1]; rfl
theorem kdOf_le (x : Int32) : kdOf x ≤ 2 := by
  unfold kdOf
  split
  · omega
  · split <;> omega

theorem cd_X2_makeNew : yX2_makeNew.cls = RX2 ∧ yX2_makeNew.cls ≠ "java/lang/invoke/MethodHandle" ∧ yX2_makeNew.cls ≠ "java/lang/invoke/VarHandle" ∧ (parseMethodDescriptor yX2_makeNew.desc).map (fun d => d.parameters.length) = some 0 := by decide +kernel
theorem cd_X7_readsLamps : yX7_readsLamps.cls = RX7 ∧ yX7_readsLamps.cls ≠ "java/lang/invoke/MethodHandle" ∧ yX7_readsLamps.cls ≠ "java/lang/invoke/VarHandle" ∧ (parseMethodDescriptor yX7_readsLamps.desc).map (fun d => d.parameters.length) = some 1 := by decide +kernel
theorem cd_X7_readsSky : yX7_readsSky.cls = RX7 ∧ yX7_readsSky.cls ≠ "java/lang/invoke/MethodHandle" ∧ yX7_readsSky.cls ≠ "java/lang/invoke/VarHandle" ∧ (parseMethodDescriptor yX7_readsSky.desc).map (fun d => d.parameters.length) = some 1 := by decide +kernel
theorem cd_X7_readsSpots : yX7_readsSpots.cls = RX7 ∧ yX7_readsSpots.cls ≠ "java/lang/invoke/MethodHandle" ∧ yX7_readsSpots.cls ≠ "java/lang/invoke/VarHandle" ∧ (parseMethodDescriptor yX7_readsSpots.desc).map (fun d => d.parameters.length) = some 1 := by decide +kernel
theorem cd_X7_takeDigit : yX7_takeDigit.cls = RX7 ∧ yX7_takeDigit.cls ≠ "java/lang/invoke/MethodHandle" ∧ yX7_takeDigit.cls ≠ "java/lang/invoke/VarHandle" ∧ (parseMethodDescriptor yX7_takeDigit.desc).map (fun d => d.parameters.length) = some 1 := by decide +kernel
theorem cd_X7_takeKind : yX7_takeKind.cls = RX7 ∧ yX7_takeKind.cls ≠ "java/lang/invoke/MethodHandle" ∧ yX7_takeKind.cls ≠ "java/lang/invoke/VarHandle" ∧ (parseMethodDescriptor yX7_takeKind.desc).map (fun d => d.parameters.length) = some 0 := by decide +kernel
theorem cd_X7_takes : yX7_takes.cls = RX7 ∧ yX7_takes.cls ≠ "java/lang/invoke/MethodHandle" ∧ yX7_takes.cls ≠ "java/lang/invoke/VarHandle" ∧ (parseMethodDescriptor yX7_takes.desc).map (fun d => d.parameters.length) = some 1 := by decide +kernel
abbrev rmX7_takes : Room := { frames := 0, cells := 0, slots := 0, locals := 0 }
set_option maxHeartbeats 4000000 in
set_option maxRecDepth 100000 in
theorem c_X7_takes (lL : Launch) (D : va_G) (cI cS : ClassId) (sz : Nat) (t0 : Nat) (s0 : Nat) (c0 : Nat) (len : Nat) (rl : Int32) (cf : Nat → Int32) (sa : Nat) (ln : Nat) (at0 : Nat) (c : Nat) (hsl : sa + ln ≤ 60) (hat : at0 ≤ ln) (hc9 : c < 2 ^ 31) : Met lL yX7_takes wsX7_takes rmX7_takes (va_Pc [.ref t0, .int (nI c)] (kB D cI cS [(t0, .inr (6, [.ref s0, .int (nI sa), .int (nI ln), .int (nI at0)])), (s0, .inr (5, [.ref c0, .int (nI len), .int rl])), (c0, .inl (cI, 60, .inl cf))] sz)) (kQi D (fun (r : Int32) (u : Nat) => r = kb (decide ((cdT cf sa ln) at0 = nI c)) ∧ u = at0 + (bif decide ((cdT cf sa ln) at0 = nI c) then 1 else 0)) (fun u : Nat => [(t0, .inr (6, [.ref s0, .int (nI sa), .int (nI ln), .int (nI u)])), (s0, .inr (5, [.ref c0, .int (nI len), .int rl])), (c0, .inl (cI, 60, .inl cf))]) (va_A [(t0, .inr (6, [.ref s0, .int (nI sa), .int (nI ln), .int (nI at0)])), (s0, .inr (5, [.ref c0, .int (nI len), .int rl])), (c0, .inl (cI, 60, .inl cf))] sz)) 0 0 (va_A [(t0, .inr (6, [.ref s0, .int (nI sa), .int (nI ln), .int (nI at0)])), (s0, .inr (5, [.ref c0, .int (nI len), .int rl])), (c0, .inl (cI, 60, .inl cf))] sz) := by
  refine Met.ofW (cc := cX7_takes) (maxL := 2) (ret := (some .boolean)) (by decide) rfl ?_
  intro pP eE sS mM args below meth cC s₁ B hml hv
  obtain ⟨rfl, hsz, hP, hK, hD0⟩ := hv
  have hx := B.exec
  have hb := B.bytes
  have hr := B.returns
  have hts := atoms_spec (ws := wsX7_takes) B.pre
  have hown : sS.vm.findClass RX7 = some mM.cls := findClass_of_methodNamed B.named
  have hlocks := B.notSynchronized
  subst hsz
  have hD := hD0.self (sz := sS.heap.size)
  generalize hAe : va_A [(t0, .inr (6, [.ref s0, .int (nI sa), .int (nI ln), .int (nI at0)])), (s0, .inr (5, [.ref c0, .int (nI len), .int rl])), (c0, .inl (cI, 60, .inl cf))] sS.heap.size = A at hD ⊢
  have hA : ∀ q : Nat, sS.heap.size ≤ q → A q := fun q h => by rw [← hAe]; exact Or.inr h
  have hS : va_S A sS.heap sS.heap [] := va_S.rf
  have hP : va_P D vwCl [(t0, .inr (6, [.ref s0, .int (nI sa), .int (nI ln), .int (nI at0)])), (s0, .inr (5, [.ref c0, .int (nI len), .int rl])), (c0, .inl (cI, 60, .inl cf))] sS.heap := hP
  have hD : va_D A [(t0, .inr (6, [.ref s0, .int (nI sa), .int (nI ln), .int (nI at0)])), (s0, .inr (5, [.ref c0, .int (nI len), .int rl])), (c0, .inl (cI, 60, .inl cf))] := hD
  have hf_9 := hts (.fieldLink RX7 9 "OldLamps$Text" "at" "I") (List.mem_of_getElem? (i := 1) rfl)
  have hf_15 := hts (.fieldLink RX7 15 "OldLamps$Text" "row" "LOldLamps$Sheet;") (List.mem_of_getElem? (i := 3) rfl)
  have hf_19 := hts (.fieldLink RX7 19 "OldLamps$Text" "start" "I") (List.mem_of_getElem? (i := 5) rfl)
  have hf_22 := hts (.fieldLink RX7 22 "OldLamps$Text" "length" "I") (List.mem_of_getElem? (i := 2) rfl)
  have hf_71 := hts (.fieldLink RX7 71 "OldLamps$Sheet" "cells" "[I") (List.mem_of_getElem? (i := 4) rfl)
  have hwX6 : ∀ w ∈ wsX60, w ∈ wsX7_takes := fun _ h => List.mem_cons_of_mem _ (List.mem_append_right _ h)
  have hwX7 : ∀ w ∈ wsX70, w ∈ wsX7_takes := fun _ h => List.mem_cons_of_mem _ (List.mem_append_left _ (List.mem_append_right _ h))
  have hl := lv_entry ([.ref t0, .int (nI c)]) (n := 2) (Nat.le_of_ble_eq_true rfl)
  rw [lg_entry_eq]
  generalize (lg_sl ([.ref t0, .int (nI c)]) ++ List.replicate (2 - (lg_sl ([.ref t0, .int (nI c)])).length) Slot.unset).toArray = ls at hl ⊢
  have hl : lv_has ls 2 [(0, .ref t0), (1, .int (nI c))] := hl
  obtain ⟨QQ, hQQ⟩ : ∃ QQ : State → Prop, QQ = MQ below (kQi D (fun (r : Int32) (u : Nat) => r = kb (decide ((cdT cf sa ln) at0 = nI c)) ∧ u = at0 + (bif decide ((cdT cf sa ln) at0 = nI c) then 1 else 0)) (fun u : Nat => [(t0, .inr (6, [.ref s0, .int (nI sa), .int (nI ln), .int (nI u)])), (s0, .inr (5, [.ref c0, .int (nI len), .int rl])), (c0, .inl (cI, 60, .inl cf))]) A) ([.ref t0, .int (nI c)]).toArray sS 0 0 A := ⟨_, rfl⟩
  refine kk_QQ hQQ.symm ?_
  refine lv_aload_n hx hb dX7_takes_0 rfl (lv_at hl 0 rfl) ?_
  refine va_get (D := D) (ci := 6) (v := .int (nI at0)) (C := RX7) (T := TX7) (N := 4) hx hb hts hwX7 hown hK hP 0 rfl rfl 3 (by decide) hf_9 (fun _ h9 => h9) rfl dX7_takes_1 ?_
  refine lv_aload_n hx hb dX7_takes_4 rfl (lv_at hl 0 rfl) ?_
  refine va_get (D := D) (ci := 6) (v := .int (nI ln)) (C := RX7) (T := TX7) (N := 4) hx hb hts hwX7 hown hK hP 0 rfl rfl 2 (by decide) hf_22 (fun _ h9 => h9) rfl dX7_takes_5 ?_
  refine kk_icmp_ge (tgt := 32) hx hb dX7_takes_8 (by decide) (by omega) (by omega) (fun c_1 => ?_) (fun c_1 => ?_)
  · skip
    refine lv_iconst (v := nI 0) hx hb dX7_takes_32 (by decide +kernel) ?_
    have hq : (nI 0) = kb (decide ((cdT cf sa ln) at0 = nI c)) ∧ at0 = at0 + (bif decide ((cdT cf sa ln) at0 = nI c) then 1 else 0) := by
      have h : decide ((cdT cf sa ln) at0 = nI c) = false := decide_eq_false (by rw [cdT_out (by omega)]; exact neg9 hc9)
      rw [h]; exact ⟨rfl, rfl⟩
    refine kk_QQ hQQ ?_
    exact W.zret (v := nI 0) (ty := .boolean) hx hb hr (by decide +kernel) (fun t ht hW => ⟨⟨nI 0, at0, rfl, hq, by show va_P D vwCl _ t.heap; rw [ht]; exact hP⟩, hS.F ht⟩) hS.2.2 dX7_takes_33
  · skip
    refine lv_aload_n hx hb dX7_takes_11 rfl (lv_at hl 0 rfl) ?_
    refine va_get (D := D) (ci := 6) (v := .ref s0) (C := RX7) (T := TX7) (N := 4) hx hb hts hwX7 hown hK hP 0 rfl rfl 0 (by decide) hf_15 (fun _ h9 => h9) rfl dX7_takes_12 ?_
    refine va_get (D := D) (ci := 5) (v := .ref c0) (C := RX6) (T := TX6) (N := 3) hx hb hts hwX6 hown hK hP 1 rfl rfl 0 (by decide) hf_71 (fun _ h9 => h9) rfl dX7_takes_15 ?_
    refine lv_aload_n hx hb dX7_takes_18 rfl (lv_at hl 0 rfl) ?_
    refine va_get (D := D) (ci := 6) (v := .int (nI sa)) (C := RX7) (T := TX7) (N := 4) hx hb hts hwX7 hown hK hP 0 rfl rfl 1 (by decide) hf_19 (fun _ h9 => h9) rfl dX7_takes_19 ?_
    refine lv_aload_n hx hb dX7_takes_22 rfl (lv_at hl 0 rfl) ?_
    refine va_get (D := D) (ci := 6) (v := .int (nI at0)) (C := RX7) (T := TX7) (N := 4) hx hb hts hwX7 hown hK hP 0 rfl rfl 3 (by decide) hf_9 (fun _ h9 => h9) rfl dX7_takes_23 ?_
    refine kk_iadd hx hb dX7_takes_26 ?_
    refine kk_iald hx hb hK hP 2 rfl rfl (i := sa + at0) (by omega) (by decide) dX7_takes_27 ?_
    refine lv_iload_n hx hb dX7_takes_28 rfl (lv_at hl 1 rfl) ?_
    refine lv_icmp_eq (tgt := 34) hx hb dX7_takes_29 (by decide) (fun c_2 => ?_) (fun c_2 => ?_)
    · skip
      refine lv_aload_n hx hb dX7_takes_34 rfl (lv_at hl 0 rfl) ?_
      refine lv_dup hx hb dX7_takes_35 rfl ?_
      refine va_get (D := D) (ci := 6) (v := .int (nI at0)) (C := RX7) (T := TX7) (N := 4) hx hb hts hwX7 hown hK hP 0 rfl rfl 3 (by decide) hf_9 (fun _ h9 => h9) rfl dX7_takes_36 ?_
      refine lv_iconst (v := nI 1) hx hb dX7_takes_39 (by decide +kernel) ?_
      refine kk_iadd hx hb dX7_takes_40 ?_
      refine va_put (D := D) (ci := 6) (v := .int (nI (at0 + 1))) (ty := .int) (C := RX7) (T := TX7) (N := 4) hx hb hts hwX7 tyX7 tyX7_ok nmX7 hown hK hP hD hS 0 rfl rfl 3 (by decide) hf_9 (fun _ h9 => h9) rfl (by decide +kernel) rfl rfl (Nat.le_of_ble_eq_true rfl) dX7_takes_41 (fun H locs hP hD hS => ?_)
      have hP : va_P D vwCl [(t0, .inr (6, [.ref s0, .int (nI sa), .int (nI ln), .int (nI (at0 + 1))])), (s0, .inr (5, [.ref c0, .int (nI len), .int rl])), (c0, .inl (cI, 60, .inl cf))] H := hP
      have hD : va_D A [(t0, .inr (6, [.ref s0, .int (nI sa), .int (nI ln), .int (nI (at0 + 1))])), (s0, .inr (5, [.ref c0, .int (nI len), .int rl])), (c0, .inl (cI, 60, .inl cf))] := hD
      refine lv_iconst (v := nI 1) hx hb dX7_takes_44 (by decide +kernel) ?_
      have hq : (nI 1) = kb (decide ((cdT cf sa ln) at0 = nI c)) ∧ (at0 + 1) = at0 + (bif decide ((cdT cf sa ln) at0 = nI c) then 1 else 0) := by
        have h : decide ((cdT cf sa ln) at0 = nI c) = true := decide_eq_true (by rw [cdT_in (by omega)]; exact c_2)
        rw [h]; exact ⟨rfl, rfl⟩
      refine kk_QQ hQQ ?_
      exact W.zret (v := nI 1) (ty := .boolean) hx hb hr (by decide +kernel) (fun t ht hW => ⟨⟨nI 1, (at0 + 1), rfl, hq, by show va_P D vwCl _ t.heap; rw [ht]; exact hP⟩, hS.F ht⟩) hS.2.2 dX7_takes_45
    · skip
      refine lv_iconst (v := nI 0) hx hb dX7_takes_32 (by decide +kernel) ?_
      have hq : (nI 0) = kb (decide ((cdT cf sa ln) at0 = nI c)) ∧ at0 = at0 + (bif decide ((cdT cf sa ln) at0 = nI c) then 1 else 0) := by
        have h : decide ((cdT cf sa ln) at0 = nI c) = false := decide_eq_false (by rw [cdT_in (by omega)]; exact c_2)
        rw [h]; exact ⟨rfl, rfl⟩
      refine kk_QQ hQQ ?_
      exact W.zret (v := nI 0) (ty := .boolean) hx hb hr (by decide +kernel) (fun t ht hW => ⟨⟨nI 0, at0, rfl, hq, by show va_P D vwCl _ t.heap; rw [ht]; exact hP⟩, hS.F ht⟩) hS.2.2 dX7_takes_33

abbrev rmX7_takeDigit : Room := { frames := 0, cells := 0, slots := 0, locals := 0 }
set_option maxHeartbeats 4000000 in
set_option maxRecDepth 100000 in
theorem c_X7_takeDigit (lL : Launch) (D : va_G) (cI cS : ClassId) (sz : Nat) (t0 : Nat) (s0 : Nat) (c0 : Nat) (len : Nat) (rl : Int32) (cf : Nat → Int32) (sa : Nat) (ln : Nat) (at0 : Nat) (b : Nat) (hsl : sa + ln ≤ 60) (hat : at0 ≤ ln) (hb9 : b ≤ 10) : Met lL yX7_takeDigit wsX7_takeDigit rmX7_takeDigit (va_Pc [.ref t0, .int (nI b)] (kB D cI cS [(t0, .inr (6, [.ref s0, .int (nI sa), .int (nI ln), .int (nI at0)])), (s0, .inr (5, [.ref c0, .int (nI len), .int rl])), (c0, .inl (cI, 60, .inl cf))] sz)) (kQi D (fun (r : Int32) (u : Nat) => (dg (cdT cf sa ln) at0 b = true ∧ r = nI (dv (cdT cf sa ln) at0) ∧ u = at0 + 1 ∧ at0 < ln) ∨ (dg (cdT cf sa ln) at0 b = false ∧ r = (-9) ∧ u = at0)) (fun u : Nat => [(t0, .inr (6, [.ref s0, .int (nI sa), .int (nI ln), .int (nI u)])), (s0, .inr (5, [.ref c0, .int (nI len), .int rl])), (c0, .inl (cI, 60, .inl cf))]) (va_A [(t0, .inr (6, [.ref s0, .int (nI sa), .int (nI ln), .int (nI at0)])), (s0, .inr (5, [.ref c0, .int (nI len), .int rl])), (c0, .inl (cI, 60, .inl cf))] sz)) 0 0 (va_A [(t0, .inr (6, [.ref s0, .int (nI sa), .int (nI ln), .int (nI at0)])), (s0, .inr (5, [.ref c0, .int (nI len), .int rl])), (c0, .inl (cI, 60, .inl cf))] sz) := by
  refine Met.ofW (cc := cX7_takeDigit) (maxL := 3) (ret := (some .int)) (by decide) rfl ?_
  intro pP eE sS mM args below meth cC s₁ B hml hv
  obtain ⟨rfl, hsz, hP, hK, hD0⟩ := hv
  have hx := B.exec
  have hb := B.bytes
  have hr := B.returns
  have hts := atoms_spec (ws := wsX7_takeDigit) B.pre
  have hown : sS.vm.findClass RX7 = some mM.cls := findClass_of_methodNamed B.named
  have hlocks := B.notSynchronized
  subst hsz
  have hD := hD0.self (sz := sS.heap.size)
  generalize hAe : va_A [(t0, .inr (6, [.ref s0, .int (nI sa), .int (nI ln), .int (nI at0)])), (s0, .inr (5, [.ref c0, .int (nI len), .int rl])), (c0, .inl (cI, 60, .inl cf))] sS.heap.size = A at hD ⊢
  have hA : ∀ q : Nat, sS.heap.size ≤ q → A q := fun q h => by rw [← hAe]; exact Or.inr h
  have hS : va_S A sS.heap sS.heap [] := va_S.rf
  have hP : va_P D vwCl [(t0, .inr (6, [.ref s0, .int (nI sa), .int (nI ln), .int (nI at0)])), (s0, .inr (5, [.ref c0, .int (nI len), .int rl])), (c0, .inl (cI, 60, .inl cf))] sS.heap := hP
  have hD : va_D A [(t0, .inr (6, [.ref s0, .int (nI sa), .int (nI ln), .int (nI at0)])), (s0, .inr (5, [.ref c0, .int (nI len), .int rl])), (c0, .inl (cI, 60, .inl cf))] := hD
  have hf_9 := hts (.fieldLink RX7 9 "OldLamps$Text" "at" "I") (List.mem_of_getElem? (i := 1) rfl)
  have hf_15 := hts (.fieldLink RX7 15 "OldLamps$Text" "row" "LOldLamps$Sheet;") (List.mem_of_getElem? (i := 3) rfl)
  have hf_19 := hts (.fieldLink RX7 19 "OldLamps$Text" "start" "I") (List.mem_of_getElem? (i := 5) rfl)
  have hf_22 := hts (.fieldLink RX7 22 "OldLamps$Text" "length" "I") (List.mem_of_getElem? (i := 2) rfl)
  have hf_71 := hts (.fieldLink RX7 71 "OldLamps$Sheet" "cells" "[I") (List.mem_of_getElem? (i := 4) rfl)
  have hwX6 : ∀ w ∈ wsX60, w ∈ wsX7_takeDigit := fun _ h => List.mem_cons_of_mem _ (List.mem_append_right _ h)
  have hwX7 : ∀ w ∈ wsX70, w ∈ wsX7_takeDigit := fun _ h => List.mem_cons_of_mem _ (List.mem_append_left _ (List.mem_append_right _ h))
  have hl := lv_entry ([.ref t0, .int (nI b)]) (n := 3) (Nat.le_of_ble_eq_true rfl)
  rw [lg_entry_eq]
  generalize (lg_sl ([.ref t0, .int (nI b)]) ++ List.replicate (3 - (lg_sl ([.ref t0, .int (nI b)])).length) Slot.unset).toArray = ls at hl ⊢
  have hl : lv_has ls 3 [(0, .ref t0), (1, .int (nI b))] := hl
  obtain ⟨QQ, hQQ⟩ : ∃ QQ : State → Prop, QQ = MQ below (kQi D (fun (r : Int32) (u : Nat) => (dg (cdT cf sa ln) at0 b = true ∧ r = nI (dv (cdT cf sa ln) at0) ∧ u = at0 + 1 ∧ at0 < ln) ∨ (dg (cdT cf sa ln) at0 b = false ∧ r = (-9) ∧ u = at0)) (fun u : Nat => [(t0, .inr (6, [.ref s0, .int (nI sa), .int (nI ln), .int (nI u)])), (s0, .inr (5, [.ref c0, .int (nI len), .int rl])), (c0, .inl (cI, 60, .inl cf))]) A) ([.ref t0, .int (nI b)]).toArray sS 0 0 A := ⟨_, rfl⟩
  refine kk_QQ hQQ.symm ?_
  refine lv_aload_n hx hb dX7_takeDigit_0 rfl (lv_at hl 0 rfl) ?_
  refine va_get (D := D) (ci := 6) (v := .int (nI at0)) (C := RX7) (T := TX7) (N := 4) hx hb hts hwX7 hown hK hP 0 rfl rfl 3 (by decide) hf_9 (fun _ h9 => h9) rfl dX7_takeDigit_1 ?_
  refine lv_aload_n hx hb dX7_takeDigit_4 rfl (lv_at hl 0 rfl) ?_
  refine va_get (D := D) (ci := 6) (v := .int (nI ln)) (C := RX7) (T := TX7) (N := 4) hx hb hts hwX7 hown hK hP 0 rfl rfl 2 (by decide) hf_22 (fun _ h9 => h9) rfl dX7_takeDigit_5 ?_
  refine kk_icmp_lt (tgt := 14) hx hb dX7_takeDigit_8 (by decide) (by omega) (by omega) (fun c_1 => ?_) (fun c_1 => ?_)
  · skip
    refine lv_aload_n hx hb dX7_takeDigit_14 rfl (lv_at hl 0 rfl) ?_
    refine va_get (D := D) (ci := 6) (v := .ref s0) (C := RX7) (T := TX7) (N := 4) hx hb hts hwX7 hown hK hP 0 rfl rfl 0 (by decide) hf_15 (fun _ h9 => h9) rfl dX7_takeDigit_15 ?_
    refine va_get (D := D) (ci := 5) (v := .ref c0) (C := RX6) (T := TX6) (N := 3) hx hb hts hwX6 hown hK hP 1 rfl rfl 0 (by decide) hf_71 (fun _ h9 => h9) rfl dX7_takeDigit_18 ?_
    refine lv_aload_n hx hb dX7_takeDigit_21 rfl (lv_at hl 0 rfl) ?_
    refine va_get (D := D) (ci := 6) (v := .int (nI sa)) (C := RX7) (T := TX7) (N := 4) hx hb hts hwX7 hown hK hP 0 rfl rfl 1 (by decide) hf_19 (fun _ h9 => h9) rfl dX7_takeDigit_22 ?_
    refine lv_aload_n hx hb dX7_takeDigit_25 rfl (lv_at hl 0 rfl) ?_
    refine va_get (D := D) (ci := 6) (v := .int (nI at0)) (C := RX7) (T := TX7) (N := 4) hx hb hts hwX7 hown hK hP 0 rfl rfl 3 (by decide) hf_9 (fun _ h9 => h9) rfl dX7_takeDigit_26 ?_
    refine kk_iadd hx hb dX7_takeDigit_29 ?_
    refine kk_iald hx hb hK hP 2 rfl rfl (i := sa + at0) (by omega) (by decide) dX7_takeDigit_30 ?_
    refine lv_bipush (v := nI 48) hx hb dX7_takeDigit_31 (by decide +kernel) ?_
    refine lv_isub hx hb dX7_takeDigit_33 ?_
    refine lv_istore_n (lv' := [(2, .int ((cf (sa + at0)) - (nI 48))), (0, .ref t0), (1, .int (nI b))]) hx hb dX7_takeDigit_34 rfl hl (by decide) rfl (fun ls hl => ?_)
    refine lv_iload_n hx hb dX7_takeDigit_35 rfl (lv_at hl 0 rfl) ?_
    refine lv_if_lt (tgt := 44) hx hb dX7_takeDigit_36 (by decide) (fun c_2 => ?_) (fun c_2 => ?_)
    · skip
      refine lv_bipush (v := (-9 : Int32)) hx hb dX7_takeDigit_44 (by decide +kernel) ?_
      have hq : (dg (cdT cf sa ln) at0 b = true ∧ (-9 : Int32) = nI (dv (cdT cf sa ln) at0) ∧ at0 = at0 + 1 ∧ at0 < ln) ∨ (dg (cdT cf sa ln) at0 b = false ∧ (-9 : Int32) = (-9) ∧ at0 = at0) := by exact Or.inr ⟨by unfold dg; rw [cdT_in (by omega)]; exact kk_out1 c_2, rfl, rfl⟩
      refine kk_QQ hQQ ?_
      exact W.iret (v := (-9 : Int32)) hx hb hr (fun t ht hW => ⟨⟨(-9 : Int32), at0, rfl, hq, by show va_P D vwCl _ t.heap; rw [ht]; exact hP⟩, hS.F ht⟩) hS.2.2 dX7_takeDigit_46
    · skip
      refine lv_iload_n hx hb dX7_takeDigit_39 rfl (lv_at hl 0 rfl) ?_
      refine lv_iload_n hx hb dX7_takeDigit_40 rfl (lv_at hl 2 rfl) ?_
      refine lv_icmp_lt (tgt := 47) hx hb dX7_takeDigit_41 (by decide) (fun c_3 => ?_) (fun c_3 => ?_)
      · skip
        refine lv_aload_n hx hb dX7_takeDigit_47 rfl (lv_at hl 1 rfl) ?_
        refine lv_dup hx hb dX7_takeDigit_48 rfl ?_
        refine va_get (D := D) (ci := 6) (v := .int (nI at0)) (C := RX7) (T := TX7) (N := 4) hx hb hts hwX7 hown hK hP 0 rfl rfl 3 (by decide) hf_9 (fun _ h9 => h9) rfl dX7_takeDigit_49 ?_
        refine lv_iconst (v := nI 1) hx hb dX7_takeDigit_52 (by decide +kernel) ?_
        refine kk_iadd hx hb dX7_takeDigit_53 ?_
        refine va_put (D := D) (ci := 6) (v := .int (nI (at0 + 1))) (ty := .int) (C := RX7) (T := TX7) (N := 4) hx hb hts hwX7 tyX7 tyX7_ok nmX7 hown hK hP hD hS 0 rfl rfl 3 (by decide) hf_9 (fun _ h9 => h9) rfl (by decide +kernel) rfl rfl (Nat.le_of_ble_eq_true rfl) dX7_takeDigit_54 (fun H locs hP hD hS => ?_)
        have hP : va_P D vwCl [(t0, .inr (6, [.ref s0, .int (nI sa), .int (nI ln), .int (nI (at0 + 1))])), (s0, .inr (5, [.ref c0, .int (nI len), .int rl])), (c0, .inl (cI, 60, .inl cf))] H := hP
        have hD : va_D A [(t0, .inr (6, [.ref s0, .int (nI sa), .int (nI ln), .int (nI (at0 + 1))])), (s0, .inr (5, [.ref c0, .int (nI len), .int rl])), (c0, .inl (cI, 60, .inl cf))] := hD
        refine lv_iload_n hx hb dX7_takeDigit_57 rfl (lv_at hl 0 rfl) ?_
        have hq : (dg (cdT cf sa ln) at0 b = true ∧ ((cf (sa + at0)) - (nI 48)) = nI (dv (cdT cf sa ln) at0) ∧ (at0 + 1) = at0 + 1 ∧ at0 < ln) ∨ (dg (cdT cf sa ln) at0 b = false ∧ ((cf (sa + at0)) - (nI 48)) = (-9) ∧ (at0 + 1) = at0) := by
          have h : dg (cdT cf sa ln) at0 b = true := by
            unfold dg
            rw [cdT_in (by omega)]
            obtain ⟨k, hk, e⟩ := kk_lt_of c_2 (Int32.not_le.mpr c_3) (by omega)
            rw [e, inB_n (by omega)]
            exact decide_eq_true hk
          have h2 := (dg_t h).2
          rw [cdT_in (by omega)] at h2
          exact Or.inl ⟨h, h2, rfl, by omega⟩
        refine kk_QQ hQQ ?_
        exact W.iret (v := (cf (sa + at0)) - (nI 48)) hx hb hr (fun t ht hW => ⟨⟨(cf (sa + at0)) - (nI 48), (at0 + 1), rfl, hq, by show va_P D vwCl _ t.heap; rw [ht]; exact hP⟩, hS.F ht⟩) hS.2.2 dX7_takeDigit_58
      · skip
        refine lv_bipush (v := (-9 : Int32)) hx hb dX7_takeDigit_44 (by decide +kernel) ?_
        have hq : (dg (cdT cf sa ln) at0 b = true ∧ (-9 : Int32) = nI (dv (cdT cf sa ln) at0) ∧ at0 = at0 + 1 ∧ at0 < ln) ∨ (dg (cdT cf sa ln) at0 b = false ∧ (-9 : Int32) = (-9) ∧ at0 = at0) := by exact Or.inr ⟨by unfold dg; rw [cdT_in (by omega)]; exact kk_out3 (Int32.not_lt.mp c_3) (by omega), rfl, rfl⟩
        refine kk_QQ hQQ ?_
        exact W.iret (v := (-9 : Int32)) hx hb hr (fun t ht hW => ⟨⟨(-9 : Int32), at0, rfl, hq, by show va_P D vwCl _ t.heap; rw [ht]; exact hP⟩, hS.F ht⟩) hS.2.2 dX7_takeDigit_46
  · skip
    refine lv_bipush (v := (-9 : Int32)) hx hb dX7_takeDigit_11 (by decide +kernel) ?_
    have hq : (dg (cdT cf sa ln) at0 b = true ∧ (-9 : Int32) = nI (dv (cdT cf sa ln) at0) ∧ at0 = at0 + 1 ∧ at0 < ln) ∨ (dg (cdT cf sa ln) at0 b = false ∧ (-9 : Int32) = (-9) ∧ at0 = at0) := by exact Or.inr ⟨by unfold dg; rw [cdT_out (by omega)]; exact kk_out1 (by decide +kernel), rfl, rfl⟩
    refine kk_QQ hQQ ?_
    exact W.iret (v := (-9 : Int32)) hx hb hr (fun t ht hW => ⟨⟨(-9 : Int32), at0, rfl, hq, by show va_P D vwCl _ t.heap; rw [ht]; exact hP⟩, hS.F ht⟩) hS.2.2 dX7_takeDigit_13

abbrev rmX7_takeKind : Room := { frames := 1, cells := 0, slots := 0, locals := 21 }
set_option maxHeartbeats 4000000 in
set_option maxRecDepth 100000 in
theorem c_X7_takeKind (lL : Launch) (D : va_G) (cI cS : ClassId) (sz : Nat) (t0 : Nat) (s0 : Nat) (c0 : Nat) (len : Nat) (rl : Int32) (cf : Nat → Int32) (sa : Nat) (ln : Nat) (at0 : Nat) (hsl : sa + ln ≤ 60) (hat : at0 ≤ ln) : Met lL yX7_takeKind wsX7_takeKind rmX7_takeKind (va_Pc [.ref t0] (kB D cI cS [(t0, .inr (6, [.ref s0, .int (nI sa), .int (nI ln), .int (nI at0)])), (s0, .inr (5, [.ref c0, .int (nI len), .int rl])), (c0, .inl (cI, 60, .inl cf))] sz)) (kQi D (fun (r : Int32) (u : Nat) => (isK ((cdT cf sa ln) at0) = true ∧ r = nI (kdOf ((cdT cf sa ln) at0)) ∧ u = at0 + 1) ∨ (isK ((cdT cf sa ln) at0) = false ∧ r = (-9) ∧ u = at0)) (fun u : Nat => [(t0, .inr (6, [.ref s0, .int (nI sa), .int (nI ln), .int (nI u)])), (s0, .inr (5, [.ref c0, .int (nI len), .int rl])), (c0, .inl (cI, 60, .inl cf))]) (va_A [(t0, .inr (6, [.ref s0, .int (nI sa), .int (nI ln), .int (nI at0)])), (s0, .inr (5, [.ref c0, .int (nI len), .int rl])), (c0, .inl (cI, 60, .inl cf))] sz)) 0 0 (va_A [(t0, .inr (6, [.ref s0, .int (nI sa), .int (nI ln), .int (nI at0)])), (s0, .inr (5, [.ref c0, .int (nI len), .int rl])), (c0, .inl (cI, 60, .inl cf))] sz) := by
  refine Met.ofW (cc := cX7_takeKind) (maxL := 1) (ret := (some .int)) (by decide) rfl ?_
  intro pP eE sS mM args below meth cC s₁ B hml hv
  obtain ⟨rfl, hsz, hP, hK, hD0⟩ := hv
  have hx := B.exec
  have hb := B.bytes
  have hr := B.returns
  have hts := atoms_spec (ws := wsX7_takeKind) B.pre
  have hown : sS.vm.findClass RX7 = some mM.cls := findClass_of_methodNamed B.named
  have hlocks := B.notSynchronized
  subst hsz
  have hD := hD0.self (sz := sS.heap.size)
  generalize hAe : va_A [(t0, .inr (6, [.ref s0, .int (nI sa), .int (nI ln), .int (nI at0)])), (s0, .inr (5, [.ref c0, .int (nI len), .int rl])), (c0, .inl (cI, 60, .inl cf))] sS.heap.size = A at hD ⊢
  have hA : ∀ q : Nat, sS.heap.size ≤ q → A q := fun q h => by rw [← hAe]; exact Or.inr h
  have hS : va_S A sS.heap sS.heap [] := va_S.rf
  have hP : va_P D vwCl [(t0, .inr (6, [.ref s0, .int (nI sa), .int (nI ln), .int (nI at0)])), (s0, .inr (5, [.ref c0, .int (nI len), .int rl])), (c0, .inl (cI, 60, .inl cf))] sS.heap := hP
  have hD : va_D A [(t0, .inr (6, [.ref s0, .int (nI sa), .int (nI ln), .int (nI at0)])), (s0, .inr (5, [.ref c0, .int (nI len), .int rl])), (c0, .inl (cI, 60, .inl cf))] := hD
  have hl := lv_entry ([.ref t0]) (n := 1) (Nat.le_of_ble_eq_true rfl)
  rw [lg_entry_eq]
  generalize (lg_sl ([.ref t0]) ++ List.replicate (1 - (lg_sl ([.ref t0])).length) Slot.unset).toArray = ls at hl ⊢
  have hl : lv_has ls 1 [(0, .ref t0)] := hl
  obtain ⟨QQ, hQQ⟩ : ∃ QQ : State → Prop, QQ = MQ below (kQi D (fun (r : Int32) (u : Nat) => (isK ((cdT cf sa ln) at0) = true ∧ r = nI (kdOf ((cdT cf sa ln) at0)) ∧ u = at0 + 1) ∨ (isK ((cdT cf sa ln) at0) = false ∧ r = (-9) ∧ u = at0)) (fun u : Nat => [(t0, .inr (6, [.ref s0, .int (nI sa), .int (nI ln), .int (nI u)])), (s0, .inr (5, [.ref c0, .int (nI len), .int rl])), (c0, .inl (cI, 60, .inl cf))]) A) ([.ref t0]).toArray sS 0 0 A := ⟨_, rfl⟩
  refine kk_QQ hQQ.symm ?_
  refine lv_aload_n hx hb dX7_takeKind_0 rfl (lv_at hl 0 rfl) ?_
  refine lv_bipush (v := nI 108) hx hb dX7_takeKind_1 (by decide +kernel) ?_
  have o_1 : sa + ln ≤ 60 := by omega
  have o_2 : at0 ≤ ln := by omega
  have o_3 : 108 < 2 ^ 31 := by omega
  have hF := va_free (wc := [(t0, .inr (6, [.ref s0, .int (nI sa), .int (nI ln), .int (nI at0)])), (s0, .inr (5, [.ref c0, .int (nI len), .int rl])), (c0, .inl (cI, 60, .inl cf))]) hD hS hA [0, 1, 2] rfl
  refine va_calli (va_runV (As := [.int (nI 108)]) (rest := []) ⟨hx, hb, hml, hown, hts⟩ (c_X7_takes lL D cI cS _ t0 s0 c0 len rl cf sa ln at0 108 o_1 o_2 o_3) (cwV 1 hts gX7_takeKind_X7_takes rfl rfl rfl cd_X7_takes ⟨Nat.le_of_ble_eq_true rfl, Nat.le_of_ble_eq_true rfl⟩) ⟨kB_blind, va_recv hK hP (ci := 6) (q0 := 0) rfl rfl, fun U hU hW => ⟨rfl, by rw [hU], by rw [hU]; exact hP.sub [0, 1, 2] rfl, va_K.moved hW.alike hK, (hD.sub [0, 1, 2] (by decide) rfl).weaken (fun _ _ _ _ => trivial)⟩⟩ rfl rfl hl.1 rfl (lv_room (Nat.le_of_ble_eq_true rfl)) dX7_takeKind_3 ⟨Nat.le_of_ble_eq_true rfl, Nat.le_of_ble_eq_true rfl⟩) hS (fun q _ h => hF q h) hF (fun r_4 u_4 t H1 locs ht hvm hw_4 hB hz1 hk1 hS => ?_)
  obtain ⟨hP, hD⟩ := kk_join2 (wc := [(t0, .inr (6, [.ref s0, .int (nI sa), .int (nI ln), .int (nI at0)])), (s0, .inr (5, [.ref c0, .int (nI len), .int rl])), (c0, .inl (cI, 60, .inl cf))]) (w1 := [(t0, .inr (6, [.ref s0, .int (nI sa), .int (nI ln), .int (nI u_4)])), (s0, .inr (5, [.ref c0, .int (nI len), .int rl])), (c0, .inl (cI, 60, .inl cf))]) (ws' := [(t0, .inr (6, [.ref s0, .int (nI sa), .int (nI ln), .int (nI u_4)])), (s0, .inr (5, [.ref c0, .int (nI len), .int rl])), (c0, .inl (cI, 60, .inl cf))]) (wr := []) (H1 := H1) hP hD [0, 1, 2] [] rfl rfl rfl rfl 3 rfl (by decide) [t0, s0, c0] rfl rfl hk1 (by rw [← ht]; exact hB)
  have hq_4 : r_4 = kb (decide ((cdT cf sa ln) at0 = nI 108)) ∧ u_4 = at0 + (bif decide ((cdT cf sa ln) at0 = nI 108) then 1 else 0) := hw_4
  clear hF hB hk1 hz1 hvm
  clear ht
  clear hw_4
  generalize H1 = H at hP hS ⊢
  obtain ⟨rfl, hw_4⟩ := hq_4
  -- if (decide ((cdT cf sa ln) at0 = nI 108))
  refine kk_ifb_eq (tgt := 11) hx hb dX7_takeKind_6 (by decide) (fun hb_5 => ?_) (fun hb_5 => ?_)
  · skip
    have e_a5 : at0 = u_4 := by
      have h := hw_4
      rw [hb_5] at h
      exact h.symm
    subst e_a5
    have hx_5 := of_decide_eq_false hb_5
    refine lv_aload_n hx hb dX7_takeKind_11 rfl (lv_at hl 0 rfl) ?_
    refine lv_bipush (v := nI 109) hx hb dX7_takeKind_12 (by decide +kernel) ?_
    have o_6 : sa + ln ≤ 60 := by omega
    have o_7 : (at0) ≤ ln := by omega
    have o_8 : 109 < 2 ^ 31 := by omega
    have hF := va_free (wc := [(t0, .inr (6, [.ref s0, .int (nI sa), .int (nI ln), .int (nI (at0))])), (s0, .inr (5, [.ref c0, .int (nI len), .int rl])), (c0, .inl (cI, 60, .inl cf))]) hD hS hA [0, 1, 2] rfl
    refine va_calli (va_runV (As := [.int (nI 109)]) (rest := []) ⟨hx, hb, hml, hown, hts⟩ (c_X7_takes lL D cI cS _ t0 s0 c0 len rl cf sa ln (at0) 109 o_6 o_7 o_8) (cwV 1 hts gX7_takeKind_X7_takes rfl rfl rfl cd_X7_takes ⟨Nat.le_of_ble_eq_true rfl, Nat.le_of_ble_eq_true rfl⟩) ⟨kB_blind, va_recv hK hP (ci := 6) (q0 := 0) rfl rfl, fun U hU hW => ⟨rfl, by rw [hU], by rw [hU]; exact hP.sub [0, 1, 2] rfl, va_K.moved hW.alike hK, (hD.sub [0, 1, 2] (by decide) rfl).weaken (fun _ _ _ _ => trivial)⟩⟩ rfl rfl hl.1 rfl (lv_room (Nat.le_of_ble_eq_true rfl)) dX7_takeKind_14 ⟨Nat.le_of_ble_eq_true rfl, Nat.le_of_ble_eq_true rfl⟩) hS (fun q _ h => hF q h) hF (fun r_9 u_9 t H1 locs ht hvm hw_9 hB hz1 hk1 hS => ?_)
    obtain ⟨hP, hD⟩ := kk_join2 (wc := [(t0, .inr (6, [.ref s0, .int (nI sa), .int (nI ln), .int (nI (at0))])), (s0, .inr (5, [.ref c0, .int (nI len), .int rl])), (c0, .inl (cI, 60, .inl cf))]) (w1 := [(t0, .inr (6, [.ref s0, .int (nI sa), .int (nI ln), .int (nI u_9)])), (s0, .inr (5, [.ref c0, .int (nI len), .int rl])), (c0, .inl (cI, 60, .inl cf))]) (ws' := [(t0, .inr (6, [.ref s0, .int (nI sa), .int (nI ln), .int (nI u_9)])), (s0, .inr (5, [.ref c0, .int (nI len), .int rl])), (c0, .inl (cI, 60, .inl cf))]) (wr := []) (H1 := H1) hP hD [0, 1, 2] [] rfl rfl rfl rfl 3 rfl (by decide) [t0, s0, c0] rfl rfl hk1 (by rw [← ht]; exact hB)
    have hq_9 : r_9 = kb (decide ((cdT cf sa ln) (at0) = nI 109)) ∧ u_9 = (at0) + (bif decide ((cdT cf sa ln) (at0) = nI 109) then 1 else 0) := hw_9
    clear hF hB hk1 hz1 hvm
    clear ht
    clear hw_9
    generalize H1 = H at hP hS ⊢
    obtain ⟨rfl, hw_9⟩ := hq_9
    -- if (decide ((cdT cf sa ln) (at0) = nI 109))
    refine kk_ifb_eq (tgt := 22) hx hb dX7_takeKind_17 (by decide) (fun hb_10 => ?_) (fun hb_10 => ?_)
    · skip
      have e_a10 : at0 = u_9 := by
        have h := hw_9
        rw [hb_10] at h
        exact h.symm
      subst e_a10
      have hx_10 := of_decide_eq_false hb_10
      refine lv_aload_n hx hb dX7_takeKind_22 rfl (lv_at hl 0 rfl) ?_
      refine lv_bipush (v := nI 102) hx hb dX7_takeKind_23 (by decide +kernel) ?_
      have o_11 : sa + ln ≤ 60 := by omega
      have o_12 : (at0) ≤ ln := by omega
      have o_13 : 102 < 2 ^ 31 := by omega
      have hF := va_free (wc := [(t0, .inr (6, [.ref s0, .int (nI sa), .int (nI ln), .int (nI (at0))])), (s0, .inr (5, [.ref c0, .int (nI len), .int rl])), (c0, .inl (cI, 60, .inl cf))]) hD hS hA [0, 1, 2] rfl
      refine va_calli (va_runV (As := [.int (nI 102)]) (rest := []) ⟨hx, hb, hml, hown, hts⟩ (c_X7_takes lL D cI cS _ t0 s0 c0 len rl cf sa ln (at0) 102 o_11 o_12 o_13) (cwV 1 hts gX7_takeKind_X7_takes rfl rfl rfl cd_X7_takes ⟨Nat.le_of_ble_eq_true rfl, Nat.le_of_ble_eq_true rfl⟩) ⟨kB_blind, va_recv hK hP (ci := 6) (q0 := 0) rfl rfl, fun U hU hW => ⟨rfl, by rw [hU], by rw [hU]; exact hP.sub [0, 1, 2] rfl, va_K.moved hW.alike hK, (hD.sub [0, 1, 2] (by decide) rfl).weaken (fun _ _ _ _ => trivial)⟩⟩ rfl rfl hl.1 rfl (lv_room (Nat.le_of_ble_eq_true rfl)) dX7_takeKind_25 ⟨Nat.le_of_ble_eq_true rfl, Nat.le_of_ble_eq_true rfl⟩) hS (fun q _ h => hF q h) hF (fun r_14 u_14 t H1 locs ht hvm hw_14 hB hz1 hk1 hS => ?_)
      obtain ⟨hP, hD⟩ := kk_join2 (wc := [(t0, .inr (6, [.ref s0, .int (nI sa), .int (nI ln), .int (nI (at0))])), (s0, .inr (5, [.ref c0, .int (nI len), .int rl])), (c0, .inl (cI, 60, .inl cf))]) (w1 := [(t0, .inr (6, [.ref s0, .int (nI sa), .int (nI ln), .int (nI u_14)])), (s0, .inr (5, [.ref c0, .int (nI len), .int rl])), (c0, .inl (cI, 60, .inl cf))]) (ws' := [(t0, .inr (6, [.ref s0, .int (nI sa), .int (nI ln), .int (nI u_14)])), (s0, .inr (5, [.ref c0, .int (nI len), .int rl])), (c0, .inl (cI, 60, .inl cf))]) (wr := []) (H1 := H1) hP hD [0, 1, 2] [] rfl rfl rfl rfl 3 rfl (by decide) [t0, s0, c0] rfl rfl hk1 (by rw [← ht]; exact hB)
      have hq_14 : r_14 = kb (decide ((cdT cf sa ln) (at0) = nI 102)) ∧ u_14 = (at0) + (bif decide ((cdT cf sa ln) (at0) = nI 102) then 1 else 0) := hw_14
      clear hF hB hk1 hz1 hvm
      clear ht
      clear hw_14
      generalize H1 = H at hP hS ⊢
      obtain ⟨rfl, hw_14⟩ := hq_14
      -- if (decide ((cdT cf sa ln) (at0) = nI 102))
      refine kk_ifb_eq (tgt := 35) hx hb dX7_takeKind_28 (by decide) (fun hb_15 => ?_) (fun hb_15 => ?_)
      · skip
        have e_a15 : at0 = u_14 := by
          have h := hw_14
          rw [hb_15] at h
          exact h.symm
        subst e_a15
        have hx_15 := of_decide_eq_false hb_15
        refine lv_bipush (v := (-9 : Int32)) hx hb dX7_takeKind_35 (by decide +kernel) ?_
        have hq : (isK ((cdT cf sa ln) at0) = true ∧ (-9 : Int32) = nI (kdOf ((cdT cf sa ln) at0)) ∧ (at0) = at0 + 1) ∨ (isK ((cdT cf sa ln) at0) = false ∧ (-9 : Int32) = (-9) ∧ (at0) = at0) := by exact Or.inr ⟨isK_n hx_5 hx_10 hx_15, rfl, rfl⟩
        refine kk_QQ hQQ ?_
        exact W.iret (v := (-9 : Int32)) hx hb hr (fun t ht hW => ⟨⟨(-9 : Int32), (at0), rfl, hq, by show va_P D vwCl _ t.heap; rw [ht]; exact hP⟩, hS.F ht⟩) hS.2.2 dX7_takeKind_37
      · skip
        have e_a15 : at0 + 1 = u_14 := by
          have h := hw_14
          rw [hb_15] at h
          exact h.symm
        subst e_a15
        have hx_15 := of_decide_eq_true hb_15
        refine lv_iconst (v := nI 2) hx hb dX7_takeKind_31 (by decide +kernel) ?_
        refine lv_goto (tgt := 37) hx hb dX7_takeKind_32 (by decide) ?_
        have hq : (isK ((cdT cf sa ln) at0) = true ∧ (nI 2) = nI (kdOf ((cdT cf sa ln) at0)) ∧ (at0 + 1) = at0 + 1) ∨ (isK ((cdT cf sa ln) at0) = false ∧ (nI 2) = (-9) ∧ (at0 + 1) = at0) := by exact Or.inl ⟨(isK_2 hx_5 hx_10 hx_15).1, by rw [(isK_2 hx_5 hx_10 hx_15).2], rfl⟩
        refine kk_QQ hQQ ?_
        exact W.iret (v := nI 2) hx hb hr (fun t ht hW => ⟨⟨nI 2, (at0 + 1), rfl, hq, by show va_P D vwCl _ t.heap; rw [ht]; exact hP⟩, hS.F ht⟩) hS.2.2 dX7_takeKind_37
    · skip
      have e_a10 : at0 + 1 = u_9 := by
        have h := hw_9
        rw [hb_10] at h
        exact h.symm
      subst e_a10
      have hx_10 := of_decide_eq_true hb_10
      refine lv_iconst (v := nI 1) hx hb dX7_takeKind_20 (by decide +kernel) ?_
      have hq : (isK ((cdT cf sa ln) at0) = true ∧ (nI 1) = nI (kdOf ((cdT cf sa ln) at0)) ∧ (at0 + 1) = at0 + 1) ∨ (isK ((cdT cf sa ln) at0) = false ∧ (nI 1) = (-9) ∧ (at0 + 1) = at0) := by exact Or.inl ⟨(isK_1 hx_5 hx_10).1, by rw [(isK_1 hx_5 hx_10).2], rfl⟩
      refine kk_QQ hQQ ?_
      exact W.iret (v := nI 1) hx hb hr (fun t ht hW => ⟨⟨nI 1, (at0 + 1), rfl, hq, by show va_P D vwCl _ t.heap; rw [ht]; exact hP⟩, hS.F ht⟩) hS.2.2 dX7_takeKind_21
  · skip
    have e_a5 : at0 + 1 = u_4 := by
      have h := hw_4
      rw [hb_5] at h
      exact h.symm
    subst e_a5
    have hx_5 := of_decide_eq_true hb_5
    refine lv_iconst (v := nI 0) hx hb dX7_takeKind_9 (by decide +kernel) ?_
    have hq : (isK ((cdT cf sa ln) at0) = true ∧ (nI 0) = nI (kdOf ((cdT cf sa ln) at0)) ∧ (at0 + 1) = at0 + 1) ∨ (isK ((cdT cf sa ln) at0) = false ∧ (nI 0) = (-9) ∧ (at0 + 1) = at0) := by exact Or.inl ⟨(isK_0 hx_5).1, by rw [(isK_0 hx_5).2], rfl⟩
    refine kk_QQ hQQ ?_
    exact W.iret (v := nI 0) hx hb hr (fun t ht hW => ⟨⟨nI 0, (at0 + 1), rfl, hq, by show va_P D vwCl _ t.heap; rw [ht]; exact hP⟩, hS.F ht⟩) hS.2.2 dX7_takeKind_10

abbrev rmX7_readsSky : Room := { frames := 1, cells := 0, slots := 0, locals := 22 }
set_option maxHeartbeats 4000000 in
set_option maxRecDepth 100000 in
theorem c_X7_readsSky (lL : Launch) (D : va_G) (cI cS : ClassId) (sz : Nat) (t0 : Nat) (s0 : Nat) (c0 : Nat) (len : Nat) (rl : Int32) (cf : Nat → Int32) (sa : Nat) (ln : Nat) (q0 : Nat) (q1 : Nat) (q2 : Nat) (q3 : Nat) (q4 : Nat) (q5 : Nat) (y1 : Int32) (y2 : Int32) (y3 : Int32) (sk2 : Nat → Int32) (hsl : sa + ln ≤ 60) : Met lL yX7_readsSky wsX7_readsSky rmX7_readsSky (va_Pc [.ref t0, .ref q0] (kB D cI cS [(t0, .inr (6, [.ref s0, .int (nI sa), .int (nI ln), .int (nI 0)])), (s0, .inr (5, [.ref c0, .int (nI len), .int rl])), (c0, .inl (cI, 60, .inl cf)), (q0, .inr (1, [.int y1, .int y2, .int y3, .ref q1, .ref q2, .ref q3, .ref q4, .ref q5])), (q1, .inl (cI, 6, .inl sk2))] sz)) (kQi D (fun (r : Int32) (u : Nat × (Nat → Int32)) => u.1 ≤ ln ∧ ((r = nI 1 ∧ u.1 = 7 ∧ oSk (cdT cf sa ln) ∧ ∀ j, j < 6 → u.2 j = nI (dv (cdT cf sa ln) (1 + j))) ∨ (r = nI 0 ∧ rdT (cdT cf sa ln) ln = (false, u.1)))) (fun u : Nat × (Nat → Int32) => [(t0, .inr (6, [.ref s0, .int (nI sa), .int (nI ln), .int (nI u.1)])), (s0, .inr (5, [.ref c0, .int (nI len), .int rl])), (c0, .inl (cI, 60, .inl cf)), (q0, .inr (1, [.int y1, .int y2, .int y3, .ref q1, .ref q2, .ref q3, .ref q4, .ref q5])), (q1, .inl (cI, 6, .inl u.2))]) (va_A [(t0, .inr (6, [.ref s0, .int (nI sa), .int (nI ln), .int (nI 0)])), (s0, .inr (5, [.ref c0, .int (nI len), .int rl])), (c0, .inl (cI, 60, .inl cf)), (q0, .inr (1, [.int y1, .int y2, .int y3, .ref q1, .ref q2, .ref q3, .ref q4, .ref q5])), (q1, .inl (cI, 6, .inl sk2))] sz)) 0 0 (va_A [(t0, .inr (6, [.ref s0, .int (nI sa), .int (nI ln), .int (nI 0)])), (s0, .inr (5, [.ref c0, .int (nI len), .int rl])), (c0, .inl (cI, 60, .inl cf)), (q0, .inr (1, [.int y1, .int y2, .int y3, .ref q1, .ref q2, .ref q3, .ref q4, .ref q5])), (q1, .inl (cI, 6, .inl sk2))] sz) := by
  refine Met.ofW (cc := cX7_readsSky) (maxL := 4) (ret := (some .boolean)) (by decide) rfl ?_
  intro pP eE sS mM args below meth cC s₁ B hml hv
  obtain ⟨rfl, hsz, hP, hK, hD0⟩ := hv
  have hx := B.exec
  have hb := B.bytes
  have hr := B.returns
  have hts := atoms_spec (ws := wsX7_readsSky) B.pre
  have hown : sS.vm.findClass RX7 = some mM.cls := findClass_of_methodNamed B.named
  have hlocks := B.notSynchronized
  subst hsz
  have hD := hD0.self (sz := sS.heap.size)
  generalize hAe : va_A [(t0, .inr (6, [.ref s0, .int (nI sa), .int (nI ln), .int (nI 0)])), (s0, .inr (5, [.ref c0, .int (nI len), .int rl])), (c0, .inl (cI, 60, .inl cf)), (q0, .inr (1, [.int y1, .int y2, .int y3, .ref q1, .ref q2, .ref q3, .ref q4, .ref q5])), (q1, .inl (cI, 6, .inl sk2))] sS.heap.size = A at hD ⊢
  have hA : ∀ q : Nat, sS.heap.size ≤ q → A q := fun q h => by rw [← hAe]; exact Or.inr h
  have hS : va_S A sS.heap sS.heap [] := va_S.rf
  have hP : va_P D vwCl [(t0, .inr (6, [.ref s0, .int (nI sa), .int (nI ln), .int (nI 0)])), (s0, .inr (5, [.ref c0, .int (nI len), .int rl])), (c0, .inl (cI, 60, .inl cf)), (q0, .inr (1, [.int y1, .int y2, .int y3, .ref q1, .ref q2, .ref q3, .ref q4, .ref q5])), (q1, .inl (cI, 6, .inl sk2))] sS.heap := hP
  have hD : va_D A [(t0, .inr (6, [.ref s0, .int (nI sa), .int (nI ln), .int (nI 0)])), (s0, .inr (5, [.ref c0, .int (nI len), .int rl])), (c0, .inl (cI, 60, .inl cf)), (q0, .inr (1, [.int y1, .int y2, .int y3, .ref q1, .ref q2, .ref q3, .ref q4, .ref q5])), (q1, .inl (cI, 6, .inl sk2))] := hD
  have hf_48 := hts (.fieldLink RX7 48 "OldLamps$Ground" "skies" "[I") (List.mem_of_getElem? (i := 1) rfl)
  have hwX2 : ∀ w ∈ wsX20, w ∈ wsX7_readsSky := fun _ h => List.mem_cons_of_mem _ (List.mem_append_left _ (List.mem_append_left _ (List.mem_append_right _ h)))
  have hl := lv_entry ([.ref t0, .ref q0]) (n := 4) (Nat.le_of_ble_eq_true rfl)
  rw [lg_entry_eq]
  generalize (lg_sl ([.ref t0, .ref q0]) ++ List.replicate (4 - (lg_sl ([.ref t0, .ref q0])).length) Slot.unset).toArray = ls at hl ⊢
  have hl : lv_has ls 4 [(0, .ref t0), (1, .ref q0)] := hl
  obtain ⟨QQ, hQQ⟩ : ∃ QQ : State → Prop, QQ = MQ below (kQi D (fun (r : Int32) (u : Nat × (Nat → Int32)) => u.1 ≤ ln ∧ ((r = nI 1 ∧ u.1 = 7 ∧ oSk (cdT cf sa ln) ∧ ∀ j, j < 6 → u.2 j = nI (dv (cdT cf sa ln) (1 + j))) ∨ (r = nI 0 ∧ rdT (cdT cf sa ln) ln = (false, u.1)))) (fun u : Nat × (Nat → Int32) => [(t0, .inr (6, [.ref s0, .int (nI sa), .int (nI ln), .int (nI u.1)])), (s0, .inr (5, [.ref c0, .int (nI len), .int rl])), (c0, .inl (cI, 60, .inl cf)), (q0, .inr (1, [.int y1, .int y2, .int y3, .ref q1, .ref q2, .ref q3, .ref q4, .ref q5])), (q1, .inl (cI, 6, .inl u.2))]) A) ([.ref t0, .ref q0]).toArray sS 0 0 A := ⟨_, rfl⟩
  refine kk_QQ hQQ.symm ?_
  refine lv_aload_n hx hb dX7_readsSky_0 rfl (lv_at hl 0 rfl) ?_
  refine lv_bipush (v := nI 111) hx hb dX7_readsSky_1 (by decide +kernel) ?_
  have o_1 : sa + ln ≤ 60 := by omega
  have o_2 : 0 ≤ ln := by exact Nat.zero_le _
  have o_3 : 111 < 2 ^ 31 := by omega
  have hF := va_free (wc := [(t0, .inr (6, [.ref s0, .int (nI sa), .int (nI ln), .int (nI 0)])), (s0, .inr (5, [.ref c0, .int (nI len), .int rl])), (c0, .inl (cI, 60, .inl cf))]) hD hS hA [0, 1, 2] rfl
  refine va_calli (va_runV (As := [.int (nI 111)]) (rest := []) ⟨hx, hb, hml, hown, hts⟩ (c_X7_takes lL D cI cS _ t0 s0 c0 len rl cf sa ln 0 111 o_1 o_2 o_3) (cwV 1 hts gX7_readsSky_X7_takes rfl rfl rfl cd_X7_takes ⟨Nat.le_of_ble_eq_true rfl, Nat.le_of_ble_eq_true rfl⟩) ⟨kB_blind, va_recv hK hP (ci := 6) (q0 := 0) rfl rfl, fun U hU hW => ⟨rfl, by rw [hU], by rw [hU]; exact hP.sub [0, 1, 2] rfl, va_K.moved hW.alike hK, (hD.sub [0, 1, 2] (by decide) rfl).weaken (fun _ _ _ _ => trivial)⟩⟩ rfl rfl hl.1 rfl (lv_room (Nat.le_of_ble_eq_true rfl)) dX7_readsSky_3 ⟨Nat.le_of_ble_eq_true rfl, Nat.le_of_ble_eq_true rfl⟩) hS (fun q _ h => hF q h) hF (fun r_4 u_4 t H1 locs ht hvm hw_4 hB hz1 hk1 hS => ?_)
  obtain ⟨hP, hD⟩ := kk_join2 (wc := [(t0, .inr (6, [.ref s0, .int (nI sa), .int (nI ln), .int (nI 0)])), (s0, .inr (5, [.ref c0, .int (nI len), .int rl])), (c0, .inl (cI, 60, .inl cf))]) (w1 := [(t0, .inr (6, [.ref s0, .int (nI sa), .int (nI ln), .int (nI u_4)])), (s0, .inr (5, [.ref c0, .int (nI len), .int rl])), (c0, .inl (cI, 60, .inl cf))]) (ws' := [(t0, .inr (6, [.ref s0, .int (nI sa), .int (nI ln), .int (nI u_4)])), (s0, .inr (5, [.ref c0, .int (nI len), .int rl])), (c0, .inl (cI, 60, .inl cf)), (q0, .inr (1, [.int y1, .int y2, .int y3, .ref q1, .ref q2, .ref q3, .ref q4, .ref q5])), (q1, .inl (cI, 6, .inl sk2))]) (wr := [(q0, .inr (1, [.int y1, .int y2, .int y3, .ref q1, .ref q2, .ref q3, .ref q4, .ref q5])), (q1, .inl (cI, 6, .inl sk2))]) (H1 := H1) hP hD [0, 1, 2] [3, 4] rfl rfl rfl rfl 5 rfl (by decide) [t0, s0, c0, q0, q1] rfl rfl hk1 (by rw [← ht]; exact hB)
  have hq_4 : r_4 = kb (decide ((cdT cf sa ln) 0 = nI 111)) ∧ u_4 = 0 + (bif decide ((cdT cf sa ln) 0 = nI 111) then 1 else 0) := hw_4
  clear hF hB hk1 hz1 hvm
  clear ht
  clear hw_4
  generalize H1 = H at hP hS ⊢
  obtain ⟨rfl, hw_4⟩ := hq_4
  -- if (decide ((cdT cf sa ln) 0 = nI 111))
  refine kk_ifb_ne (tgt := 11) hx hb dX7_readsSky_6 (by decide) (fun hb_5 => ?_) (fun hb_5 => ?_)
  · skip
    have h0ln : 0 < ln := by
      refine Classical.byContradiction fun z => ?_
      have h := of_decide_eq_true hb_5
      rw [cdT_out z] at h
      exact neg9 (by decide) h
    have e_a5 : 0 + 1 = u_4 := by
      have h := hw_4
      rw [hb_5] at h
      exact h.symm
    subst e_a5
    have hx_5 := of_decide_eq_true hb_5
    refine lv_iconst (v := nI 0) hx hb dX7_readsSky_11 (by decide +kernel) ?_
    refine lv_istore_n (lv' := [(2, .int (nI 0)), (0, .ref t0), (1, .ref q0)]) hx hb dX7_readsSky_12 rfl hl (by decide) rfl (fun ls hl => ?_)
    have L_13 : ∀ (n_13 : Nat) (w : Nat) (a : Nat) (skX : Nat → Int32), (w ≤ 6) → (a = 1 + w) → (a ≤ ln) → (∀ j, j < w → dg (cdT cf sa ln) (1 + j) 10 = true) → (∀ j, j < w → skX j = nI (dv (cdT cf sa ln) (1 + j))) → 7 ≤ w + n_13 → ∀ (H : Heap) (locs : List Loc), va_P D vwCl [(t0, .inr (6, [.ref s0, .int (nI sa), .int (nI ln), .int (nI a)])), (s0, .inr (5, [.ref c0, .int (nI len), .int rl])), (c0, .inl (cI, 60, .inl cf)), (q0, .inr (1, [.int y1, .int y2, .int y3, .ref q1, .ref q2, .ref q3, .ref q4, .ref q5])), (q1, .inl (cI, 6, .inl skX))] H → va_D A [(t0, .inr (6, [.ref s0, .int (nI sa), .int (nI ln), .int (nI a)])), (s0, .inr (5, [.ref c0, .int (nI len), .int rl])), (c0, .inl (cI, 60, .inl cf)), (q0, .inr (1, [.int y1, .int y2, .int y3, .ref q1, .ref q2, .ref q3, .ref q4, .ref q5])), (q1, .inl (cI, 6, .inl skX))] → va_S A sS.heap H locs → ∀ (ls : Array Slot), lv_has ls 4 [(2, .int (nI w)), (0, .ref t0), (1, .ref q0)] → W pP lL eE (headSpec wsX7_readsSky rmX7_readsSky).room sS mM ([.ref t0, .ref q0]).toArray below meth cC H locs 0 0 QQ (F0 mM 13 ls []) := by
      intro n_13
      induction n_13 with
      | zero =>
        intro w a skX hw ea hal z1 z2 hn_13 H locs hP hD hS ls hl
        exact absurd hn_13 (by omega)
      | succ n_13 ih_13 =>
        intro w a skX hw ea hal z1 z2 hn_13 H locs hP hD hS ls hl
        subst ea
        refine lv_iload_n hx hb dX7_readsSky_13 rfl (lv_at hl 0 rfl) ?_
        refine lv_bipush (v := nI 6) hx hb dX7_readsSky_14 (by decide +kernel) ?_
        refine kk_icmp_ge (tgt := 45) hx hb dX7_readsSky_16 (by decide) (by omega) (by omega) (fun c_6 => ?_) (fun c_6 => ?_)
        · skip
          refine lv_iconst (v := nI 1) hx hb dX7_readsSky_45 (by decide +kernel) ?_
          have hq : (1 + w) ≤ ln ∧ (((nI 1) = nI 1 ∧ (1 + w) = 7 ∧ oSk (cdT cf sa ln) ∧ ∀ j, j < 6 → skX j = nI (dv (cdT cf sa ln) (1 + j))) ∨ ((nI 1) = nI 0 ∧ rdT (cdT cf sa ln) ln = (false, (1 + w)))) := by
            have e_w : w = 6 := by omega
            subst e_w
            exact ⟨by omega, Or.inl ⟨rfl, rfl, ⟨hx_5, z1⟩, z2⟩⟩
          refine kk_QQ hQQ ?_
          exact W.zret (v := nI 1) (ty := .boolean) hx hb hr (by decide +kernel) (fun t ht hW => ⟨⟨nI 1, ((1 + w), skX), rfl, hq, by show va_P D vwCl _ t.heap; rw [ht]; exact hP⟩, hS.F ht⟩) hS.2.2 dX7_readsSky_46
        · skip
          refine lv_aload_n hx hb dX7_readsSky_19 rfl (lv_at hl 1 rfl) ?_
          refine lv_bipush (v := nI 10) hx hb dX7_readsSky_20 (by decide +kernel) ?_
          have o_7 : sa + ln ≤ 60 := by omega
          have o_8 : (1 + w) ≤ ln := by omega
          have o_9 : 10 ≤ 10 := by omega
          have hF := va_free (wc := [(t0, .inr (6, [.ref s0, .int (nI sa), .int (nI ln), .int (nI (1 + w))])), (s0, .inr (5, [.ref c0, .int (nI len), .int rl])), (c0, .inl (cI, 60, .inl cf))]) hD hS hA [0, 1, 2] rfl
          refine va_calli (va_runV (As := [.int (nI 10)]) (rest := []) ⟨hx, hb, hml, hown, hts⟩ (c_X7_takeDigit lL D cI cS _ t0 s0 c0 len rl cf sa ln (1 + w) 10 o_7 o_8 o_9) (cwV 1 hts gX7_readsSky_X7_takeDigit rfl rfl rfl cd_X7_takeDigit ⟨Nat.le_of_ble_eq_true rfl, Nat.le_of_ble_eq_true rfl⟩) ⟨kB_blind, va_recv hK hP (ci := 6) (q0 := 0) rfl rfl, fun U hU hW => ⟨rfl, by rw [hU], by rw [hU]; exact hP.sub [0, 1, 2] rfl, va_K.moved hW.alike hK, (hD.sub [0, 1, 2] (by decide) rfl).weaken (fun _ _ _ _ => trivial)⟩⟩ rfl rfl hl.1 rfl (lv_room (Nat.le_of_ble_eq_true rfl)) dX7_readsSky_22 ⟨Nat.le_of_ble_eq_true rfl, Nat.le_of_ble_eq_true rfl⟩) hS (fun q _ h => hF q h) hF (fun r_10 u_10 t H1 locs ht hvm hw_10 hB hz1 hk1 hS => ?_)
          obtain ⟨hP, hD⟩ := kk_join2 (wc := [(t0, .inr (6, [.ref s0, .int (nI sa), .int (nI ln), .int (nI (1 + w))])), (s0, .inr (5, [.ref c0, .int (nI len), .int rl])), (c0, .inl (cI, 60, .inl cf))]) (w1 := [(t0, .inr (6, [.ref s0, .int (nI sa), .int (nI ln), .int (nI u_10)])), (s0, .inr (5, [.ref c0, .int (nI len), .int rl])), (c0, .inl (cI, 60, .inl cf))]) (ws' := [(t0, .inr (6, [.ref s0, .int (nI sa), .int (nI ln), .int (nI u_10)])), (s0, .inr (5, [.ref c0, .int (nI len), .int rl])), (c0, .inl (cI, 60, .inl cf)), (q0, .inr (1, [.int y1, .int y2, .int y3, .ref q1, .ref q2, .ref q3, .ref q4, .ref q5])), (q1, .inl (cI, 6, .inl skX))]) (wr := [(q0, .inr (1, [.int y1, .int y2, .int y3, .ref q1, .ref q2, .ref q3, .ref q4, .ref q5])), (q1, .inl (cI, 6, .inl skX))]) (H1 := H1) hP hD [0, 1, 2] [3, 4] rfl rfl rfl rfl 5 rfl (by decide) [t0, s0, c0, q0, q1] rfl rfl hk1 (by rw [← ht]; exact hB)
          have hw_10 : (dg (cdT cf sa ln) (1 + w) 10 = true ∧ r_10 = nI (dv (cdT cf sa ln) (1 + w)) ∧ u_10 = (1 + w) + 1 ∧ (1 + w) < ln) ∨ (dg (cdT cf sa ln) (1 + w) 10 = false ∧ r_10 = (-9) ∧ u_10 = (1 + w)) := hw_10
          clear hF hB hk1 hz1 hvm
          clear ht
          generalize H1 = H at hP hS ⊢
          rcases hw_10 with ⟨dq1, dq2, dq3, dq4⟩ | ⟨dq1, dq2, dq3⟩
          · skip
            have dq2 := dq2.symm
            have dq3 := dq3.symm
            subst dq2 dq3
            have qd := (dg_t dq1).1
            refine lv_istore_n (lv' := [(3, .int (nI (dv (cdT cf sa ln) (1 + w)))), (2, .int (nI w)), (0, .ref t0), (1, .ref q0)]) hx hb dX7_readsSky_25 rfl hl (by decide) rfl (fun ls hl => ?_)
            refine lv_iload_n hx hb dX7_readsSky_26 rfl (lv_at hl 0 rfl) ?_
            refine kk_if_ge (tgt := 32) hx hb dX7_readsSky_27 (by decide) (by omega) ?_
            refine lv_aload_n hx hb dX7_readsSky_32 rfl (lv_at hl 3 rfl) ?_
            refine va_get (D := D) (ci := 1) (v := .ref q1) (C := RX2) (T := TX2) (N := 8) hx hb hts hwX2 hown hK hP 3 rfl rfl 3 (by decide) hf_48 (fun _ h9 => h9) rfl dX7_readsSky_33 ?_
            refine lv_iload_n hx hb dX7_readsSky_36 rfl (lv_at hl 1 rfl) ?_
            refine lv_iload_n hx hb dX7_readsSky_37 rfl (lv_at hl 0 rfl) ?_
            refine kk_iast hx hb hK hP hD hS 4 rfl rfl (i := w) (by omega) (by decide) dX7_readsSky_38 (fun H locs hP hD hS => ?_)
            have hP : va_P D vwCl [(t0, .inr (6, [.ref s0, .int (nI sa), .int (nI ln), .int (nI ((1 + w) + 1))])), (s0, .inr (5, [.ref c0, .int (nI len), .int rl])), (c0, .inl (cI, 60, .inl cf)), (q0, .inr (1, [.int y1, .int y2, .int y3, .ref q1, .ref q2, .ref q3, .ref q4, .ref q5])), (q1, .inl (cI, 6, .inl (upd skX w (nI (dv (cdT cf sa ln) (1 + w))))))] H := hP
            have hD : va_D A [(t0, .inr (6, [.ref s0, .int (nI sa), .int (nI ln), .int (nI ((1 + w) + 1))])), (s0, .inr (5, [.ref c0, .int (nI len), .int rl])), (c0, .inl (cI, 60, .inl cf)), (q0, .inr (1, [.int y1, .int y2, .int y3, .ref q1, .ref q2, .ref q3, .ref q4, .ref q5])), (q1, .inl (cI, 6, .inl (upd skX w (nI (dv (cdT cf sa ln) (1 + w))))))] := hD
            refine lv_iinc (v := nI (w + 1)) (lv' := [(2, .int (nI (w + 1))), (3, .int (nI (dv (cdT cf sa ln) (1 + w)))), (0, .ref t0), (1, .ref q0)]) hx hb dX7_readsSky_39 hl (k := 1) rfl (nI_add w 1) (by decide) rfl (fun ls hl => ?_)
            refine lv_goto (tgt := 13) hx hb dX7_readsSky_42 (by decide) ?_
            have o_11 : (w + 1) ≤ 6 := by omega
            have o_12 : ((1 + w) + 1) = 1 + (w + 1) := by omega
            have o_13 : ((1 + w) + 1) ≤ ln := by omega
            have o_14 : ∀ j, j < (w + 1) → dg (cdT cf sa ln) (1 + j) 10 = true := by
              intro j h
              by_cases e : j = w
              · subst e; exact dq1
              · exact z1 j (by omega)
            have o_15 : ∀ j, j < (w + 1) → (upd skX w (nI (dv (cdT cf sa ln) (1 + w)))) j = nI (dv (cdT cf sa ln) (1 + j)) := by
              intro j h
              by_cases e : j = w
              · subst e; exact up_at _ _ _
              · rw [up_ne _ _ e]; exact z2 j (by omega)
            have o_16 : 7 ≤ (w + 1) + n_13 := by omega
            exact ih_13 (w + 1) ((1 + w) + 1) (upd skX w (nI (dv (cdT cf sa ln) (1 + w)))) o_11 o_12 o_13 o_14 o_15 o_16 _ _ hP hD hS ls (lv_sub hl [0, 2, 3] rfl)
          · skip
            have dq2 := dq2.symm
            have dq3 := dq3.symm
            subst dq2 dq3
            refine lv_istore_n (lv' := [(3, .int (-9 : Int32)), (2, .int (nI w)), (0, .ref t0), (1, .ref q0)]) hx hb dX7_readsSky_25 rfl hl (by decide) rfl (fun ls hl => ?_)
            refine lv_iload_n hx hb dX7_readsSky_26 rfl (lv_at hl 0 rfl) ?_
            refine lv_if_ge (tgt := 32) hx hb dX7_readsSky_27 (by decide) (fun h => absurd h (by decide)) (fun h => ?_)
            refine lv_iconst (v := nI 0) hx hb dX7_readsSky_30 (by decide +kernel) ?_
            have hq : ((1 + w)) ≤ ln ∧ (((nI 0) = nI 1 ∧ ((1 + w)) = 7 ∧ oSk (cdT cf sa ln) ∧ ∀ j, j < 6 → skX j = nI (dv (cdT cf sa ln) (1 + j))) ∨ ((nI 0) = nI 0 ∧ rdT (cdT cf sa ln) ln = (false, ((1 + w))))) := by exact ⟨by omega, Or.inr ⟨rfl, rdT_sky hx_5 (by omega) z1 dq1⟩⟩
            refine kk_QQ hQQ ?_
            exact W.zret (v := nI 0) (ty := .boolean) hx hb hr (by decide +kernel) (fun t ht hW => ⟨⟨nI 0, (((1 + w)), skX), rfl, hq, by show va_P D vwCl _ t.heap; rw [ht]; exact hP⟩, hS.F ht⟩) hS.2.2 dX7_readsSky_31
    have o_17 : 0 ≤ 6 := by omega
    have o_18 : (0 + 1) = 1 + 0 := by omega
    have o_19 : (0 + 1) ≤ ln := by omega
    have o_20 : ∀ j, j < 0 → dg (cdT cf sa ln) (1 + j) 10 = true := by intro j h; omega
    have o_21 : ∀ j, j < 0 → sk2 j = nI (dv (cdT cf sa ln) (1 + j)) := by intro j h; omega
    have o_22 : 7 ≤ 0 + 7 := by omega
    exact L_13 7 0 (0 + 1) sk2 o_17 o_18 o_19 o_20 o_21 o_22 _ _ hP hD hS ls (lv_sub hl [0, 1, 2] rfl)
  · skip
    have e_a5 : 0 = u_4 := by
      have h := hw_4
      rw [hb_5] at h
      exact h.symm
    subst e_a5
    have hx_5 := of_decide_eq_false hb_5
    refine lv_iconst (v := nI 0) hx hb dX7_readsSky_9 (by decide +kernel) ?_
    have hq : (0) ≤ ln ∧ (((nI 0) = nI 1 ∧ (0) = 7 ∧ oSk (cdT cf sa ln) ∧ ∀ j, j < 6 → sk2 j = nI (dv (cdT cf sa ln) (1 + j))) ∨ ((nI 0) = nI 0 ∧ rdT (cdT cf sa ln) ln = (false, (0)))) := by exact ⟨Nat.zero_le _, Or.inr ⟨rfl, rdT_o hx_5⟩⟩
    refine kk_QQ hQQ ?_
    exact W.zret (v := nI 0) (ty := .boolean) hx hb hr (by decide +kernel) (fun t ht hW => ⟨⟨nI 0, ((0), sk2), rfl, hq, by show va_P D vwCl _ t.heap; rw [ht]; exact hP⟩, hS.F ht⟩) hS.2.2 dX7_readsSky_10

abbrev rmX7_readsSpots : Room := { frames := 1, cells := 0, slots := 0, locals := 22 }
set_option maxHeartbeats 4000000 in
set_option maxRecDepth 100000 in
theorem c_X7_readsSpots (lL : Launch) (D : va_G) (cI cS : ClassId) (sz : Nat) (t0 : Nat) (s0 : Nat) (c0 : Nat) (len : Nat) (rl : Int32) (cf : Nat → Int32) (sa : Nat) (ln : Nat) (q0 : Nat) (q1 : Nat) (q2 : Nat) (q3 : Nat) (q4 : Nat) (q5 : Nat) (y2 : Int32) (y3 : Int32) (sh2 : Nat → Int32) (hsl : sa + ln ≤ 60) (h7 : 7 ≤ ln) (hok : oSk (cdT cf sa ln)) : Met lL yX7_readsSpots wsX7_readsSpots rmX7_readsSpots (va_Pc [.ref t0, .ref q0] (kB D cI cS [(t0, .inr (6, [.ref s0, .int (nI sa), .int (nI ln), .int (nI 7)])), (s0, .inr (5, [.ref c0, .int (nI len), .int rl])), (c0, .inl (cI, 60, .inl cf)), (q0, .inr (1, [.int (nI 0), .int y2, .int y3, .ref q1, .ref q2, .ref q3, .ref q4, .ref q5])), (q2, .inl (cI, 4, .inl sh2))] sz)) (kQi D (fun (r : Int32) (u : Nat × Nat × (Nat → Int32)) => u.1 ≤ ln ∧ ((r = nI 1 ∧ u.1 = aLa (cdT cf sa ln) ∧ u.2.1 = rSp (cdT cf sa ln) ∧ oSp (cdT cf sa ln) ∧ ∀ j, j < u.2.1 → u.2.2 j = nI (dv (cdT cf sa ln) (8 + 2 * j))) ∨ (r = nI 0 ∧ rdT (cdT cf sa ln) ln = (false, u.1)))) (fun u : Nat × Nat × (Nat → Int32) => [(t0, .inr (6, [.ref s0, .int (nI sa), .int (nI ln), .int (nI u.1)])), (s0, .inr (5, [.ref c0, .int (nI len), .int rl])), (c0, .inl (cI, 60, .inl cf)), (q0, .inr (1, [.int (nI u.2.1), .int y2, .int y3, .ref q1, .ref q2, .ref q3, .ref q4, .ref q5])), (q2, .inl (cI, 4, .inl u.2.2))]) (va_A [(t0, .inr (6, [.ref s0, .int (nI sa), .int (nI ln), .int (nI 7)])), (s0, .inr (5, [.ref c0, .int (nI len), .int rl])), (c0, .inl (cI, 60, .inl cf)), (q0, .inr (1, [.int (nI 0), .int y2, .int y3, .ref q1, .ref q2, .ref q3, .ref q4, .ref q5])), (q2, .inl (cI, 4, .inl sh2))] sz)) 0 0 (va_A [(t0, .inr (6, [.ref s0, .int (nI sa), .int (nI ln), .int (nI 7)])), (s0, .inr (5, [.ref c0, .int (nI len), .int rl])), (c0, .inl (cI, 60, .inl cf)), (q0, .inr (1, [.int (nI 0), .int y2, .int y3, .ref q1, .ref q2, .ref q3, .ref q4, .ref q5])), (q2, .inl (cI, 4, .inl sh2))] sz) := by
  refine Met.ofW (cc := cX7_readsSpots) (maxL := 4) (ret := (some .boolean)) (by decide) rfl ?_
  intro pP eE sS mM args below meth cC s₁ B hml hv
  obtain ⟨rfl, hsz, hP, hK, hD0⟩ := hv
  have hx := B.exec
  have hb := B.bytes
  have hr := B.returns
  have hts := atoms_spec (ws := wsX7_readsSpots) B.pre
  have hown : sS.vm.findClass RX7 = some mM.cls := findClass_of_methodNamed B.named
  have hlocks := B.notSynchronized
  subst hsz
  have hD := hD0.self (sz := sS.heap.size)
  generalize hAe : va_A [(t0, .inr (6, [.ref s0, .int (nI sa), .int (nI ln), .int (nI 7)])), (s0, .inr (5, [.ref c0, .int (nI len), .int rl])), (c0, .inl (cI, 60, .inl cf)), (q0, .inr (1, [.int (nI 0), .int y2, .int y3, .ref q1, .ref q2, .ref q3, .ref q4, .ref q5])), (q2, .inl (cI, 4, .inl sh2))] sS.heap.size = A at hD ⊢
  have hA : ∀ q : Nat, sS.heap.size ≤ q → A q := fun q h => by rw [← hAe]; exact Or.inr h
  have hS : va_S A sS.heap sS.heap [] := va_S.rf
  have hP : va_P D vwCl [(t0, .inr (6, [.ref s0, .int (nI sa), .int (nI ln), .int (nI 7)])), (s0, .inr (5, [.ref c0, .int (nI len), .int rl])), (c0, .inl (cI, 60, .inl cf)), (q0, .inr (1, [.int (nI 0), .int y2, .int y3, .ref q1, .ref q2, .ref q3, .ref q4, .ref q5])), (q2, .inl (cI, 4, .inl sh2))] sS.heap := hP
  have hD : va_D A [(t0, .inr (6, [.ref s0, .int (nI sa), .int (nI ln), .int (nI 7)])), (s0, .inr (5, [.ref c0, .int (nI len), .int rl])), (c0, .inl (cI, 60, .inl cf)), (q0, .inr (1, [.int (nI 0), .int y2, .int y3, .ref q1, .ref q2, .ref q3, .ref q4, .ref q5])), (q2, .inl (cI, 4, .inl sh2))] := hD
  have hf_52 := hts (.fieldLink RX7 52 "OldLamps$Ground" "shades" "[I") (List.mem_of_getElem? (i := 1) rfl)
  have hf_55 := hts (.fieldLink RX7 55 "OldLamps$Ground" "spots" "I") (List.mem_of_getElem? (i := 2) rfl)
  have hwX2 : ∀ w ∈ wsX20, w ∈ wsX7_readsSpots := fun _ h => List.mem_cons_of_mem _ (List.mem_append_left _ (List.mem_append_left _ (List.mem_append_right _ h)))
  have hl := lv_entry ([.ref t0, .ref q0]) (n := 4) (Nat.le_of_ble_eq_true rfl)
  rw [lg_entry_eq]
  generalize (lg_sl ([.ref t0, .ref q0]) ++ List.replicate (4 - (lg_sl ([.ref t0, .ref q0])).length) Slot.unset).toArray = ls at hl ⊢
  have hl : lv_has ls 4 [(0, .ref t0), (1, .ref q0)] := hl
  obtain ⟨QQ, hQQ⟩ : ∃ QQ : State → Prop, QQ = MQ below (kQi D (fun (r : Int32) (u : Nat × Nat × (Nat → Int32)) => u.1 ≤ ln ∧ ((r = nI 1 ∧ u.1 = aLa (cdT cf sa ln) ∧ u.2.1 = rSp (cdT cf sa ln) ∧ oSp (cdT cf sa ln) ∧ ∀ j, j < u.2.1 → u.2.2 j = nI (dv (cdT cf sa ln) (8 + 2 * j))) ∨ (r = nI 0 ∧ rdT (cdT cf sa ln) ln = (false, u.1)))) (fun u : Nat × Nat × (Nat → Int32) => [(t0, .inr (6, [.ref s0, .int (nI sa), .int (nI ln), .int (nI u.1)])), (s0, .inr (5, [.ref c0, .int (nI len), .int rl])), (c0, .inl (cI, 60, .inl cf)), (q0, .inr (1, [.int (nI u.2.1), .int y2, .int y3, .ref q1, .ref q2, .ref q3, .ref q4, .ref q5])), (q2, .inl (cI, 4, .inl u.2.2))]) A) ([.ref t0, .ref q0]).toArray sS 0 0 A := ⟨_, rfl⟩
  refine kk_QQ hQQ.symm ?_
  refine lv_iconst (v := nI 0) hx hb dX7_readsSpots_0 (by decide +kernel) ?_
  refine lv_istore_n (lv' := [(2, .int (nI 0)), (0, .ref t0), (1, .ref q0)]) hx hb dX7_readsSpots_1 rfl hl (by decide) rfl (fun ls hl => ?_)
  have L_2 : ∀ (n_2 : Nat) (s : Nat) (a : Nat) (shX : Nat → Int32), (s ≤ 4) → (a = 7 + 2 * s) → (a ≤ ln) → (∀ j, j < s → pSp (cdT cf sa ln) j = true) → (∀ j, j < s → shX j = nI (dv (cdT cf sa ln) (8 + 2 * j))) → 5 ≤ s + n_2 → ∀ (H : Heap) (locs : List Loc), va_P D vwCl [(t0, .inr (6, [.ref s0, .int (nI sa), .int (nI ln), .int (nI a)])), (s0, .inr (5, [.ref c0, .int (nI len), .int rl])), (c0, .inl (cI, 60, .inl cf)), (q0, .inr (1, [.int (nI s), .int y2, .int y3, .ref q1, .ref q2, .ref q3, .ref q4, .ref q5])), (q2, .inl (cI, 4, .inl shX))] H → va_D A [(t0, .inr (6, [.ref s0, .int (nI sa), .int (nI ln), .int (nI a)])), (s0, .inr (5, [.ref c0, .int (nI len), .int rl])), (c0, .inl (cI, 60, .inl cf)), (q0, .inr (1, [.int (nI s), .int y2, .int y3, .ref q1, .ref q2, .ref q3, .ref q4, .ref q5])), (q2, .inl (cI, 4, .inl shX))] → va_S A sS.heap H locs → ∀ (ls : Array Slot), lv_has ls 4 [(2, .int (nI s)), (0, .ref t0), (1, .ref q0)] → W pP lL eE (headSpec wsX7_readsSpots rmX7_readsSpots).room sS mM ([.ref t0, .ref q0]).toArray below meth cC H locs 0 0 QQ (F0 mM 2 ls []) := by
    intro n_2
    induction n_2 with
    | zero =>
      intro s a shX hs ea hal z1 z2 hn_2 H locs hP hD hS ls hl
      exact absurd hn_2 (by omega)
    | succ n_2 ih_2 =>
      intro s a shX hs ea hal z1 z2 hn_2 H locs hP hD hS ls hl
      subst ea
      refine lv_iload_n hx hb dX7_readsSpots_2 rfl (lv_at hl 0 rfl) ?_
      refine lv_iconst (v := nI 4) hx hb dX7_readsSpots_3 (by decide +kernel) ?_
      refine kk_icmp_ge (tgt := 49) hx hb dX7_readsSpots_4 (by decide) (by omega) (by omega) (fun c_1 => ?_) (fun c_1 => ?_)
      · skip
        refine lv_aload_n hx hb dX7_readsSpots_49 rfl (lv_at hl 2 rfl) ?_
        refine va_get (D := D) (ci := 1) (v := .int (nI s)) (C := RX2) (T := TX2) (N := 8) hx hb hts hwX2 hown hK hP 3 rfl rfl 0 (by decide) hf_55 (fun _ h9 => h9) rfl dX7_readsSpots_50 ?_
        refine kk_if_le (tgt := 60) hx hb dX7_readsSpots_53 (by decide) (by omega) (fun c_2 => ?_) (fun c_2 => ?_)
        · skip
          refine lv_iconst (v := nI 0) hx hb dX7_readsSpots_60 (by decide +kernel) ?_
          have hq : (7 + 2 * s) ≤ ln ∧ (((nI 0) = nI 1 ∧ (7 + 2 * s) = aLa (cdT cf sa ln) ∧ s = rSp (cdT cf sa ln) ∧ oSp (cdT cf sa ln) ∧ ∀ j, j < s → shX j = nI (dv (cdT cf sa ln) (8 + 2 * j))) ∨ ((nI 0) = nI 0 ∧ rdT (cdT cf sa ln) ln = (false, (7 + 2 * s)))) := by exact absurd c_2 (by omega)
          refine kk_QQ hQQ ?_
          exact W.zret (v := nI 0) (ty := .boolean) hx hb hr (by decide +kernel) (fun t ht hW => ⟨⟨nI 0, ((7 + 2 * s), s, shX), rfl, hq, by show va_P D vwCl _ t.heap; rw [ht]; exact hP⟩, hS.F ht⟩) hS.2.2 dX7_readsSpots_61
        · skip
          refine lv_iconst (v := nI 1) hx hb dX7_readsSpots_56 (by decide +kernel) ?_
          refine lv_goto (tgt := 61) hx hb dX7_readsSpots_57 (by decide) ?_
          have hq : (7 + 2 * s) ≤ ln ∧ (((nI 1) = nI 1 ∧ (7 + 2 * s) = aLa (cdT cf sa ln) ∧ s = rSp (cdT cf sa ln) ∧ oSp (cdT cf sa ln) ∧ ∀ j, j < s → shX j = nI (dv (cdT cf sa ln) (8 + 2 * j))) ∨ ((nI 1) = nI 0 ∧ rdT (cdT cf sa ln) ln = (false, (7 + 2 * s)))) := by
            obtain ⟨e1, e2⟩ := oSp_of hok (s := s) (by omega) hs z1 (Or.inl (by omega))
            exact ⟨by omega, Or.inl ⟨rfl, by rw [aLa, e1], e1.symm, e2, z2⟩⟩
          refine kk_QQ hQQ ?_
          exact W.zret (v := nI 1) (ty := .boolean) hx hb hr (by decide +kernel) (fun t ht hW => ⟨⟨nI 1, ((7 + 2 * s), s, shX), rfl, hq, by show va_P D vwCl _ t.heap; rw [ht]; exact hP⟩, hS.F ht⟩) hS.2.2 dX7_readsSpots_61
      · skip
        refine lv_aload_n hx hb dX7_readsSpots_7 rfl (lv_at hl 1 rfl) ?_
        refine lv_bipush (v := nI 59) hx hb dX7_readsSpots_8 (by decide +kernel) ?_
        have o_3 : sa + ln ≤ 60 := by omega
        have o_4 : (7 + 2 * s) ≤ ln := by omega
        have o_5 : 59 < 2 ^ 31 := by omega
        have hF := va_free (wc := [(t0, .inr (6, [.ref s0, .int (nI sa), .int (nI ln), .int (nI (7 + 2 * s))])), (s0, .inr (5, [.ref c0, .int (nI len), .int rl])), (c0, .inl (cI, 60, .inl cf))]) hD hS hA [0, 1, 2] rfl
        refine va_calli (va_runV (As := [.int (nI 59)]) (rest := []) ⟨hx, hb, hml, hown, hts⟩ (c_X7_takes lL D cI cS _ t0 s0 c0 len rl cf sa ln (7 + 2 * s) 59 o_3 o_4 o_5) (cwV 1 hts gX7_readsSpots_X7_takes rfl rfl rfl cd_X7_takes ⟨Nat.le_of_ble_eq_true rfl, Nat.le_of_ble_eq_true rfl⟩) ⟨kB_blind, va_recv hK hP (ci := 6) (q0 := 0) rfl rfl, fun U hU hW => ⟨rfl, by rw [hU], by rw [hU]; exact hP.sub [0, 1, 2] rfl, va_K.moved hW.alike hK, (hD.sub [0, 1, 2] (by decide) rfl).weaken (fun _ _ _ _ => trivial)⟩⟩ rfl rfl hl.1 rfl (lv_room (Nat.le_of_ble_eq_true rfl)) dX7_readsSpots_10 ⟨Nat.le_of_ble_eq_true rfl, Nat.le_of_ble_eq_true rfl⟩) hS (fun q _ h => hF q h) hF (fun r_6 u_6 t H1 locs ht hvm hw_6 hB hz1 hk1 hS => ?_)
        obtain ⟨hP, hD⟩ := kk_join2 (wc := [(t0, .inr (6, [.ref s0, .int (nI sa), .int (nI ln), .int (nI (7 + 2 * s))])), (s0, .inr (5, [.ref c0, .int (nI len), .int rl])), (c0, .inl (cI, 60, .inl cf))]) (w1 := [(t0, .inr (6, [.ref s0, .int (nI sa), .int (nI ln), .int (nI u_6)])), (s0, .inr (5, [.ref c0, .int (nI len), .int rl])), (c0, .inl (cI, 60, .inl cf))]) (ws' := [(t0, .inr (6, [.ref s0, .int (nI sa), .int (nI ln), .int (nI u_6)])), (s0, .inr (5, [.ref c0, .int (nI len), .int rl])), (c0, .inl (cI, 60, .inl cf)), (q0, .inr (1, [.int (nI s), .int y2, .int y3, .ref q1, .ref q2, .ref q3, .ref q4, .ref q5])), (q2, .inl (cI, 4, .inl shX))]) (wr := [(q0, .inr (1, [.int (nI s), .int y2, .int y3, .ref q1, .ref q2, .ref q3, .ref q4, .ref q5])), (q2, .inl (cI, 4, .inl shX))]) (H1 := H1) hP hD [0, 1, 2] [3, 4] rfl rfl rfl rfl 5 rfl (by decide) [t0, s0, c0, q0, q2] rfl rfl hk1 (by rw [← ht]; exact hB)
        have hq_6 : r_6 = kb (decide ((cdT cf sa ln) (7 + 2 * s) = nI 59)) ∧ u_6 = (7 + 2 * s) + (bif decide ((cdT cf sa ln) (7 + 2 * s) = nI 59) then 1 else 0) := hw_6
        clear hF hB hk1 hz1 hvm
        clear ht
        clear hw_6
        generalize H1 = H at hP hS ⊢
        obtain ⟨rfl, hw_6⟩ := hq_6
        -- if (decide ((cdT cf sa ln) (7 + 2 * s) = nI 59))
        refine kk_ifb_eq (tgt := 49) hx hb dX7_readsSpots_13 (by decide) (fun hb_7 => ?_) (fun hb_7 => ?_)
        · skip
          have e_a7 : (7 + 2 * s) = u_6 := by
            have h := hw_6
            rw [hb_7] at h
            exact h.symm
          subst e_a7
          have hx_7 := of_decide_eq_false hb_7
          refine lv_aload_n hx hb dX7_readsSpots_49 rfl (lv_at hl 2 rfl) ?_
          refine va_get (D := D) (ci := 1) (v := .int (nI s)) (C := RX2) (T := TX2) (N := 8) hx hb hts hwX2 hown hK hP 3 rfl rfl 0 (by decide) hf_55 (fun _ h9 => h9) rfl dX7_readsSpots_50 ?_
          refine kk_if_le (tgt := 60) hx hb dX7_readsSpots_53 (by decide) (by omega) (fun c_8 => ?_) (fun c_8 => ?_)
          · skip
            refine lv_iconst (v := nI 0) hx hb dX7_readsSpots_60 (by decide +kernel) ?_
            have hq : ((7 + 2 * s)) ≤ ln ∧ (((nI 0) = nI 1 ∧ ((7 + 2 * s)) = aLa (cdT cf sa ln) ∧ s = rSp (cdT cf sa ln) ∧ oSp (cdT cf sa ln) ∧ ∀ j, j < s → shX j = nI (dv (cdT cf sa ln) (8 + 2 * j))) ∨ ((nI 0) = nI 0 ∧ rdT (cdT cf sa ln) ln = (false, ((7 + 2 * s))))) := by
              have e_s : s = 0 := by omega
              subst e_s
              exact ⟨by omega, Or.inr ⟨rfl, rdT_sp0 hok hx_7⟩⟩
            refine kk_QQ hQQ ?_
            exact W.zret (v := nI 0) (ty := .boolean) hx hb hr (by decide +kernel) (fun t ht hW => ⟨⟨nI 0, (((7 + 2 * s)), s, shX), rfl, hq, by show va_P D vwCl _ t.heap; rw [ht]; exact hP⟩, hS.F ht⟩) hS.2.2 dX7_readsSpots_61
          · skip
            refine lv_iconst (v := nI 1) hx hb dX7_readsSpots_56 (by decide +kernel) ?_
            refine lv_goto (tgt := 61) hx hb dX7_readsSpots_57 (by decide) ?_
            have hq : ((7 + 2 * s)) ≤ ln ∧ (((nI 1) = nI 1 ∧ ((7 + 2 * s)) = aLa (cdT cf sa ln) ∧ s = rSp (cdT cf sa ln) ∧ oSp (cdT cf sa ln) ∧ ∀ j, j < s → shX j = nI (dv (cdT cf sa ln) (8 + 2 * j))) ∨ ((nI 1) = nI 0 ∧ rdT (cdT cf sa ln) ln = (false, ((7 + 2 * s))))) := by
              obtain ⟨e1, e2⟩ := oSp_of hok (s := s) (by omega) hs z1 (Or.inr hx_7)
              exact ⟨by omega, Or.inl ⟨rfl, by rw [aLa, e1], e1.symm, e2, z2⟩⟩
            refine kk_QQ hQQ ?_
            exact W.zret (v := nI 1) (ty := .boolean) hx hb hr (by decide +kernel) (fun t ht hW => ⟨⟨nI 1, (((7 + 2 * s)), s, shX), rfl, hq, by show va_P D vwCl _ t.heap; rw [ht]; exact hP⟩, hS.F ht⟩) hS.2.2 dX7_readsSpots_61
        · skip
          have hln : 7 + 2 * s < ln := by
            refine Classical.byContradiction fun z => ?_
            have h := of_decide_eq_true hb_7
            rw [cdT_out z] at h
            exact neg9 (by decide) h
          have e_a7 : (7 + 2 * s) + 1 = u_6 := by
            have h := hw_6
            rw [hb_7] at h
            exact h.symm
          subst e_a7
          have hx_7 := of_decide_eq_true hb_7
          refine lv_aload_n hx hb dX7_readsSpots_16 rfl (lv_at hl 1 rfl) ?_
          refine lv_bipush (v := nI 10) hx hb dX7_readsSpots_17 (by decide +kernel) ?_
          have o_9 : sa + ln ≤ 60 := by omega
          have o_10 : ((7 + 2 * s) + 1) ≤ ln := by omega
          have o_11 : 10 ≤ 10 := by omega
          have hF := va_free (wc := [(t0, .inr (6, [.ref s0, .int (nI sa), .int (nI ln), .int (nI ((7 + 2 * s) + 1))])), (s0, .inr (5, [.ref c0, .int (nI len), .int rl])), (c0, .inl (cI, 60, .inl cf))]) hD hS hA [0, 1, 2] rfl
          refine va_calli (va_runV (As := [.int (nI 10)]) (rest := []) ⟨hx, hb, hml, hown, hts⟩ (c_X7_takeDigit lL D cI cS _ t0 s0 c0 len rl cf sa ln ((7 + 2 * s) + 1) 10 o_9 o_10 o_11) (cwV 1 hts gX7_readsSpots_X7_takeDigit rfl rfl rfl cd_X7_takeDigit ⟨Nat.le_of_ble_eq_true rfl, Nat.le_of_ble_eq_true rfl⟩) ⟨kB_blind, va_recv hK hP (ci := 6) (q0 := 0) rfl rfl, fun U hU hW => ⟨rfl, by rw [hU], by rw [hU]; exact hP.sub [0, 1, 2] rfl, va_K.moved hW.alike hK, (hD.sub [0, 1, 2] (by decide) rfl).weaken (fun _ _ _ _ => trivial)⟩⟩ rfl rfl hl.1 rfl (lv_room (Nat.le_of_ble_eq_true rfl)) dX7_readsSpots_19 ⟨Nat.le_of_ble_eq_true rfl, Nat.le_of_ble_eq_true rfl⟩) hS (fun q _ h => hF q h) hF (fun r_12 u_12 t H1 locs ht hvm hw_12 hB hz1 hk1 hS => ?_)
          obtain ⟨hP, hD⟩ := kk_join2 (wc := [(t0, .inr (6, [.ref s0, .int (nI sa), .int (nI ln), .int (nI ((7 + 2 * s) + 1))])), (s0, .inr (5, [.ref c0, .int (nI len), .int rl])), (c0, .inl (cI, 60, .inl cf))]) (w1 := [(t0, .inr (6, [.ref s0, .int (nI sa), .int (nI ln), .int (nI u_12)])), (s0, .inr (5, [.ref c0, .int (nI len), .int rl])), (c0, .inl (cI, 60, .inl cf))]) (ws' := [(t0, .inr (6, [.ref s0, .int (nI sa), .int (nI ln), .int (nI u_12)])), (s0, .inr (5, [.ref c0, .int (nI len), .int rl])), (c0, .inl (cI, 60, .inl cf)), (q0, .inr (1, [.int (nI s), .int y2, .int y3, .ref q1, .ref q2, .ref q3, .ref q4, .ref q5])), (q2, .inl (cI, 4, .inl shX))]) (wr := [(q0, .inr (1, [.int (nI s), .int y2, .int y3, .ref q1, .ref q2, .ref q3, .ref q4, .ref q5])), (q2, .inl (cI, 4, .inl shX))]) (H1 := H1) hP hD [0, 1, 2] [3, 4] rfl rfl rfl rfl 5 rfl (by decide) [t0, s0, c0, q0, q2] rfl rfl hk1 (by rw [← ht]; exact hB)
          have hw_12 : (dg (cdT cf sa ln) ((7 + 2 * s) + 1) 10 = true ∧ r_12 = nI (dv (cdT cf sa ln) ((7 + 2 * s) + 1)) ∧ u_12 = ((7 + 2 * s) + 1) + 1 ∧ ((7 + 2 * s) + 1) < ln) ∨ (dg (cdT cf sa ln) ((7 + 2 * s) + 1) 10 = false ∧ r_12 = (-9) ∧ u_12 = ((7 + 2 * s) + 1)) := hw_12
          clear hF hB hk1 hz1 hvm
          clear ht
          generalize H1 = H at hP hS ⊢
          rcases hw_12 with ⟨dq1, dq2, dq3, dq4⟩ | ⟨dq1, dq2, dq3⟩
          · skip
            have dq2 := dq2.symm
            have dq3 := dq3.symm
            subst dq2 dq3
            have qd := (dg_t dq1).1
            refine lv_istore_n (lv' := [(3, .int (nI (dv (cdT cf sa ln) ((7 + 2 * s) + 1)))), (2, .int (nI s)), (0, .ref t0), (1, .ref q0)]) hx hb dX7_readsSpots_22 rfl hl (by decide) rfl (fun ls hl => ?_)
            refine lv_iload_n hx hb dX7_readsSpots_23 rfl (lv_at hl 0 rfl) ?_
            refine kk_if_ge (tgt := 29) hx hb dX7_readsSpots_24 (by decide) (by omega) ?_
            refine lv_aload_n hx hb dX7_readsSpots_29 rfl (lv_at hl 3 rfl) ?_
            refine va_get (D := D) (ci := 1) (v := .ref q2) (C := RX2) (T := TX2) (N := 8) hx hb hts hwX2 hown hK hP 3 rfl rfl 4 (by decide) hf_52 (fun _ h9 => h9) rfl dX7_readsSpots_30 ?_
            refine lv_iload_n hx hb dX7_readsSpots_33 rfl (lv_at hl 1 rfl) ?_
            refine lv_iload_n hx hb dX7_readsSpots_34 rfl (lv_at hl 0 rfl) ?_
            refine kk_iast hx hb hK hP hD hS 4 rfl rfl (i := s) (by omega) (by decide) dX7_readsSpots_35 (fun H locs hP hD hS => ?_)
            have hP : va_P D vwCl [(t0, .inr (6, [.ref s0, .int (nI sa), .int (nI ln), .int (nI (((7 + 2 * s) + 1) + 1))])), (s0, .inr (5, [.ref c0, .int (nI len), .int rl])), (c0, .inl (cI, 60, .inl cf)), (q0, .inr (1, [.int (nI s), .int y2, .int y3, .ref q1, .ref q2, .ref q3, .ref q4, .ref q5])), (q2, .inl (cI, 4, .inl (upd shX s (nI (dv (cdT cf sa ln) ((7 + 2 * s) + 1))))))] H := hP
            have hD : va_D A [(t0, .inr (6, [.ref s0, .int (nI sa), .int (nI ln), .int (nI (((7 + 2 * s) + 1) + 1))])), (s0, .inr (5, [.ref c0, .int (nI len), .int rl])), (c0, .inl (cI, 60, .inl cf)), (q0, .inr (1, [.int (nI s), .int y2, .int y3, .ref q1, .ref q2, .ref q3, .ref q4, .ref q5])), (q2, .inl (cI, 4, .inl (upd shX s (nI (dv (cdT cf sa ln) ((7 + 2 * s) + 1))))))] := hD
            refine lv_aload_n hx hb dX7_readsSpots_36 rfl (lv_at hl 3 rfl) ?_
            refine lv_iload_n hx hb dX7_readsSpots_37 rfl (lv_at hl 1 rfl) ?_
            refine lv_iconst (v := nI 1) hx hb dX7_readsSpots_38 (by decide +kernel) ?_
            refine kk_iadd hx hb dX7_readsSpots_39 ?_
            refine va_put (D := D) (ci := 1) (v := .int (nI (s + 1))) (ty := .int) (C := RX2) (T := TX2) (N := 8) hx hb hts hwX2 tyX2 tyX2_ok nmX2 hown hK hP hD hS 3 rfl rfl 0 (by decide) hf_55 (fun _ h9 => h9) rfl (by decide +kernel) rfl rfl (Nat.le_of_ble_eq_true rfl) dX7_readsSpots_40 (fun H locs hP hD hS => ?_)
            have hP : va_P D vwCl [(t0, .inr (6, [.ref s0, .int (nI sa), .int (nI ln), .int (nI (((7 + 2 * s) + 1) + 1))])), (s0, .inr (5, [.ref c0, .int (nI len), .int rl])), (c0, .inl (cI, 60, .inl cf)), (q0, .inr (1, [.int (nI (s + 1)), .int y2, .int y3, .ref q1, .ref q2, .ref q3, .ref q4, .ref q5])), (q2, .inl (cI, 4, .inl (upd shX s (nI (dv (cdT cf sa ln) ((7 + 2 * s) + 1))))))] H := hP
            have hD : va_D A [(t0, .inr (6, [.ref s0, .int (nI sa), .int (nI ln), .int (nI (((7 + 2 * s) + 1) + 1))])), (s0, .inr (5, [.ref c0, .int (nI len), .int rl])), (c0, .inl (cI, 60, .inl cf)), (q0, .inr (1, [.int (nI (s + 1)), .int y2, .int y3, .ref q1, .ref q2, .ref q3, .ref q4, .ref q5])), (q2, .inl (cI, 4, .inl (upd shX s (nI (dv (cdT cf sa ln) ((7 + 2 * s) + 1))))))] := hD
            refine lv_iinc (v := nI (s + 1)) (lv' := [(2, .int (nI (s + 1))), (3, .int (nI (dv (cdT cf sa ln) ((7 + 2 * s) + 1)))), (0, .ref t0), (1, .ref q0)]) hx hb dX7_readsSpots_43 hl (k := 1) rfl (nI_add s 1) (by decide) rfl (fun ls hl => ?_)
            refine lv_goto (tgt := 2) hx hb dX7_readsSpots_46 (by decide) ?_
            have o_13 : (s + 1) ≤ 4 := by omega
            have o_14 : (((7 + 2 * s) + 1) + 1) = 7 + 2 * (s + 1) := by omega
            have o_15 : (((7 + 2 * s) + 1) + 1) ≤ ln := by omega
            have o_16 : ∀ j, j < (s + 1) → pSp (cdT cf sa ln) j = true := by
              intro j h
              by_cases e : j = s
              · subst e; exact pSp_t hx_7 (by rw [show 8 + 2 * j = 7 + 2 * j + 1 by omega]; exact dq1)
              · exact z1 j (by omega)
            have o_17 : ∀ j, j < (s + 1) → (upd shX s (nI (dv (cdT cf sa ln) ((7 + 2 * s) + 1)))) j = nI (dv (cdT cf sa ln) (8 + 2 * j)) := by
              intro j h
              by_cases e : j = s
              · subst e; rw [up_at]; congr 2; omega
              · rw [up_ne _ _ e]; exact z2 j (by omega)
            have o_18 : 5 ≤ (s + 1) + n_2 := by omega
            exact ih_2 (s + 1) (((7 + 2 * s) + 1) + 1) (upd shX s (nI (dv (cdT cf sa ln) ((7 + 2 * s) + 1)))) o_13 o_14 o_15 o_16 o_17 o_18 _ _ hP hD hS ls (lv_sub hl [0, 2, 3] rfl)
          · skip
            have dq2 := dq2.symm
            have dq3 := dq3.symm
            subst dq2 dq3
            refine lv_istore_n (lv' := [(3, .int (-9 : Int32)), (2, .int (nI s)), (0, .ref t0), (1, .ref q0)]) hx hb dX7_readsSpots_22 rfl hl (by decide) rfl (fun ls hl => ?_)
            refine lv_iload_n hx hb dX7_readsSpots_23 rfl (lv_at hl 0 rfl) ?_
            refine lv_if_ge (tgt := 29) hx hb dX7_readsSpots_24 (by decide) (fun h => absurd h (by decide)) (fun h => ?_)
            refine lv_iconst (v := nI 0) hx hb dX7_readsSpots_27 (by decide +kernel) ?_
            have hq : (((7 + 2 * s) + 1)) ≤ ln ∧ (((nI 0) = nI 1 ∧ (((7 + 2 * s) + 1)) = aLa (cdT cf sa ln) ∧ s = rSp (cdT cf sa ln) ∧ oSp (cdT cf sa ln) ∧ ∀ j, j < s → shX j = nI (dv (cdT cf sa ln) (8 + 2 * j))) ∨ ((nI 0) = nI 0 ∧ rdT (cdT cf sa ln) ln = (false, (((7 + 2 * s) + 1))))) := by
              refine ⟨by omega, Or.inr ⟨rfl, ?_⟩⟩
              rw [rdT_sp1 hok (by omega) z1 hx_7 (by rw [show 8 + 2 * s = 7 + 2 * s + 1 by omega]; exact dq1)]
              congr 1; omega
            refine kk_QQ hQQ ?_
            exact W.zret (v := nI 0) (ty := .boolean) hx hb hr (by decide +kernel) (fun t ht hW => ⟨⟨nI 0, ((((7 + 2 * s) + 1)), s, shX), rfl, hq, by show va_P D vwCl _ t.heap; rw [ht]; exact hP⟩, hS.F ht⟩) hS.2.2 dX7_readsSpots_28
  have o_19 : 0 ≤ 4 := by omega
  have o_20 : 7 = 7 + 2 * 0 := by omega
  have o_21 : 7 ≤ ln := by omega
  have o_22 : ∀ j, j < 0 → pSp (cdT cf sa ln) j = true := by intro j h; omega
  have o_23 : ∀ j, j < 0 → sh2 j = nI (dv (cdT cf sa ln) (8 + 2 * j)) := by intro j h; omega
  have o_24 : 5 ≤ 0 + 5 := by omega
  exact L_2 5 0 7 sh2 o_19 o_20 o_21 o_22 o_23 o_24 _ _ hP hD hS ls (lv_sub hl [0, 1, 2] rfl)

abbrev rmX7_readsLamps : Room := { frames := 2, cells := 0, slots := 0, locals := 41 }
set_option maxHeartbeats 4000000 in
set_option maxRecDepth 100000 in
theorem c_X7_readsLamps (lL : Launch) (D : va_G) (cI cS : ClassId) (sz : Nat) (t0 : Nat) (s0 : Nat) (c0 : Nat) (len : Nat) (rl : Int32) (cf : Nat → Int32) (sa : Nat) (ln : Nat) (q0 : Nat) (q1 : Nat) (q2 : Nat) (q3 : Nat) (q4 : Nat) (q5 : Nat) (sp : Nat) (y3 : Int32) (ki2 : Nat → Int32) (st2 : Nat → Int32) (hsl : sa + ln ≤ 60) (hal0 : aLa (cdT cf sa ln) ≤ ln) (hok : oSp (cdT cf sa ln)) (hsp : sp = rSp (cdT cf sa ln)) : Met lL yX7_readsLamps wsX7_readsLamps rmX7_readsLamps (va_Pc [.ref t0, .ref q0] (kB D cI cS [(t0, .inr (6, [.ref s0, .int (nI sa), .int (nI ln), .int (nI (aLa (cdT cf sa ln)))])), (s0, .inr (5, [.ref c0, .int (nI len), .int rl])), (c0, .inl (cI, 60, .inl cf)), (q0, .inr (1, [.int (nI sp), .int (nI 0), .int y3, .ref q1, .ref q2, .ref q3, .ref q4, .ref q5])), (q3, .inl (cI, 4, .inl ki2)), (q4, .inl (cI, 4, .inl st2))] sz)) (kQi D (fun (r : Int32) (u : Nat × Nat × (Nat → Int32) × (Nat → Int32)) => u.1 ≤ ln ∧ ((r = nI 1 ∧ u.2.1 = rLa (cdT cf sa ln) ∧ rdT (cdT cf sa ln) ln = (decide (u.1 = ln), u.1) ∧ (∀ j, j < u.2.1 → u.2.2.1 j = nI (kdOf ((cdT cf sa ln) (aLa (cdT cf sa ln) + 3 * j + 1)))) ∧ ∀ j, j < u.2.1 → u.2.2.2 j = nI (dv (cdT cf sa ln) (aLa (cdT cf sa ln) + 3 * j + 2))) ∨ (r = nI 0 ∧ rdT (cdT cf sa ln) ln = (false, u.1)))) (fun u : Nat × Nat × (Nat → Int32) × (Nat → Int32) => [(t0, .inr (6, [.ref s0, .int (nI sa), .int (nI ln), .int (nI u.1)])), (s0, .inr (5, [.ref c0, .int (nI len), .int rl])), (c0, .inl (cI, 60, .inl cf)), (q0, .inr (1, [.int (nI sp), .int (nI u.2.1), .int y3, .ref q1, .ref q2, .ref q3, .ref q4, .ref q5])), (q3, .inl (cI, 4, .inl u.2.2.1)), (q4, .inl (cI, 4, .inl u.2.2.2))]) (va_A [(t0, .inr (6, [.ref s0, .int (nI sa), .int (nI ln), .int (nI (aLa (cdT cf sa ln)))])), (s0, .inr (5, [.ref c0, .int (nI len), .int rl])), (c0, .inl (cI, 60, .inl cf)), (q0, .inr (1, [.int (nI sp), .int (nI 0), .int y3, .ref q1, .ref q2, .ref q3, .ref q4, .ref q5])), (q3, .inl (cI, 4, .inl ki2)), (q4, .inl (cI, 4, .inl st2))] sz)) 0 0 (va_A [(t0, .inr (6, [.ref s0, .int (nI sa), .int (nI ln), .int (nI (aLa (cdT cf sa ln)))])), (s0, .inr (5, [.ref c0, .int (nI len), .int rl])), (c0, .inl (cI, 60, .inl cf)), (q0, .inr (1, [.int (nI sp), .int (nI 0), .int y3, .ref q1, .ref q2, .ref q3, .ref q4, .ref q5])), (q3, .inl (cI, 4, .inl ki2)), (q4, .inl (cI, 4, .inl st2))] sz) := by
  refine Met.ofW (cc := cX7_readsLamps) (maxL := 5) (ret := (some .boolean)) (by decide) rfl ?_
  intro pP eE sS mM args below meth cC s₁ B hml hv
  obtain ⟨rfl, hsz, hP, hK, hD0⟩ := hv
  have hx := B.exec
  have hb := B.bytes
  have hr := B.returns
  have hts := atoms_spec (ws := wsX7_readsLamps) B.pre
  have hown : sS.vm.findClass RX7 = some mM.cls := findClass_of_methodNamed B.named
  have hlocks := B.notSynchronized
  subst hsz
  have hD := hD0.self (sz := sS.heap.size)
  generalize hAe : va_A [(t0, .inr (6, [.ref s0, .int (nI sa), .int (nI ln), .int (nI (aLa (cdT cf sa ln)))])), (s0, .inr (5, [.ref c0, .int (nI len), .int rl])), (c0, .inl (cI, 60, .inl cf)), (q0, .inr (1, [.int (nI sp), .int (nI 0), .int y3, .ref q1, .ref q2, .ref q3, .ref q4, .ref q5])), (q3, .inl (cI, 4, .inl ki2)), (q4, .inl (cI, 4, .inl st2))] sS.heap.size = A at hD ⊢
  have hA : ∀ q : Nat, sS.heap.size ≤ q → A q := fun q h => by rw [← hAe]; exact Or.inr h
  have hS : va_S A sS.heap sS.heap [] := va_S.rf
  have hP : va_P D vwCl [(t0, .inr (6, [.ref s0, .int (nI sa), .int (nI ln), .int (nI (aLa (cdT cf sa ln)))])), (s0, .inr (5, [.ref c0, .int (nI len), .int rl])), (c0, .inl (cI, 60, .inl cf)), (q0, .inr (1, [.int (nI sp), .int (nI 0), .int y3, .ref q1, .ref q2, .ref q3, .ref q4, .ref q5])), (q3, .inl (cI, 4, .inl ki2)), (q4, .inl (cI, 4, .inl st2))] sS.heap := hP
  have hD : va_D A [(t0, .inr (6, [.ref s0, .int (nI sa), .int (nI ln), .int (nI (aLa (cdT cf sa ln)))])), (s0, .inr (5, [.ref c0, .int (nI len), .int rl])), (c0, .inl (cI, 60, .inl cf)), (q0, .inr (1, [.int (nI sp), .int (nI 0), .int y3, .ref q1, .ref q2, .ref q3, .ref q4, .ref q5])), (q3, .inl (cI, 4, .inl ki2)), (q4, .inl (cI, 4, .inl st2))] := hD
  have hf_55 := hts (.fieldLink RX7 55 "OldLamps$Ground" "spots" "I") (List.mem_of_getElem? (i := 1) rfl)
  have hf_62 := hts (.fieldLink RX7 62 "OldLamps$Ground" "lampKinds" "[I") (List.mem_of_getElem? (i := 2) rfl)
  have hf_65 := hts (.fieldLink RX7 65 "OldLamps$Ground" "firstSpots" "[I") (List.mem_of_getElem? (i := 3) rfl)
  have hf_68 := hts (.fieldLink RX7 68 "OldLamps$Ground" "lamps" "I") (List.mem_of_getElem? (i := 4) rfl)
  have hwX2 : ∀ w ∈ wsX20, w ∈ wsX7_readsLamps := fun _ h => List.mem_cons_of_mem _ (List.mem_append_left _ (List.mem_append_left _ (List.mem_append_right _ h)))
  have hl := lv_entry ([.ref t0, .ref q0]) (n := 5) (Nat.le_of_ble_eq_true rfl)
  rw [lg_entry_eq]
  generalize (lg_sl ([.ref t0, .ref q0]) ++ List.replicate (5 - (lg_sl ([.ref t0, .ref q0])).length) Slot.unset).toArray = ls at hl ⊢
  have hl : lv_has ls 5 [(0, .ref t0), (1, .ref q0)] := hl
  obtain ⟨QQ, hQQ⟩ : ∃ QQ : State → Prop, QQ = MQ below (kQi D (fun (r : Int32) (u : Nat × Nat × (Nat → Int32) × (Nat → Int32)) => u.1 ≤ ln ∧ ((r = nI 1 ∧ u.2.1 = rLa (cdT cf sa ln) ∧ rdT (cdT cf sa ln) ln = (decide (u.1 = ln), u.1) ∧ (∀ j, j < u.2.1 → u.2.2.1 j = nI (kdOf ((cdT cf sa ln) (aLa (cdT cf sa ln) + 3 * j + 1)))) ∧ ∀ j, j < u.2.1 → u.2.2.2 j = nI (dv (cdT cf sa ln) (aLa (cdT cf sa ln) + 3 * j + 2))) ∨ (r = nI 0 ∧ rdT (cdT cf sa ln) ln = (false, u.1)))) (fun u : Nat × Nat × (Nat → Int32) × (Nat → Int32) => [(t0, .inr (6, [.ref s0, .int (nI sa), .int (nI ln), .int (nI u.1)])), (s0, .inr (5, [.ref c0, .int (nI len), .int rl])), (c0, .inl (cI, 60, .inl cf)), (q0, .inr (1, [.int (nI sp), .int (nI u.2.1), .int y3, .ref q1, .ref q2, .ref q3, .ref q4, .ref q5])), (q3, .inl (cI, 4, .inl u.2.2.1)), (q4, .inl (cI, 4, .inl u.2.2.2))]) A) ([.ref t0, .ref q0]).toArray sS 0 0 A := ⟨_, rfl⟩
  refine kk_QQ hQQ.symm ?_
  have hsp4 := hok.2.2.1
  refine lv_iconst (v := nI 0) hx hb dX7_readsLamps_0 (by decide +kernel) ?_
  refine lv_istore_n (lv' := [(2, .int (nI 0)), (0, .ref t0), (1, .ref q0)]) hx hb dX7_readsLamps_1 rfl hl (by decide) rfl (fun ls hl => ?_)
  have L_2 : ∀ (n_2 : Nat) (k : Nat) (a : Nat) (kiX : Nat → Int32) (stX : Nat → Int32), (k ≤ 4) → (a = aLa (cdT cf sa ln) + 3 * k) → (a ≤ ln) → (∀ j, j < k → pLa (cdT cf sa ln) j = true) → (∀ j, j < k → kiX j = nI (kdOf ((cdT cf sa ln) (aLa (cdT cf sa ln) + 3 * j + 1)))) → (∀ j, j < k → stX j = nI (dv (cdT cf sa ln) (aLa (cdT cf sa ln) + 3 * j + 2))) → 5 ≤ k + n_2 → ∀ (H : Heap) (locs : List Loc), va_P D vwCl [(t0, .inr (6, [.ref s0, .int (nI sa), .int (nI ln), .int (nI a)])), (s0, .inr (5, [.ref c0, .int (nI len), .int rl])), (c0, .inl (cI, 60, .inl cf)), (q0, .inr (1, [.int (nI sp), .int (nI k), .int y3, .ref q1, .ref q2, .ref q3, .ref q4, .ref q5])), (q3, .inl (cI, 4, .inl kiX)), (q4, .inl (cI, 4, .inl stX))] H → va_D A [(t0, .inr (6, [.ref s0, .int (nI sa), .int (nI ln), .int (nI a)])), (s0, .inr (5, [.ref c0, .int (nI len), .int rl])), (c0, .inl (cI, 60, .inl cf)), (q0, .inr (1, [.int (nI sp), .int (nI k), .int y3, .ref q1, .ref q2, .ref q3, .ref q4, .ref q5])), (q3, .inl (cI, 4, .inl kiX)), (q4, .inl (cI, 4, .inl stX))] → va_S A sS.heap H locs → ∀ (ls : Array Slot), lv_has ls 5 [(2, .int (nI k)), (0, .ref t0), (1, .ref q0)] → W pP lL eE (headSpec wsX7_readsLamps rmX7_readsLamps).room sS mM ([.ref t0, .ref q0]).toArray below meth cC H locs 0 0 QQ (F0 mM 2 ls []) := by
    intro n_2
    induction n_2 with
    | zero =>
      intro k a kiX stX hk ea hal z1 z2 z3 hn_2 H locs hP hD hS ls hl
      exact absurd hn_2 (by omega)
    | succ n_2 ih_2 =>
      intro k a kiX stX hk ea hal z1 z2 z3 hn_2 H locs hP hD hS ls hl
      subst ea
      refine lv_iload_n hx hb dX7_readsLamps_2 rfl (lv_at hl 0 rfl) ?_
      refine lv_iconst (v := nI 4) hx hb dX7_readsLamps_3 (by decide +kernel) ?_
      refine kk_icmp_ge (tgt := 72) hx hb dX7_readsLamps_4 (by decide) (by omega) (by omega) (fun c_1 => ?_) (fun c_1 => ?_)
      · skip
        refine lv_aload_n hx hb dX7_readsLamps_72 rfl (lv_at hl 2 rfl) ?_
        refine va_get (D := D) (ci := 1) (v := .int (nI k)) (C := RX2) (T := TX2) (N := 8) hx hb hts hwX2 hown hK hP 3 rfl rfl 1 (by decide) hf_68 (fun _ h9 => h9) rfl dX7_readsLamps_73 ?_
        refine kk_if_le (tgt := 83) hx hb dX7_readsLamps_76 (by decide) (by omega) (fun c_2 => ?_) (fun c_2 => ?_)
        · skip
          refine lv_iconst (v := nI 0) hx hb dX7_readsLamps_83 (by decide +kernel) ?_
          have hq : (aLa (cdT cf sa ln) + 3 * k) ≤ ln ∧ (((nI 0) = nI 1 ∧ k = rLa (cdT cf sa ln) ∧ rdT (cdT cf sa ln) ln = (decide ((aLa (cdT cf sa ln) + 3 * k) = ln), (aLa (cdT cf sa ln) + 3 * k)) ∧ (∀ j, j < k → kiX j = nI (kdOf ((cdT cf sa ln) (aLa (cdT cf sa ln) + 3 * j + 1)))) ∧ ∀ j, j < k → stX j = nI (dv (cdT cf sa ln) (aLa (cdT cf sa ln) + 3 * j + 2))) ∨ ((nI 0) = nI 0 ∧ rdT (cdT cf sa ln) ln = (false, (aLa (cdT cf sa ln) + 3 * k)))) := by exact absurd c_2 (by omega)
          refine kk_QQ hQQ ?_
          exact W.zret (v := nI 0) (ty := .boolean) hx hb hr (by decide +kernel) (fun t ht hW => ⟨⟨nI 0, ((aLa (cdT cf sa ln) + 3 * k), k, kiX, stX), rfl, hq, by show va_P D vwCl _ t.heap; rw [ht]; exact hP⟩, hS.F ht⟩) hS.2.2 dX7_readsLamps_84
        · skip
          refine lv_iconst (v := nI 1) hx hb dX7_readsLamps_79 (by decide +kernel) ?_
          refine lv_goto (tgt := 84) hx hb dX7_readsLamps_80 (by decide) ?_
          have hq : (aLa (cdT cf sa ln) + 3 * k) ≤ ln ∧ (((nI 1) = nI 1 ∧ k = rLa (cdT cf sa ln) ∧ rdT (cdT cf sa ln) ln = (decide ((aLa (cdT cf sa ln) + 3 * k) = ln), (aLa (cdT cf sa ln) + 3 * k)) ∧ (∀ j, j < k → kiX j = nI (kdOf ((cdT cf sa ln) (aLa (cdT cf sa ln) + 3 * j + 1)))) ∧ ∀ j, j < k → stX j = nI (dv (cdT cf sa ln) (aLa (cdT cf sa ln) + 3 * j + 2))) ∨ ((nI 1) = nI 0 ∧ rdT (cdT cf sa ln) ln = (false, (aLa (cdT cf sa ln) + 3 * k)))) := by
            obtain ⟨e1, e2⟩ := rdT_end (n := ln) hok (k := k) (by omega) hk z1 (Or.inl (by omega))
            exact ⟨by omega, Or.inl ⟨rfl, e1.symm, e2, z2, z3⟩⟩
          refine kk_QQ hQQ ?_
          exact W.zret (v := nI 1) (ty := .boolean) hx hb hr (by decide +kernel) (fun t ht hW => ⟨⟨nI 1, ((aLa (cdT cf sa ln) + 3 * k), k, kiX, stX), rfl, hq, by show va_P D vwCl _ t.heap; rw [ht]; exact hP⟩, hS.F ht⟩) hS.2.2 dX7_readsLamps_84
      · skip
        refine lv_aload_n hx hb dX7_readsLamps_7 rfl (lv_at hl 1 rfl) ?_
        refine lv_bipush (v := nI 44) hx hb dX7_readsLamps_8 (by decide +kernel) ?_
        have o_3 : sa + ln ≤ 60 := by omega
        have o_4 : (aLa (cdT cf sa ln) + 3 * k) ≤ ln := by omega
        have o_5 : 44 < 2 ^ 31 := by omega
        have hF := va_free (wc := [(t0, .inr (6, [.ref s0, .int (nI sa), .int (nI ln), .int (nI (aLa (cdT cf sa ln) + 3 * k))])), (s0, .inr (5, [.ref c0, .int (nI len), .int rl])), (c0, .inl (cI, 60, .inl cf))]) hD hS hA [0, 1, 2] rfl
        refine va_calli (va_runV (As := [.int (nI 44)]) (rest := []) ⟨hx, hb, hml, hown, hts⟩ (c_X7_takes lL D cI cS _ t0 s0 c0 len rl cf sa ln (aLa (cdT cf sa ln) + 3 * k) 44 o_3 o_4 o_5) (cwV 1 hts gX7_readsLamps_X7_takes rfl rfl rfl cd_X7_takes ⟨Nat.le_of_ble_eq_true rfl, Nat.le_of_ble_eq_true rfl⟩) ⟨kB_blind, va_recv hK hP (ci := 6) (q0 := 0) rfl rfl, fun U hU hW => ⟨rfl, by rw [hU], by rw [hU]; exact hP.sub [0, 1, 2] rfl, va_K.moved hW.alike hK, (hD.sub [0, 1, 2] (by decide) rfl).weaken (fun _ _ _ _ => trivial)⟩⟩ rfl rfl hl.1 rfl (lv_room (Nat.le_of_ble_eq_true rfl)) dX7_readsLamps_10 ⟨Nat.le_of_ble_eq_true rfl, Nat.le_of_ble_eq_true rfl⟩) hS (fun q _ h => hF q h) hF (fun r_6 u_6 t H1 locs ht hvm hw_6 hB hz1 hk1 hS => ?_)
        obtain ⟨hP, hD⟩ := kk_join2 (wc := [(t0, .inr (6, [.ref s0, .int (nI sa), .int (nI ln), .int (nI (aLa (cdT cf sa ln) + 3 * k))])), (s0, .inr (5, [.ref c0, .int (nI len), .int rl])), (c0, .inl (cI, 60, .inl cf))]) (w1 := [(t0, .inr (6, [.ref s0, .int (nI sa), .int (nI ln), .int (nI u_6)])), (s0, .inr (5, [.ref c0, .int (nI len), .int rl])), (c0, .inl (cI, 60, .inl cf))]) (ws' := [(t0, .inr (6, [.ref s0, .int (nI sa), .int (nI ln), .int (nI u_6)])), (s0, .inr (5, [.ref c0, .int (nI len), .int rl])), (c0, .inl (cI, 60, .inl cf)), (q0, .inr (1, [.int (nI sp), .int (nI k), .int y3, .ref q1, .ref q2, .ref q3, .ref q4, .ref q5])), (q3, .inl (cI, 4, .inl kiX)), (q4, .inl (cI, 4, .inl stX))]) (wr := [(q0, .inr (1, [.int (nI sp), .int (nI k), .int y3, .ref q1, .ref q2, .ref q3, .ref q4, .ref q5])), (q3, .inl (cI, 4, .inl kiX)), (q4, .inl (cI, 4, .inl stX))]) (H1 := H1) hP hD [0, 1, 2] [3, 4, 5] rfl rfl rfl rfl 6 rfl (by decide) [t0, s0, c0, q0, q3, q4] rfl rfl hk1 (by rw [← ht]; exact hB)
        have hq_6 : r_6 = kb (decide ((cdT cf sa ln) (aLa (cdT cf sa ln) + 3 * k) = nI 44)) ∧ u_6 = (aLa (cdT cf sa ln) + 3 * k) + (bif decide ((cdT cf sa ln) (aLa (cdT cf sa ln) + 3 * k) = nI 44) then 1 else 0) := hw_6
        clear hF hB hk1 hz1 hvm
        clear ht
        clear hw_6
        generalize H1 = H at hP hS ⊢
        obtain ⟨rfl, hw_6⟩ := hq_6
        -- if (decide ((cdT cf sa ln) (aLa (cdT cf sa ln) + 3 * k) = nI 44))
        refine kk_ifb_eq (tgt := 72) hx hb dX7_readsLamps_13 (by decide) (fun hb_7 => ?_) (fun hb_7 => ?_)
        · skip
          have e_a7 : (aLa (cdT cf sa ln) + 3 * k) = u_6 := by
            have h := hw_6
            rw [hb_7] at h
            exact h.symm
          subst e_a7
          have hx_7 := of_decide_eq_false hb_7
          refine lv_aload_n hx hb dX7_readsLamps_72 rfl (lv_at hl 2 rfl) ?_
          refine va_get (D := D) (ci := 1) (v := .int (nI k)) (C := RX2) (T := TX2) (N := 8) hx hb hts hwX2 hown hK hP 3 rfl rfl 1 (by decide) hf_68 (fun _ h9 => h9) rfl dX7_readsLamps_73 ?_
          refine kk_if_le (tgt := 83) hx hb dX7_readsLamps_76 (by decide) (by omega) (fun c_8 => ?_) (fun c_8 => ?_)
          · skip
            refine lv_iconst (v := nI 0) hx hb dX7_readsLamps_83 (by decide +kernel) ?_
            have hq : ((aLa (cdT cf sa ln) + 3 * k)) ≤ ln ∧ (((nI 0) = nI 1 ∧ k = rLa (cdT cf sa ln) ∧ rdT (cdT cf sa ln) ln = (decide (((aLa (cdT cf sa ln) + 3 * k)) = ln), ((aLa (cdT cf sa ln) + 3 * k))) ∧ (∀ j, j < k → kiX j = nI (kdOf ((cdT cf sa ln) (aLa (cdT cf sa ln) + 3 * j + 1)))) ∧ ∀ j, j < k → stX j = nI (dv (cdT cf sa ln) (aLa (cdT cf sa ln) + 3 * j + 2))) ∨ ((nI 0) = nI 0 ∧ rdT (cdT cf sa ln) ln = (false, ((aLa (cdT cf sa ln) + 3 * k))))) := by
              have e_k : k = 0 := by omega
              subst e_k
              exact ⟨by omega, Or.inr ⟨rfl, rdT_la0 hok hx_7⟩⟩
            refine kk_QQ hQQ ?_
            exact W.zret (v := nI 0) (ty := .boolean) hx hb hr (by decide +kernel) (fun t ht hW => ⟨⟨nI 0, (((aLa (cdT cf sa ln) + 3 * k)), k, kiX, stX), rfl, hq, by show va_P D vwCl _ t.heap; rw [ht]; exact hP⟩, hS.F ht⟩) hS.2.2 dX7_readsLamps_84
          · skip
            refine lv_iconst (v := nI 1) hx hb dX7_readsLamps_79 (by decide +kernel) ?_
            refine lv_goto (tgt := 84) hx hb dX7_readsLamps_80 (by decide) ?_
            have hq : ((aLa (cdT cf sa ln) + 3 * k)) ≤ ln ∧ (((nI 1) = nI 1 ∧ k = rLa (cdT cf sa ln) ∧ rdT (cdT cf sa ln) ln = (decide (((aLa (cdT cf sa ln) + 3 * k)) = ln), ((aLa (cdT cf sa ln) + 3 * k))) ∧ (∀ j, j < k → kiX j = nI (kdOf ((cdT cf sa ln) (aLa (cdT cf sa ln) + 3 * j + 1)))) ∧ ∀ j, j < k → stX j = nI (dv (cdT cf sa ln) (aLa (cdT cf sa ln) + 3 * j + 2))) ∨ ((nI 1) = nI 0 ∧ rdT (cdT cf sa ln) ln = (false, ((aLa (cdT cf sa ln) + 3 * k))))) := by
              obtain ⟨e1, e2⟩ := rdT_end (n := ln) hok (k := k) (by omega) hk z1 (Or.inr hx_7)
              exact ⟨by omega, Or.inl ⟨rfl, e1.symm, e2, z2, z3⟩⟩
            refine kk_QQ hQQ ?_
            exact W.zret (v := nI 1) (ty := .boolean) hx hb hr (by decide +kernel) (fun t ht hW => ⟨⟨nI 1, (((aLa (cdT cf sa ln) + 3 * k)), k, kiX, stX), rfl, hq, by show va_P D vwCl _ t.heap; rw [ht]; exact hP⟩, hS.F ht⟩) hS.2.2 dX7_readsLamps_84
        · skip
          have hln : aLa (cdT cf sa ln) + 3 * k < ln := by
            refine Classical.byContradiction fun z => ?_
            have h := of_decide_eq_true hb_7
            rw [cdT_out z] at h
            exact neg9 (by decide) h
          have e_a7 : (aLa (cdT cf sa ln) + 3 * k) + 1 = u_6 := by
            have h := hw_6
            rw [hb_7] at h
            exact h.symm
          subst e_a7
          have hx_7 := of_decide_eq_true hb_7
          refine lv_aload_n hx hb dX7_readsLamps_16 rfl (lv_at hl 1 rfl) ?_
          have o_9 : sa + ln ≤ 60 := by omega
          have o_10 : ((aLa (cdT cf sa ln) + 3 * k) + 1) ≤ ln := by omega
          have hF := va_free (wc := [(t0, .inr (6, [.ref s0, .int (nI sa), .int (nI ln), .int (nI ((aLa (cdT cf sa ln) + 3 * k) + 1))])), (s0, .inr (5, [.ref c0, .int (nI len), .int rl])), (c0, .inl (cI, 60, .inl cf))]) hD hS hA [0, 1, 2] rfl
          refine va_calli (va_runV (As := []) (rest := []) ⟨hx, hb, hml, hown, hts⟩ (c_X7_takeKind lL D cI cS _ t0 s0 c0 len rl cf sa ln ((aLa (cdT cf sa ln) + 3 * k) + 1) o_9 o_10) (cwV 0 hts gX7_readsLamps_X7_takeKind rfl rfl rfl cd_X7_takeKind ⟨Nat.le_of_ble_eq_true rfl, Nat.le_of_ble_eq_true rfl⟩) ⟨kB_blind, va_recv hK hP (ci := 6) (q0 := 0) rfl rfl, fun U hU hW => ⟨rfl, by rw [hU], by rw [hU]; exact hP.sub [0, 1, 2] rfl, va_K.moved hW.alike hK, (hD.sub [0, 1, 2] (by decide) rfl).weaken (fun _ _ _ _ => trivial)⟩⟩ rfl rfl hl.1 rfl (lv_room (Nat.le_of_ble_eq_true rfl)) dX7_readsLamps_17 ⟨Nat.le_of_ble_eq_true rfl, Nat.le_of_ble_eq_true rfl⟩) hS (fun q _ h => hF q h) hF (fun r_11 u_11 t H1 locs ht hvm hw_11 hB hz1 hk1 hS => ?_)
          obtain ⟨hP, hD⟩ := kk_join2 (wc := [(t0, .inr (6, [.ref s0, .int (nI sa), .int (nI ln), .int (nI ((aLa (cdT cf sa ln) + 3 * k) + 1))])), (s0, .inr (5, [.ref c0, .int (nI len), .int rl])), (c0, .inl (cI, 60, .inl cf))]) (w1 := [(t0, .inr (6, [.ref s0, .int (nI sa), .int (nI ln), .int (nI u_11)])), (s0, .inr (5, [.ref c0, .int (nI len), .int rl])), (c0, .inl (cI, 60, .inl cf))]) (ws' := [(t0, .inr (6, [.ref s0, .int (nI sa), .int (nI ln), .int (nI u_11)])), (s0, .inr (5, [.ref c0, .int (nI len), .int rl])), (c0, .inl (cI, 60, .inl cf)), (q0, .inr (1, [.int (nI sp), .int (nI k), .int y3, .ref q1, .ref q2, .ref q3, .ref q4, .ref q5])), (q3, .inl (cI, 4, .inl kiX)), (q4, .inl (cI, 4, .inl stX))]) (wr := [(q0, .inr (1, [.int (nI sp), .int (nI k), .int y3, .ref q1, .ref q2, .ref q3, .ref q4, .ref q5])), (q3, .inl (cI, 4, .inl kiX)), (q4, .inl (cI, 4, .inl stX))]) (H1 := H1) hP hD [0, 1, 2] [3, 4, 5] rfl rfl rfl rfl 6 rfl (by decide) [t0, s0, c0, q0, q3, q4] rfl rfl hk1 (by rw [← ht]; exact hB)
          have hw_11 : (isK ((cdT cf sa ln) ((aLa (cdT cf sa ln) + 3 * k) + 1)) = true ∧ r_11 = nI (kdOf ((cdT cf sa ln) ((aLa (cdT cf sa ln) + 3 * k) + 1))) ∧ u_11 = ((aLa (cdT cf sa ln) + 3 * k) + 1) + 1) ∨ (isK ((cdT cf sa ln) ((aLa (cdT cf sa ln) + 3 * k) + 1)) = false ∧ r_11 = (-9) ∧ u_11 = ((aLa (cdT cf sa ln) + 3 * k) + 1)) := hw_11
          clear hF hB hk1 hz1 hvm
          clear ht
          generalize H1 = H at hP hS ⊢
          rcases hw_11 with ⟨p1, p2, p3⟩ | ⟨p1, p2, p3⟩
          · skip
            have p2 := p2.symm
            have p3 := p3.symm
            subst p2 p3
            have hln2 : ((aLa (cdT cf sa ln) + 3 * k) + 1) < ln := by
              refine Classical.byContradiction fun z => ?_
              rw [cdT_out z] at p1
              exact absurd p1 (by decide +kernel)
            have hk2 := kdOf_le ((cdT cf sa ln) ((aLa (cdT cf sa ln) + 3 * k) + 1))
            refine lv_istore_n (lv' := [(3, .int (nI (kdOf ((cdT cf sa ln) ((aLa (cdT cf sa ln) + 3 * k) + 1))))), (2, .int (nI k)), (0, .ref t0), (1, .ref q0)]) hx hb dX7_readsLamps_20 rfl hl (by decide) rfl (fun ls hl => ?_)
            refine lv_iload_n hx hb dX7_readsLamps_21 rfl (lv_at hl 0 rfl) ?_
            refine kk_if_ge (tgt := 27) hx hb dX7_readsLamps_22 (by decide) (by omega) ?_
            refine lv_aload_n hx hb dX7_readsLamps_27 rfl (lv_at hl 2 rfl) ?_
            refine lv_aload_n hx hb dX7_readsLamps_28 rfl (lv_at hl 3 rfl) ?_
            refine va_get (D := D) (ci := 1) (v := .int (nI sp)) (C := RX2) (T := TX2) (N := 8) hx hb hts hwX2 hown hK hP 3 rfl rfl 0 (by decide) hf_55 (fun _ h9 => h9) rfl dX7_readsLamps_29 ?_
            have o_12 : sa + ln ≤ 60 := by omega
            have o_13 : (((aLa (cdT cf sa ln) + 3 * k) + 1) + 1) ≤ ln := by omega
            have o_14 : sp ≤ 10 := by omega
            have hF := va_free (wc := [(t0, .inr (6, [.ref s0, .int (nI sa), .int (nI ln), .int (nI (((aLa (cdT cf sa ln) + 3 * k) + 1) + 1))])), (s0, .inr (5, [.ref c0, .int (nI len), .int rl])), (c0, .inl (cI, 60, .inl cf))]) hD hS hA [0, 1, 2] rfl
            refine va_calli (va_runV (As := [.int (nI sp)]) (rest := []) ⟨hx, hb, hml, hown, hts⟩ (c_X7_takeDigit lL D cI cS _ t0 s0 c0 len rl cf sa ln (((aLa (cdT cf sa ln) + 3 * k) + 1) + 1) sp o_12 o_13 o_14) (cwV 1 hts gX7_readsLamps_X7_takeDigit rfl rfl rfl cd_X7_takeDigit ⟨Nat.le_of_ble_eq_true rfl, Nat.le_of_ble_eq_true rfl⟩) ⟨kB_blind, va_recv hK hP (ci := 6) (q0 := 0) rfl rfl, fun U hU hW => ⟨rfl, by rw [hU], by rw [hU]; exact hP.sub [0, 1, 2] rfl, va_K.moved hW.alike hK, (hD.sub [0, 1, 2] (by decide) rfl).weaken (fun _ _ _ _ => trivial)⟩⟩ rfl rfl hl.1 rfl (lv_room (Nat.le_of_ble_eq_true rfl)) dX7_readsLamps_32 ⟨Nat.le_of_ble_eq_true rfl, Nat.le_of_ble_eq_true rfl⟩) hS (fun q _ h => hF q h) hF (fun r_15 u_15 t H1 locs ht hvm hw_15 hB hz1 hk1 hS => ?_)
            obtain ⟨hP, hD⟩ := kk_join2 (wc := [(t0, .inr (6, [.ref s0, .int (nI sa), .int (nI ln), .int (nI (((aLa (cdT cf sa ln) + 3 * k) + 1) + 1))])), (s0, .inr (5, [.ref c0, .int (nI len), .int rl])), (c0, .inl (cI, 60, .inl cf))]) (w1 := [(t0, .inr (6, [.ref s0, .int (nI sa), .int (nI ln), .int (nI u_15)])), (s0, .inr (5, [.ref c0, .int (nI len), .int rl])), (c0, .inl (cI, 60, .inl cf))]) (ws' := [(t0, .inr (6, [.ref s0, .int (nI sa), .int (nI ln), .int (nI u_15)])), (s0, .inr (5, [.ref c0, .int (nI len), .int rl])), (c0, .inl (cI, 60, .inl cf)), (q0, .inr (1, [.int (nI sp), .int (nI k), .int y3, .ref q1, .ref q2, .ref q3, .ref q4, .ref q5])), (q3, .inl (cI, 4, .inl kiX)), (q4, .inl (cI, 4, .inl stX))]) (wr := [(q0, .inr (1, [.int (nI sp), .int (nI k), .int y3, .ref q1, .ref q2, .ref q3, .ref q4, .ref q5])), (q3, .inl (cI, 4, .inl kiX)), (q4, .inl (cI, 4, .inl stX))]) (H1 := H1) hP hD [0, 1, 2] [3, 4, 5] rfl rfl rfl rfl 6 rfl (by decide) [t0, s0, c0, q0, q3, q4] rfl rfl hk1 (by rw [← ht]; exact hB)
            have hw_15 : (dg (cdT cf sa ln) (((aLa (cdT cf sa ln) + 3 * k) + 1) + 1) sp = true ∧ r_15 = nI (dv (cdT cf sa ln) (((aLa (cdT cf sa ln) + 3 * k) + 1) + 1)) ∧ u_15 = (((aLa (cdT cf sa ln) + 3 * k) + 1) + 1) + 1 ∧ (((aLa (cdT cf sa ln) + 3 * k) + 1) + 1) < ln) ∨ (dg (cdT cf sa ln) (((aLa (cdT cf sa ln) + 3 * k) + 1) + 1) sp = false ∧ r_15 = (-9) ∧ u_15 = (((aLa (cdT cf sa ln) + 3 * k) + 1) + 1)) := hw_15
            clear hF hB hk1 hz1 hvm
            clear ht
            generalize H1 = H at hP hS ⊢
            rcases hw_15 with ⟨dq1, dq2, dq3, dq4⟩ | ⟨dq1, dq2, dq3⟩
            · skip
              have dq2 := dq2.symm
              have dq3 := dq3.symm
              subst dq2 dq3
              have qd := (dg_t dq1).1
              refine lv_istore (lv' := [(4, .int (nI (dv (cdT cf sa ln) (((aLa (cdT cf sa ln) + 3 * k) + 1) + 1)))), (3, .int (nI (kdOf ((cdT cf sa ln) ((aLa (cdT cf sa ln) + 3 * k) + 1))))), (2, .int (nI k)), (0, .ref t0), (1, .ref q0)]) hx hb dX7_readsLamps_35 hl (by decide) rfl (fun ls hl => ?_)
              refine lv_iload hx hb dX7_readsLamps_37 (lv_at hl 0 rfl) ?_
              refine kk_if_ge (tgt := 44) hx hb dX7_readsLamps_39 (by decide) (by omega) ?_
              refine lv_aload_n hx hb dX7_readsLamps_44 rfl (lv_at hl 4 rfl) ?_
              refine va_get (D := D) (ci := 1) (v := .ref q3) (C := RX2) (T := TX2) (N := 8) hx hb hts hwX2 hown hK hP 3 rfl rfl 5 (by decide) hf_62 (fun _ h9 => h9) rfl dX7_readsLamps_45 ?_
              refine lv_iload_n hx hb dX7_readsLamps_48 rfl (lv_at hl 2 rfl) ?_
              refine lv_iload_n hx hb dX7_readsLamps_49 rfl (lv_at hl 1 rfl) ?_
              refine kk_iast hx hb hK hP hD hS 4 rfl rfl (i := k) (by omega) (by decide) dX7_readsLamps_50 (fun H locs hP hD hS => ?_)
              have hP : va_P D vwCl [(t0, .inr (6, [.ref s0, .int (nI sa), .int (nI ln), .int (nI ((((aLa (cdT cf sa ln) + 3 * k) + 1) + 1) + 1))])), (s0, .inr (5, [.ref c0, .int (nI len), .int rl])), (c0, .inl (cI, 60, .inl cf)), (q0, .inr (1, [.int (nI sp), .int (nI k), .int y3, .ref q1, .ref q2, .ref q3, .ref q4, .ref q5])), (q3, .inl (cI, 4, .inl (upd kiX k (nI (kdOf ((cdT cf sa ln) ((aLa (cdT cf sa ln) + 3 * k) + 1))))))), (q4, .inl (cI, 4, .inl stX))] H := hP
              have hD : va_D A [(t0, .inr (6, [.ref s0, .int (nI sa), .int (nI ln), .int (nI ((((aLa (cdT cf sa ln) + 3 * k) + 1) + 1) + 1))])), (s0, .inr (5, [.ref c0, .int (nI len), .int rl])), (c0, .inl (cI, 60, .inl cf)), (q0, .inr (1, [.int (nI sp), .int (nI k), .int y3, .ref q1, .ref q2, .ref q3, .ref q4, .ref q5])), (q3, .inl (cI, 4, .inl (upd kiX k (nI (kdOf ((cdT cf sa ln) ((aLa (cdT cf sa ln) + 3 * k) + 1))))))), (q4, .inl (cI, 4, .inl stX))] := hD
              refine lv_aload_n hx hb dX7_readsLamps_51 rfl (lv_at hl 4 rfl) ?_
              refine va_get (D := D) (ci := 1) (v := .ref q4) (C := RX2) (T := TX2) (N := 8) hx hb hts hwX2 hown hK hP 3 rfl rfl 6 (by decide) hf_65 (fun _ h9 => h9) rfl dX7_readsLamps_52 ?_
              refine lv_iload_n hx hb dX7_readsLamps_55 rfl (lv_at hl 2 rfl) ?_
              refine lv_iload hx hb dX7_readsLamps_56 (lv_at hl 0 rfl) ?_
              refine kk_iast hx hb hK hP hD hS 5 rfl rfl (i := k) (by omega) (by decide) dX7_readsLamps_58 (fun H locs hP hD hS => ?_)
              have hP : va_P D vwCl [(t0, .inr (6, [.ref s0, .int (nI sa), .int (nI ln), .int (nI ((((aLa (cdT cf sa ln) + 3 * k) + 1) + 1) + 1))])), (s0, .inr (5, [.ref c0, .int (nI len), .int rl])), (c0, .inl (cI, 60, .inl cf)), (q0, .inr (1, [.int (nI sp), .int (nI k), .int y3, .ref q1, .ref q2, .ref q3, .ref q4, .ref q5])), (q3, .inl (cI, 4, .inl (upd kiX k (nI (kdOf ((cdT cf sa ln) ((aLa (cdT cf sa ln) + 3 * k) + 1))))))), (q4, .inl (cI, 4, .inl (upd stX k (nI (dv (cdT cf sa ln) (((aLa (cdT cf sa ln) + 3 * k) + 1) + 1))))))] H := hP
              have hD : va_D A [(t0, .inr (6, [.ref s0, .int (nI sa), .int (nI ln), .int (nI ((((aLa (cdT cf sa ln) + 3 * k) + 1) + 1) + 1))])), (s0, .inr (5, [.ref c0, .int (nI len), .int rl])), (c0, .inl (cI, 60, .inl cf)), (q0, .inr (1, [.int (nI sp), .int (nI k), .int y3, .ref q1, .ref q2, .ref q3, .ref q4, .ref q5])), (q3, .inl (cI, 4, .inl (upd kiX k (nI (kdOf ((cdT cf sa ln) ((aLa (cdT cf sa ln) + 3 * k) + 1))))))), (q4, .inl (cI, 4, .inl (upd stX k (nI (dv (cdT cf sa ln) (((aLa (cdT cf sa ln) + 3 * k) + 1) + 1))))))] := hD
              refine lv_aload_n hx hb dX7_readsLamps_59 rfl (lv_at hl 4 rfl) ?_
              refine lv_iload_n hx hb dX7_readsLamps_60 rfl (lv_at hl 2 rfl) ?_
              refine lv_iconst (v := nI 1) hx hb dX7_readsLamps_61 (by decide +kernel) ?_
              refine kk_iadd hx hb dX7_readsLamps_62 ?_
              refine va_put (D := D) (ci := 1) (v := .int (nI (k + 1))) (ty := .int) (C := RX2) (T := TX2) (N := 8) hx hb hts hwX2 tyX2 tyX2_ok nmX2 hown hK hP hD hS 3 rfl rfl 1 (by decide) hf_68 (fun _ h9 => h9) rfl (by decide +kernel) rfl rfl (Nat.le_of_ble_eq_true rfl) dX7_readsLamps_63 (fun H locs hP hD hS => ?_)
              have hP : va_P D vwCl [(t0, .inr (6, [.ref s0, .int (nI sa), .int (nI ln), .int (nI ((((aLa (cdT cf sa ln) + 3 * k) + 1) + 1) + 1))])), (s0, .inr (5, [.ref c0, .int (nI len), .int rl])), (c0, .inl (cI, 60, .inl cf)), (q0, .inr (1, [.int (nI sp), .int (nI (k + 1)), .int y3, .ref q1, .ref q2, .ref q3, .ref q4, .ref q5])), (q3, .inl (cI, 4, .inl (upd kiX k (nI (kdOf ((cdT cf sa ln) ((aLa (cdT cf sa ln) + 3 * k) + 1))))))), (q4, .inl (cI, 4, .inl (upd stX k (nI (dv (cdT cf sa ln) (((aLa (cdT cf sa ln) + 3 * k) + 1) + 1))))))] H := hP
              have hD : va_D A [(t0, .inr (6, [.ref s0, .int (nI sa), .int (nI ln), .int (nI ((((aLa (cdT cf sa ln) + 3 * k) + 1) + 1) + 1))])), (s0, .inr (5, [.ref c0, .int (nI len), .int rl])), (c0, .inl (cI, 60, .inl cf)), (q0, .inr (1, [.int (nI sp), .int (nI (k + 1)), .int y3, .ref q1, .ref q2, .ref q3, .ref q4, .ref q5])), (q3, .inl (cI, 4, .inl (upd kiX k (nI (kdOf ((cdT cf sa ln) ((aLa (cdT cf sa ln) + 3 * k) + 1))))))), (q4, .inl (cI, 4, .inl (upd stX k (nI (dv (cdT cf sa ln) (((aLa (cdT cf sa ln) + 3 * k) + 1) + 1))))))] := hD
              refine lv_iinc (v := nI (k + 1)) (lv' := [(2, .int (nI (k + 1))), (4, .int (nI (dv (cdT cf sa ln) (((aLa (cdT cf sa ln) + 3 * k) + 1) + 1)))), (3, .int (nI (kdOf ((cdT cf sa ln) ((aLa (cdT cf sa ln) + 3 * k) + 1))))), (0, .ref t0), (1, .ref q0)]) hx hb dX7_readsLamps_66 hl (k := 2) rfl (nI_add k 1) (by decide) rfl (fun ls hl => ?_)
              refine lv_goto (tgt := 2) hx hb dX7_readsLamps_69 (by decide) ?_
              have o_16 : (k + 1) ≤ 4 := by omega
              have o_17 : ((((aLa (cdT cf sa ln) + 3 * k) + 1) + 1) + 1) = aLa (cdT cf sa ln) + 3 * (k + 1) := by omega
              have o_18 : ((((aLa (cdT cf sa ln) + 3 * k) + 1) + 1) + 1) ≤ ln := by omega
              have o_19 : ∀ j, j < (k + 1) → pLa (cdT cf sa ln) j = true := by
                intro j h
                by_cases e : j = k
                · subst e; exact pLa_t hx_7 p1 (by rw [← hsp]; exact dq1)
                · exact z1 j (by omega)
              have o_20 : ∀ j, j < (k + 1) → (upd kiX k (nI (kdOf ((cdT cf sa ln) ((aLa (cdT cf sa ln) + 3 * k) + 1))))) j = nI (kdOf ((cdT cf sa ln) (aLa (cdT cf sa ln) + 3 * j + 1))) := by
                intro j h
                by_cases e : j = k
                · subst e; exact up_at _ _ _
                · rw [up_ne _ _ e]; exact z2 j (by omega)
              have o_21 : ∀ j, j < (k + 1) → (upd stX k (nI (dv (cdT cf sa ln) (((aLa (cdT cf sa ln) + 3 * k) + 1) + 1)))) j = nI (dv (cdT cf sa ln) (aLa (cdT cf sa ln) + 3 * j + 2)) := by
                intro j h
                by_cases e : j = k
                · subst e; exact up_at _ _ _
                · rw [up_ne _ _ e]; exact z3 j (by omega)
              have o_22 : 5 ≤ (k + 1) + n_2 := by omega
              exact ih_2 (k + 1) ((((aLa (cdT cf sa ln) + 3 * k) + 1) + 1) + 1) (upd kiX k (nI (kdOf ((cdT cf sa ln) ((aLa (cdT cf sa ln) + 3 * k) + 1))))) (upd stX k (nI (dv (cdT cf sa ln) (((aLa (cdT cf sa ln) + 3 * k) + 1) + 1)))) o_16 o_17 o_18 o_19 o_20 o_21 o_22 _ _ hP hD hS ls (lv_sub hl [0, 3, 4] rfl)
            · skip
              have dq2 := dq2.symm
              have dq3 := dq3.symm
              subst dq2 dq3
              refine lv_istore (lv' := [(4, .int (-9 : Int32)), (3, .int (nI (kdOf ((cdT cf sa ln) ((aLa (cdT cf sa ln) + 3 * k) + 1))))), (2, .int (nI k)), (0, .ref t0), (1, .ref q0)]) hx hb dX7_readsLamps_35 hl (by decide) rfl (fun ls hl => ?_)
              refine lv_iload hx hb dX7_readsLamps_37 (lv_at hl 0 rfl) ?_
              refine lv_if_ge (tgt := 44) hx hb dX7_readsLamps_39 (by decide) (fun h => absurd h (by decide)) (fun h => ?_)
              refine lv_iconst (v := nI 0) hx hb dX7_readsLamps_42 (by decide +kernel) ?_
              have hq : ((((aLa (cdT cf sa ln) + 3 * k) + 1) + 1)) ≤ ln ∧ (((nI 0) = nI 1 ∧ k = rLa (cdT cf sa ln) ∧ rdT (cdT cf sa ln) ln = (decide (((((aLa (cdT cf sa ln) + 3 * k) + 1) + 1)) = ln), ((((aLa (cdT cf sa ln) + 3 * k) + 1) + 1))) ∧ (∀ j, j < k → kiX j = nI (kdOf ((cdT cf sa ln) (aLa (cdT cf sa ln) + 3 * j + 1)))) ∧ ∀ j, j < k → stX j = nI (dv (cdT cf sa ln) (aLa (cdT cf sa ln) + 3 * j + 2))) ∨ ((nI 0) = nI 0 ∧ rdT (cdT cf sa ln) ln = (false, ((((aLa (cdT cf sa ln) + 3 * k) + 1) + 1))))) := by exact ⟨by omega, Or.inr ⟨rfl, rdT_la2 hok (by omega) z1 hx_7 p1 (by rw [← hsp]; exact dq1)⟩⟩
              refine kk_QQ hQQ ?_
              exact W.zret (v := nI 0) (ty := .boolean) hx hb hr (by decide +kernel) (fun t ht hW => ⟨⟨nI 0, (((((aLa (cdT cf sa ln) + 3 * k) + 1) + 1)), k, kiX, stX), rfl, hq, by show va_P D vwCl _ t.heap; rw [ht]; exact hP⟩, hS.F ht⟩) hS.2.2 dX7_readsLamps_43
          · skip
            have p2 := p2.symm
            have p3 := p3.symm
            subst p2 p3
            refine lv_istore_n (lv' := [(3, .int (-9 : Int32)), (2, .int (nI k)), (0, .ref t0), (1, .ref q0)]) hx hb dX7_readsLamps_20 rfl hl (by decide) rfl (fun ls hl => ?_)
            refine lv_iload_n hx hb dX7_readsLamps_21 rfl (lv_at hl 0 rfl) ?_
            refine lv_if_ge (tgt := 27) hx hb dX7_readsLamps_22 (by decide) (fun h => absurd h (by decide)) (fun h => ?_)
            refine lv_iconst (v := nI 0) hx hb dX7_readsLamps_25 (by decide +kernel) ?_
            have hq : (((aLa (cdT cf sa ln) + 3 * k) + 1)) ≤ ln ∧ (((nI 0) = nI 1 ∧ k = rLa (cdT cf sa ln) ∧ rdT (cdT cf sa ln) ln = (decide ((((aLa (cdT cf sa ln) + 3 * k) + 1)) = ln), (((aLa (cdT cf sa ln) + 3 * k) + 1))) ∧ (∀ j, j < k → kiX j = nI (kdOf ((cdT cf sa ln) (aLa (cdT cf sa ln) + 3 * j + 1)))) ∧ ∀ j, j < k → stX j = nI (dv (cdT cf sa ln) (aLa (cdT cf sa ln) + 3 * j + 2))) ∨ ((nI 0) = nI 0 ∧ rdT (cdT cf sa ln) ln = (false, (((aLa (cdT cf sa ln) + 3 * k) + 1))))) := by exact ⟨by omega, Or.inr ⟨rfl, rdT_la1 hok (by omega) z1 hx_7 p1⟩⟩
            refine kk_QQ hQQ ?_
            exact W.zret (v := nI 0) (ty := .boolean) hx hb hr (by decide +kernel) (fun t ht hW => ⟨⟨nI 0, ((((aLa (cdT cf sa ln) + 3 * k) + 1)), k, kiX, stX), rfl, hq, by show va_P D vwCl _ t.heap; rw [ht]; exact hP⟩, hS.F ht⟩) hS.2.2 dX7_readsLamps_26
  have o_23 : 0 ≤ 4 := by omega
  have o_24 : (aLa (cdT cf sa ln)) = aLa (cdT cf sa ln) + 3 * 0 := by omega
  have o_25 : (aLa (cdT cf sa ln)) ≤ ln := by omega
  have o_26 : ∀ j, j < 0 → pLa (cdT cf sa ln) j = true := by intro j h; omega
  have o_27 : ∀ j, j < 0 → ki2 j = nI (kdOf ((cdT cf sa ln) (aLa (cdT cf sa ln) + 3 * j + 1))) := by intro j h; omega
  have o_28 : ∀ j, j < 0 → st2 j = nI (dv (cdT cf sa ln) (aLa (cdT cf sa ln) + 3 * j + 2)) := by intro j h; omega
  have o_29 : 5 ≤ 0 + 5 := by omega
  exact L_2 5 0 (aLa (cdT cf sa ln)) ki2 st2 o_23 o_24 o_25 o_26 o_27 o_28 o_29 _ _ hP hD hS ls (lv_sub hl [0, 1, 2] rfl)

abbrev rmX7_init : Room := { frames := 1, cells := 0, slots := 0, locals := 30 }
set_option maxHeartbeats 4000000 in
set_option maxRecDepth 100000 in
theorem c_X7_init (lL : Launch) (D : va_G) (cI cS : ClassId) (sz : Nat) (t0 : Nat) (s0 : Nat) (sa : Nat) (ln : Nat) : Met lL yX7_init wsX7_init rmX7_init (va_Pc [.ref t0, .ref s0, .int (nI sa), .int (nI ln)] (kB D cI cS [(t0, .inr (6, [.null, .int 0, .int 0, .int 0]))] sz)) (kQv D (fun u : Unit => True) (fun u : Unit => [(t0, .inr (6, [.ref s0, .int (nI sa), .int (nI ln), .int (nI 0)]))]) (va_A [(t0, .inr (6, [.null, .int 0, .int 0, .int 0]))] sz)) 0 0 (va_A [(t0, .inr (6, [.null, .int 0, .int 0, .int 0]))] sz) := by
  refine Met.ofW (cc := cX7_init) (maxL := 4) (ret := none) (by decide) rfl ?_
  intro pP eE sS mM args below meth cC s₁ B hml hv
  obtain ⟨rfl, hsz, hP, hK, hD0⟩ := hv
  have hx := B.exec
  have hb := B.bytes
  have hr := B.returns
  have hts := atoms_spec (ws := wsX7_init) B.pre
  have hown : sS.vm.findClass RX7 = some mM.cls := findClass_of_methodNamed B.named
  have hlocks := B.notSynchronized
  have hin : meth.name = "<init>" := (name_of_methodNamed B.named B.method).1
  subst hsz
  have hD := hD0.self (sz := sS.heap.size)
  generalize hAe : va_A [(t0, .inr (6, [.null, .int 0, .int 0, .int 0]))] sS.heap.size = A at hD ⊢
  have hA : ∀ q : Nat, sS.heap.size ≤ q → A q := fun q h => by rw [← hAe]; exact Or.inr h
  have hS : va_S A sS.heap sS.heap [] := va_S.rf
  have hP : va_P D vwCl [(t0, .inr (6, [.null, .int 0, .int 0, .int 0]))] sS.heap := hP
  have hD : va_D A [(t0, .inr (6, [.null, .int 0, .int 0, .int 0]))] := hD
  have hf_9 := hts (.fieldLink RX7 9 "OldLamps$Text" "at" "I") (List.mem_of_getElem? (i := 4) rfl)
  have hf_15 := hts (.fieldLink RX7 15 "OldLamps$Text" "row" "LOldLamps$Sheet;") (List.mem_of_getElem? (i := 5) rfl)
  have hf_19 := hts (.fieldLink RX7 19 "OldLamps$Text" "start" "I") (List.mem_of_getElem? (i := 6) rfl)
  have hf_22 := hts (.fieldLink RX7 22 "OldLamps$Text" "length" "I") (List.mem_of_getElem? (i := 7) rfl)
  have hoi1 := hts (.methodLink RX7 3 objectInit) (List.mem_of_getElem? (i := 1) rfl)
  have hoi2 := hts (.instanceMethod objectInit) (List.mem_of_getElem? (i := 2) rfl)
  have hoi3 := hts (.code objectInit ⟨#[0xb1]⟩ 1 none) (List.mem_of_getElem? (i := 3) rfl)
  have hwX7 : ∀ w ∈ wsX70, w ∈ wsX7_init := fun _ h => List.mem_cons_of_mem _ (List.mem_append_right _ h)
  have hl := lv_entry ([.ref t0, .ref s0, .int (nI sa), .int (nI ln)]) (n := 4) (Nat.le_of_ble_eq_true rfl)
  rw [lg_entry_eq]
  generalize (lg_sl ([.ref t0, .ref s0, .int (nI sa), .int (nI ln)]) ++ List.replicate (4 - (lg_sl ([.ref t0, .ref s0, .int (nI sa), .int (nI ln)])).length) Slot.unset).toArray = ls at hl ⊢
  have hl : lv_has ls 4 [(0, .ref t0), (1, .ref s0), (2, .int (nI sa)), (3, .int (nI ln))] := hl
  obtain ⟨QQ, hQQ⟩ : ∃ QQ : State → Prop, QQ = MQ below (kQv D (fun u : Unit => True) (fun u : Unit => [(t0, .inr (6, [.ref s0, .int (nI sa), .int (nI ln), .int (nI 0)]))]) A) ([.ref t0, .ref s0, .int (nI sa), .int (nI ln)]).toArray sS 0 0 A := ⟨_, rfl⟩
  refine kk_QQ hQQ.symm ?_
  refine lv_aload_n hx hb dX7_init_0 rfl (lv_at hl 0 rfl) ?_
  refine W.objInit hx hb hown hoi1 hoi2 hoi3 rfl (by rw [hml]; exact hl.1) rfl dX7_init_1 (Nat.le_of_ble_eq_true rfl) (Nat.le_of_ble_eq_true rfl) ?_
  refine W.eq (g2 := F0 mM 4 ls []) rfl ?_
  refine lv_aload_n hx hb dX7_init_4 rfl (lv_at hl 0 rfl) ?_
  refine lv_iconst (v := nI 0) hx hb dX7_init_5 (by decide +kernel) ?_
  refine va_put (D := D) (ci := 6) (v := .int (nI 0)) (ty := .int) (C := RX7) (T := TX7) (N := 4) hx hb hts hwX7 tyX7 tyX7_ok nmX7 hown hK hP hD hS 0 rfl rfl 3 (by decide) hf_9 (fun _ h9 => h9) rfl (by decide +kernel) rfl rfl (Nat.le_of_ble_eq_true rfl) dX7_init_6 (fun H locs hP hD hS => ?_)
  have hP : va_P D vwCl [(t0, .inr (6, [.null, .int 0, .int 0, .int (nI 0)]))] H := hP
  have hD : va_D A [(t0, .inr (6, [.null, .int 0, .int 0, .int (nI 0)]))] := hD
  refine lv_aload_n hx hb dX7_init_9 rfl (lv_at hl 0 rfl) ?_
  refine lv_aload_n hx hb dX7_init_10 rfl (lv_at hl 1 rfl) ?_
  refine va_putF (D := D) (ci := 6) (v := .ref s0) (ty := (.object "OldLamps$Sheet")) (C := RX7) (T := TX7) (N := 4) hx hb hts hwX7 tyX7 tyX7_ok nmX7 hown hK hP hD hS 0 rfl rfl 0 (by decide) hf_15 (fun _ h9 => h9) rfl hin rfl (by decide +kernel) rfl rfl (Nat.le_of_ble_eq_true rfl) dX7_init_11 (fun H locs hP hD hS => ?_)
  have hP : va_P D vwCl [(t0, .inr (6, [.ref s0, .int 0, .int 0, .int (nI 0)]))] H := hP
  have hD : va_D A [(t0, .inr (6, [.ref s0, .int 0, .int 0, .int (nI 0)]))] := hD
  refine lv_aload_n hx hb dX7_init_14 rfl (lv_at hl 0 rfl) ?_
  refine lv_iload_n hx hb dX7_init_15 rfl (lv_at hl 2 rfl) ?_
  refine va_putF (D := D) (ci := 6) (v := .int (nI sa)) (ty := .int) (C := RX7) (T := TX7) (N := 4) hx hb hts hwX7 tyX7 tyX7_ok nmX7 hown hK hP hD hS 0 rfl rfl 1 (by decide) hf_19 (fun _ h9 => h9) rfl hin rfl (by decide +kernel) rfl rfl (Nat.le_of_ble_eq_true rfl) dX7_init_16 (fun H locs hP hD hS => ?_)
  have hP : va_P D vwCl [(t0, .inr (6, [.ref s0, .int (nI sa), .int 0, .int (nI 0)]))] H := hP
  have hD : va_D A [(t0, .inr (6, [.ref s0, .int (nI sa), .int 0, .int (nI 0)]))] := hD
  refine lv_aload_n hx hb dX7_init_19 rfl (lv_at hl 0 rfl) ?_
  refine lv_iload_n hx hb dX7_init_20 rfl (lv_at hl 3 rfl) ?_
  refine va_putF (D := D) (ci := 6) (v := .int (nI ln)) (ty := .int) (C := RX7) (T := TX7) (N := 4) hx hb hts hwX7 tyX7 tyX7_ok nmX7 hown hK hP hD hS 0 rfl rfl 2 (by decide) hf_22 (fun _ h9 => h9) rfl hin rfl (by decide +kernel) rfl rfl (Nat.le_of_ble_eq_true rfl) dX7_init_21 (fun H locs hP hD hS => ?_)
  have hP : va_P D vwCl [(t0, .inr (6, [.ref s0, .int (nI sa), .int (nI ln), .int (nI 0)]))] H := hP
  have hD : va_D A [(t0, .inr (6, [.ref s0, .int (nI sa), .int (nI ln), .int (nI 0)]))] := hD
  have hq : True := by trivial
  refine kk_QQ hQQ ?_
  exact W.vret hx hb hr (fun t ht hW => ⟨⟨(), rfl, hq, by show va_P D vwCl _ t.heap; rw [ht]; exact hP⟩, hS.F ht⟩) hS.2.2 dX7_init_24

abbrev rmX7_reads : Room := { frames := 3, cells := 0, slots := 0, locals := 65 }
set_option maxHeartbeats 4000000 in
set_option maxRecDepth 100000 in
theorem c_X7_reads (lL : Launch) (D : va_G) (cI cS : ClassId) (sz : Nat) (t0 : Nat) (s0 : Nat) (c0 : Nat) (len : Nat) (rl : Int32) (cf : Nat → Int32) (sa : Nat) (ln : Nat) (q0 : Nat) (q1 : Nat) (q2 : Nat) (q3 : Nat) (q4 : Nat) (q5 : Nat) (y1 : Int32) (y2 : Int32) (y3 : Int32) (sk2 : Nat → Int32) (sh2 : Nat → Int32) (ki2 : Nat → Int32) (st2 : Nat → Int32) (cl2 : Nat → Int32) (hsl : sa + ln ≤ 60) : Met lL yX7_reads wsX7_reads rmX7_reads (va_Pc [.ref t0, .ref q0] (kB D cI cS [(t0, .inr (6, [.ref s0, .int (nI sa), .int (nI ln), .int (nI 0)])), (s0, .inr (5, [.ref c0, .int (nI len), .int rl])), (c0, .inl (cI, 60, .inl cf)), (q0, .inr (1, [.int y1, .int y2, .int y3, .ref q1, .ref q2, .ref q3, .ref q4, .ref q5])), (q1, .inl (cI, 6, .inl sk2)), (q2, .inl (cI, 4, .inl sh2)), (q3, .inl (cI, 4, .inl ki2)), (q4, .inl (cI, 4, .inl st2)), (q5, .inl (cI, 4, .inl cl2))] sz)) (kQi D (fun (r : Int32) (u : Nat × Int32 × Int32 × Int32 × (Nat → Int32) × (Nat → Int32) × (Nat → Int32) × (Nat → Int32) × (Nat → Int32)) => r = kb (rdT (cdT cf sa ln) ln).1 ∧ u.1 = (rdT (cdT cf sa ln) ln).2 ∧ ((rdT (cdT cf sa ln) ln).1 = true → u.2.1 = nI (cSp (nC (cdT cf sa ln))) ∧ u.2.2.1 = nI (cLa (nC (cdT cf sa ln))) ∧ u.2.2.2.1 = nI 6 ∧ repC (nC (cdT cf sa ln)) u.2.2.2.2.1 u.2.2.2.2.2.1 u.2.2.2.2.2.2.1 u.2.2.2.2.2.2.2.1 u.2.2.2.2.2.2.2.2)) (fun u : Nat × Int32 × Int32 × Int32 × (Nat → Int32) × (Nat → Int32) × (Nat → Int32) × (Nat → Int32) × (Nat → Int32) => [(t0, .inr (6, [.ref s0, .int (nI sa), .int (nI ln), .int (nI u.1)])), (s0, .inr (5, [.ref c0, .int (nI len), .int rl])), (c0, .inl (cI, 60, .inl cf)), (q0, .inr (1, [.int u.2.1, .int u.2.2.1, .int u.2.2.2.1, .ref q1, .ref q2, .ref q3, .ref q4, .ref q5])), (q1, .inl (cI, 6, .inl u.2.2.2.2.1)), (q2, .inl (cI, 4, .inl u.2.2.2.2.2.1)), (q3, .inl (cI, 4, .inl u.2.2.2.2.2.2.1)), (q4, .inl (cI, 4, .inl u.2.2.2.2.2.2.2.1)), (q5, .inl (cI, 4, .inl u.2.2.2.2.2.2.2.2))]) (va_A [(t0, .inr (6, [.ref s0, .int (nI sa), .int (nI ln), .int (nI 0)])), (s0, .inr (5, [.ref c0, .int (nI len), .int rl])), (c0, .inl (cI, 60, .inl cf)), (q0, .inr (1, [.int y1, .int y2, .int y3, .ref q1, .ref q2, .ref q3, .ref q4, .ref q5])), (q1, .inl (cI, 6, .inl sk2)), (q2, .inl (cI, 4, .inl sh2)), (q3, .inl (cI, 4, .inl ki2)), (q4, .inl (cI, 4, .inl st2)), (q5, .inl (cI, 4, .inl cl2))] sz)) 0 0 (va_A [(t0, .inr (6, [.ref s0, .int (nI sa), .int (nI ln), .int (nI 0)])), (s0, .inr (5, [.ref c0, .int (nI len), .int rl])), (c0, .inl (cI, 60, .inl cf)), (q0, .inr (1, [.int y1, .int y2, .int y3, .ref q1, .ref q2, .ref q3, .ref q4, .ref q5])), (q1, .inl (cI, 6, .inl sk2)), (q2, .inl (cI, 4, .inl sh2)), (q3, .inl (cI, 4, .inl ki2)), (q4, .inl (cI, 4, .inl st2)), (q5, .inl (cI, 4, .inl cl2))] sz) := by
  refine Met.ofW (cc := cX7_reads) (maxL := 2) (ret := (some .boolean)) (by decide) rfl ?_
  intro pP eE sS mM args below meth cC s₁ B hml hv
  obtain ⟨rfl, hsz, hP, hK, hD0⟩ := hv
  have hx := B.exec
  have hb := B.bytes
  have hr := B.returns
  have hts := atoms_spec (ws := wsX7_reads) B.pre
  have hown : sS.vm.findClass RX7 = some mM.cls := findClass_of_methodNamed B.named
  have hlocks := B.notSynchronized
  subst hsz
  have hD := hD0.self (sz := sS.heap.size)
  generalize hAe : va_A [(t0, .inr (6, [.ref s0, .int (nI sa), .int (nI ln), .int (nI 0)])), (s0, .inr (5, [.ref c0, .int (nI len), .int rl])), (c0, .inl (cI, 60, .inl cf)), (q0, .inr (1, [.int y1, .int y2, .int y3, .ref q1, .ref q2, .ref q3, .ref q4, .ref q5])), (q1, .inl (cI, 6, .inl sk2)), (q2, .inl (cI, 4, .inl sh2)), (q3, .inl (cI, 4, .inl ki2)), (q4, .inl (cI, 4, .inl st2)), (q5, .inl (cI, 4, .inl cl2))] sS.heap.size = A at hD ⊢
  have hA : ∀ q : Nat, sS.heap.size ≤ q → A q := fun q h => by rw [← hAe]; exact Or.inr h
  have hS : va_S A sS.heap sS.heap [] := va_S.rf
  have hP : va_P D vwCl [(t0, .inr (6, [.ref s0, .int (nI sa), .int (nI ln), .int (nI 0)])), (s0, .inr (5, [.ref c0, .int (nI len), .int rl])), (c0, .inl (cI, 60, .inl cf)), (q0, .inr (1, [.int y1, .int y2, .int y3, .ref q1, .ref q2, .ref q3, .ref q4, .ref q5])), (q1, .inl (cI, 6, .inl sk2)), (q2, .inl (cI, 4, .inl sh2)), (q3, .inl (cI, 4, .inl ki2)), (q4, .inl (cI, 4, .inl st2)), (q5, .inl (cI, 4, .inl cl2))] sS.heap := hP
  have hD : va_D A [(t0, .inr (6, [.ref s0, .int (nI sa), .int (nI ln), .int (nI 0)])), (s0, .inr (5, [.ref c0, .int (nI len), .int rl])), (c0, .inl (cI, 60, .inl cf)), (q0, .inr (1, [.int y1, .int y2, .int y3, .ref q1, .ref q2, .ref q3, .ref q4, .ref q5])), (q1, .inl (cI, 6, .inl sk2)), (q2, .inl (cI, 4, .inl sh2)), (q3, .inl (cI, 4, .inl ki2)), (q4, .inl (cI, 4, .inl st2)), (q5, .inl (cI, 4, .inl cl2))] := hD
  have hf_9 := hts (.fieldLink RX7 9 "OldLamps$Text" "at" "I") (List.mem_of_getElem? (i := 1) rfl)
  have hf_22 := hts (.fieldLink RX7 22 "OldLamps$Text" "length" "I") (List.mem_of_getElem? (i := 2) rfl)
  have hwX7 : ∀ w ∈ wsX70, w ∈ wsX7_reads := fun _ h => List.mem_cons_of_mem _ (List.mem_append_left _ (List.mem_append_left _ (List.mem_append_right _ h)))
  have hl := lv_entry ([.ref t0, .ref q0]) (n := 2) (Nat.le_of_ble_eq_true rfl)
  rw [lg_entry_eq]
  generalize (lg_sl ([.ref t0, .ref q0]) ++ List.replicate (2 - (lg_sl ([.ref t0, .ref q0])).length) Slot.unset).toArray = ls at hl ⊢
  have hl : lv_has ls 2 [(0, .ref t0), (1, .ref q0)] := hl
  obtain ⟨QQ, hQQ⟩ : ∃ QQ : State → Prop, QQ = MQ below (kQi D (fun (r : Int32) (u : Nat × Int32 × Int32 × Int32 × (Nat → Int32) × (Nat → Int32) × (Nat → Int32) × (Nat → Int32) × (Nat → Int32)) => r = kb (rdT (cdT cf sa ln) ln).1 ∧ u.1 = (rdT (cdT cf sa ln) ln).2 ∧ ((rdT (cdT cf sa ln) ln).1 = true → u.2.1 = nI (cSp (nC (cdT cf sa ln))) ∧ u.2.2.1 = nI (cLa (nC (cdT cf sa ln))) ∧ u.2.2.2.1 = nI 6 ∧ repC (nC (cdT cf sa ln)) u.2.2.2.2.1 u.2.2.2.2.2.1 u.2.2.2.2.2.2.1 u.2.2.2.2.2.2.2.1 u.2.2.2.2.2.2.2.2)) (fun u : Nat × Int32 × Int32 × Int32 × (Nat → Int32) × (Nat → Int32) × (Nat → Int32) × (Nat → Int32) × (Nat → Int32) => [(t0, .inr (6, [.ref s0, .int (nI sa), .int (nI ln), .int (nI u.1)])), (s0, .inr (5, [.ref c0, .int (nI len), .int rl])), (c0, .inl (cI, 60, .inl cf)), (q0, .inr (1, [.int u.2.1, .int u.2.2.1, .int u.2.2.2.1, .ref q1, .ref q2, .ref q3, .ref q4, .ref q5])), (q1, .inl (cI, 6, .inl u.2.2.2.2.1)), (q2, .inl (cI, 4, .inl u.2.2.2.2.2.1)), (q3, .inl (cI, 4, .inl u.2.2.2.2.2.2.1)), (q4, .inl (cI, 4, .inl u.2.2.2.2.2.2.2.1)), (q5, .inl (cI, 4, .inl u.2.2.2.2.2.2.2.2))]) A) ([.ref t0, .ref q0]).toArray sS 0 0 A := ⟨_, rfl⟩
  refine kk_QQ hQQ.symm ?_
  refine lv_aload_n hx hb dX7_reads_0 rfl (lv_at hl 1 rfl) ?_
  have hF := va_free (wc := [(q0, .inr (1, [.int y1, .int y2, .int y3, .ref q1, .ref q2, .ref q3, .ref q4, .ref q5])), (q5, .inl (cI, 4, .inl cl2))]) hD hS hA [3, 8] rfl
  refine va_callv (va_runV (As := []) (rest := []) ⟨hx, hb, hml, hown, hts⟩ (c_X2_makeNew lL D cI cS _ q0 q1 q2 q3 q4 q5 y1 y2 y3 cl2) (cwV 0 hts gX7_reads_X2_makeNew rfl rfl rfl cd_X2_makeNew ⟨Nat.le_of_ble_eq_true rfl, Nat.le_of_ble_eq_true rfl⟩) ⟨kB_blind, va_recv hK hP (ci := 1) (q0 := 3) rfl rfl, fun U hU hW => ⟨rfl, by rw [hU], by rw [hU]; exact hP.sub [3, 8] rfl, va_K.moved hW.alike hK, (hD.sub [3, 8] (by decide) rfl).weaken (fun _ _ _ _ => trivial)⟩⟩ rfl rfl hl.1 rfl (lv_room (Nat.le_of_ble_eq_true rfl)) dX7_reads_1 ⟨Nat.le_of_ble_eq_true rfl, Nat.le_of_ble_eq_true rfl⟩) hS (fun q _ h => hF q h) hF (fun u_1 t H1 locs ht hvm hw_1 hB hz1 hk1 hS => ?_)
  obtain ⟨hP, hD⟩ := kk_join2 (wc := [(q0, .inr (1, [.int y1, .int y2, .int y3, .ref q1, .ref q2, .ref q3, .ref q4, .ref q5])), (q5, .inl (cI, 4, .inl cl2))]) (w1 := [(q0, .inr (1, [.int (nI 0), .int (nI 0), .int (nI 6), .ref q1, .ref q2, .ref q3, .ref q4, .ref q5])), (q5, .inl (cI, 4, .inl u_1))]) (ws' := [(t0, .inr (6, [.ref s0, .int (nI sa), .int (nI ln), .int (nI 0)])), (s0, .inr (5, [.ref c0, .int (nI len), .int rl])), (c0, .inl (cI, 60, .inl cf)), (q0, .inr (1, [.int (nI 0), .int (nI 0), .int (nI 6), .ref q1, .ref q2, .ref q3, .ref q4, .ref q5])), (q1, .inl (cI, 6, .inl sk2)), (q2, .inl (cI, 4, .inl sh2)), (q3, .inl (cI, 4, .inl ki2)), (q4, .inl (cI, 4, .inl st2)), (q5, .inl (cI, 4, .inl u_1))]) (wr := [(t0, .inr (6, [.ref s0, .int (nI sa), .int (nI ln), .int (nI 0)])), (s0, .inr (5, [.ref c0, .int (nI len), .int rl])), (c0, .inl (cI, 60, .inl cf)), (q1, .inl (cI, 6, .inl sk2)), (q2, .inl (cI, 4, .inl sh2)), (q3, .inl (cI, 4, .inl ki2)), (q4, .inl (cI, 4, .inl st2))]) (H1 := H1) hP hD [3, 8] [0, 1, 2, 4, 5, 6, 7] rfl rfl rfl rfl 9 rfl (by decide) [t0, s0, c0, q0, q1, q2, q3, q4, q5] rfl rfl hk1 (by rw [← ht]; exact hB)
  have hw_1 : ∀ d, d < 4 → u_1 d = nI 0 := hw_1
  clear hF hB hk1 hz1 hvm
  clear ht
  generalize H1 = H at hP hS ⊢
  have hw_cl := hw_1
  refine lv_aload_n hx hb dX7_reads_4 rfl (lv_at hl 0 rfl) ?_
  refine lv_aload_n hx hb dX7_reads_5 rfl (lv_at hl 1 rfl) ?_
  have o_2 : sa + ln ≤ 60 := by omega
  have hF := va_free (wc := [(t0, .inr (6, [.ref s0, .int (nI sa), .int (nI ln), .int (nI 0)])), (s0, .inr (5, [.ref c0, .int (nI len), .int rl])), (c0, .inl (cI, 60, .inl cf)), (q0, .inr (1, [.int (nI 0), .int (nI 0), .int (nI 6), .ref q1, .ref q2, .ref q3, .ref q4, .ref q5])), (q1, .inl (cI, 6, .inl sk2))]) hD hS hA [0, 1, 2, 3, 4] rfl
  refine va_calli (va_runV (As := [.ref q0]) (rest := []) ⟨hx, hb, hml, hown, hts⟩ (c_X7_readsSky lL D cI cS _ t0 s0 c0 len rl cf sa ln q0 q1 q2 q3 q4 q5 (nI 0) (nI 0) (nI 6) sk2 o_2) (cwV 1 hts gX7_reads_X7_readsSky rfl rfl rfl cd_X7_readsSky ⟨Nat.le_of_ble_eq_true rfl, Nat.le_of_ble_eq_true rfl⟩) ⟨kB_blind, va_recv hK hP (ci := 6) (q0 := 0) rfl rfl, fun U hU hW => ⟨rfl, by rw [hU], by rw [hU]; exact hP.sub [0, 1, 2, 3, 4] rfl, va_K.moved hW.alike hK, (hD.sub [0, 1, 2, 3, 4] (by decide) rfl).weaken (fun _ _ _ _ => trivial)⟩⟩ rfl rfl hl.1 rfl (lv_room (Nat.le_of_ble_eq_true rfl)) dX7_reads_6 ⟨Nat.le_of_ble_eq_true rfl, Nat.le_of_ble_eq_true rfl⟩) hS (fun q _ h => hF q h) hF (fun r_3 u_3 t H1 locs ht hvm hw_3 hB hz1 hk1 hS => ?_)
  obtain ⟨at2_3, sk3_3⟩ := u_3
  obtain ⟨hP, hD⟩ := kk_join2 (wc := [(t0, .inr (6, [.ref s0, .int (nI sa), .int (nI ln), .int (nI 0)])), (s0, .inr (5, [.ref c0, .int (nI len), .int rl])), (c0, .inl (cI, 60, .inl cf)), (q0, .inr (1, [.int (nI 0), .int (nI 0), .int (nI 6), .ref q1, .ref q2, .ref q3, .ref q4, .ref q5])), (q1, .inl (cI, 6, .inl sk2))]) (w1 := [(t0, .inr (6, [.ref s0, .int (nI sa), .int (nI ln), .int (nI at2_3)])), (s0, .inr (5, [.ref c0, .int (nI len), .int rl])), (c0, .inl (cI, 60, .inl cf)), (q0, .inr (1, [.int (nI 0), .int (nI 0), .int (nI 6), .ref q1, .ref q2, .ref q3, .ref q4, .ref q5])), (q1, .inl (cI, 6, .inl sk3_3))]) (ws' := [(t0, .inr (6, [.ref s0, .int (nI sa), .int (nI ln), .int (nI at2_3)])), (s0, .inr (5, [.ref c0, .int (nI len), .int rl])), (c0, .inl (cI, 60, .inl cf)), (q0, .inr (1, [.int (nI 0), .int (nI 0), .int (nI 6), .ref q1, .ref q2, .ref q3, .ref q4, .ref q5])), (q1, .inl (cI, 6, .inl sk3_3)), (q2, .inl (cI, 4, .inl sh2)), (q3, .inl (cI, 4, .inl ki2)), (q4, .inl (cI, 4, .inl st2)), (q5, .inl (cI, 4, .inl u_1))]) (wr := [(q2, .inl (cI, 4, .inl sh2)), (q3, .inl (cI, 4, .inl ki2)), (q4, .inl (cI, 4, .inl st2)), (q5, .inl (cI, 4, .inl u_1))]) (H1 := H1) hP hD [0, 1, 2, 3, 4] [5, 6, 7, 8] rfl rfl rfl rfl 9 rfl (by decide) [t0, s0, c0, q0, q1, q2, q3, q4, q5] rfl rfl hk1 (by rw [← ht]; exact hB)
  have hw_3 : at2_3 ≤ ln ∧ ((r_3 = nI 1 ∧ at2_3 = 7 ∧ oSk (cdT cf sa ln) ∧ ∀ j, j < 6 → sk3_3 j = nI (dv (cdT cf sa ln) (1 + j))) ∨ (r_3 = nI 0 ∧ rdT (cdT cf sa ln) ln = (false, at2_3))) := hw_3
  clear hF hB hk1 hz1 hvm
  clear ht
  generalize H1 = H at hP hS ⊢
  rcases hw_3 with ⟨q0_3, ⟨dq2, dq3, dq4, dq5⟩ | ⟨dq2, dq3⟩⟩
  · skip
    have dq2 := dq2.symm
    have dq3 := dq3.symm
    subst dq2 dq3
    refine kk_if_eq (x := 1) (tgt := 43) hx hb dX7_reads_9 (by decide) (by decide) (fun h => absurd h (by decide)) (fun h => ?_)
    refine lv_aload_n hx hb dX7_reads_12 rfl (lv_at hl 0 rfl) ?_
    refine lv_aload_n hx hb dX7_reads_13 rfl (lv_at hl 1 rfl) ?_
    have o_4 : sa + ln ≤ 60 := by omega
    have o_5 : 7 ≤ ln := by exact q0_3
    have o_6 : oSk (cdT cf sa ln) := by exact dq4
    have hF := va_free (wc := [(t0, .inr (6, [.ref s0, .int (nI sa), .int (nI ln), .int (nI 7)])), (s0, .inr (5, [.ref c0, .int (nI len), .int rl])), (c0, .inl (cI, 60, .inl cf)), (q0, .inr (1, [.int (nI 0), .int (nI 0), .int (nI 6), .ref q1, .ref q2, .ref q3, .ref q4, .ref q5])), (q2, .inl (cI, 4, .inl sh2))]) hD hS hA [0, 1, 2, 3, 5] rfl
    refine va_calli (va_runV (As := [.ref q0]) (rest := []) ⟨hx, hb, hml, hown, hts⟩ (c_X7_readsSpots lL D cI cS _ t0 s0 c0 len rl cf sa ln q0 q1 q2 q3 q4 q5 (nI 0) (nI 6) sh2 o_4 o_5 o_6) (cwV 1 hts gX7_reads_X7_readsSpots rfl rfl rfl cd_X7_readsSpots ⟨Nat.le_of_ble_eq_true rfl, Nat.le_of_ble_eq_true rfl⟩) ⟨kB_blind, va_recv hK hP (ci := 6) (q0 := 0) rfl rfl, fun U hU hW => ⟨rfl, by rw [hU], by rw [hU]; exact hP.sub [0, 1, 2, 3, 5] rfl, va_K.moved hW.alike hK, (hD.sub [0, 1, 2, 3, 5] (by decide) rfl).weaken (fun _ _ _ _ => trivial)⟩⟩ rfl rfl hl.1 rfl (lv_room (Nat.le_of_ble_eq_true rfl)) dX7_reads_14 ⟨Nat.le_of_ble_eq_true rfl, Nat.le_of_ble_eq_true rfl⟩) hS (fun q _ h => hF q h) hF (fun r_7 u_7 t H1 locs ht hvm hw_7 hB hz1 hk1 hS => ?_)
    obtain ⟨at2_7, sp2_7, sh3_7⟩ := u_7
    obtain ⟨hP, hD⟩ := kk_join2 (wc := [(t0, .inr (6, [.ref s0, .int (nI sa), .int (nI ln), .int (nI 7)])), (s0, .inr (5, [.ref c0, .int (nI len), .int rl])), (c0, .inl (cI, 60, .inl cf)), (q0, .inr (1, [.int (nI 0), .int (nI 0), .int (nI 6), .ref q1, .ref q2, .ref q3, .ref q4, .ref q5])), (q2, .inl (cI, 4, .inl sh2))]) (w1 := [(t0, .inr (6, [.ref s0, .int (nI sa), .int (nI ln), .int (nI at2_7)])), (s0, .inr (5, [.ref c0, .int (nI len), .int rl])), (c0, .inl (cI, 60, .inl cf)), (q0, .inr (1, [.int (nI sp2_7), .int (nI 0), .int (nI 6), .ref q1, .ref q2, .ref q3, .ref q4, .ref q5])), (q2, .inl (cI, 4, .inl sh3_7))]) (ws' := [(t0, .inr (6, [.ref s0, .int (nI sa), .int (nI ln), .int (nI at2_7)])), (s0, .inr (5, [.ref c0, .int (nI len), .int rl])), (c0, .inl (cI, 60, .inl cf)), (q0, .inr (1, [.int (nI sp2_7), .int (nI 0), .int (nI 6), .ref q1, .ref q2, .ref q3, .ref q4, .ref q5])), (q1, .inl (cI, 6, .inl sk3_3)), (q2, .inl (cI, 4, .inl sh3_7)), (q3, .inl (cI, 4, .inl ki2)), (q4, .inl (cI, 4, .inl st2)), (q5, .inl (cI, 4, .inl u_1))]) (wr := [(q1, .inl (cI, 6, .inl sk3_3)), (q3, .inl (cI, 4, .inl ki2)), (q4, .inl (cI, 4, .inl st2)), (q5, .inl (cI, 4, .inl u_1))]) (H1 := H1) hP hD [0, 1, 2, 3, 5] [4, 6, 7, 8] rfl rfl rfl rfl 9 rfl (by decide) [t0, s0, c0, q0, q1, q2, q3, q4, q5] rfl rfl hk1 (by rw [← ht]; exact hB)
    have hw_7 : at2_7 ≤ ln ∧ ((r_7 = nI 1 ∧ at2_7 = aLa (cdT cf sa ln) ∧ sp2_7 = rSp (cdT cf sa ln) ∧ oSp (cdT cf sa ln) ∧ ∀ j, j < sp2_7 → sh3_7 j = nI (dv (cdT cf sa ln) (8 + 2 * j))) ∨ (r_7 = nI 0 ∧ rdT (cdT cf sa ln) ln = (false, at2_7))) := hw_7
    clear hF hB hk1 hz1 hvm
    clear ht
    generalize H1 = H at hP hS ⊢
    rcases hw_7 with ⟨q0_7, ⟨dq2, dq3, dq6, dq7, dq8⟩ | ⟨dq2, dq3⟩⟩
    · skip
      have dq2 := dq2.symm
      have dq3 := dq3.symm
      subst dq2 dq3
      refine kk_if_eq (x := 1) (tgt := 43) hx hb dX7_reads_17 (by decide) (by decide) (fun h => absurd h (by decide)) (fun h => ?_)
      refine lv_aload_n hx hb dX7_reads_20 rfl (lv_at hl 0 rfl) ?_
      refine lv_aload_n hx hb dX7_reads_21 rfl (lv_at hl 1 rfl) ?_
      have o_8 : sa + ln ≤ 60 := by omega
      have o_9 : aLa (cdT cf sa ln) ≤ ln := by exact q0_7
      have o_10 : oSp (cdT cf sa ln) := by exact dq7
      have o_11 : sp2_7 = rSp (cdT cf sa ln) := by exact dq6
      have hF := va_free (wc := [(t0, .inr (6, [.ref s0, .int (nI sa), .int (nI ln), .int (nI (aLa (cdT cf sa ln)))])), (s0, .inr (5, [.ref c0, .int (nI len), .int rl])), (c0, .inl (cI, 60, .inl cf)), (q0, .inr (1, [.int (nI sp2_7), .int (nI 0), .int (nI 6), .ref q1, .ref q2, .ref q3, .ref q4, .ref q5])), (q3, .inl (cI, 4, .inl ki2)), (q4, .inl (cI, 4, .inl st2))]) hD hS hA [0, 1, 2, 3, 6, 7] rfl
      refine va_calli (va_runV (As := [.ref q0]) (rest := []) ⟨hx, hb, hml, hown, hts⟩ (c_X7_readsLamps lL D cI cS _ t0 s0 c0 len rl cf sa ln q0 q1 q2 q3 q4 q5 sp2_7 (nI 6) ki2 st2 o_8 o_9 o_10 o_11) (cwV 1 hts gX7_reads_X7_readsLamps rfl rfl rfl cd_X7_readsLamps ⟨Nat.le_of_ble_eq_true rfl, Nat.le_of_ble_eq_true rfl⟩) ⟨kB_blind, va_recv hK hP (ci := 6) (q0 := 0) rfl rfl, fun U hU hW => ⟨rfl, by rw [hU], by rw [hU]; exact hP.sub [0, 1, 2, 3, 6, 7] rfl, va_K.moved hW.alike hK, (hD.sub [0, 1, 2, 3, 6, 7] (by decide) rfl).weaken (fun _ _ _ _ => trivial)⟩⟩ rfl rfl hl.1 rfl (lv_room (Nat.le_of_ble_eq_true rfl)) dX7_reads_22 ⟨Nat.le_of_ble_eq_true rfl, Nat.le_of_ble_eq_true rfl⟩) hS (fun q _ h => hF q h) hF (fun r_12 u_12 t H1 locs ht hvm hw_12 hB hz1 hk1 hS => ?_)
      obtain ⟨at2_12, la2_12, ki3_12, st3_12⟩ := u_12
      obtain ⟨hP, hD⟩ := kk_join2 (wc := [(t0, .inr (6, [.ref s0, .int (nI sa), .int (nI ln), .int (nI (aLa (cdT cf sa ln)))])), (s0, .inr (5, [.ref c0, .int (nI len), .int rl])), (c0, .inl (cI, 60, .inl cf)), (q0, .inr (1, [.int (nI sp2_7), .int (nI 0), .int (nI 6), .ref q1, .ref q2, .ref q3, .ref q4, .ref q5])), (q3, .inl (cI, 4, .inl ki2)), (q4, .inl (cI, 4, .inl st2))]) (w1 := [(t0, .inr (6, [.ref s0, .int (nI sa), .int (nI ln), .int (nI at2_12)])), (s0, .inr (5, [.ref c0, .int (nI len), .int rl])), (c0, .inl (cI, 60, .inl cf)), (q0, .inr (1, [.int (nI sp2_7), .int (nI la2_12), .int (nI 6), .ref q1, .ref q2, .ref q3, .ref q4, .ref q5])), (q3, .inl (cI, 4, .inl ki3_12)), (q4, .inl (cI, 4, .inl st3_12))]) (ws' := [(t0, .inr (6, [.ref s0, .int (nI sa), .int (nI ln), .int (nI at2_12)])), (s0, .inr (5, [.ref c0, .int (nI len), .int rl])), (c0, .inl (cI, 60, .inl cf)), (q0, .inr (1, [.int (nI sp2_7), .int (nI la2_12), .int (nI 6), .ref q1, .ref q2, .ref q3, .ref q4, .ref q5])), (q1, .inl (cI, 6, .inl sk3_3)), (q2, .inl (cI, 4, .inl sh3_7)), (q3, .inl (cI, 4, .inl ki3_12)), (q4, .inl (cI, 4, .inl st3_12)), (q5, .inl (cI, 4, .inl u_1))]) (wr := [(q1, .inl (cI, 6, .inl sk3_3)), (q2, .inl (cI, 4, .inl sh3_7)), (q5, .inl (cI, 4, .inl u_1))]) (H1 := H1) hP hD [0, 1, 2, 3, 6, 7] [4, 5, 8] rfl rfl rfl rfl 9 rfl (by decide) [t0, s0, c0, q0, q1, q2, q3, q4, q5] rfl rfl hk1 (by rw [← ht]; exact hB)
      have hw_12 : at2_12 ≤ ln ∧ ((r_12 = nI 1 ∧ la2_12 = rLa (cdT cf sa ln) ∧ rdT (cdT cf sa ln) ln = (decide (at2_12 = ln), at2_12) ∧ (∀ j, j < la2_12 → ki3_12 j = nI (kdOf ((cdT cf sa ln) (aLa (cdT cf sa ln) + 3 * j + 1)))) ∧ ∀ j, j < la2_12 → st3_12 j = nI (dv (cdT cf sa ln) (aLa (cdT cf sa ln) + 3 * j + 2))) ∨ (r_12 = nI 0 ∧ rdT (cdT cf sa ln) ln = (false, at2_12))) := hw_12
      clear hF hB hk1 hz1 hvm
      clear ht
      generalize H1 = H at hP hS ⊢
      rcases hw_12 with ⟨q0_12, ⟨p2, p3, p4, p5, p6⟩ | ⟨dq2, dq3⟩⟩
      · skip
        have p2 := p2.symm
        subst p2
        refine kk_if_eq (x := 1) (tgt := 43) hx hb dX7_reads_25 (by decide) (by decide) (fun h => absurd h (by decide)) (fun h => ?_)
        refine lv_aload_n hx hb dX7_reads_28 rfl (lv_at hl 0 rfl) ?_
        refine va_get (D := D) (ci := 6) (v := .int (nI at2_12)) (C := RX7) (T := TX7) (N := 4) hx hb hts hwX7 hown hK hP 0 rfl rfl 3 (by decide) hf_9 (fun _ h9 => h9) rfl dX7_reads_29 ?_
        refine lv_aload_n hx hb dX7_reads_32 rfl (lv_at hl 0 rfl) ?_
        refine va_get (D := D) (ci := 6) (v := .int (nI ln)) (C := RX7) (T := TX7) (N := 4) hx hb hts hwX7 hown hK hP 0 rfl rfl 2 (by decide) hf_22 (fun _ h9 => h9) rfl dX7_reads_33 ?_
        refine kk_icmp_ne (tgt := 43) hx hb dX7_reads_36 (by decide) (by omega) (by omega) (fun c_13 => ?_) (fun c_13 => ?_)
        · skip
          refine lv_iconst (v := nI 0) hx hb dX7_reads_43 (by decide +kernel) ?_
          have hq : (nI 0) = kb (rdT (cdT cf sa ln) ln).1 ∧ at2_12 = (rdT (cdT cf sa ln) ln).2 ∧ ((rdT (cdT cf sa ln) ln).1 = true → (nI sp2_7) = nI (cSp (nC (cdT cf sa ln))) ∧ (nI la2_12) = nI (cLa (nC (cdT cf sa ln))) ∧ (nI 6) = nI 6 ∧ repC (nC (cdT cf sa ln)) sk3_3 sh3_7 ki3_12 st3_12 u_1) := by
            have e_t : rdT (cdT cf sa ln) ln = (false, at2_12) := by rw [p4, decide_eq_false (by omega)]
            refine ⟨?_, ?_, fun h => ?_⟩
            · rw [e_t]; rfl
            · rw [e_t]
            · rw [e_t] at h; cases h
          refine kk_QQ hQQ ?_
          exact W.zret (v := nI 0) (ty := .boolean) hx hb hr (by decide +kernel) (fun t ht hW => ⟨⟨nI 0, (at2_12, nI sp2_7, nI la2_12, nI 6, sk3_3, sh3_7, ki3_12, st3_12, u_1), rfl, hq, by show va_P D vwCl _ t.heap; rw [ht]; exact hP⟩, hS.F ht⟩) hS.2.2 dX7_reads_44
        · skip
          refine lv_iconst (v := nI 1) hx hb dX7_reads_39 (by decide +kernel) ?_
          refine lv_goto (tgt := 44) hx hb dX7_reads_40 (by decide) ?_
          have hq : (nI 1) = kb (rdT (cdT cf sa ln) ln).1 ∧ at2_12 = (rdT (cdT cf sa ln) ln).2 ∧ ((rdT (cdT cf sa ln) ln).1 = true → (nI sp2_7) = nI (cSp (nC (cdT cf sa ln))) ∧ (nI la2_12) = nI (cLa (nC (cdT cf sa ln))) ∧ (nI 6) = nI 6 ∧ repC (nC (cdT cf sa ln)) sk3_3 sh3_7 ki3_12 st3_12 u_1) := by
            have e_t : rdT (cdT cf sa ln) ln = (true, at2_12) := by rw [p4, decide_eq_true (by omega)]
            refine ⟨?_, ?_, fun _ => ⟨congrArg nI dq6, congrArg nI p3, rfl, dq5, ?_, fun j hj => p5 j (by rw [p3]; exact hj), fun j hj => p6 j (by rw [p3]; exact hj), ?_⟩⟩
            · rw [e_t]; rfl
            · rw [e_t]
            · exact fun j hj => dq8 j (by rw [dq6]; exact hj)
            · exact hw_cl
          refine kk_QQ hQQ ?_
          exact W.zret (v := nI 1) (ty := .boolean) hx hb hr (by decide +kernel) (fun t ht hW => ⟨⟨nI 1, (at2_12, nI sp2_7, nI la2_12, nI 6, sk3_3, sh3_7, ki3_12, st3_12, u_1), rfl, hq, by show va_P D vwCl _ t.heap; rw [ht]; exact hP⟩, hS.F ht⟩) hS.2.2 dX7_reads_44
      · skip
        have dq2 := dq2.symm
        subst dq2
        refine kk_if_eq (x := 0) (tgt := 43) hx hb dX7_reads_25 (by decide) (by decide) (fun h => ?_) (fun h => absurd h (by decide))
        refine lv_iconst (v := nI 0) hx hb dX7_reads_43 (by decide +kernel) ?_
        have hq : (nI 0) = kb (rdT (cdT cf sa ln) ln).1 ∧ at2_12 = (rdT (cdT cf sa ln) ln).2 ∧ ((rdT (cdT cf sa ln) ln).1 = true → (nI sp2_7) = nI (cSp (nC (cdT cf sa ln))) ∧ (nI la2_12) = nI (cLa (nC (cdT cf sa ln))) ∧ (nI 6) = nI 6 ∧ repC (nC (cdT cf sa ln)) sk3_3 sh3_7 ki3_12 st3_12 u_1) := by
          refine ⟨?_, ?_, fun h => ?_⟩
          · rw [dq3]; rfl
          · rw [dq3]
          · rw [dq3] at h; cases h
        refine kk_QQ hQQ ?_
        exact W.zret (v := nI 0) (ty := .boolean) hx hb hr (by decide +kernel) (fun t ht hW => ⟨⟨nI 0, (at2_12, nI sp2_7, nI la2_12, nI 6, sk3_3, sh3_7, ki3_12, st3_12, u_1), rfl, hq, by show va_P D vwCl _ t.heap; rw [ht]; exact hP⟩, hS.F ht⟩) hS.2.2 dX7_reads_44
    · skip
      have dq2 := dq2.symm
      subst dq2
      refine kk_if_eq (x := 0) (tgt := 43) hx hb dX7_reads_17 (by decide) (by decide) (fun h => ?_) (fun h => absurd h (by decide))
      refine lv_iconst (v := nI 0) hx hb dX7_reads_43 (by decide +kernel) ?_
      have hq : (nI 0) = kb (rdT (cdT cf sa ln) ln).1 ∧ at2_7 = (rdT (cdT cf sa ln) ln).2 ∧ ((rdT (cdT cf sa ln) ln).1 = true → (nI sp2_7) = nI (cSp (nC (cdT cf sa ln))) ∧ (nI 0) = nI (cLa (nC (cdT cf sa ln))) ∧ (nI 6) = nI 6 ∧ repC (nC (cdT cf sa ln)) sk3_3 sh3_7 ki2 st2 u_1) := by
        refine ⟨?_, ?_, fun h => ?_⟩
        · rw [dq3]; rfl
        · rw [dq3]
        · rw [dq3] at h; cases h
      refine kk_QQ hQQ ?_
      exact W.zret (v := nI 0) (ty := .boolean) hx hb hr (by decide +kernel) (fun t ht hW => ⟨⟨nI 0, (at2_7, nI sp2_7, nI 0, nI 6, sk3_3, sh3_7, ki2, st2, u_1), rfl, hq, by show va_P D vwCl _ t.heap; rw [ht]; exact hP⟩, hS.F ht⟩) hS.2.2 dX7_reads_44
  · skip
    have dq2 := dq2.symm
    subst dq2
    refine kk_if_eq (x := 0) (tgt := 43) hx hb dX7_reads_9 (by decide) (by decide) (fun h => ?_) (fun h => absurd h (by decide))
    refine lv_iconst (v := nI 0) hx hb dX7_reads_43 (by decide +kernel) ?_
    have hq : (nI 0) = kb (rdT (cdT cf sa ln) ln).1 ∧ at2_3 = (rdT (cdT cf sa ln) ln).2 ∧ ((rdT (cdT cf sa ln) ln).1 = true → (nI 0) = nI (cSp (nC (cdT cf sa ln))) ∧ (nI 0) = nI (cLa (nC (cdT cf sa ln))) ∧ (nI 6) = nI 6 ∧ repC (nC (cdT cf sa ln)) sk3_3 sh2 ki2 st2 u_1) := by
      refine ⟨?_, ?_, fun h => ?_⟩
      · rw [dq3]; rfl
      · rw [dq3]
      · rw [dq3] at h; cases h
    refine kk_QQ hQQ ?_
    exact W.zret (v := nI 0) (ty := .boolean) hx hb hr (by decide +kernel) (fun t ht hW => ⟨⟨nI 0, (at2_3, nI 0, nI 0, nI 6, sk3_3, sh2, ki2, st2, u_1), rfl, hq, by show va_P D vwCl _ t.heap; rw [ht]; exact hP⟩, hS.F ht⟩) hS.2.2 dX7_reads_44
