/-! the best of all moves: a walk lamp by lamp, watch by watch, spot by spot -/
def iI (z : Int) : Int32 := Int32.ofInt z
theorem iI_T {z : Int} (h1 : -1000 ≤ z) (h2 : z ≤ 1000) : (iI z).toInt = z := Int32.toInt_ofInt_of_le (by omega) (by omega)
theorem iI_n (n : Nat) : iI (n : Int) = nI n := Int32.ofInt_eq_ofNat
theorem iI_neg (z : Int) : -(iI z) = iI (-z) := Int32.neg_ofInt
theorem iI_lt {a b : Int} (h1 : -1000 ≤ a) (h2 : a ≤ 1000) (h3 : -1000 ≤ b) (h4 : b ≤ 1000) : iI a < iI b ↔ a < b := by rw [Int32.lt_iff_toInt_lt, iI_T h1 h2, iI_T h3 h4]
theorem iI_le {a b : Int} (h1 : -1000 ≤ a) (h2 : a ≤ 1000) (h3 : -1000 ≤ b) (h4 : b ≤ 1000) : iI a ≤ iI b ↔ a ≤ b := by rw [Int32.le_iff_toInt_le, iI_T h1 h2, iI_T h3 h4]
theorem iI_nle {a : Nat} {b : Int} (h2 : a ≤ 1000) (h3 : -1000 ≤ b) (h4 : b ≤ 1000) : nI a ≤ iI b ↔ (a : Int) ≤ b := by rw [← iI_n, iI_le (by omega) (by omega) h3 h4]
theorem iI_len {a : Nat} {b : Int} (h2 : a ≤ 1000) (h3 : -1000 ≤ b) (h4 : b ≤ 1000) : iI b ≤ nI a ↔ b ≤ (a : Int) := by rw [← iI_n, iI_le h3 h4 (by omega) (by omega)]
def bst (sc : Nat → Nat → Nat → Int) (sp : Nat) (b : Int32 × Int) : Nat → Int32 × Int
  | 0 => b
  | n + 1 => if (bst sc sp b n).2 < sc (n / sp / 24) (n / sp % 24) (n % sp) then (nI (1000 * (n / sp / 24) + 10 * (n / sp % 24) + n % sp), sc (n / sp / 24) (n / sp % 24) (n % sp)) else bst sc sp b n
theorem bst_s (sc : Nat → Nat → Nat → Int) (sp : Nat) (b : Int32 × Int) (n : Nat) : bst sc sp b (n + 1) = if (bst sc sp b n).2 < sc (n / sp / 24) (n / sp % 24) (n % sp) then (nI (1000 * (n / sp / 24) + 10 * (n / sp % 24) + n % sp), sc (n / sp / 24) (n / sp % 24) (n % sp)) else bst sc sp b n := rfl
theorem bst_bd {sc : Nat → Nat → Nat → Int} {sp : Nat} {b : Int32 × Int} (h0 : -1000 ≤ b.2 ∧ b.2 ≤ 1000) (hs : ∀ l w q, -1000 ≤ sc l w q ∧ sc l w q ≤ 1000) : ∀ n, -1000 ≤ (bst sc sp b n).2 ∧ (bst sc sp b n).2 ≤ 1000
  | 0 => h0
  | n + 1 => by
    rw [bst_s]
    split
    · exact hs _ _ _
    · exact bst_bd h0 hs n
theorem bst_ge {sc : Nat → Nat → Nat → Int} {sp : Nat} {b : Int32 × Int} : ∀ n, b.2 ≤ (bst sc sp b n).2
  | 0 => Int.le_refl _
  | n + 1 => by
    rw [bst_s]
    split
    · rename_i h
      exact Int.le_trans (bst_ge n) (Int.le_of_lt h)
    · exact bst_ge n
theorem bst_skip {sc : Nat → Nat → Nat → Int} {sp : Nat} {b : Int32 × Int} {n : Nat} : ∀ m, (∀ j, n ≤ j → j < n + m → sc (j / sp / 24) (j / sp % 24) (j % sp) ≤ b.2) → bst sc sp b (n + m) = bst sc sp b n
  | 0, _ => rfl
  | m + 1, h => by
    show bst sc sp b ((n + m) + 1) = _
    have h1 := h (n + m) (by omega) (by omega)
    have h2 := bst_ge (sc := sc) (sp := sp) (b := b) (n + m)
    rw [bst_s, if_neg (by omega), bst_skip m (fun j h3 h4 => h j h3 (by omega))]
/-- SET by light, SHOW by dark watches, told below 0 -/
def scL (C : Co) (T : Mv) (s w : Nat) : Nat → Nat → Nat → Int := fun l v q => ((Li C (plc (mApp T l v q) (cSt C)) s w : Nat) : Int)
def scD (C : Co) (T : Mv) (s u : Nat) : Nat → Nat → Nat → Int := fun l v q => -((cntB C (plc (mApp T l v q) (cSt C)) s u : Nat) : Int)
def bL (C : Co) (T : Mv) (s w : Nat) : Nat → Int32 × Int := bst (scL C T s w) (cSp C) (-9, ((Li C (plT C T) s w : Nat) : Int))
def bD (C : Co) (T : Mv) (s u : Nat) : Nat → Int32 × Int := bst (scD C T s u) (cSp C) (-9, -((cntB C (plT C T) s u : Nat) : Int))
theorem cntB_le (C : Co) (pl : Nat → Nat → Nat) (s v : Nat) : cntB C pl s v ≤ 24 := by
  have h := sumN_le (f := fun w => if Li C pl s w < v then 1 else 0) (B := 1) (n := 24) (fun j _ => by
    show (if Li C pl s j < v then 1 else 0) ≤ 1
    split <;> omega)
  exact h
theorem scL_bd {C : Co} (hC : okC C) (T : Mv) (s w : Nat) : ∀ l v q, -1000 ≤ scL C T s w l v q ∧ scL C T s w l v q ≤ 1000 := fun l v q => by
  have h := Li_le hC (plc (mApp T l v q) (cSt C)) s w
  unfold scL
  omega
theorem scD_bd (C : Co) (T : Mv) (s u : Nat) : ∀ l v q, -1000 ≤ scD C T s u l v q ∧ scD C T s u l v q ≤ 1000 := fun l v q => by
  have h := cntB_le C (plc (mApp T l v q) (cSt C)) s u
  unfold scD
  omega
theorem bL_bd {C : Co} (hC : okC C) (T : Mv) (s w n : Nat) : -1000 ≤ (bL C T s w n).2 ∧ (bL C T s w n).2 ≤ 1000 := by
  have h := Li_le hC (plT C T) s w
  exact bst_bd (by show -1000 ≤ ((Li C (plT C T) s w : Nat) : Int) ∧ ((Li C (plT C T) s w : Nat) : Int) ≤ 1000; omega) (scL_bd hC T s w) n
theorem bD_bd (C : Co) (T : Mv) (s u n : Nat) : -1000 ≤ (bD C T s u n).2 ∧ (bD C T s u n).2 ≤ 1000 := by
  have h := cntB_le C (plT C T) s u
  exact bst_bd (by show -1000 ≤ -((cntB C (plT C T) s u : Nat) : Int) ∧ -((cntB C (plT C T) s u : Nat) : Int) ≤ 1000; omega) (scD_bd C T s u) n
theorem bL_s (C : Co) (T : Mv) (s w n : Nat) : bL C T s w (n + 1) = if (bL C T s w n).2 < ((Li C (plc (mApp T (n / cSp C / 24) (n / cSp C % 24) (n % cSp C)) (cSt C)) s w : Nat) : Int) then (nI (1000 * (n / cSp C / 24) + 10 * (n / cSp C % 24) + n % cSp C), ((Li C (plc (mApp T (n / cSp C / 24) (n / cSp C % 24) (n % cSp C)) (cSt C)) s w : Nat) : Int)) else bL C T s w n := rfl
theorem bD_s (C : Co) (T : Mv) (s u n : Nat) : bD C T s u (n + 1) = if (bD C T s u n).2 < -((cntB C (plc (mApp T (n / cSp C / 24) (n / cSp C % 24) (n % cSp C)) (cSt C)) s u : Nat) : Int) then (nI (1000 * (n / cSp C / 24) + 10 * (n / cSp C % 24) + n % cSp C), -((cntB C (plc (mApp T (n / cSp C / 24) (n / cSp C % 24) (n % cSp C)) (cSt C)) s u : Nat) : Int)) else bD C T s u n := rfl
abbrev aM (C : Co) : Nat := cLa C * 24 * cSp C
def sp_set (C : Co) (T : Mv) (x y z : Int32) : Int32 := bif inB x (cSp C) then (bif inB y 24 then (bif wB z 0 1 then (if tn z = 0 then (bL C T (tn x) (tn y) (aM C)).1 else iI (bL C T (tn x) (tn y) (aM C)).2) else (-2)) else (-2)) else (-1)
def sp_show (C : Co) (T : Mv) (x y z : Int32) : Int32 := bif inB x (cSp C) then (bif wB y 0 999 then (bif wB z 0 1 then (if tn z = 0 then (bD C T (tn x) (tn y) (aM C)).1 else -(iI (bD C T (tn x) (tn y) (aM C)).2)) else (-2)) else (-2)) else (-1)
theorem aM_le {C : Co} (h1 : cLa C ≤ 4) (h2 : cSp C ≤ 4) : cLa C * 24 * cSp C ≤ 384 := by
  have h3 := Nat.mul_le_mul (Nat.mul_le_mul_right 24 h1) h2
  omega
theorem aM_at {la sp x : Nat} (h : x < la * 24 * sp) : x / sp / 24 < la ∧ x / sp % 24 < 24 ∧ x % sp < sp := by
  have h0 : 0 < sp := by
    rcases Nat.eq_zero_or_pos sp with e | e
    · subst e; omega
    · exact e
  have h1 : x / sp < la * 24 := Nat.div_lt_of_lt_mul (by rw [Nat.mul_comm]; exact h)
  exact ⟨by omega, by omega, Nat.mod_lt _ h0⟩
theorem ok9_app {C : Co} {T : Mv} {a b c : Nat} (h : okM C T) (ha : a < cLa C) (hb : b < 24) (hc : c < cSp C) : ok9 C (mApp T a b c) := by
  refine ⟨by have := h.1; show mN T + 1 ≤ 9; omega, fun i hi => ?_⟩
  have hi' : i < mN T + 1 := hi
  by_cases e : i = mN T
  · subst e
    rw [mApp_W1, mApp_T1, mApp_V1]
    exact ⟨ha, hb, hc⟩
  · rw [mApp_W (by omega), mApp_T (by omega), mApp_V (by omega)]
    exact h.2 i (by omega)
theorem sumN_add (f g : Nat → Nat) : ∀ n, sumN (fun j => f j + g j) n = sumN f n + sumN g n
  | 0 => rfl
  | n + 1 => by
    rw [sumN_s, sumN_s, sumN_s, sumN_add f g n]
    omega
theorem sumN_0 : ∀ n, sumN (fun _ => 0) n = 0
  | 0 => rfl
  | n + 1 => by rw [sumN_s, sumN_0 n]
theorem sumN_swap (f : Nat → Nat → Nat) (b : Nat) : ∀ a, sumN (fun s => sumN (fun w => f s w) b) a = sumN (fun w => sumN (fun s => f s w) a) b
  | 0 => (sumN_0 b).symm
  | a + 1 => by
    rw [sumN_s, sumN_swap f b a, ← sumN_add]
    rfl
theorem allL_swap (C : Co) (pl : Nat → Nat → Nat) : sumN (fun s => sumN (fun w => Li C pl s w) 24) (cSp C) = allL C pl := sumN_swap (fun s w => Li C pl s w) 24 (cSp C)
theorem kdM_wo {C : Co} {kq : Nat → Nat} {ki : Nat → Int32} {k : Nat} (hk : k < 4) (h : kdM C 9 (-9) kq ki) (hL : cLa C ≤ 4) : kdM (cKnd C k 3) k (nI k) kq ki := by
  refine ⟨fun j hj => ⟨(h.1 j hj).1, (h.1 j hj).2.1, fun hne => ?_, fun e => ?_⟩, fun j hj => nI_eq (by omega) (by omega)⟩
  · have hj' : j < cLa C := hj
    show (if j = k then 3 else cKi C j) = kq j
    rw [if_neg hne]
    exact (h.1 j hj).2.2.1 (by omega)
  · show (if j = k then 3 else cKi C j) = 3
    rw [if_pos e]
theorem kdM_knd {C : Co} {ki : Nat → Int32} {k v : Nat} (h : kdM C 9 (-9) (cKi C) ki) (hL : cLa C ≤ 4) (hv : v ≤ 2) {ki' : Nat → Int32} (h1 : ki' k = nI v) (h2 : ∀ j, j < cLa C → j ≠ k → ki' j = nI (cKi C j)) : kdM (cKnd C k v) 9 (-9) (cKi (cKnd C k v)) ki' := by
  refine ⟨fun j hj => ?_, h.2⟩
  have hj' : j < cLa C := hj
  refine ⟨?_, ?_, fun _ => rfl, fun e => by omega⟩
  · show ki' j = nI (if j = k then v else cKi C j)
    by_cases e : j = k
    · rw [if_pos e, e, h1]
    · rw [if_neg e]; exact h2 j hj' e
  · show (if j = k then v else cKi C j) ≤ 2
    split
    · exact hv
    · have h3 := (h.1 j hj').2.1; exact h3

abbrev rmX10_areSo : Room := { frames := 3, cells := 0, slots := 0, locals := 75 }
set_option maxHeartbeats 4000000 in
set_option maxRecDepth 100000 in
theorem c_X10_areSo (lL : Launch) (D : va_G) (cI cS : ClassId) (sz : Nat) (J : Co) (M : Mv) (E : Mv) (wo : Nat) (kq : Nat → Nat) (m0 : Nat) (a1 : Nat) (a3 : Nat) (a5 : Nat) (a6 : Nat) (a7 : Nat) (a13 : Nat) (a14 : Nat) (a15 : Nat) (a16 : Nat) (a18 : Nat) (a19 : Nat) (a20 : Nat) (a21 : Nat) (a22 : Nat) (a23 : Nat) (a24 : Nat) (a25 : Nat) (a27 : Nat) (a28 : Nat) (a29 : Nat) (a30 : Nat) (a31 : Nat) (a32 : Nat) (a33 : Nat) (a34 : Nat) (i0 : Int32) (i2 : Int32) (i9 : Int32) (i10 : Int32) (i11 : Int32) (i12 : Int32) (i35 : Int32) (sk : Nat → Int32) (sh : Nat → Int32) (ki : Nat → Int32) (st : Nat → Int32) (cl : Nat → Int32) (mo : Nat → Int32) (mi : Nat → Int32) (mt : Nat → Int32) (fa : Nat → Int32) (gi : Nat → Int32) (ro : Nat → Int32) (ri : Nat → Int32) (rv : Nat → Int32) (hJ : okC J) (hM : ok9 J M) (hst : ∀ k, k < cLa J → st k = nI (cSt J k)) (hrM : repM M mo mi mt) (hkd : kdM J wo i9 kq ki) (hrB : repB J sk sh cl) (hE : okE J E) (hrE : repM E ro ri rv) : Met lL yX10_areSo wsX10_areSo rmX10_areSo (va_Pc [.ref m0] (kB D cI cS [(m0, .inr (9, [.int i0, .ref a1, .int i2, .ref a3, .int (nI (cLa J)), .ref a5, .ref a6, .ref a7, .int (nI (cAg J)), .int i9, .int i10, .int i11, .int i12, .ref a13, .ref a14, .ref a15, .ref a16, .int (nI (mN M)), .ref a18, .ref a19, .ref a20, .ref a21, .ref a22, .ref a23, .ref a24, .ref a25, .int (nI (mN E)), .ref a27, .ref a28, .ref a29, .ref a30, .ref a31, .ref a32, .ref a33, .ref a34, .int i35])), (a1, .inl (cI, 6, .inl sk)), (a3, .inl (cI, 4, .inl sh)), (a5, .inl (cI, 4, .inl ki)), (a6, .inl (cI, 4, .inl st)), (a7, .inl (cI, 4, .inl cl)), (a18, .inl (cI, 9, .inl mo)), (a19, .inl (cI, 9, .inl mi)), (a20, .inl (cI, 9, .inl mt)), (a21, .inl (cI, 96, .inl fa)), (a22, .inl (cI, 96, .inl gi)), (a27, .inl (cI, 8, .inl ro)), (a28, .inl (cI, 8, .inl ri)), (a29, .inl (cI, 8, .inl rv))] sz)) (kQi D (fun (r : Int32) (u : (Nat → Int32) × (Nat → Int32)) => r = kb (soN J M E (mN E)) ∧ True) (fun u : (Nat → Int32) × (Nat → Int32) => [(m0, .inr (9, [.int i0, .ref a1, .int i2, .ref a3, .int (nI (cLa J)), .ref a5, .ref a6, .ref a7, .int (nI (cAg J)), .int i9, .int i10, .int i11, .int i12, .ref a13, .ref a14, .ref a15, .ref a16, .int (nI (mN M)), .ref a18, .ref a19, .ref a20, .ref a21, .ref a22, .ref a23, .ref a24, .ref a25, .int (nI (mN E)), .ref a27, .ref a28, .ref a29, .ref a30, .ref a31, .ref a32, .ref a33, .ref a34, .int i35])), (a1, .inl (cI, 6, .inl sk)), (a3, .inl (cI, 4, .inl sh)), (a5, .inl (cI, 4, .inl ki)), (a6, .inl (cI, 4, .inl st)), (a7, .inl (cI, 4, .inl cl)), (a18, .inl (cI, 9, .inl mo)), (a19, .inl (cI, 9, .inl mi)), (a20, .inl (cI, 9, .inl mt)), (a21, .inl (cI, 96, .inl u.1)), (a22, .inl (cI, 96, .inl u.2)), (a27, .inl (cI, 8, .inl ro)), (a28, .inl (cI, 8, .inl ri)), (a29, .inl (cI, 8, .inl rv))]) (va_A [(m0, .inr (9, [.int i0, .ref a1, .int i2, .ref a3, .int (nI (cLa J)), .ref a5, .ref a6, .ref a7, .int (nI (cAg J)), .int i9, .int i10, .int i11, .int i12, .ref a13, .ref a14, .ref a15, .ref a16, .int (nI (mN M)), .ref a18, .ref a19, .ref a20, .ref a21, .ref a22, .ref a23, .ref a24, .ref a25, .int (nI (mN E)), .ref a27, .ref a28, .ref a29, .ref a30, .ref a31, .ref a32, .ref a33, .ref a34, .int i35])), (a1, .inl (cI, 6, .inl sk)), (a3, .inl (cI, 4, .inl sh)), (a5, .inl (cI, 4, .inl ki)), (a6, .inl (cI, 4, .inl st)), (a7, .inl (cI, 4, .inl cl)), (a18, .inl (cI, 9, .inl mo)), (a19, .inl (cI, 9, .inl mi)), (a20, .inl (cI, 9, .inl mt)), (a21, .inl (cI, 96, .inl fa)), (a22, .inl (cI, 96, .inl gi)), (a27, .inl (cI, 8, .inl ro)), (a28, .inl (cI, 8, .inl ri)), (a29, .inl (cI, 8, .inl rv))] sz)) 0 0 (va_A [(m0, .inr (9, [.int i0, .ref a1, .int i2, .ref a3, .int (nI (cLa J)), .ref a5, .ref a6, .ref a7, .int (nI (cAg J)), .int i9, .int i10, .int i11, .int i12, .ref a13, .ref a14, .ref a15, .ref a16, .int (nI (mN M)), .ref a18, .ref a19, .ref a20, .ref a21, .ref a22, .ref a23, .ref a24, .ref a25, .int (nI (mN E)), .ref a27, .ref a28, .ref a29, .ref a30, .ref a31, .ref a32, .ref a33, .ref a34, .int i35])), (a1, .inl (cI, 6, .inl sk)), (a3, .inl (cI, 4, .inl sh)), (a5, .inl (cI, 4, .inl ki)), (a6, .inl (cI, 4, .inl st)), (a7, .inl (cI, 4, .inl cl)), (a18, .inl (cI, 9, .inl mo)), (a19, .inl (cI, 9, .inl mi)), (a20, .inl (cI, 9, .inl mt)), (a21, .inl (cI, 96, .inl fa)), (a22, .inl (cI, 96, .inl gi)), (a27, .inl (cI, 8, .inl ro)), (a28, .inl (cI, 8, .inl ri)), (a29, .inl (cI, 8, .inl rv))] sz) := by
  refine Met.ofW (cc := cX10_areSo) (maxL := 3) (ret := (some .boolean)) (by decide) rfl ?_
  intro pP eE sS mM args below meth cC s₁ B hml hv
  obtain ⟨rfl, hsz, hP, hK, hD0⟩ := hv
  have hx := B.exec
  have hb := B.bytes
  have hr := B.returns
  have hts := atoms_spec (ws := wsX10_areSo) B.pre
  have hown : sS.vm.findClass RX10 = some mM.cls := findClass_of_methodNamed B.named
  have hlocks := B.notSynchronized
  subst hsz
  have hD := hD0.self (sz := sS.heap.size)
  generalize hAe : va_A [(m0, .inr (9, [.int i0, .ref a1, .int i2, .ref a3, .int (nI (cLa J)), .ref a5, .ref a6, .ref a7, .int (nI (cAg J)), .int i9, .int i10, .int i11, .int i12, .ref a13, .ref a14, .ref a15, .ref a16, .int (nI (mN M)), .ref a18, .ref a19, .ref a20, .ref a21, .ref a22, .ref a23, .ref a24, .ref a25, .int (nI (mN E)), .ref a27, .ref a28, .ref a29, .ref a30, .ref a31, .ref a32, .ref a33, .ref a34, .int i35])), (a1, .inl (cI, 6, .inl sk)), (a3, .inl (cI, 4, .inl sh)), (a5, .inl (cI, 4, .inl ki)), (a6, .inl (cI, 4, .inl st)), (a7, .inl (cI, 4, .inl cl)), (a18, .inl (cI, 9, .inl mo)), (a19, .inl (cI, 9, .inl mi)), (a20, .inl (cI, 9, .inl mt)), (a21, .inl (cI, 96, .inl fa)), (a22, .inl (cI, 96, .inl gi)), (a27, .inl (cI, 8, .inl ro)), (a28, .inl (cI, 8, .inl ri)), (a29, .inl (cI, 8, .inl rv))] sS.heap.size = A at hD ⊢
  have hA : ∀ q : Nat, sS.heap.size ≤ q → A q := fun q h => by rw [← hAe]; exact Or.inr h
  have hS : va_S A sS.heap sS.heap [] := va_S.rf
  have hP : va_P D vwCl [(m0, .inr (9, [.int i0, .ref a1, .int i2, .ref a3, .int (nI (cLa J)), .ref a5, .ref a6, .ref a7, .int (nI (cAg J)), .int i9, .int i10, .int i11, .int i12, .ref a13, .ref a14, .ref a15, .ref a16, .int (nI (mN M)), .ref a18, .ref a19, .ref a20, .ref a21, .ref a22, .ref a23, .ref a24, .ref a25, .int (nI (mN E)), .ref a27, .ref a28, .ref a29, .ref a30, .ref a31, .ref a32, .ref a33, .ref a34, .int i35])), (a1, .inl (cI, 6, .inl sk)), (a3, .inl (cI, 4, .inl sh)), (a5, .inl (cI, 4, .inl ki)), (a6, .inl (cI, 4, .inl st)), (a7, .inl (cI, 4, .inl cl)), (a18, .inl (cI, 9, .inl mo)), (a19, .inl (cI, 9, .inl mi)), (a20, .inl (cI, 9, .inl mt)), (a21, .inl (cI, 96, .inl fa)), (a22, .inl (cI, 96, .inl gi)), (a27, .inl (cI, 8, .inl ro)), (a28, .inl (cI, 8, .inl ri)), (a29, .inl (cI, 8, .inl rv))] sS.heap := hP
  have hD : va_D A [(m0, .inr (9, [.int i0, .ref a1, .int i2, .ref a3, .int (nI (cLa J)), .ref a5, .ref a6, .ref a7, .int (nI (cAg J)), .int i9, .int i10, .int i11, .int i12, .ref a13, .ref a14, .ref a15, .ref a16, .int (nI (mN M)), .ref a18, .ref a19, .ref a20, .ref a21, .ref a22, .ref a23, .ref a24, .ref a25, .int (nI (mN E)), .ref a27, .ref a28, .ref a29, .ref a30, .ref a31, .ref a32, .ref a33, .ref a34, .int i35])), (a1, .inl (cI, 6, .inl sk)), (a3, .inl (cI, 4, .inl sh)), (a5, .inl (cI, 4, .inl ki)), (a6, .inl (cI, 4, .inl st)), (a7, .inl (cI, 4, .inl cl)), (a18, .inl (cI, 9, .inl mo)), (a19, .inl (cI, 9, .inl mi)), (a20, .inl (cI, 9, .inl mt)), (a21, .inl (cI, 96, .inl fa)), (a22, .inl (cI, 96, .inl gi)), (a27, .inl (cI, 8, .inl ro)), (a28, .inl (cI, 8, .inl ri)), (a29, .inl (cI, 8, .inl rv))] := hD
  have hf_61 := hts (.fieldLink RX10 61 "OldLampsModel" "readingOf" "[I") (List.mem_of_getElem? (i := 2) rfl)
  have hf_64 := hts (.fieldLink RX10 64 "OldLampsModel" "readingIn" "[I") (List.mem_of_getElem? (i := 3) rfl)
  have hf_67 := hts (.fieldLink RX10 67 "OldLampsModel" "readingLight" "[I") (List.mem_of_getElem? (i := 4) rfl)
  have hf_164 := hts (.fieldLink RX10 164 "OldLampsModel" "readings" "I") (List.mem_of_getElem? (i := 1) rfl)
  have hwX10 : ∀ w ∈ wsX100, w ∈ wsX10_areSo := fun _ h => List.mem_cons_of_mem _ (List.mem_append_right _ h)
  have hl := lv_entry ([.ref m0]) (n := 3) (Nat.le_of_ble_eq_true rfl)
  rw [lg_entry_eq]
  generalize (lg_sl ([.ref m0]) ++ List.replicate (3 - (lg_sl ([.ref m0])).length) Slot.unset).toArray = ls at hl ⊢
  have hl : lv_has ls 3 [(0, .ref m0)] := hl
  obtain ⟨QQ, hQQ⟩ : ∃ QQ : State → Prop, QQ = MQ below (kQi D (fun (r : Int32) (u : (Nat → Int32) × (Nat → Int32)) => r = kb (soN J M E (mN E)) ∧ True) (fun u : (Nat → Int32) × (Nat → Int32) => [(m0, .inr (9, [.int i0, .ref a1, .int i2, .ref a3, .int (nI (cLa J)), .ref a5, .ref a6, .ref a7, .int (nI (cAg J)), .int i9, .int i10, .int i11, .int i12, .ref a13, .ref a14, .ref a15, .ref a16, .int (nI (mN M)), .ref a18, .ref a19, .ref a20, .ref a21, .ref a22, .ref a23, .ref a24, .ref a25, .int (nI (mN E)), .ref a27, .ref a28, .ref a29, .ref a30, .ref a31, .ref a32, .ref a33, .ref a34, .int i35])), (a1, .inl (cI, 6, .inl sk)), (a3, .inl (cI, 4, .inl sh)), (a5, .inl (cI, 4, .inl ki)), (a6, .inl (cI, 4, .inl st)), (a7, .inl (cI, 4, .inl cl)), (a18, .inl (cI, 9, .inl mo)), (a19, .inl (cI, 9, .inl mi)), (a20, .inl (cI, 9, .inl mt)), (a21, .inl (cI, 96, .inl u.1)), (a22, .inl (cI, 96, .inl u.2)), (a27, .inl (cI, 8, .inl ro)), (a28, .inl (cI, 8, .inl ri)), (a29, .inl (cI, 8, .inl rv))]) A) ([.ref m0]).toArray sS 0 0 A := ⟨_, rfl⟩
  refine kk_QQ hQQ.symm ?_
  obtain ⟨hJ1, hJ2, hJ3, hJ4, hJ5, hJ6, hJ7, hJ8⟩ := id hJ
  obtain ⟨hM1, hM2⟩ := id hM
  have hwo := hkd.2
  have hk3 : wo < cLa J → cKi J wo = 3 := fun z => (hkd.1 wo z).2.2.2 rfl
  obtain ⟨hE1, hE2⟩ := id hE
  refine lv_aload_n hx hb dX10_areSo_0 rfl (lv_at hl 0 rfl) ?_
  refine lv_bipush (v := nI 23) hx hb dX10_areSo_1 (by decide +kernel) ?_
  have o_1 : okC J := by assumption
  have o_2 : ok9 J M := by assumption
  have o_3 : ∀ k, k < cLa J → st k = nI (cSt J k) := by assumption
  have o_4 : repM M mo mi mt := by assumption
  have o_5 : kdM J wo i9 kq ki := by assumption
  have o_6 : repB J sk sh cl := by assumption
  have o_7 : 23 < 24 := by omega
  have hF := va_free (wc := [(m0, .inr (9, [.int i0, .ref a1, .int i2, .ref a3, .int (nI (cLa J)), .ref a5, .ref a6, .ref a7, .int (nI (cAg J)), .int i9, .int i10, .int i11, .int i12, .ref a13, .ref a14, .ref a15, .ref a16, .int (nI (mN M)), .ref a18, .ref a19, .ref a20, .ref a21, .ref a22, .ref a23, .ref a24, .ref a25, .int (nI (mN E)), .ref a27, .ref a28, .ref a29, .ref a30, .ref a31, .ref a32, .ref a33, .ref a34, .int i35])), (a1, .inl (cI, 6, .inl sk)), (a3, .inl (cI, 4, .inl sh)), (a5, .inl (cI, 4, .inl ki)), (a6, .inl (cI, 4, .inl st)), (a7, .inl (cI, 4, .inl cl)), (a18, .inl (cI, 9, .inl mo)), (a19, .inl (cI, 9, .inl mi)), (a20, .inl (cI, 9, .inl mt)), (a21, .inl (cI, 96, .inl fa)), (a22, .inl (cI, 96, .inl gi))]) hD hS hA [0, 1, 2, 3, 4, 5, 6, 7, 8, 9, 10] rfl
  refine va_callv (va_runV (As := [.int (nI 23)]) (rest := []) ⟨hx, hb, hml, hown, hts⟩ (c_X10_goTo lL D cI cS _ J M wo kq m0 a1 a3 a5 a6 a7 a13 a14 a15 a16 a18 a19 a20 a21 a22 a23 a24 a25 a27 a28 a29 a30 a31 a32 a33 a34 i0 i2 i9 i10 i11 i12 (nI (mN E)) i35 sk sh ki st cl mo mi mt fa gi 23 o_1 o_2 o_3 o_4 o_5 o_6 o_7) (cwV 1 hts gX10_areSo_X10_goTo rfl rfl rfl cd_X10_goTo ⟨Nat.le_of_ble_eq_true rfl, Nat.le_of_ble_eq_true rfl⟩) ⟨kB_blind, va_recv hK hP (ci := 9) (q0 := 0) rfl rfl, fun U hU hW => ⟨rfl, by rw [hU], by rw [hU]; exact hP.sub [0, 1, 2, 3, 4, 5, 6, 7, 8, 9, 10] rfl, va_K.moved hW.alike hK, (hD.sub [0, 1, 2, 3, 4, 5, 6, 7, 8, 9, 10] (by decide) rfl).weaken (fun _ _ _ _ => trivial)⟩⟩ rfl rfl hl.1 rfl (lv_room (Nat.le_of_ble_eq_true rfl)) dX10_areSo_3 ⟨Nat.le_of_ble_eq_true rfl, Nat.le_of_ble_eq_true rfl⟩) hS (fun q _ h => hF q h) hF (fun u_8 t H1 locs ht hvm hw_8 hB hz1 hk1 hS => ?_)
  obtain ⟨fa2_8, gi2_8⟩ := u_8
  obtain ⟨hP, hD⟩ := kk_join2 (wc := [(m0, .inr (9, [.int i0, .ref a1, .int i2, .ref a3, .int (nI (cLa J)), .ref a5, .ref a6, .ref a7, .int (nI (cAg J)), .int i9, .int i10, .int i11, .int i12, .ref a13, .ref a14, .ref a15, .ref a16, .int (nI (mN M)), .ref a18, .ref a19, .ref a20, .ref a21, .ref a22, .ref a23, .ref a24, .ref a25, .int (nI (mN E)), .ref a27, .ref a28, .ref a29, .ref a30, .ref a31, .ref a32, .ref a33, .ref a34, .int i35])), (a1, .inl (cI, 6, .inl sk)), (a3, .inl (cI, 4, .inl sh)), (a5, .inl (cI, 4, .inl ki)), (a6, .inl (cI, 4, .inl st)), (a7, .inl (cI, 4, .inl cl)), (a18, .inl (cI, 9, .inl mo)), (a19, .inl (cI, 9, .inl mi)), (a20, .inl (cI, 9, .inl mt)), (a21, .inl (cI, 96, .inl fa)), (a22, .inl (cI, 96, .inl gi))]) (w1 := [(m0, .inr (9, [.int i0, .ref a1, .int i2, .ref a3, .int (nI (cLa J)), .ref a5, .ref a6, .ref a7, .int (nI (cAg J)), .int i9, .int i10, .int i11, .int i12, .ref a13, .ref a14, .ref a15, .ref a16, .int (nI (mN M)), .ref a18, .ref a19, .ref a20, .ref a21, .ref a22, .ref a23, .ref a24, .ref a25, .int (nI (mN E)), .ref a27, .ref a28, .ref a29, .ref a30, .ref a31, .ref a32, .ref a33, .ref a34, .int i35])), (a1, .inl (cI, 6, .inl sk)), (a3, .inl (cI, 4, .inl sh)), (a5, .inl (cI, 4, .inl ki)), (a6, .inl (cI, 4, .inl st)), (a7, .inl (cI, 4, .inl cl)), (a18, .inl (cI, 9, .inl mo)), (a19, .inl (cI, 9, .inl mi)), (a20, .inl (cI, 9, .inl mt)), (a21, .inl (cI, 96, .inl fa2_8)), (a22, .inl (cI, 96, .inl gi2_8))]) (ws' := [(m0, .inr (9, [.int i0, .ref a1, .int i2, .ref a3, .int (nI (cLa J)), .ref a5, .ref a6, .ref a7, .int (nI (cAg J)), .int i9, .int i10, .int i11, .int i12, .ref a13, .ref a14, .ref a15, .ref a16, .int (nI (mN M)), .ref a18, .ref a19, .ref a20, .ref a21, .ref a22, .ref a23, .ref a24, .ref a25, .int (nI (mN E)), .ref a27, .ref a28, .ref a29, .ref a30, .ref a31, .ref a32, .ref a33, .ref a34, .int i35])), (a1, .inl (cI, 6, .inl sk)), (a3, .inl (cI, 4, .inl sh)), (a5, .inl (cI, 4, .inl ki)), (a6, .inl (cI, 4, .inl st)), (a7, .inl (cI, 4, .inl cl)), (a18, .inl (cI, 9, .inl mo)), (a19, .inl (cI, 9, .inl mi)), (a20, .inl (cI, 9, .inl mt)), (a21, .inl (cI, 96, .inl fa2_8)), (a22, .inl (cI, 96, .inl gi2_8)), (a27, .inl (cI, 8, .inl ro)), (a28, .inl (cI, 8, .inl ri)), (a29, .inl (cI, 8, .inl rv))]) (wr := [(a27, .inl (cI, 8, .inl ro)), (a28, .inl (cI, 8, .inl ri)), (a29, .inl (cI, 8, .inl rv))]) (H1 := H1) hP hD [0, 1, 2, 3, 4, 5, 6, 7, 8, 9, 10] [11, 12, 13] rfl rfl rfl rfl 14 rfl (by decide) [m0, a1, a3, a5, a6, a7, a18, a19, a20, a21, a22, a27, a28, a29] rfl rfl hk1 (by rw [← ht]; exact hB)
  have hw_8 : tmF J (plc M (cSt J)) fa2_8 (23 + 1) ∧ tmG J (plc M (cSt J)) wo gi2_8 (23 + 1) := hw_8
  clear hF hB hk1 hz1 hvm
  clear ht
  generalize H1 = H at hP hS ⊢
  have hGG := hw_8.2
  refine lv_iconst (v := nI 1) hx hb dX10_areSo_6 (by decide +kernel) ?_
  refine lv_istore_n (lv' := [(1, .int (nI 1)), (0, .ref m0)]) hx hb dX10_areSo_7 rfl hl (by decide) rfl (fun ls hl => ?_)
  refine lv_iconst (v := nI 0) hx hb dX10_areSo_8 (by decide +kernel) ?_
  refine lv_istore_n (lv' := [(2, .int (nI 0)), (1, .int (nI 1)), (0, .ref m0)]) hx hb dX10_areSo_9 rfl hl (by decide) rfl (fun ls hl => ?_)
  have L_10 : ∀ (n_10 : Nat) (i : Nat), (i ≤ mN E) → mN E + 1 ≤ i + n_10 → ∀ (H : Heap) (locs : List Loc), va_P D vwCl [(m0, .inr (9, [.int i0, .ref a1, .int i2, .ref a3, .int (nI (cLa J)), .ref a5, .ref a6, .ref a7, .int (nI (cAg J)), .int i9, .int i10, .int i11, .int i12, .ref a13, .ref a14, .ref a15, .ref a16, .int (nI (mN M)), .ref a18, .ref a19, .ref a20, .ref a21, .ref a22, .ref a23, .ref a24, .ref a25, .int (nI (mN E)), .ref a27, .ref a28, .ref a29, .ref a30, .ref a31, .ref a32, .ref a33, .ref a34, .int i35])), (a1, .inl (cI, 6, .inl sk)), (a3, .inl (cI, 4, .inl sh)), (a5, .inl (cI, 4, .inl ki)), (a6, .inl (cI, 4, .inl st)), (a7, .inl (cI, 4, .inl cl)), (a18, .inl (cI, 9, .inl mo)), (a19, .inl (cI, 9, .inl mi)), (a20, .inl (cI, 9, .inl mt)), (a21, .inl (cI, 96, .inl fa2_8)), (a22, .inl (cI, 96, .inl gi2_8)), (a27, .inl (cI, 8, .inl ro)), (a28, .inl (cI, 8, .inl ri)), (a29, .inl (cI, 8, .inl rv))] H → va_D A [(m0, .inr (9, [.int i0, .ref a1, .int i2, .ref a3, .int (nI (cLa J)), .ref a5, .ref a6, .ref a7, .int (nI (cAg J)), .int i9, .int i10, .int i11, .int i12, .ref a13, .ref a14, .ref a15, .ref a16, .int (nI (mN M)), .ref a18, .ref a19, .ref a20, .ref a21, .ref a22, .ref a23, .ref a24, .ref a25, .int (nI (mN E)), .ref a27, .ref a28, .ref a29, .ref a30, .ref a31, .ref a32, .ref a33, .ref a34, .int i35])), (a1, .inl (cI, 6, .inl sk)), (a3, .inl (cI, 4, .inl sh)), (a5, .inl (cI, 4, .inl ki)), (a6, .inl (cI, 4, .inl st)), (a7, .inl (cI, 4, .inl cl)), (a18, .inl (cI, 9, .inl mo)), (a19, .inl (cI, 9, .inl mi)), (a20, .inl (cI, 9, .inl mt)), (a21, .inl (cI, 96, .inl fa2_8)), (a22, .inl (cI, 96, .inl gi2_8)), (a27, .inl (cI, 8, .inl ro)), (a28, .inl (cI, 8, .inl ri)), (a29, .inl (cI, 8, .inl rv))] → va_S A sS.heap H locs → ∀ (ls : Array Slot), lv_has ls 3 [(2, .int (nI i)), (1, .int (kb (soN J M E i))), (0, .ref m0)] → W pP lL eE (headSpec wsX10_areSo rmX10_areSo).room sS mM ([.ref m0]).toArray below meth cC H locs 0 0 QQ (F0 mM 10 ls []) := by
    intro n_10
    induction n_10 with
    | zero =>
      intro i hi hn_10 H locs hP hD hS ls hl
      exact absurd hn_10 (by omega)
    | succ n_10 ih_10 =>
      intro i hi hn_10 H locs hP hD hS ls hl
      refine lv_iload_n hx hb dX10_areSo_10 rfl (lv_at hl 0 rfl) ?_
      refine lv_aload_n hx hb dX10_areSo_11 rfl (lv_at hl 2 rfl) ?_
      refine va_get (D := D) (ci := 9) (v := .int (nI (mN E))) (C := RX10) (T := TX10) (N := 36) hx hb hts hwX10 hown hK hP 0 rfl rfl 26 (by decide) hf_164 (fun _ h9 => h9) rfl dX10_areSo_12 ?_
      refine kk_icmp_ge (tgt := 59) hx hb dX10_areSo_15 (by decide) (by omega) (by omega) (fun c_9 => ?_) (fun c_9 => ?_)
      · skip
        refine lv_iload_n hx hb dX10_areSo_59 rfl (lv_at hl 1 rfl) ?_
        have hq : (kb (soN J M E i)) = kb (soN J M E (mN E)) ∧ True := by
          refine ⟨?_, trivial⟩
          rw [show i = mN E by omega]
        refine kk_QQ hQQ ?_
        exact W.zret (v := kb (soN J M E i)) (ty := .boolean) hx hb hr (kk_nar _) (fun t ht hW => ⟨⟨kb (soN J M E i), (fa2_8, gi2_8), rfl, hq, by show va_P D vwCl _ t.heap; rw [ht]; exact hP⟩, hS.F ht⟩) hS.2.2 dX10_areSo_60
      · skip
        refine lv_iload_n hx hb dX10_areSo_18 rfl (lv_at hl 1 rfl) ?_
        -- if soN J M E i
        refine kk_ifb_eq (tgt := 51) hx hb dX10_areSo_19 (by decide) (fun hb_10 => ?_) (fun hb_10 => ?_)
        · skip
          refine lv_iconst (v := nI 0) hx hb dX10_areSo_51 (by decide +kernel) ?_
          refine lv_istore_n (lv' := [(1, .int (nI 0)), (2, .int (nI i)), (0, .ref m0)]) hx hb dX10_areSo_52 rfl hl (by decide) rfl (fun ls hl => ?_)
          have e_11 : nI 0 = kb (soN J M E (i + 1)) := by
            rw [soN_s, hb_10, Bool.false_and]; rfl
          rw [e_11] at hl
          refine lv_iinc (v := nI (i + 1)) (lv' := [(2, .int (nI (i + 1))), (1, .int (kb (soN J M E (i + 1)))), (0, .ref m0)]) hx hb dX10_areSo_53 hl (k := 1) rfl (nI_add i 1) (by decide) rfl (fun ls hl => ?_)
          refine lv_goto (tgt := 10) hx hb dX10_areSo_56 (by decide) ?_
          have o_12 : (i + 1) ≤ mN E := by omega
          have o_13 : mN E + 1 ≤ (i + 1) + n_10 := by omega
          exact ih_10 (i + 1) o_12 o_13 _ _ hP hD hS ls (lv_sub hl [0, 1, 2] rfl)
        · skip
          refine lv_aload_n hx hb dX10_areSo_22 rfl (lv_at hl 2 rfl) ?_
          refine lv_aload_n hx hb dX10_areSo_23 rfl (lv_at hl 2 rfl) ?_
          refine va_get (D := D) (ci := 9) (v := .ref a27) (C := RX10) (T := TX10) (N := 36) hx hb hts hwX10 hown hK hP 0 rfl rfl 27 (by decide) hf_61 (fun _ h9 => h9) rfl dX10_areSo_24 ?_
          refine lv_iload_n hx hb dX10_areSo_27 rfl (lv_at hl 0 rfl) ?_
          refine kk_iald hx hb hK hP 11 rfl rfl (i := i) (by omega) (by decide) dX10_areSo_28 ?_
          refine kk_top (y := nI (mW E i)) ((hrE i (by omega)).1) ?_
          have hei := hE2 i (by omega)
          refine lv_aload_n hx hb dX10_areSo_29 rfl (lv_at hl 2 rfl) ?_
          refine va_get (D := D) (ci := 9) (v := .ref a28) (C := RX10) (T := TX10) (N := 36) hx hb hts hwX10 hown hK hP 0 rfl rfl 28 (by decide) hf_64 (fun _ h9 => h9) rfl dX10_areSo_30 ?_
          refine lv_iload_n hx hb dX10_areSo_33 rfl (lv_at hl 0 rfl) ?_
          refine kk_iald hx hb hK hP 12 rfl rfl (i := i) (by omega) (by decide) dX10_areSo_34 ?_
          refine kk_top (y := nI (mT E i)) ((hrE i (by omega)).2.1) ?_
          have o_14 : okC J := by assumption
          have o_15 : ok9 J M := by assumption
          have o_16 : ∀ k, k < cLa J → st k = nI (cSt J k) := by assumption
          have o_17 : repM M mo mi mt := by assumption
          have o_18 : ∀ k, k < 4 → (nI k = i9 ↔ k = wo) := by assumption
          have o_19 : wo < cLa J → cKi J wo = 3 := by assumption
          have o_20 : repB J sk sh cl := by assumption
          have o_21 : ∀ k, k < cLa J → k ≠ wo → gi2_8 (24 * k + (mT E i)) = nI (Gi J (plc M (cSt J)) (mT E i) k) := by exact fun k hk hne => hGG (mT E i) (by omega) k hk hne
          have o_22 : (mW E i) < cSp J := by omega
          have o_23 : (mT E i) < 24 := by omega
          refine vp_callSi (W.runV (As := [.int (nI (mW E i)), .int (nI (mT E i))]) (rest := []) ⟨hx, hb, hml, hown, hts⟩ (c_X10_lightOf lL D cI cS J M wo m0 a1 a3 a5 a6 a7 a13 a14 a15 a16 a18 a19 a20 a21 a22 a23 a24 a25 a27 a28 a29 a30 a31 a32 a33 a34 i0 i2 (nI (cAg J)) i9 i10 i11 i12 (nI (mN E)) i35 sk sh st cl mo mi mt gi2_8 (mW E i) (mT E i) o_14 o_15 o_16 o_17 o_18 o_19 o_20 o_21 o_22 o_23) (cwV 2 hts gX10_areSo_X10_lightOf rfl rfl rfl cd_X10_lightOf ⟨Nat.le_of_ble_eq_true rfl, Nat.le_of_ble_eq_true rfl⟩) ⟨kBp_blind, va_recv hK hP (ci := 9) (q0 := 0) rfl rfl, fun U hU hW => ⟨rfl, by rw [hU]; exact hP.sub [0, 1, 2, 4, 5, 6, 7, 8, 10] rfl, va_K.moved hW.alike hK⟩⟩ rfl rfl hl.1 rfl (lv_room (Nat.le_of_ble_eq_true rfl)) dX10_areSo_35 ⟨Nat.le_of_ble_eq_true rfl, Nat.le_of_ble_eq_true rfl⟩) (fun r_24 hw_24 => ?_)
          obtain rfl : r_24 = nI (Li J (plc M (cSt J)) (mW E i) (mT E i)) := hw_24
          have hll := Li_le hJ (plc M (cSt J)) (mW E i) (mT E i)
          refine lv_aload_n hx hb dX10_areSo_38 rfl (lv_at hl 2 rfl) ?_
          refine va_get (D := D) (ci := 9) (v := .ref a29) (C := RX10) (T := TX10) (N := 36) hx hb hts hwX10 hown hK hP 0 rfl rfl 29 (by decide) hf_67 (fun _ h9 => h9) rfl dX10_areSo_39 ?_
          refine lv_iload_n hx hb dX10_areSo_42 rfl (lv_at hl 0 rfl) ?_
          refine kk_iald hx hb hK hP 13 rfl rfl (i := i) (by omega) (by decide) dX10_areSo_43 ?_
          refine kk_top (y := nI (mV E i)) ((hrE i (by omega)).2.2) ?_
          refine kk_icmp_ne (tgt := 51) hx hb dX10_areSo_44 (by decide) (by omega) (by omega) (fun c_25 => ?_) (fun c_25 => ?_)
          · skip
            refine lv_iconst (v := nI 0) hx hb dX10_areSo_51 (by decide +kernel) ?_
            refine lv_istore_n (lv' := [(1, .int (nI 0)), (2, .int (nI i)), (0, .ref m0)]) hx hb dX10_areSo_52 rfl hl (by decide) rfl (fun ls hl => ?_)
            have e_26 : nI 0 = kb (soN J M E (i + 1)) := by
              rw [soN_s, decide_eq_false c_25, Bool.and_false]; rfl
            rw [e_26] at hl
            refine lv_iinc (v := nI (i + 1)) (lv' := [(2, .int (nI (i + 1))), (1, .int (kb (soN J M E (i + 1)))), (0, .ref m0)]) hx hb dX10_areSo_53 hl (k := 1) rfl (nI_add i 1) (by decide) rfl (fun ls hl => ?_)
            refine lv_goto (tgt := 10) hx hb dX10_areSo_56 (by decide) ?_
            have o_27 : (i + 1) ≤ mN E := by omega
            have o_28 : mN E + 1 ≤ (i + 1) + n_10 := by omega
            exact ih_10 (i + 1) o_27 o_28 _ _ hP hD hS ls (lv_sub hl [0, 1, 2] rfl)
          · skip
            refine lv_iconst (v := nI 1) hx hb dX10_areSo_47 (by decide +kernel) ?_
            refine lv_goto (tgt := 52) hx hb dX10_areSo_48 (by decide) ?_
            refine lv_istore_n (lv' := [(1, .int (nI 1)), (2, .int (nI i)), (0, .ref m0)]) hx hb dX10_areSo_52 rfl hl (by decide) rfl (fun ls hl => ?_)
            have e_29 : nI 1 = kb (soN J M E (i + 1)) := by
              rw [soN_s, hb_10, decide_eq_true c_25]; rfl
            rw [e_29] at hl
            refine lv_iinc (v := nI (i + 1)) (lv' := [(2, .int (nI (i + 1))), (1, .int (kb (soN J M E (i + 1)))), (0, .ref m0)]) hx hb dX10_areSo_53 hl (k := 1) rfl (nI_add i 1) (by decide) rfl (fun ls hl => ?_)
            refine lv_goto (tgt := 10) hx hb dX10_areSo_56 (by decide) ?_
            have o_30 : (i + 1) ≤ mN E := by omega
            have o_31 : mN E + 1 ≤ (i + 1) + n_10 := by omega
            exact ih_10 (i + 1) o_30 o_31 _ _ hP hD hS ls (lv_sub hl [0, 1, 2] rfl)
  have o_32 : 0 ≤ mN E := by omega
  have o_33 : mN E + 1 ≤ 0 + (mN E + 1) := by omega
  exact L_10 (mN E + 1) 0 o_32 o_33 _ _ hP hD hS ls (lv_sub hl [0, 1, 2] rfl)

abbrev rmX10_allLight : Room := { frames := 3, cells := 0, slots := 0, locals := 75 }
set_option maxHeartbeats 4000000 in
set_option maxRecDepth 100000 in
theorem c_X10_allLight (lL : Launch) (D : va_G) (cI cS : ClassId) (sz : Nat) (J : Co) (M : Mv) (wo : Nat) (kq : Nat → Nat) (m0 : Nat) (a1 : Nat) (a3 : Nat) (a5 : Nat) (a6 : Nat) (a7 : Nat) (a13 : Nat) (a14 : Nat) (a15 : Nat) (a16 : Nat) (a18 : Nat) (a19 : Nat) (a20 : Nat) (a21 : Nat) (a22 : Nat) (a23 : Nat) (a24 : Nat) (a25 : Nat) (a27 : Nat) (a28 : Nat) (a29 : Nat) (a30 : Nat) (a31 : Nat) (a32 : Nat) (a33 : Nat) (a34 : Nat) (i0 : Int32) (i9 : Int32) (i10 : Int32) (i11 : Int32) (i12 : Int32) (i26 : Int32) (i35 : Int32) (sk : Nat → Int32) (sh : Nat → Int32) (ki : Nat → Int32) (st : Nat → Int32) (cl : Nat → Int32) (mo : Nat → Int32) (mi : Nat → Int32) (mt : Nat → Int32) (fa : Nat → Int32) (gi : Nat → Int32) (hJ : okC J) (hM : ok9 J M) (hst : ∀ k, k < cLa J → st k = nI (cSt J k)) (hrM : repM M mo mi mt) (hkd : kdM J wo i9 kq ki) (hrB : repB J sk sh cl) : Met lL yX10_allLight wsX10_allLight rmX10_allLight (va_Pc [.ref m0] (kB D cI cS [(m0, .inr (9, [.int i0, .ref a1, .int (nI (cSp J)), .ref a3, .int (nI (cLa J)), .ref a5, .ref a6, .ref a7, .int (nI (cAg J)), .int i9, .int i10, .int i11, .int i12, .ref a13, .ref a14, .ref a15, .ref a16, .int (nI (mN M)), .ref a18, .ref a19, .ref a20, .ref a21, .ref a22, .ref a23, .ref a24, .ref a25, .int i26, .ref a27, .ref a28, .ref a29, .ref a30, .ref a31, .ref a32, .ref a33, .ref a34, .int i35])), (a1, .inl (cI, 6, .inl sk)), (a3, .inl (cI, 4, .inl sh)), (a5, .inl (cI, 4, .inl ki)), (a6, .inl (cI, 4, .inl st)), (a7, .inl (cI, 4, .inl cl)), (a18, .inl (cI, 9, .inl mo)), (a19, .inl (cI, 9, .inl mi)), (a20, .inl (cI, 9, .inl mt)), (a21, .inl (cI, 96, .inl fa)), (a22, .inl (cI, 96, .inl gi))] sz)) (kQi D (fun (r : Int32) (u : (Nat → Int32) × (Nat → Int32)) => r = nI (allL J (plc M (cSt J))) ∧ True) (fun u : (Nat → Int32) × (Nat → Int32) => [(m0, .inr (9, [.int i0, .ref a1, .int (nI (cSp J)), .ref a3, .int (nI (cLa J)), .ref a5, .ref a6, .ref a7, .int (nI (cAg J)), .int i9, .int i10, .int i11, .int i12, .ref a13, .ref a14, .ref a15, .ref a16, .int (nI (mN M)), .ref a18, .ref a19, .ref a20, .ref a21, .ref a22, .ref a23, .ref a24, .ref a25, .int i26, .ref a27, .ref a28, .ref a29, .ref a30, .ref a31, .ref a32, .ref a33, .ref a34, .int i35])), (a1, .inl (cI, 6, .inl sk)), (a3, .inl (cI, 4, .inl sh)), (a5, .inl (cI, 4, .inl ki)), (a6, .inl (cI, 4, .inl st)), (a7, .inl (cI, 4, .inl cl)), (a18, .inl (cI, 9, .inl mo)), (a19, .inl (cI, 9, .inl mi)), (a20, .inl (cI, 9, .inl mt)), (a21, .inl (cI, 96, .inl u.1)), (a22, .inl (cI, 96, .inl u.2))]) (va_A [(m0, .inr (9, [.int i0, .ref a1, .int (nI (cSp J)), .ref a3, .int (nI (cLa J)), .ref a5, .ref a6, .ref a7, .int (nI (cAg J)), .int i9, .int i10, .int i11, .int i12, .ref a13, .ref a14, .ref a15, .ref a16, .int (nI (mN M)), .ref a18, .ref a19, .ref a20, .ref a21, .ref a22, .ref a23, .ref a24, .ref a25, .int i26, .ref a27, .ref a28, .ref a29, .ref a30, .ref a31, .ref a32, .ref a33, .ref a34, .int i35])), (a1, .inl (cI, 6, .inl sk)), (a3, .inl (cI, 4, .inl sh)), (a5, .inl (cI, 4, .inl ki)), (a6, .inl (cI, 4, .inl st)), (a7, .inl (cI, 4, .inl cl)), (a18, .inl (cI, 9, .inl mo)), (a19, .inl (cI, 9, .inl mi)), (a20, .inl (cI, 9, .inl mt)), (a21, .inl (cI, 96, .inl fa)), (a22, .inl (cI, 96, .inl gi))] sz)) 0 0 (va_A [(m0, .inr (9, [.int i0, .ref a1, .int (nI (cSp J)), .ref a3, .int (nI (cLa J)), .ref a5, .ref a6, .ref a7, .int (nI (cAg J)), .int i9, .int i10, .int i11, .int i12, .ref a13, .ref a14, .ref a15, .ref a16, .int (nI (mN M)), .ref a18, .ref a19, .ref a20, .ref a21, .ref a22, .ref a23, .ref a24, .ref a25, .int i26, .ref a27, .ref a28, .ref a29, .ref a30, .ref a31, .ref a32, .ref a33, .ref a34, .int i35])), (a1, .inl (cI, 6, .inl sk)), (a3, .inl (cI, 4, .inl sh)), (a5, .inl (cI, 4, .inl ki)), (a6, .inl (cI, 4, .inl st)), (a7, .inl (cI, 4, .inl cl)), (a18, .inl (cI, 9, .inl mo)), (a19, .inl (cI, 9, .inl mi)), (a20, .inl (cI, 9, .inl mt)), (a21, .inl (cI, 96, .inl fa)), (a22, .inl (cI, 96, .inl gi))] sz) := by
  refine Met.ofW (cc := cX10_allLight) (maxL := 4) (ret := (some .int)) (by decide) rfl ?_
  intro pP eE sS mM args below meth cC s₁ B hml hv
  obtain ⟨rfl, hsz, hP, hK, hD0⟩ := hv
  have hx := B.exec
  have hb := B.bytes
  have hr := B.returns
  have hts := atoms_spec (ws := wsX10_allLight) B.pre
  have hown : sS.vm.findClass RX10 = some mM.cls := findClass_of_methodNamed B.named
  have hlocks := B.notSynchronized
  subst hsz
  have hD := hD0.self (sz := sS.heap.size)
  generalize hAe : va_A [(m0, .inr (9, [.int i0, .ref a1, .int (nI (cSp J)), .ref a3, .int (nI (cLa J)), .ref a5, .ref a6, .ref a7, .int (nI (cAg J)), .int i9, .int i10, .int i11, .int i12, .ref a13, .ref a14, .ref a15, .ref a16, .int (nI (mN M)), .ref a18, .ref a19, .ref a20, .ref a21, .ref a22, .ref a23, .ref a24, .ref a25, .int i26, .ref a27, .ref a28, .ref a29, .ref a30, .ref a31, .ref a32, .ref a33, .ref a34, .int i35])), (a1, .inl (cI, 6, .inl sk)), (a3, .inl (cI, 4, .inl sh)), (a5, .inl (cI, 4, .inl ki)), (a6, .inl (cI, 4, .inl st)), (a7, .inl (cI, 4, .inl cl)), (a18, .inl (cI, 9, .inl mo)), (a19, .inl (cI, 9, .inl mi)), (a20, .inl (cI, 9, .inl mt)), (a21, .inl (cI, 96, .inl fa)), (a22, .inl (cI, 96, .inl gi))] sS.heap.size = A at hD ⊢
  have hA : ∀ q : Nat, sS.heap.size ≤ q → A q := fun q h => by rw [← hAe]; exact Or.inr h
  have hS : va_S A sS.heap sS.heap [] := va_S.rf
  have hP : va_P D vwCl [(m0, .inr (9, [.int i0, .ref a1, .int (nI (cSp J)), .ref a3, .int (nI (cLa J)), .ref a5, .ref a6, .ref a7, .int (nI (cAg J)), .int i9, .int i10, .int i11, .int i12, .ref a13, .ref a14, .ref a15, .ref a16, .int (nI (mN M)), .ref a18, .ref a19, .ref a20, .ref a21, .ref a22, .ref a23, .ref a24, .ref a25, .int i26, .ref a27, .ref a28, .ref a29, .ref a30, .ref a31, .ref a32, .ref a33, .ref a34, .int i35])), (a1, .inl (cI, 6, .inl sk)), (a3, .inl (cI, 4, .inl sh)), (a5, .inl (cI, 4, .inl ki)), (a6, .inl (cI, 4, .inl st)), (a7, .inl (cI, 4, .inl cl)), (a18, .inl (cI, 9, .inl mo)), (a19, .inl (cI, 9, .inl mi)), (a20, .inl (cI, 9, .inl mt)), (a21, .inl (cI, 96, .inl fa)), (a22, .inl (cI, 96, .inl gi))] sS.heap := hP
  have hD : va_D A [(m0, .inr (9, [.int i0, .ref a1, .int (nI (cSp J)), .ref a3, .int (nI (cLa J)), .ref a5, .ref a6, .ref a7, .int (nI (cAg J)), .int i9, .int i10, .int i11, .int i12, .ref a13, .ref a14, .ref a15, .ref a16, .int (nI (mN M)), .ref a18, .ref a19, .ref a20, .ref a21, .ref a22, .ref a23, .ref a24, .ref a25, .int i26, .ref a27, .ref a28, .ref a29, .ref a30, .ref a31, .ref a32, .ref a33, .ref a34, .int i35])), (a1, .inl (cI, 6, .inl sk)), (a3, .inl (cI, 4, .inl sh)), (a5, .inl (cI, 4, .inl ki)), (a6, .inl (cI, 4, .inl st)), (a7, .inl (cI, 4, .inl cl)), (a18, .inl (cI, 9, .inl mo)), (a19, .inl (cI, 9, .inl mi)), (a20, .inl (cI, 9, .inl mt)), (a21, .inl (cI, 96, .inl fa)), (a22, .inl (cI, 96, .inl gi))] := hD
  have hf_98 := hts (.fieldLink RX10 98 "OldLampsModel" "spots" "I") (List.mem_of_getElem? (i := 1) rfl)
  have hwX10 : ∀ w ∈ wsX100, w ∈ wsX10_allLight := fun _ h => List.mem_cons_of_mem _ (List.mem_append_right _ h)
  have hl := lv_entry ([.ref m0]) (n := 4) (Nat.le_of_ble_eq_true rfl)
  rw [lg_entry_eq]
  generalize (lg_sl ([.ref m0]) ++ List.replicate (4 - (lg_sl ([.ref m0])).length) Slot.unset).toArray = ls at hl ⊢
  have hl : lv_has ls 4 [(0, .ref m0)] := hl
  obtain ⟨QQ, hQQ⟩ : ∃ QQ : State → Prop, QQ = MQ below (kQi D (fun (r : Int32) (u : (Nat → Int32) × (Nat → Int32)) => r = nI (allL J (plc M (cSt J))) ∧ True) (fun u : (Nat → Int32) × (Nat → Int32) => [(m0, .inr (9, [.int i0, .ref a1, .int (nI (cSp J)), .ref a3, .int (nI (cLa J)), .ref a5, .ref a6, .ref a7, .int (nI (cAg J)), .int i9, .int i10, .int i11, .int i12, .ref a13, .ref a14, .ref a15, .ref a16, .int (nI (mN M)), .ref a18, .ref a19, .ref a20, .ref a21, .ref a22, .ref a23, .ref a24, .ref a25, .int i26, .ref a27, .ref a28, .ref a29, .ref a30, .ref a31, .ref a32, .ref a33, .ref a34, .int i35])), (a1, .inl (cI, 6, .inl sk)), (a3, .inl (cI, 4, .inl sh)), (a5, .inl (cI, 4, .inl ki)), (a6, .inl (cI, 4, .inl st)), (a7, .inl (cI, 4, .inl cl)), (a18, .inl (cI, 9, .inl mo)), (a19, .inl (cI, 9, .inl mi)), (a20, .inl (cI, 9, .inl mt)), (a21, .inl (cI, 96, .inl u.1)), (a22, .inl (cI, 96, .inl u.2))]) A) ([.ref m0]).toArray sS 0 0 A := ⟨_, rfl⟩
  refine kk_QQ hQQ.symm ?_
  obtain ⟨hJ1, hJ2, hJ3, hJ4, hJ5, hJ6, hJ7, hJ8⟩ := id hJ
  obtain ⟨hM1, hM2⟩ := id hM
  have hwo := hkd.2
  have hk3 : wo < cLa J → cKi J wo = 3 := fun z => (hkd.1 wo z).2.2.2 rfl
  refine lv_aload_n hx hb dX10_allLight_0 rfl (lv_at hl 0 rfl) ?_
  refine lv_bipush (v := nI 23) hx hb dX10_allLight_1 (by decide +kernel) ?_
  have o_1 : okC J := by assumption
  have o_2 : ok9 J M := by assumption
  have o_3 : ∀ k, k < cLa J → st k = nI (cSt J k) := by assumption
  have o_4 : repM M mo mi mt := by assumption
  have o_5 : kdM J wo i9 kq ki := by assumption
  have o_6 : repB J sk sh cl := by assumption
  have o_7 : 23 < 24 := by omega
  have hF := va_free (wc := [(m0, .inr (9, [.int i0, .ref a1, .int (nI (cSp J)), .ref a3, .int (nI (cLa J)), .ref a5, .ref a6, .ref a7, .int (nI (cAg J)), .int i9, .int i10, .int i11, .int i12, .ref a13, .ref a14, .ref a15, .ref a16, .int (nI (mN M)), .ref a18, .ref a19, .ref a20, .ref a21, .ref a22, .ref a23, .ref a24, .ref a25, .int i26, .ref a27, .ref a28, .ref a29, .ref a30, .ref a31, .ref a32, .ref a33, .ref a34, .int i35])), (a1, .inl (cI, 6, .inl sk)), (a3, .inl (cI, 4, .inl sh)), (a5, .inl (cI, 4, .inl ki)), (a6, .inl (cI, 4, .inl st)), (a7, .inl (cI, 4, .inl cl)), (a18, .inl (cI, 9, .inl mo)), (a19, .inl (cI, 9, .inl mi)), (a20, .inl (cI, 9, .inl mt)), (a21, .inl (cI, 96, .inl fa)), (a22, .inl (cI, 96, .inl gi))]) hD hS hA [0, 1, 2, 3, 4, 5, 6, 7, 8, 9, 10] rfl
  refine va_callv (va_runV (As := [.int (nI 23)]) (rest := []) ⟨hx, hb, hml, hown, hts⟩ (c_X10_goTo lL D cI cS _ J M wo kq m0 a1 a3 a5 a6 a7 a13 a14 a15 a16 a18 a19 a20 a21 a22 a23 a24 a25 a27 a28 a29 a30 a31 a32 a33 a34 i0 (nI (cSp J)) i9 i10 i11 i12 i26 i35 sk sh ki st cl mo mi mt fa gi 23 o_1 o_2 o_3 o_4 o_5 o_6 o_7) (cwV 1 hts gX10_allLight_X10_goTo rfl rfl rfl cd_X10_goTo ⟨Nat.le_of_ble_eq_true rfl, Nat.le_of_ble_eq_true rfl⟩) ⟨kB_blind, va_recv hK hP (ci := 9) (q0 := 0) rfl rfl, fun U hU hW => ⟨rfl, by rw [hU], by rw [hU]; exact hP.sub [0, 1, 2, 3, 4, 5, 6, 7, 8, 9, 10] rfl, va_K.moved hW.alike hK, (hD.sub [0, 1, 2, 3, 4, 5, 6, 7, 8, 9, 10] (by decide) rfl).weaken (fun _ _ _ _ => trivial)⟩⟩ rfl rfl hl.1 rfl (lv_room (Nat.le_of_ble_eq_true rfl)) dX10_allLight_3 ⟨Nat.le_of_ble_eq_true rfl, Nat.le_of_ble_eq_true rfl⟩) hS (fun q _ h => hF q h) hF (fun u_8 t H1 locs ht hvm hw_8 hB hz1 hk1 hS => ?_)
  obtain ⟨fa2_8, gi2_8⟩ := u_8
  obtain ⟨hP, hD⟩ := kk_join2 (wc := [(m0, .inr (9, [.int i0, .ref a1, .int (nI (cSp J)), .ref a3, .int (nI (cLa J)), .ref a5, .ref a6, .ref a7, .int (nI (cAg J)), .int i9, .int i10, .int i11, .int i12, .ref a13, .ref a14, .ref a15, .ref a16, .int (nI (mN M)), .ref a18, .ref a19, .ref a20, .ref a21, .ref a22, .ref a23, .ref a24, .ref a25, .int i26, .ref a27, .ref a28, .ref a29, .ref a30, .ref a31, .ref a32, .ref a33, .ref a34, .int i35])), (a1, .inl (cI, 6, .inl sk)), (a3, .inl (cI, 4, .inl sh)), (a5, .inl (cI, 4, .inl ki)), (a6, .inl (cI, 4, .inl st)), (a7, .inl (cI, 4, .inl cl)), (a18, .inl (cI, 9, .inl mo)), (a19, .inl (cI, 9, .inl mi)), (a20, .inl (cI, 9, .inl mt)), (a21, .inl (cI, 96, .inl fa)), (a22, .inl (cI, 96, .inl gi))]) (w1 := [(m0, .inr (9, [.int i0, .ref a1, .int (nI (cSp J)), .ref a3, .int (nI (cLa J)), .ref a5, .ref a6, .ref a7, .int (nI (cAg J)), .int i9, .int i10, .int i11, .int i12, .ref a13, .ref a14, .ref a15, .ref a16, .int (nI (mN M)), .ref a18, .ref a19, .ref a20, .ref a21, .ref a22, .ref a23, .ref a24, .ref a25, .int i26, .ref a27, .ref a28, .ref a29, .ref a30, .ref a31, .ref a32, .ref a33, .ref a34, .int i35])), (a1, .inl (cI, 6, .inl sk)), (a3, .inl (cI, 4, .inl sh)), (a5, .inl (cI, 4, .inl ki)), (a6, .inl (cI, 4, .inl st)), (a7, .inl (cI, 4, .inl cl)), (a18, .inl (cI, 9, .inl mo)), (a19, .inl (cI, 9, .inl mi)), (a20, .inl (cI, 9, .inl mt)), (a21, .inl (cI, 96, .inl fa2_8)), (a22, .inl (cI, 96, .inl gi2_8))]) (ws' := [(m0, .inr (9, [.int i0, .ref a1, .int (nI (cSp J)), .ref a3, .int (nI (cLa J)), .ref a5, .ref a6, .ref a7, .int (nI (cAg J)), .int i9, .int i10, .int i11, .int i12, .ref a13, .ref a14, .ref a15, .ref a16, .int (nI (mN M)), .ref a18, .ref a19, .ref a20, .ref a21, .ref a22, .ref a23, .ref a24, .ref a25, .int i26, .ref a27, .ref a28, .ref a29, .ref a30, .ref a31, .ref a32, .ref a33, .ref a34, .int i35])), (a1, .inl (cI, 6, .inl sk)), (a3, .inl (cI, 4, .inl sh)), (a5, .inl (cI, 4, .inl ki)), (a6, .inl (cI, 4, .inl st)), (a7, .inl (cI, 4, .inl cl)), (a18, .inl (cI, 9, .inl mo)), (a19, .inl (cI, 9, .inl mi)), (a20, .inl (cI, 9, .inl mt)), (a21, .inl (cI, 96, .inl fa2_8)), (a22, .inl (cI, 96, .inl gi2_8))]) (wr := []) (H1 := H1) hP hD [0, 1, 2, 3, 4, 5, 6, 7, 8, 9, 10] [] rfl rfl rfl rfl 11 rfl (by decide) [m0, a1, a3, a5, a6, a7, a18, a19, a20, a21, a22] rfl rfl hk1 (by rw [← ht]; exact hB)
  have hw_8 : tmF J (plc M (cSt J)) fa2_8 (23 + 1) ∧ tmG J (plc M (cSt J)) wo gi2_8 (23 + 1) := hw_8
  clear hF hB hk1 hz1 hvm
  clear ht
  generalize H1 = H at hP hS ⊢
  have hGG := hw_8.2
  refine lv_iconst (v := nI 0) hx hb dX10_allLight_6 (by decide +kernel) ?_
  refine lv_istore_n (lv' := [(1, .int (nI 0)), (0, .ref m0)]) hx hb dX10_allLight_7 rfl hl (by decide) rfl (fun ls hl => ?_)
  refine lv_iconst (v := nI 0) hx hb dX10_allLight_8 (by decide +kernel) ?_
  refine lv_istore_n (lv' := [(2, .int (nI 0)), (1, .int (nI 0)), (0, .ref m0)]) hx hb dX10_allLight_9 rfl hl (by decide) rfl (fun ls hl => ?_)
  have L_10 : ∀ (n_10 : Nat) (s : Nat), (s ≤ cSp J) → cSp J + 1 ≤ s + n_10 → ∀ (H : Heap) (locs : List Loc), va_P D vwCl [(m0, .inr (9, [.int i0, .ref a1, .int (nI (cSp J)), .ref a3, .int (nI (cLa J)), .ref a5, .ref a6, .ref a7, .int (nI (cAg J)), .int i9, .int i10, .int i11, .int i12, .ref a13, .ref a14, .ref a15, .ref a16, .int (nI (mN M)), .ref a18, .ref a19, .ref a20, .ref a21, .ref a22, .ref a23, .ref a24, .ref a25, .int i26, .ref a27, .ref a28, .ref a29, .ref a30, .ref a31, .ref a32, .ref a33, .ref a34, .int i35])), (a1, .inl (cI, 6, .inl sk)), (a3, .inl (cI, 4, .inl sh)), (a5, .inl (cI, 4, .inl ki)), (a6, .inl (cI, 4, .inl st)), (a7, .inl (cI, 4, .inl cl)), (a18, .inl (cI, 9, .inl mo)), (a19, .inl (cI, 9, .inl mi)), (a20, .inl (cI, 9, .inl mt)), (a21, .inl (cI, 96, .inl fa2_8)), (a22, .inl (cI, 96, .inl gi2_8))] H → va_D A [(m0, .inr (9, [.int i0, .ref a1, .int (nI (cSp J)), .ref a3, .int (nI (cLa J)), .ref a5, .ref a6, .ref a7, .int (nI (cAg J)), .int i9, .int i10, .int i11, .int i12, .ref a13, .ref a14, .ref a15, .ref a16, .int (nI (mN M)), .ref a18, .ref a19, .ref a20, .ref a21, .ref a22, .ref a23, .ref a24, .ref a25, .int i26, .ref a27, .ref a28, .ref a29, .ref a30, .ref a31, .ref a32, .ref a33, .ref a34, .int i35])), (a1, .inl (cI, 6, .inl sk)), (a3, .inl (cI, 4, .inl sh)), (a5, .inl (cI, 4, .inl ki)), (a6, .inl (cI, 4, .inl st)), (a7, .inl (cI, 4, .inl cl)), (a18, .inl (cI, 9, .inl mo)), (a19, .inl (cI, 9, .inl mi)), (a20, .inl (cI, 9, .inl mt)), (a21, .inl (cI, 96, .inl fa2_8)), (a22, .inl (cI, 96, .inl gi2_8))] → va_S A sS.heap H locs → ∀ (ls : Array Slot), lv_has ls 4 [(2, .int (nI s)), (1, .int (nI (sumN (fun s => sumN (fun w => Li J (plc M (cSt J)) s w) 24) s))), (0, .ref m0)] → W pP lL eE (headSpec wsX10_allLight rmX10_allLight).room sS mM ([.ref m0]).toArray below meth cC H locs 0 0 QQ (F0 mM 10 ls []) := by
    intro n_10
    induction n_10 with
    | zero =>
      intro s hs hn_10 H locs hP hD hS ls hl
      exact absurd hn_10 (by omega)
    | succ n_10 ih_10 =>
      intro s hs hn_10 H locs hP hD hS ls hl
      refine lv_iload_n hx hb dX10_allLight_10 rfl (lv_at hl 0 rfl) ?_
      refine lv_aload_n hx hb dX10_allLight_11 rfl (lv_at hl 2 rfl) ?_
      refine va_get (D := D) (ci := 9) (v := .int (nI (cSp J))) (C := RX10) (T := TX10) (N := 36) hx hb hts hwX10 hown hK hP 0 rfl rfl 2 (by decide) hf_98 (fun _ h9 => h9) rfl dX10_allLight_12 ?_
      refine kk_icmp_ge (tgt := 47) hx hb dX10_allLight_15 (by decide) (by omega) (by omega) (fun c_9 => ?_) (fun c_9 => ?_)
      · skip
        refine lv_iload_n hx hb dX10_allLight_47 rfl (lv_at hl 1 rfl) ?_
        have hq : (nI (sumN (fun s => sumN (fun w => Li J (plc M (cSt J)) s w) 24) s)) = nI (allL J (plc M (cSt J))) ∧ True := by
          refine ⟨?_, trivial⟩
          rw [show s = cSp J by omega, allL_swap]
        refine kk_QQ hQQ ?_
        exact W.iret (v := nI (sumN (fun s => sumN (fun w => Li J (plc M (cSt J)) s w) 24) s)) hx hb hr (fun t ht hW => ⟨⟨nI (sumN (fun s => sumN (fun w => Li J (plc M (cSt J)) s w) 24) s), (fa2_8, gi2_8), rfl, hq, by show va_P D vwCl _ t.heap; rw [ht]; exact hP⟩, hS.F ht⟩) hS.2.2 dX10_allLight_48
      · skip
        refine lv_iconst (v := nI 0) hx hb dX10_allLight_18 (by decide +kernel) ?_
        refine lv_istore_n (lv' := [(3, .int (nI 0)), (2, .int (nI s)), (1, .int (nI (sumN (fun s => sumN (fun w => Li J (plc M (cSt J)) s w) 24) s))), (0, .ref m0)]) hx hb dX10_allLight_19 rfl hl (by decide) rfl (fun ls hl => ?_)
        have L_20 : ∀ (n_20 : Nat) (v : Nat), (v ≤ 24) → 25 ≤ v + n_20 → ∀ (H : Heap) (locs : List Loc), va_P D vwCl [(m0, .inr (9, [.int i0, .ref a1, .int (nI (cSp J)), .ref a3, .int (nI (cLa J)), .ref a5, .ref a6, .ref a7, .int (nI (cAg J)), .int i9, .int i10, .int i11, .int i12, .ref a13, .ref a14, .ref a15, .ref a16, .int (nI (mN M)), .ref a18, .ref a19, .ref a20, .ref a21, .ref a22, .ref a23, .ref a24, .ref a25, .int i26, .ref a27, .ref a28, .ref a29, .ref a30, .ref a31, .ref a32, .ref a33, .ref a34, .int i35])), (a1, .inl (cI, 6, .inl sk)), (a3, .inl (cI, 4, .inl sh)), (a5, .inl (cI, 4, .inl ki)), (a6, .inl (cI, 4, .inl st)), (a7, .inl (cI, 4, .inl cl)), (a18, .inl (cI, 9, .inl mo)), (a19, .inl (cI, 9, .inl mi)), (a20, .inl (cI, 9, .inl mt)), (a21, .inl (cI, 96, .inl fa2_8)), (a22, .inl (cI, 96, .inl gi2_8))] H → va_D A [(m0, .inr (9, [.int i0, .ref a1, .int (nI (cSp J)), .ref a3, .int (nI (cLa J)), .ref a5, .ref a6, .ref a7, .int (nI (cAg J)), .int i9, .int i10, .int i11, .int i12, .ref a13, .ref a14, .ref a15, .ref a16, .int (nI (mN M)), .ref a18, .ref a19, .ref a20, .ref a21, .ref a22, .ref a23, .ref a24, .ref a25, .int i26, .ref a27, .ref a28, .ref a29, .ref a30, .ref a31, .ref a32, .ref a33, .ref a34, .int i35])), (a1, .inl (cI, 6, .inl sk)), (a3, .inl (cI, 4, .inl sh)), (a5, .inl (cI, 4, .inl ki)), (a6, .inl (cI, 4, .inl st)), (a7, .inl (cI, 4, .inl cl)), (a18, .inl (cI, 9, .inl mo)), (a19, .inl (cI, 9, .inl mi)), (a20, .inl (cI, 9, .inl mt)), (a21, .inl (cI, 96, .inl fa2_8)), (a22, .inl (cI, 96, .inl gi2_8))] → va_S A sS.heap H locs → ∀ (ls : Array Slot), lv_has ls 4 [(3, .int (nI v)), (2, .int (nI s)), (1, .int (nI (sumN (fun s => sumN (fun w => Li J (plc M (cSt J)) s w) 24) s + sumN (fun w => Li J (plc M (cSt J)) s w) v))), (0, .ref m0)] → W pP lL eE (headSpec wsX10_allLight rmX10_allLight).room sS mM ([.ref m0]).toArray below meth cC H locs 0 0 QQ (F0 mM 20 ls []) := by
          intro n_20
          induction n_20 with
          | zero =>
            intro v hv hn_20 H locs hP hD hS ls hl
            exact absurd hn_20 (by omega)
          | succ n_20 ih_20 =>
            intro v hv hn_20 H locs hP hD hS ls hl
            refine lv_iload_n hx hb dX10_allLight_20 rfl (lv_at hl 0 rfl) ?_
            refine lv_bipush (v := nI 24) hx hb dX10_allLight_21 (by decide +kernel) ?_
            refine kk_icmp_ge (tgt := 41) hx hb dX10_allLight_23 (by decide) (by omega) (by omega) (fun c_10 => ?_) (fun c_10 => ?_)
            · skip
              have e_11 : nI (sumN (fun s => sumN (fun w => Li J (plc M (cSt J)) s w) 24) s + sumN (fun w => Li J (plc M (cSt J)) s w) v) = nI (sumN (fun s => sumN (fun w => Li J (plc M (cSt J)) s w) 24) (s + 1)) := by
                congr 1
                rw [show v = 24 by omega]; rfl
              rw [e_11] at hl
              refine lv_iinc (v := nI (s + 1)) (lv' := [(2, .int (nI (s + 1))), (3, .int (nI v)), (1, .int (nI (sumN (fun s => sumN (fun w => Li J (plc M (cSt J)) s w) 24) (s + 1)))), (0, .ref m0)]) hx hb dX10_allLight_41 hl (k := 1) rfl (nI_add s 1) (by decide) rfl (fun ls hl => ?_)
              refine lv_goto (tgt := 10) hx hb dX10_allLight_44 (by decide) ?_
              have o_12 : (s + 1) ≤ cSp J := by omega
              have o_13 : cSp J + 1 ≤ (s + 1) + n_10 := by omega
              exact ih_10 (s + 1) o_12 o_13 _ _ hP hD hS ls (lv_sub hl [0, 2, 3] rfl)
            · skip
              refine lv_iload_n hx hb dX10_allLight_26 rfl (lv_at hl 2 rfl) ?_
              refine lv_aload_n hx hb dX10_allLight_27 rfl (lv_at hl 3 rfl) ?_
              refine lv_iload_n hx hb dX10_allLight_28 rfl (lv_at hl 1 rfl) ?_
              refine lv_iload_n hx hb dX10_allLight_29 rfl (lv_at hl 0 rfl) ?_
              have o_14 : okC J := by assumption
              have o_15 : ok9 J M := by assumption
              have o_16 : ∀ k, k < cLa J → st k = nI (cSt J k) := by assumption
              have o_17 : repM M mo mi mt := by assumption
              have o_18 : ∀ k, k < 4 → (nI k = i9 ↔ k = wo) := by assumption
              have o_19 : wo < cLa J → cKi J wo = 3 := by assumption
              have o_20 : repB J sk sh cl := by assumption
              have o_21 : ∀ k, k < cLa J → k ≠ wo → gi2_8 (24 * k + v) = nI (Gi J (plc M (cSt J)) v k) := by exact fun k hk hne => hGG v (by omega) k hk hne
              have o_22 : s < cSp J := by omega
              have o_23 : v < 24 := by omega
              refine vp_callSi (W.runV (As := [.int (nI s), .int (nI v)]) (rest := [.int (nI (sumN (fun s => sumN (fun w => Li J (plc M (cSt J)) s w) 24) s + sumN (fun w => Li J (plc M (cSt J)) s w) v))]) ⟨hx, hb, hml, hown, hts⟩ (c_X10_lightOf lL D cI cS J M wo m0 a1 a3 a5 a6 a7 a13 a14 a15 a16 a18 a19 a20 a21 a22 a23 a24 a25 a27 a28 a29 a30 a31 a32 a33 a34 i0 (nI (cSp J)) (nI (cAg J)) i9 i10 i11 i12 i26 i35 sk sh st cl mo mi mt gi2_8 s v o_14 o_15 o_16 o_17 o_18 o_19 o_20 o_21 o_22 o_23) (cwV 2 hts gX10_allLight_X10_lightOf rfl rfl rfl cd_X10_lightOf ⟨Nat.le_of_ble_eq_true rfl, Nat.le_of_ble_eq_true rfl⟩) ⟨kBp_blind, va_recv hK hP (ci := 9) (q0 := 0) rfl rfl, fun U hU hW => ⟨rfl, by rw [hU]; exact hP.sub [0, 1, 2, 4, 5, 6, 7, 8, 10] rfl, va_K.moved hW.alike hK⟩⟩ rfl rfl hl.1 rfl (lv_room (Nat.le_of_ble_eq_true rfl)) dX10_allLight_30 ⟨Nat.le_of_ble_eq_true rfl, Nat.le_of_ble_eq_true rfl⟩) (fun r_24 hw_24 => ?_)
              obtain rfl : r_24 = nI (Li J (plc M (cSt J)) s v) := hw_24
              refine kk_iadd hx hb dX10_allLight_33 ?_
              refine lv_istore_n (lv' := [(1, .int (nI ((sumN (fun s => sumN (fun w => Li J (plc M (cSt J)) s w) 24) s + sumN (fun w => Li J (plc M (cSt J)) s w) v) + (Li J (plc M (cSt J)) s v)))), (3, .int (nI v)), (2, .int (nI s)), (0, .ref m0)]) hx hb dX10_allLight_34 rfl hl (by decide) rfl (fun ls hl => ?_)
              have e_25 : nI ((sumN (fun s => sumN (fun w => Li J (plc M (cSt J)) s w) 24) s + sumN (fun w => Li J (plc M (cSt J)) s w) v) + (Li J (plc M (cSt J)) s v)) = nI (sumN (fun s => sumN (fun w => Li J (plc M (cSt J)) s w) 24) s + sumN (fun w => Li J (plc M (cSt J)) s w) (v + 1)) := by
                congr 1
                exact Nat.add_assoc _ _ _
              rw [e_25] at hl
              refine lv_iinc (v := nI (v + 1)) (lv' := [(3, .int (nI (v + 1))), (1, .int (nI (sumN (fun s => sumN (fun w => Li J (plc M (cSt J)) s w) 24) s + sumN (fun w => Li J (plc M (cSt J)) s w) (v + 1)))), (2, .int (nI s)), (0, .ref m0)]) hx hb dX10_allLight_35 hl (k := 1) rfl (nI_add v 1) (by decide) rfl (fun ls hl => ?_)
              refine lv_goto (tgt := 20) hx hb dX10_allLight_38 (by decide) ?_
              have o_26 : (v + 1) ≤ 24 := by omega
              have o_27 : 25 ≤ (v + 1) + n_20 := by omega
              exact ih_20 (v + 1) o_26 o_27 _ _ hP hD hS ls (lv_sub hl [0, 2, 1, 3] rfl)
        have o_28 : 0 ≤ 24 := by omega
        have o_29 : 25 ≤ 0 + 25 := by omega
        exact L_20 25 0 o_28 o_29 _ _ hP hD hS ls (lv_sub hl [0, 1, 2, 3] rfl)
  have o_30 : 0 ≤ cSp J := by omega
  have o_31 : cSp J + 1 ≤ 0 + (cSp J + 1) := by omega
  exact L_10 (cSp J + 1) 0 o_30 o_31 _ _ hP hD hS ls (lv_sub hl [0, 1, 2] rfl)

abbrev rmX10_darkMany : Room := { frames := 3, cells := 0, slots := 0, locals := 75 }
set_option maxHeartbeats 4000000 in
set_option maxRecDepth 100000 in
theorem c_X10_darkMany (lL : Launch) (D : va_G) (cI cS : ClassId) (sz : Nat) (J : Co) (M : Mv) (wo : Nat) (kq : Nat → Nat) (m0 : Nat) (a1 : Nat) (a3 : Nat) (a5 : Nat) (a6 : Nat) (a7 : Nat) (a13 : Nat) (a14 : Nat) (a15 : Nat) (a16 : Nat) (a18 : Nat) (a19 : Nat) (a20 : Nat) (a21 : Nat) (a22 : Nat) (a23 : Nat) (a24 : Nat) (a25 : Nat) (a27 : Nat) (a28 : Nat) (a29 : Nat) (a30 : Nat) (a31 : Nat) (a32 : Nat) (a33 : Nat) (a34 : Nat) (i0 : Int32) (i2 : Int32) (i9 : Int32) (i10 : Int32) (i11 : Int32) (i12 : Int32) (i26 : Int32) (i35 : Int32) (sk : Nat → Int32) (sh : Nat → Int32) (ki : Nat → Int32) (st : Nat → Int32) (cl : Nat → Int32) (mo : Nat → Int32) (mi : Nat → Int32) (mt : Nat → Int32) (fa : Nat → Int32) (gi : Nat → Int32) (s : Nat) (ub : Nat) (hJ : okC J) (hM : ok9 J M) (hst : ∀ k, k < cLa J → st k = nI (cSt J k)) (hrM : repM M mo mi mt) (hkd : kdM J wo i9 kq ki) (hrB : repB J sk sh cl) (hs : s < cSp J) (hu : ub < 1000) : Met lL yX10_darkMany wsX10_darkMany rmX10_darkMany (va_Pc [.ref m0, .int (nI s), .int (nI ub)] (kB D cI cS [(m0, .inr (9, [.int i0, .ref a1, .int i2, .ref a3, .int (nI (cLa J)), .ref a5, .ref a6, .ref a7, .int (nI (cAg J)), .int i9, .int i10, .int i11, .int i12, .ref a13, .ref a14, .ref a15, .ref a16, .int (nI (mN M)), .ref a18, .ref a19, .ref a20, .ref a21, .ref a22, .ref a23, .ref a24, .ref a25, .int i26, .ref a27, .ref a28, .ref a29, .ref a30, .ref a31, .ref a32, .ref a33, .ref a34, .int i35])), (a1, .inl (cI, 6, .inl sk)), (a3, .inl (cI, 4, .inl sh)), (a5, .inl (cI, 4, .inl ki)), (a6, .inl (cI, 4, .inl st)), (a7, .inl (cI, 4, .inl cl)), (a18, .inl (cI, 9, .inl mo)), (a19, .inl (cI, 9, .inl mi)), (a20, .inl (cI, 9, .inl mt)), (a21, .inl (cI, 96, .inl fa)), (a22, .inl (cI, 96, .inl gi))] sz)) (kQi D (fun (r : Int32) (u : (Nat → Int32) × (Nat → Int32)) => r = nI (cntB J (plc M (cSt J)) s ub) ∧ True) (fun u : (Nat → Int32) × (Nat → Int32) => [(m0, .inr (9, [.int i0, .ref a1, .int i2, .ref a3, .int (nI (cLa J)), .ref a5, .ref a6, .ref a7, .int (nI (cAg J)), .int i9, .int i10, .int i11, .int i12, .ref a13, .ref a14, .ref a15, .ref a16, .int (nI (mN M)), .ref a18, .ref a19, .ref a20, .ref a21, .ref a22, .ref a23, .ref a24, .ref a25, .int i26, .ref a27, .ref a28, .ref a29, .ref a30, .ref a31, .ref a32, .ref a33, .ref a34, .int i35])), (a1, .inl (cI, 6, .inl sk)), (a3, .inl (cI, 4, .inl sh)), (a5, .inl (cI, 4, .inl ki)), (a6, .inl (cI, 4, .inl st)), (a7, .inl (cI, 4, .inl cl)), (a18, .inl (cI, 9, .inl mo)), (a19, .inl (cI, 9, .inl mi)), (a20, .inl (cI, 9, .inl mt)), (a21, .inl (cI, 96, .inl u.1)), (a22, .inl (cI, 96, .inl u.2))]) (va_A [(m0, .inr (9, [.int i0, .ref a1, .int i2, .ref a3, .int (nI (cLa J)), .ref a5, .ref a6, .ref a7, .int (nI (cAg J)), .int i9, .int i10, .int i11, .int i12, .ref a13, .ref a14, .ref a15, .ref a16, .int (nI (mN M)), .ref a18, .ref a19, .ref a20, .ref a21, .ref a22, .ref a23, .ref a24, .ref a25, .int i26, .ref a27, .ref a28, .ref a29, .ref a30, .ref a31, .ref a32, .ref a33, .ref a34, .int i35])), (a1, .inl (cI, 6, .inl sk)), (a3, .inl (cI, 4, .inl sh)), (a5, .inl (cI, 4, .inl ki)), (a6, .inl (cI, 4, .inl st)), (a7, .inl (cI, 4, .inl cl)), (a18, .inl (cI, 9, .inl mo)), (a19, .inl (cI, 9, .inl mi)), (a20, .inl (cI, 9, .inl mt)), (a21, .inl (cI, 96, .inl fa)), (a22, .inl (cI, 96, .inl gi))] sz)) 0 0 (va_A [(m0, .inr (9, [.int i0, .ref a1, .int i2, .ref a3, .int (nI (cLa J)), .ref a5, .ref a6, .ref a7, .int (nI (cAg J)), .int i9, .int i10, .int i11, .int i12, .ref a13, .ref a14, .ref a15, .ref a16, .int (nI (mN M)), .ref a18, .ref a19, .ref a20, .ref a21, .ref a22, .ref a23, .ref a24, .ref a25, .int i26, .ref a27, .ref a28, .ref a29, .ref a30, .ref a31, .ref a32, .ref a33, .ref a34, .int i35])), (a1, .inl (cI, 6, .inl sk)), (a3, .inl (cI, 4, .inl sh)), (a5, .inl (cI, 4, .inl ki)), (a6, .inl (cI, 4, .inl st)), (a7, .inl (cI, 4, .inl cl)), (a18, .inl (cI, 9, .inl mo)), (a19, .inl (cI, 9, .inl mi)), (a20, .inl (cI, 9, .inl mt)), (a21, .inl (cI, 96, .inl fa)), (a22, .inl (cI, 96, .inl gi))] sz) := by
  refine Met.ofW (cc := cX10_darkMany) (maxL := 5) (ret := (some .int)) (by decide) rfl ?_
  intro pP eE sS mM args below meth cC s₁ B hml hv
  obtain ⟨rfl, hsz, hP, hK, hD0⟩ := hv
  have hx := B.exec
  have hb := B.bytes
  have hr := B.returns
  have hts := atoms_spec (ws := wsX10_darkMany) B.pre
  have hown : sS.vm.findClass RX10 = some mM.cls := findClass_of_methodNamed B.named
  have hlocks := B.notSynchronized
  subst hsz
  have hD := hD0.self (sz := sS.heap.size)
  generalize hAe : va_A [(m0, .inr (9, [.int i0, .ref a1, .int i2, .ref a3, .int (nI (cLa J)), .ref a5, .ref a6, .ref a7, .int (nI (cAg J)), .int i9, .int i10, .int i11, .int i12, .ref a13, .ref a14, .ref a15, .ref a16, .int (nI (mN M)), .ref a18, .ref a19, .ref a20, .ref a21, .ref a22, .ref a23, .ref a24, .ref a25, .int i26, .ref a27, .ref a28, .ref a29, .ref a30, .ref a31, .ref a32, .ref a33, .ref a34, .int i35])), (a1, .inl (cI, 6, .inl sk)), (a3, .inl (cI, 4, .inl sh)), (a5, .inl (cI, 4, .inl ki)), (a6, .inl (cI, 4, .inl st)), (a7, .inl (cI, 4, .inl cl)), (a18, .inl (cI, 9, .inl mo)), (a19, .inl (cI, 9, .inl mi)), (a20, .inl (cI, 9, .inl mt)), (a21, .inl (cI, 96, .inl fa)), (a22, .inl (cI, 96, .inl gi))] sS.heap.size = A at hD ⊢
  have hA : ∀ q : Nat, sS.heap.size ≤ q → A q := fun q h => by rw [← hAe]; exact Or.inr h
  have hS : va_S A sS.heap sS.heap [] := va_S.rf
  have hP : va_P D vwCl [(m0, .inr (9, [.int i0, .ref a1, .int i2, .ref a3, .int (nI (cLa J)), .ref a5, .ref a6, .ref a7, .int (nI (cAg J)), .int i9, .int i10, .int i11, .int i12, .ref a13, .ref a14, .ref a15, .ref a16, .int (nI (mN M)), .ref a18, .ref a19, .ref a20, .ref a21, .ref a22, .ref a23, .ref a24, .ref a25, .int i26, .ref a27, .ref a28, .ref a29, .ref a30, .ref a31, .ref a32, .ref a33, .ref a34, .int i35])), (a1, .inl (cI, 6, .inl sk)), (a3, .inl (cI, 4, .inl sh)), (a5, .inl (cI, 4, .inl ki)), (a6, .inl (cI, 4, .inl st)), (a7, .inl (cI, 4, .inl cl)), (a18, .inl (cI, 9, .inl mo)), (a19, .inl (cI, 9, .inl mi)), (a20, .inl (cI, 9, .inl mt)), (a21, .inl (cI, 96, .inl fa)), (a22, .inl (cI, 96, .inl gi))] sS.heap := hP
  have hD : va_D A [(m0, .inr (9, [.int i0, .ref a1, .int i2, .ref a3, .int (nI (cLa J)), .ref a5, .ref a6, .ref a7, .int (nI (cAg J)), .int i9, .int i10, .int i11, .int i12, .ref a13, .ref a14, .ref a15, .ref a16, .int (nI (mN M)), .ref a18, .ref a19, .ref a20, .ref a21, .ref a22, .ref a23, .ref a24, .ref a25, .int i26, .ref a27, .ref a28, .ref a29, .ref a30, .ref a31, .ref a32, .ref a33, .ref a34, .int i35])), (a1, .inl (cI, 6, .inl sk)), (a3, .inl (cI, 4, .inl sh)), (a5, .inl (cI, 4, .inl ki)), (a6, .inl (cI, 4, .inl st)), (a7, .inl (cI, 4, .inl cl)), (a18, .inl (cI, 9, .inl mo)), (a19, .inl (cI, 9, .inl mi)), (a20, .inl (cI, 9, .inl mt)), (a21, .inl (cI, 96, .inl fa)), (a22, .inl (cI, 96, .inl gi))] := hD
  have hl := lv_entry ([.ref m0, .int (nI s), .int (nI ub)]) (n := 5) (Nat.le_of_ble_eq_true rfl)
  rw [lg_entry_eq]
  generalize (lg_sl ([.ref m0, .int (nI s), .int (nI ub)]) ++ List.replicate (5 - (lg_sl ([.ref m0, .int (nI s), .int (nI ub)])).length) Slot.unset).toArray = ls at hl ⊢
  have hl : lv_has ls 5 [(0, .ref m0), (1, .int (nI s)), (2, .int (nI ub))] := hl
  obtain ⟨QQ, hQQ⟩ : ∃ QQ : State → Prop, QQ = MQ below (kQi D (fun (r : Int32) (u : (Nat → Int32) × (Nat → Int32)) => r = nI (cntB J (plc M (cSt J)) s ub) ∧ True) (fun u : (Nat → Int32) × (Nat → Int32) => [(m0, .inr (9, [.int i0, .ref a1, .int i2, .ref a3, .int (nI (cLa J)), .ref a5, .ref a6, .ref a7, .int (nI (cAg J)), .int i9, .int i10, .int i11, .int i12, .ref a13, .ref a14, .ref a15, .ref a16, .int (nI (mN M)), .ref a18, .ref a19, .ref a20, .ref a21, .ref a22, .ref a23, .ref a24, .ref a25, .int i26, .ref a27, .ref a28, .ref a29, .ref a30, .ref a31, .ref a32, .ref a33, .ref a34, .int i35])), (a1, .inl (cI, 6, .inl sk)), (a3, .inl (cI, 4, .inl sh)), (a5, .inl (cI, 4, .inl ki)), (a6, .inl (cI, 4, .inl st)), (a7, .inl (cI, 4, .inl cl)), (a18, .inl (cI, 9, .inl mo)), (a19, .inl (cI, 9, .inl mi)), (a20, .inl (cI, 9, .inl mt)), (a21, .inl (cI, 96, .inl u.1)), (a22, .inl (cI, 96, .inl u.2))]) A) ([.ref m0, .int (nI s), .int (nI ub)]).toArray sS 0 0 A := ⟨_, rfl⟩
  refine kk_QQ hQQ.symm ?_
  obtain ⟨hJ1, hJ2, hJ3, hJ4, hJ5, hJ6, hJ7, hJ8⟩ := id hJ
  obtain ⟨hM1, hM2⟩ := id hM
  have hwo := hkd.2
  have hk3 : wo < cLa J → cKi J wo = 3 := fun z => (hkd.1 wo z).2.2.2 rfl
  refine lv_aload_n hx hb dX10_darkMany_0 rfl (lv_at hl 0 rfl) ?_
  refine lv_bipush (v := nI 23) hx hb dX10_darkMany_1 (by decide +kernel) ?_
  have o_1 : okC J := by assumption
  have o_2 : ok9 J M := by assumption
  have o_3 : ∀ k, k < cLa J → st k = nI (cSt J k) := by assumption
  have o_4 : repM M mo mi mt := by assumption
  have o_5 : kdM J wo i9 kq ki := by assumption
  have o_6 : repB J sk sh cl := by assumption
  have o_7 : 23 < 24 := by omega
  have hF := va_free (wc := [(m0, .inr (9, [.int i0, .ref a1, .int i2, .ref a3, .int (nI (cLa J)), .ref a5, .ref a6, .ref a7, .int (nI (cAg J)), .int i9, .int i10, .int i11, .int i12, .ref a13, .ref a14, .ref a15, .ref a16, .int (nI (mN M)), .ref a18, .ref a19, .ref a20, .ref a21, .ref a22, .ref a23, .ref a24, .ref a25, .int i26, .ref a27, .ref a28, .ref a29, .ref a30, .ref a31, .ref a32, .ref a33, .ref a34, .int i35])), (a1, .inl (cI, 6, .inl sk)), (a3, .inl (cI, 4, .inl sh)), (a5, .inl (cI, 4, .inl ki)), (a6, .inl (cI, 4, .inl st)), (a7, .inl (cI, 4, .inl cl)), (a18, .inl (cI, 9, .inl mo)), (a19, .inl (cI, 9, .inl mi)), (a20, .inl (cI, 9, .inl mt)), (a21, .inl (cI, 96, .inl fa)), (a22, .inl (cI, 96, .inl gi))]) hD hS hA [0, 1, 2, 3, 4, 5, 6, 7, 8, 9, 10] rfl
  refine va_callv (va_runV (As := [.int (nI 23)]) (rest := []) ⟨hx, hb, hml, hown, hts⟩ (c_X10_goTo lL D cI cS _ J M wo kq m0 a1 a3 a5 a6 a7 a13 a14 a15 a16 a18 a19 a20 a21 a22 a23 a24 a25 a27 a28 a29 a30 a31 a32 a33 a34 i0 i2 i9 i10 i11 i12 i26 i35 sk sh ki st cl mo mi mt fa gi 23 o_1 o_2 o_3 o_4 o_5 o_6 o_7) (cwV 1 hts gX10_darkMany_X10_goTo rfl rfl rfl cd_X10_goTo ⟨Nat.le_of_ble_eq_true rfl, Nat.le_of_ble_eq_true rfl⟩) ⟨kB_blind, va_recv hK hP (ci := 9) (q0 := 0) rfl rfl, fun U hU hW => ⟨rfl, by rw [hU], by rw [hU]; exact hP.sub [0, 1, 2, 3, 4, 5, 6, 7, 8, 9, 10] rfl, va_K.moved hW.alike hK, (hD.sub [0, 1, 2, 3, 4, 5, 6, 7, 8, 9, 10] (by decide) rfl).weaken (fun _ _ _ _ => trivial)⟩⟩ rfl rfl hl.1 rfl (lv_room (Nat.le_of_ble_eq_true rfl)) dX10_darkMany_3 ⟨Nat.le_of_ble_eq_true rfl, Nat.le_of_ble_eq_true rfl⟩) hS (fun q _ h => hF q h) hF (fun u_8 t H1 locs ht hvm hw_8 hB hz1 hk1 hS => ?_)
  obtain ⟨fa2_8, gi2_8⟩ := u_8
  obtain ⟨hP, hD⟩ := kk_join2 (wc := [(m0, .inr (9, [.int i0, .ref a1, .int i2, .ref a3, .int (nI (cLa J)), .ref a5, .ref a6, .ref a7, .int (nI (cAg J)), .int i9, .int i10, .int i11, .int i12, .ref a13, .ref a14, .ref a15, .ref a16, .int (nI (mN M)), .ref a18, .ref a19, .ref a20, .ref a21, .ref a22, .ref a23, .ref a24, .ref a25, .int i26, .ref a27, .ref a28, .ref a29, .ref a30, .ref a31, .ref a32, .ref a33, .ref a34, .int i35])), (a1, .inl (cI, 6, .inl sk)), (a3, .inl (cI, 4, .inl sh)), (a5, .inl (cI, 4, .inl ki)), (a6, .inl (cI, 4, .inl st)), (a7, .inl (cI, 4, .inl cl)), (a18, .inl (cI, 9, .inl mo)), (a19, .inl (cI, 9, .inl mi)), (a20, .inl (cI, 9, .inl mt)), (a21, .inl (cI, 96, .inl fa)), (a22, .inl (cI, 96, .inl gi))]) (w1 := [(m0, .inr (9, [.int i0, .ref a1, .int i2, .ref a3, .int (nI (cLa J)), .ref a5, .ref a6, .ref a7, .int (nI (cAg J)), .int i9, .int i10, .int i11, .int i12, .ref a13, .ref a14, .ref a15, .ref a16, .int (nI (mN M)), .ref a18, .ref a19, .ref a20, .ref a21, .ref a22, .ref a23, .ref a24, .ref a25, .int i26, .ref a27, .ref a28, .ref a29, .ref a30, .ref a31, .ref a32, .ref a33, .ref a34, .int i35])), (a1, .inl (cI, 6, .inl sk)), (a3, .inl (cI, 4, .inl sh)), (a5, .inl (cI, 4, .inl ki)), (a6, .inl (cI, 4, .inl st)), (a7, .inl (cI, 4, .inl cl)), (a18, .inl (cI, 9, .inl mo)), (a19, .inl (cI, 9, .inl mi)), (a20, .inl (cI, 9, .inl mt)), (a21, .inl (cI, 96, .inl fa2_8)), (a22, .inl (cI, 96, .inl gi2_8))]) (ws' := [(m0, .inr (9, [.int i0, .ref a1, .int i2, .ref a3, .int (nI (cLa J)), .ref a5, .ref a6, .ref a7, .int (nI (cAg J)), .int i9, .int i10, .int i11, .int i12, .ref a13, .ref a14, .ref a15, .ref a16, .int (nI (mN M)), .ref a18, .ref a19, .ref a20, .ref a21, .ref a22, .ref a23, .ref a24, .ref a25, .int i26, .ref a27, .ref a28, .ref a29, .ref a30, .ref a31, .ref a32, .ref a33, .ref a34, .int i35])), (a1, .inl (cI, 6, .inl sk)), (a3, .inl (cI, 4, .inl sh)), (a5, .inl (cI, 4, .inl ki)), (a6, .inl (cI, 4, .inl st)), (a7, .inl (cI, 4, .inl cl)), (a18, .inl (cI, 9, .inl mo)), (a19, .inl (cI, 9, .inl mi)), (a20, .inl (cI, 9, .inl mt)), (a21, .inl (cI, 96, .inl fa2_8)), (a22, .inl (cI, 96, .inl gi2_8))]) (wr := []) (H1 := H1) hP hD [0, 1, 2, 3, 4, 5, 6, 7, 8, 9, 10] [] rfl rfl rfl rfl 11 rfl (by decide) [m0, a1, a3, a5, a6, a7, a18, a19, a20, a21, a22] rfl rfl hk1 (by rw [← ht]; exact hB)
  have hw_8 : tmF J (plc M (cSt J)) fa2_8 (23 + 1) ∧ tmG J (plc M (cSt J)) wo gi2_8 (23 + 1) := hw_8
  clear hF hB hk1 hz1 hvm
  clear ht
  generalize H1 = H at hP hS ⊢
  have hGG := hw_8.2
  refine lv_iconst (v := nI 0) hx hb dX10_darkMany_6 (by decide +kernel) ?_
  refine lv_istore_n (lv' := [(3, .int (nI 0)), (0, .ref m0), (1, .int (nI s)), (2, .int (nI ub))]) hx hb dX10_darkMany_7 rfl hl (by decide) rfl (fun ls hl => ?_)
  refine lv_iconst (v := nI 0) hx hb dX10_darkMany_8 (by decide +kernel) ?_
  refine lv_istore (lv' := [(4, .int (nI 0)), (3, .int (nI 0)), (0, .ref m0), (1, .int (nI s)), (2, .int (nI ub))]) hx hb dX10_darkMany_9 hl (by decide) rfl (fun ls hl => ?_)
  have L_11 : ∀ (n_11 : Nat) (v : Nat), (v ≤ 24) → 25 ≤ v + n_11 → ∀ (H : Heap) (locs : List Loc), va_P D vwCl [(m0, .inr (9, [.int i0, .ref a1, .int i2, .ref a3, .int (nI (cLa J)), .ref a5, .ref a6, .ref a7, .int (nI (cAg J)), .int i9, .int i10, .int i11, .int i12, .ref a13, .ref a14, .ref a15, .ref a16, .int (nI (mN M)), .ref a18, .ref a19, .ref a20, .ref a21, .ref a22, .ref a23, .ref a24, .ref a25, .int i26, .ref a27, .ref a28, .ref a29, .ref a30, .ref a31, .ref a32, .ref a33, .ref a34, .int i35])), (a1, .inl (cI, 6, .inl sk)), (a3, .inl (cI, 4, .inl sh)), (a5, .inl (cI, 4, .inl ki)), (a6, .inl (cI, 4, .inl st)), (a7, .inl (cI, 4, .inl cl)), (a18, .inl (cI, 9, .inl mo)), (a19, .inl (cI, 9, .inl mi)), (a20, .inl (cI, 9, .inl mt)), (a21, .inl (cI, 96, .inl fa2_8)), (a22, .inl (cI, 96, .inl gi2_8))] H → va_D A [(m0, .inr (9, [.int i0, .ref a1, .int i2, .ref a3, .int (nI (cLa J)), .ref a5, .ref a6, .ref a7, .int (nI (cAg J)), .int i9, .int i10, .int i11, .int i12, .ref a13, .ref a14, .ref a15, .ref a16, .int (nI (mN M)), .ref a18, .ref a19, .ref a20, .ref a21, .ref a22, .ref a23, .ref a24, .ref a25, .int i26, .ref a27, .ref a28, .ref a29, .ref a30, .ref a31, .ref a32, .ref a33, .ref a34, .int i35])), (a1, .inl (cI, 6, .inl sk)), (a3, .inl (cI, 4, .inl sh)), (a5, .inl (cI, 4, .inl ki)), (a6, .inl (cI, 4, .inl st)), (a7, .inl (cI, 4, .inl cl)), (a18, .inl (cI, 9, .inl mo)), (a19, .inl (cI, 9, .inl mi)), (a20, .inl (cI, 9, .inl mt)), (a21, .inl (cI, 96, .inl fa2_8)), (a22, .inl (cI, 96, .inl gi2_8))] → va_S A sS.heap H locs → ∀ (ls : Array Slot), lv_has ls 5 [(4, .int (nI v)), (3, .int (nI (sumN (fun w => if Li J (plc M (cSt J)) s w < ub then 1 else 0) v))), (0, .ref m0), (1, .int (nI s)), (2, .int (nI ub))] → W pP lL eE (headSpec wsX10_darkMany rmX10_darkMany).room sS mM ([.ref m0, .int (nI s), .int (nI ub)]).toArray below meth cC H locs 0 0 QQ (F0 mM 11 ls []) := by
    intro n_11
    induction n_11 with
    | zero =>
      intro v hv hn_11 H locs hP hD hS ls hl
      exact absurd hn_11 (by omega)
    | succ n_11 ih_11 =>
      intro v hv hn_11 H locs hP hD hS ls hl
      refine lv_iload hx hb dX10_darkMany_11 (lv_at hl 0 rfl) ?_
      refine lv_bipush (v := nI 24) hx hb dX10_darkMany_13 (by decide +kernel) ?_
      refine kk_icmp_ge (tgt := 43) hx hb dX10_darkMany_15 (by decide) (by omega) (by omega) (fun c_9 => ?_) (fun c_9 => ?_)
      · skip
        refine lv_iload_n hx hb dX10_darkMany_43 rfl (lv_at hl 1 rfl) ?_
        have hq : (nI (sumN (fun w => if Li J (plc M (cSt J)) s w < ub then 1 else 0) v)) = nI (cntB J (plc M (cSt J)) s ub) ∧ True := by
          refine ⟨?_, trivial⟩
          have e_v : v = 24 := by omega
          subst e_v
          rfl
        refine kk_QQ hQQ ?_
        exact W.iret (v := nI (sumN (fun w => if Li J (plc M (cSt J)) s w < ub then 1 else 0) v)) hx hb hr (fun t ht hW => ⟨⟨nI (sumN (fun w => if Li J (plc M (cSt J)) s w < ub then 1 else 0) v), (fa2_8, gi2_8), rfl, hq, by show va_P D vwCl _ t.heap; rw [ht]; exact hP⟩, hS.F ht⟩) hS.2.2 dX10_darkMany_44
      · skip
        refine lv_iload_n hx hb dX10_darkMany_18 rfl (lv_at hl 1 rfl) ?_
        refine lv_aload_n hx hb dX10_darkMany_19 rfl (lv_at hl 2 rfl) ?_
        refine lv_iload_n hx hb dX10_darkMany_20 rfl (lv_at hl 3 rfl) ?_
        refine lv_iload hx hb dX10_darkMany_21 (lv_at hl 0 rfl) ?_
        have o_10 : okC J := by assumption
        have o_11 : ok9 J M := by assumption
        have o_12 : ∀ k, k < cLa J → st k = nI (cSt J k) := by assumption
        have o_13 : repM M mo mi mt := by assumption
        have o_14 : ∀ k, k < 4 → (nI k = i9 ↔ k = wo) := by assumption
        have o_15 : wo < cLa J → cKi J wo = 3 := by assumption
        have o_16 : repB J sk sh cl := by assumption
        have o_17 : ∀ k, k < cLa J → k ≠ wo → gi2_8 (24 * k + v) = nI (Gi J (plc M (cSt J)) v k) := by exact fun k hk hne => hGG v (by omega) k hk hne
        have o_18 : s < cSp J := by omega
        have o_19 : v < 24 := by omega
        refine vp_callSi (W.runV (As := [.int (nI s), .int (nI v)]) (rest := [.int (nI (sumN (fun w => if Li J (plc M (cSt J)) s w < ub then 1 else 0) v))]) ⟨hx, hb, hml, hown, hts⟩ (c_X10_lightOf lL D cI cS J M wo m0 a1 a3 a5 a6 a7 a13 a14 a15 a16 a18 a19 a20 a21 a22 a23 a24 a25 a27 a28 a29 a30 a31 a32 a33 a34 i0 i2 (nI (cAg J)) i9 i10 i11 i12 i26 i35 sk sh st cl mo mi mt gi2_8 s v o_10 o_11 o_12 o_13 o_14 o_15 o_16 o_17 o_18 o_19) (cwV 2 hts gX10_darkMany_X10_lightOf rfl rfl rfl cd_X10_lightOf ⟨Nat.le_of_ble_eq_true rfl, Nat.le_of_ble_eq_true rfl⟩) ⟨kBp_blind, va_recv hK hP (ci := 9) (q0 := 0) rfl rfl, fun U hU hW => ⟨rfl, by rw [hU]; exact hP.sub [0, 1, 2, 4, 5, 6, 7, 8, 10] rfl, va_K.moved hW.alike hK⟩⟩ rfl rfl hl.1 rfl (lv_room (Nat.le_of_ble_eq_true rfl)) dX10_darkMany_23 ⟨Nat.le_of_ble_eq_true rfl, Nat.le_of_ble_eq_true rfl⟩) (fun r_20 hw_20 => ?_)
        obtain rfl : r_20 = nI (Li J (plc M (cSt J)) s v) := hw_20
        have hll := Li_le hJ (plc M (cSt J)) s v
        refine lv_iload_n hx hb dX10_darkMany_26 rfl (lv_at hl 4 rfl) ?_
        refine kk_icmp_ge (tgt := 34) hx hb dX10_darkMany_27 (by decide) (by omega) (by omega) (fun c_21 => ?_) (fun c_21 => ?_)
        · skip
          refine lv_iconst (v := nI 0) hx hb dX10_darkMany_34 (by decide +kernel) ?_
          refine kk_iadd hx hb dX10_darkMany_35 ?_
          refine lv_istore_n (lv' := [(3, .int (nI ((sumN (fun w => if Li J (plc M (cSt J)) s w < ub then 1 else 0) v) + 0))), (4, .int (nI v)), (0, .ref m0), (1, .int (nI s)), (2, .int (nI ub))]) hx hb dX10_darkMany_36 rfl hl (by decide) rfl (fun ls hl => ?_)
          have e_22 : nI ((sumN (fun w => if Li J (plc M (cSt J)) s w < ub then 1 else 0) v) + 0) = nI (sumN (fun w => if Li J (plc M (cSt J)) s w < ub then 1 else 0) (v + 1)) := by
            congr 1
            show _ = sumN _ v + (if Li J (plc M (cSt J)) s v < ub then 1 else 0)
            rw [if_neg (by omega)]
          rw [e_22] at hl
          refine lv_iinc (v := nI (v + 1)) (lv' := [(4, .int (nI (v + 1))), (3, .int (nI (sumN (fun w => if Li J (plc M (cSt J)) s w < ub then 1 else 0) (v + 1)))), (0, .ref m0), (1, .int (nI s)), (2, .int (nI ub))]) hx hb dX10_darkMany_37 hl (k := 1) rfl (nI_add v 1) (by decide) rfl (fun ls hl => ?_)
          refine lv_goto (tgt := 11) hx hb dX10_darkMany_40 (by decide) ?_
          have o_23 : (v + 1) ≤ 24 := by omega
          have o_24 : 25 ≤ (v + 1) + n_11 := by omega
          exact ih_11 (v + 1) o_23 o_24 _ _ hP hD hS ls (lv_sub hl [0, 1, 2, 3, 4] rfl)
        · skip
          refine lv_iconst (v := nI 1) hx hb dX10_darkMany_30 (by decide +kernel) ?_
          refine lv_goto (tgt := 35) hx hb dX10_darkMany_31 (by decide) ?_
          refine kk_iadd hx hb dX10_darkMany_35 ?_
          refine lv_istore_n (lv' := [(3, .int (nI ((sumN (fun w => if Li J (plc M (cSt J)) s w < ub then 1 else 0) v) + 1))), (4, .int (nI v)), (0, .ref m0), (1, .int (nI s)), (2, .int (nI ub))]) hx hb dX10_darkMany_36 rfl hl (by decide) rfl (fun ls hl => ?_)
          have e_25 : nI ((sumN (fun w => if Li J (plc M (cSt J)) s w < ub then 1 else 0) v) + 1) = nI (sumN (fun w => if Li J (plc M (cSt J)) s w < ub then 1 else 0) (v + 1)) := by
            congr 1
            show _ = sumN _ v + (if Li J (plc M (cSt J)) s v < ub then 1 else 0)
            rw [if_pos (by omega)]
          rw [e_25] at hl
          refine lv_iinc (v := nI (v + 1)) (lv' := [(4, .int (nI (v + 1))), (3, .int (nI (sumN (fun w => if Li J (plc M (cSt J)) s w < ub then 1 else 0) (v + 1)))), (0, .ref m0), (1, .int (nI s)), (2, .int (nI ub))]) hx hb dX10_darkMany_37 hl (k := 1) rfl (nI_add v 1) (by decide) rfl (fun ls hl => ?_)
          refine lv_goto (tgt := 11) hx hb dX10_darkMany_40 (by decide) ?_
          have o_26 : (v + 1) ≤ 24 := by omega
          have o_27 : 25 ≤ (v + 1) + n_11 := by omega
          exact ih_11 (v + 1) o_26 o_27 _ _ hP hD hS ls (lv_sub hl [0, 1, 2, 3, 4] rfl)
  have o_28 : 0 ≤ 24 := by omega
  have o_29 : 25 ≤ 0 + 25 := by omega
  exact L_11 25 0 o_28 o_29 _ _ hP hD hS ls (lv_sub hl [0, 1, 2, 3, 4] rfl)

abbrev rmX10_toldMove : Room := { frames := 0, cells := 0, slots := 0, locals := 0 }
set_option maxHeartbeats 4000000 in
set_option maxRecDepth 100000 in
theorem c_X10_toldMove (lL : Launch) (D : va_G) (cI cS : ClassId) (n : Nat) (a : Nat) (b : Nat) (c : Nat) (m0 : Nat) (a1 : Nat) (a3 : Nat) (a5 : Nat) (a6 : Nat) (a7 : Nat) (a13 : Nat) (a14 : Nat) (a15 : Nat) (a16 : Nat) (a18 : Nat) (a19 : Nat) (a20 : Nat) (a21 : Nat) (a22 : Nat) (a23 : Nat) (a24 : Nat) (a25 : Nat) (a27 : Nat) (a28 : Nat) (a29 : Nat) (a30 : Nat) (a31 : Nat) (a32 : Nat) (a33 : Nat) (a34 : Nat) (i0 : Int32) (i2 : Int32) (i4 : Int32) (i8 : Int32) (i9 : Int32) (i10 : Int32) (i11 : Int32) (i12 : Int32) (i26 : Int32) (i35 : Int32) (mo : Nat → Int32) (mi : Nat → Int32) (mt : Nat → Int32) (hn9 : n < 9) (ha : mo n = nI a) (hb9 : mi n = nI b) (hc : mt n = nI c) : Met lL yX10_toldMove wsX10_toldMove rmX10_toldMove (va_Pc [.ref m0] (kBp D cI cS [(m0, .inr (9, [.int i0, .ref a1, .int i2, .ref a3, .int i4, .ref a5, .ref a6, .ref a7, .int i8, .int i9, .int i10, .int i11, .int i12, .ref a13, .ref a14, .ref a15, .ref a16, .int (nI (n + 1)), .ref a18, .ref a19, .ref a20, .ref a21, .ref a22, .ref a23, .ref a24, .ref a25, .int i26, .ref a27, .ref a28, .ref a29, .ref a30, .ref a31, .ref a32, .ref a33, .ref a34, .int i35])), (a18, .inl (cI, 9, .inl mo)), (a19, .inl (cI, 9, .inl mi)), (a20, .inl (cI, 9, .inl mt))])) (vp_Si (fun r : Int32 => r = nI (1000 * a + 10 * b + c))) 0 0 (fun _ => False) := by
  refine Met.ofW (cc := cX10_toldMove) (maxL := 1) (ret := (some .int)) (by decide) rfl ?_
  intro pP eE sS mM args below meth cC s₁ B hml hv
  obtain ⟨rfl, hP, hK⟩ := hv
  have hx := B.exec
  have hb := B.bytes
  have hr := B.returns
  have hts := atoms_spec (ws := wsX10_toldMove) B.pre
  have hown : sS.vm.findClass RX10 = some mM.cls := findClass_of_methodNamed B.named
  have hlocks := B.notSynchronized
  have hP : va_P D vwCl [(m0, .inr (9, [.int i0, .ref a1, .int i2, .ref a3, .int i4, .ref a5, .ref a6, .ref a7, .int i8, .int i9, .int i10, .int i11, .int i12, .ref a13, .ref a14, .ref a15, .ref a16, .int (nI (n + 1)), .ref a18, .ref a19, .ref a20, .ref a21, .ref a22, .ref a23, .ref a24, .ref a25, .int i26, .ref a27, .ref a28, .ref a29, .ref a30, .ref a31, .ref a32, .ref a33, .ref a34, .int i35])), (a18, .inl (cI, 9, .inl mo)), (a19, .inl (cI, 9, .inl mi)), (a20, .inl (cI, 9, .inl mt))] sS.heap := hP
  have hf_37 := hts (.fieldLink RX10 37 "OldLampsModel" "moveOf" "[I") (List.mem_of_getElem? (i := 1) rfl)
  have hf_40 := hts (.fieldLink RX10 40 "OldLampsModel" "moveIn" "[I") (List.mem_of_getElem? (i := 3) rfl)
  have hf_43 := hts (.fieldLink RX10 43 "OldLampsModel" "moveTo" "[I") (List.mem_of_getElem? (i := 4) rfl)
  have hf_161 := hts (.fieldLink RX10 161 "OldLampsModel" "movesNow" "I") (List.mem_of_getElem? (i := 2) rfl)
  have hwX10 : ∀ w ∈ wsX100, w ∈ wsX10_toldMove := fun _ h => List.mem_cons_of_mem _ (List.mem_append_right _ h)
  have hl := lv_entry ([.ref m0]) (n := 1) (Nat.le_of_ble_eq_true rfl)
  rw [lg_entry_eq]
  generalize (lg_sl ([.ref m0]) ++ List.replicate (1 - (lg_sl ([.ref m0])).length) Slot.unset).toArray = ls at hl ⊢
  have hl : lv_has ls 1 [(0, .ref m0)] := hl
  obtain ⟨QQ, hQQ⟩ : ∃ QQ : State → Prop, QQ = MQ below (vp_Si (fun r : Int32 => r = nI (1000 * a + 10 * b + c))) ([.ref m0]).toArray sS 0 0 (fun _ => False) := ⟨_, rfl⟩
  refine kk_QQ hQQ.symm ?_
  refine lv_sipush (v := nI 1000) hx hb dX10_toldMove_0 (by decide +kernel) ?_
  refine lv_aload_n hx hb dX10_toldMove_3 rfl (lv_at hl 0 rfl) ?_
  refine va_get (D := D) (ci := 9) (v := .ref a18) (C := RX10) (T := TX10) (N := 36) hx hb hts hwX10 hown hK hP 0 rfl rfl 18 (by decide) hf_37 (fun _ h9 => h9) rfl dX10_toldMove_4 ?_
  refine lv_aload_n hx hb dX10_toldMove_7 rfl (lv_at hl 0 rfl) ?_
  refine va_get (D := D) (ci := 9) (v := .int (nI (n + 1))) (C := RX10) (T := TX10) (N := 36) hx hb hts hwX10 hown hK hP 0 rfl rfl 17 (by decide) hf_161 (fun _ h9 => h9) rfl dX10_toldMove_8 ?_
  refine lv_iconst (v := nI 1) hx hb dX10_toldMove_11 (by decide +kernel) ?_
  refine kk_isub hx hb dX10_toldMove_12 (by omega) ?_
  refine kk_iald hx hb hK hP 1 rfl rfl (i := (n + 1) - 1) (by omega) (by decide) dX10_toldMove_13 ?_
  refine kk_top (y := nI a) (ha) ?_
  refine kk_imul hx hb dX10_toldMove_14 ?_
  refine lv_bipush (v := nI 10) hx hb dX10_toldMove_15 (by decide +kernel) ?_
  refine lv_aload_n hx hb dX10_toldMove_17 rfl (lv_at hl 0 rfl) ?_
  refine va_get (D := D) (ci := 9) (v := .ref a19) (C := RX10) (T := TX10) (N := 36) hx hb hts hwX10 hown hK hP 0 rfl rfl 19 (by decide) hf_40 (fun _ h9 => h9) rfl dX10_toldMove_18 ?_
  refine lv_aload_n hx hb dX10_toldMove_21 rfl (lv_at hl 0 rfl) ?_
  refine va_get (D := D) (ci := 9) (v := .int (nI (n + 1))) (C := RX10) (T := TX10) (N := 36) hx hb hts hwX10 hown hK hP 0 rfl rfl 17 (by decide) hf_161 (fun _ h9 => h9) rfl dX10_toldMove_22 ?_
  refine lv_iconst (v := nI 1) hx hb dX10_toldMove_25 (by decide +kernel) ?_
  refine kk_isub hx hb dX10_toldMove_26 (by omega) ?_
  refine kk_iald hx hb hK hP 2 rfl rfl (i := (n + 1) - 1) (by omega) (by decide) dX10_toldMove_27 ?_
  refine kk_top (y := nI b) (hb9) ?_
  refine kk_imul hx hb dX10_toldMove_28 ?_
  refine kk_iadd hx hb dX10_toldMove_29 ?_
  refine lv_aload_n hx hb dX10_toldMove_30 rfl (lv_at hl 0 rfl) ?_
  refine va_get (D := D) (ci := 9) (v := .ref a20) (C := RX10) (T := TX10) (N := 36) hx hb hts hwX10 hown hK hP 0 rfl rfl 20 (by decide) hf_43 (fun _ h9 => h9) rfl dX10_toldMove_31 ?_
  refine lv_aload_n hx hb dX10_toldMove_34 rfl (lv_at hl 0 rfl) ?_
  refine va_get (D := D) (ci := 9) (v := .int (nI (n + 1))) (C := RX10) (T := TX10) (N := 36) hx hb hts hwX10 hown hK hP 0 rfl rfl 17 (by decide) hf_161 (fun _ h9 => h9) rfl dX10_toldMove_35 ?_
  refine lv_iconst (v := nI 1) hx hb dX10_toldMove_38 (by decide +kernel) ?_
  refine kk_isub hx hb dX10_toldMove_39 (by omega) ?_
  refine kk_iald hx hb hK hP 3 rfl rfl (i := (n + 1) - 1) (by omega) (by decide) dX10_toldMove_40 ?_
  refine kk_top (y := nI c) (hc) ?_
  refine kk_iadd hx hb dX10_toldMove_41 ?_
  have hq : nI (((1000 * a) + (10 * b)) + c) = nI (1000 * a + 10 * b + c) := by rfl
  refine kk_QQ hQQ ?_
  exact W.iret (v := nI (((1000 * a) + (10 * b)) + c)) hx hb hr (fun t ht hW => ⟨nI (((1000 * a) + (10 * b)) + c), rfl, hq, ht⟩) (fun q h => by cases h) dX10_toldMove_42

abbrev rmX10_told : Room := { frames := 0, cells := 0, slots := 0, locals := 0 }
set_option maxHeartbeats 4000000 in
set_option maxRecDepth 100000 in
theorem c_X10_told (lL : Launch) (D : va_G) (cI cS : ClassId) (m : Nat) (q : Nat) (hm : m ≤ 16) (hq : q ≤ 1) : Met lL yX10_told wsX10_told rmX10_told (va_Pc [.long (lN m), .long (lN 16), .int (nI q)] (kBp D cI cS [])) (vp_Sl (fun r : Int64 => r = lN ((if q = 0 then m else 16) / Nat.gcd m 16))) 0 0 (fun _ => False) := by
  refine Met.ofW (cc := cX10_told) (maxL := 11) (ret := (some .long)) (by decide) rfl ?_
  intro pP eE sS mM args below meth cC s₁ B hml hv
  obtain ⟨rfl, hP, hK⟩ := hv
  have hx := B.exec
  have hb := B.bytes
  have hr := B.returns
  have hts := atoms_spec (ws := wsX10_told) B.pre
  have hown : sS.vm.findClass RX10 = some mM.cls := findClass_of_methodNamed B.named
  have hlocks := B.notSynchronized
  have hP : va_P D vwCl [] sS.heap := hP
  have hl := lv_entry ([.long (lN m), .long (lN 16), .int (nI q)]) (n := 11) (Nat.le_of_ble_eq_true rfl)
  rw [lg_entry_eq]
  generalize (lg_sl ([.long (lN m), .long (lN 16), .int (nI q)]) ++ List.replicate (11 - (lg_sl ([.long (lN m), .long (lN 16), .int (nI q)])).length) Slot.unset).toArray = ls at hl ⊢
  have hl : lv_has ls 11 [(0, .long (lN m)), (2, .long (lN 16)), (4, .int (nI q))] := hl
  obtain ⟨QQ, hQQ⟩ : ∃ QQ : State → Prop, QQ = MQ below (vp_Sl (fun r : Int64 => r = lN ((if q = 0 then m else 16) / Nat.gcd m 16))) ([.long (lN m), .long (lN 16), .int (nI q)]).toArray sS 0 0 (fun _ => False) := ⟨_, rfl⟩
  refine kk_QQ hQQ.symm ?_
  refine lv_lload_n hx hb dX10_told_0 rfl (lv_at hl 0 rfl) ?_
  refine lv_lstore (lv' := [(5, .long (lN m)), (0, .long (lN m)), (2, .long (lN 16)), (4, .int (nI q))]) hx hb dX10_told_1 hl (by decide) rfl (fun ls hl => ?_)
  refine lv_lload_n hx hb dX10_told_3 rfl (lv_at hl 2 rfl) ?_
  refine lv_lstore (lv' := [(7, .long (lN 16)), (5, .long (lN m)), (0, .long (lN m)), (2, .long (lN 16)), (4, .int (nI q))]) hx hb dX10_told_4 hl (by decide) rfl (fun ls hl => ?_)
  have L_6 : ∀ (n_6 : Nat) (u : Nat) (v : Nat), (u ≤ 16) → (v ≤ 16) → (0 < u ∨ 0 < v) → (Nat.gcd u v = Nat.gcd m 16) → v < n_6 → ∀ (ls : Array Slot), lv_has ls 11 [(7, .long (lN v)), (5, .long (lN u)), (0, .long (lN m)), (2, .long (lN 16)), (4, .int (nI q))] → W pP lL eE (headSpec wsX10_told rmX10_told).room sS mM ([.long (lN m), .long (lN 16), .int (nI q)]).toArray below meth cC sS.heap [] 0 0 QQ (F0 mM 6 ls []) := by
    intro n_6
    induction n_6 with
    | zero =>
      intro u v hu hv huv hg hn_6 ls hl
      exact absurd hn_6 (by omega)
    | succ n_6 ih_6 =>
      intro u v hu hv huv hg hn_6 ls hl
      refine lv_lload hx hb dX10_told_6 (lv_at hl 0 rfl) ?_
      refine lv_lconst (v := lN 0) hx hb dX10_told_8 (by decide +kernel) ?_
      refine W.lcmp hx hb dX10_told_9 ?_
      refine lv_if_eq (tgt := 31) hx hb dX10_told_10 (by decide) (fun c_1 => ?_) (fun c_1 => ?_)
      · skip
        have hz0 : v = 0 := (lN_eq (b := 0) (by omega) (by omega)).mp ((lg_cmp_eq _ _).mp c_1)
        subst hz0
        rw [Nat.gcd_zero_right] at hg
        refine lv_iload hx hb dX10_told_31 (lv_at hl 4 rfl) ?_
        refine kk_if_ne (tgt := 40) hx hb dX10_told_33 (by decide) (by omega) (fun c_2 => ?_) (fun c_2 => ?_)
        · skip
          refine lv_lload_n hx hb dX10_told_40 rfl (lv_at hl 3 rfl) ?_
          refine lv_lload hx hb dX10_told_41 (lv_at hl 1 rfl) ?_
          refine lv_ldiv hx hb dX10_told_43 (fun z => absurd ((lN_eq (b := 0) (by omega) (by omega)).mp z) (by omega)) ?_
          refine kk_topl (y := lN (16 / u)) (pk_lDiv (by omega) (by omega) (by omega)) ?_
          have hq : lN (16 / u) = lN ((if q = 0 then m else 16) / Nat.gcd m 16) := by rw [← hg, if_neg (show ¬ q = 0 by omega)]
          refine kk_QQ hQQ ?_
          exact W.lret (v := lN (16 / u)) hx hb hr (fun t ht hW => ⟨lN (16 / u), rfl, hq, ht⟩) (fun q h => by cases h) dX10_told_44
        · skip
          refine lv_lload_n hx hb dX10_told_36 rfl (lv_at hl 2 rfl) ?_
          refine lv_goto (tgt := 41) hx hb dX10_told_37 (by decide) ?_
          refine lv_lload hx hb dX10_told_41 (lv_at hl 1 rfl) ?_
          refine lv_ldiv hx hb dX10_told_43 (fun z => absurd ((lN_eq (b := 0) (by omega) (by omega)).mp z) (by omega)) ?_
          refine kk_topl (y := lN (m / u)) (pk_lDiv (by omega) (by omega) (by omega)) ?_
          have hq : lN (m / u) = lN ((if q = 0 then m else 16) / Nat.gcd m 16) := by rw [← hg, if_pos (show q = 0 by omega)]
          refine kk_QQ hQQ ?_
          exact W.lret (v := lN (m / u)) hx hb hr (fun t ht hW => ⟨lN (m / u), rfl, hq, ht⟩) (fun q h => by cases h) dX10_told_44
      · skip
        have hz0 : ¬ v = 0 := fun z => c_1 ((lg_cmp_eq _ _).mpr (by rw [z]))
        have hlt := Nat.mod_lt u (show 0 < v by omega)
        refine lv_lload hx hb dX10_told_13 (lv_at hl 1 rfl) ?_
        refine lv_lload hx hb dX10_told_15 (lv_at hl 0 rfl) ?_
        refine lv_lrem hx hb dX10_told_17 (fun z => hz0 (by rwa [show (0 : Int64) = lN 0 from rfl, lN_eq (by omega) (by omega)] at z)) ?_
        refine kk_topl (y := lN (u % v)) (pk_lRem (by omega) (by omega) (by omega)) ?_
        refine lv_lstore (lv' := [(9, .long (lN (u % v))), (7, .long (lN v)), (5, .long (lN u)), (0, .long (lN m)), (2, .long (lN 16)), (4, .int (nI q))]) hx hb dX10_told_18 hl (by decide) rfl (fun ls hl => ?_)
        refine lv_lload hx hb dX10_told_20 (lv_at hl 1 rfl) ?_
        refine lv_lstore (lv' := [(5, .long (lN v)), (9, .long (lN (u % v))), (7, .long (lN v)), (0, .long (lN m)), (2, .long (lN 16)), (4, .int (nI q))]) hx hb dX10_told_22 hl (by decide) rfl (fun ls hl => ?_)
        refine lv_lload hx hb dX10_told_24 (lv_at hl 1 rfl) ?_
        refine lv_lstore (lv' := [(7, .long (lN (u % v))), (5, .long (lN v)), (9, .long (lN (u % v))), (0, .long (lN m)), (2, .long (lN 16)), (4, .int (nI q))]) hx hb dX10_told_26 hl (by decide) rfl (fun ls hl => ?_)
        refine lv_goto (tgt := 6) hx hb dX10_told_28 (by decide) ?_
        have o_3 : v ≤ 16 := by omega
        have o_4 : (u % v) ≤ 16 := by omega
        have o_5 : 0 < v ∨ 0 < (u % v) := by omega
        have o_6 : Nat.gcd v (u % v) = Nat.gcd m 16 := by rw [← hg, Nat.gcd_comm u v, Nat.gcd_rec v u]; exact Nat.gcd_comm _ _
        have o_7 : (u % v) < n_6 := by omega
        exact ih_6 v (u % v) o_3 o_4 o_5 o_6 o_7 ls (lv_sub hl [0, 1, 3, 4, 5] rfl)
  have o_8 : m ≤ 16 := by omega
  have o_9 : 16 ≤ 16 := by omega
  have o_10 : 0 < m ∨ 0 < 16 := by omega
  have o_11 : Nat.gcd m 16 = Nat.gcd m 16 := by rfl
  have o_12 : 16 < 17 := by omega
  exact L_6 17 m 16 o_8 o_9 o_10 o_11 o_12 ls (lv_sub hl [0, 1, 2, 3, 4] rfl)
