/-! the law: what is known all the way; the worlds of both sides -/
def LF (p : Program) (s : State) (m : MethodId) (args : Array Value) (c : Code) : Prop := p.tables.exec = Jvm.exec ∧ c.code = cL_law ∧ c.maxLocals = 4 ∧ s.vm.findClass RL = some m.cls ∧ (∀ w ∈ wsL_law, w.before args s = true) ∧ va_Nw aSc s ∧ va_Nw aLw s
/-- the class's world: 59 cells, by their addresses -/
def RX (ad : Nat → Nat) (cI cS : ClassId) (C : Co) (T E : Mv) (rl : Nat → Int32) (ln : Nat → Nat) (cf : Nat → Nat → Int32) (tr ft : Int32) (w : va_W) : Prop := ∃ (sk sh ki st cl sk2 sh2 ki2 st2 cl2 wf tf vf uwf utf uvf rwf rtf rvf pA gA fA dA lA pB gB fB dB lB pK gK fK dK lK pJ gJ fJ dJ lJ : Nat → Int32) (y1 y2 y3 tc bm bs : Int32) (ys : Nat → Option Nat), w = [((ad 0), .inr (8, [.ref (ad 1), .ref (ad 7), .ref (ad 13), .ref (ad 17), .ref (ad 21), .ref (ad 25), .ref (ad 31), .ref (ad 37), .ref (ad 38), .int tr, .int ft])), ((ad 1), .inr (1, [.int (nI (cSp C)), .int (nI (cLa C)), .int (nI (cAg C)), .ref (ad 2), .ref (ad 3), .ref (ad 4), .ref (ad 5), .ref (ad 6)])), ((ad 2), .inl (cI, 6, .inl sk)), ((ad 3), .inl (cI, 4, .inl sh)), ((ad 4), .inl (cI, 4, .inl ki)), ((ad 5), .inl (cI, 4, .inl st)), ((ad 6), .inl (cI, 4, .inl cl)), ((ad 7), .inr (1, [.int y1, .int y2, .int y3, .ref (ad 8), .ref (ad 9), .ref (ad 10), .ref (ad 11), .ref (ad 12)])), ((ad 8), .inl (cI, 6, .inl sk2)), ((ad 9), .inl (cI, 4, .inl sh2)), ((ad 10), .inl (cI, 4, .inl ki2)), ((ad 11), .inl (cI, 4, .inl st2)), ((ad 12), .inl (cI, 4, .inl cl2)), ((ad 13), .inr (0, [.int (nI (mN T)), .ref (ad 14), .ref (ad 15), .ref (ad 16)])), ((ad 14), .inl (cI, 8, .inl wf)), ((ad 15), .inl (cI, 8, .inl tf)), ((ad 16), .inl (cI, 8, .inl vf)), ((ad 17), .inr (0, [.int tc, .ref (ad 18), .ref (ad 19), .ref (ad 20)])), ((ad 18), .inl (cI, 8, .inl uwf)), ((ad 19), .inl (cI, 8, .inl utf)), ((ad 20), .inl (cI, 8, .inl uvf)), ((ad 21), .inr (0, [.int (nI (mN E)), .ref (ad 22), .ref (ad 23), .ref (ad 24)])), ((ad 22), .inl (cI, 8, .inl rwf)), ((ad 23), .inl (cI, 8, .inl rtf)), ((ad 24), .inl (cI, 8, .inl rvf)), ((ad 25), .inr (7, [.ref (ad 26), .ref (ad 27), .ref (ad 28), .ref (ad 29), .ref (ad 30)])), ((ad 26), .inl (cI, 96, .inl pA)), ((ad 27), .inl (cI, 96, .inl gA)), ((ad 28), .inl (cI, 96, .inl fA)), ((ad 29), .inl (cI, 96, .inl dA)), ((ad 30), .inl (cI, 96, .inl lA)), ((ad 31), .inr (7, [.ref (ad 32), .ref (ad 33), .ref (ad 34), .ref (ad 35), .ref (ad 36)])), ((ad 32), .inl (cI, 96, .inl pB)), ((ad 33), .inl (cI, 96, .inl gB)), ((ad 34), .inl (cI, 96, .inl fB)), ((ad 35), .inl (cI, 96, .inl dB)), ((ad 36), .inl (cI, 96, .inl lB)), ((ad 37), .inr (4, [.ref (ad 47), .ref (ad 53), .int bm, .int bs])), ((ad 38), .inl (cS, 4, .inr (.inr (.inr (.inr ys))))), ((ad 39), .inr (5, [.ref (ad 43), .int (nI (ln 0)), .int (rl 0)])), ((ad 40), .inr (5, [.ref (ad 44), .int (nI (ln 1)), .int (rl 1)])), ((ad 41), .inr (5, [.ref (ad 45), .int (nI (ln 2)), .int (rl 2)])), ((ad 42), .inr (5, [.ref (ad 46), .int (nI (ln 3)), .int (rl 3)])), ((ad 43), .inl (cI, 60, .inl (cf 0))), ((ad 44), .inl (cI, 60, .inl (cf 1))), ((ad 45), .inl (cI, 60, .inl (cf 2))), ((ad 46), .inl (cI, 60, .inl (cf 3))), ((ad 47), .inr (7, [.ref (ad 48), .ref (ad 49), .ref (ad 50), .ref (ad 51), .ref (ad 52)])), ((ad 48), .inl (cI, 96, .inl pK)), ((ad 49), .inl (cI, 96, .inl gK)), ((ad 50), .inl (cI, 96, .inl fK)), ((ad 51), .inl (cI, 96, .inl dK)), ((ad 52), .inl (cI, 96, .inl lK)), ((ad 53), .inr (7, [.ref (ad 54), .ref (ad 55), .ref (ad 56), .ref (ad 57), .ref (ad 58)])), ((ad 54), .inl (cI, 96, .inl pJ)), ((ad 55), .inl (cI, 96, .inl gJ)), ((ad 56), .inl (cI, 96, .inl fJ)), ((ad 57), .inl (cI, 96, .inl dJ)), ((ad 58), .inl (cI, 96, .inl lJ))] ∧ repC C sk sh ki st cl ∧ repM T wf tf vf ∧ repM E rwf rtf rvf ∧ ∀ j, j < 4 → ys j = some (ad (39 + j))
/-- the model's world: 26 cells -/
def RM (bd : Nat → Nat) (cI : ClassId) (C : Co) (T E : Mv) (rl : Nat → Int32) (ln : Nat → Nat) (cf : Nat → Nat → Int32) (tr ft : Int32) (w : va_W) : Prop := ∃ (sk sh ki st cl qs qh qk qt mo mi mt fa gi ko kj kt ro ri rv kc zz zl zs zh : Nat → Int32) (i10 i11 i12 : Int32), w = [((bd 0), .inr (9, [.int ft, .ref (bd 1), .int (nI (cSp C)), .ref (bd 3), .int (nI (cLa C)), .ref (bd 5), .ref (bd 6), .ref (bd 7), .int (nI (cAg C)), .int (-9 : Int32), .int i10, .int i11, .int i12, .ref (bd 13), .ref (bd 14), .ref (bd 15), .ref (bd 16), .int (nI (mN T)), .ref (bd 18), .ref (bd 19), .ref (bd 20), .ref (bd 21), .ref (bd 22), .ref (bd 23), .ref (bd 24), .ref (bd 25), .int (nI (mN E)), .ref (bd 27), .ref (bd 28), .ref (bd 29), .ref (bd 30), .ref (bd 31), .ref (bd 32), .ref (bd 33), .ref (bd 34), .int tr])), ((bd 1), .inl (cI, 6, .inl sk)), ((bd 3), .inl (cI, 4, .inl sh)), ((bd 5), .inl (cI, 4, .inl ki)), ((bd 6), .inl (cI, 4, .inl st)), ((bd 7), .inl (cI, 4, .inl cl)), ((bd 13), .inl (cI, 6, .inl qs)), ((bd 14), .inl (cI, 4, .inl qh)), ((bd 15), .inl (cI, 4, .inl qk)), ((bd 16), .inl (cI, 4, .inl qt)), ((bd 18), .inl (cI, 9, .inl mo)), ((bd 19), .inl (cI, 9, .inl mi)), ((bd 20), .inl (cI, 9, .inl mt)), ((bd 21), .inl (cI, 96, .inl fa)), ((bd 22), .inl (cI, 96, .inl gi)), ((bd 23), .inl (cI, 8, .inl ko)), ((bd 24), .inl (cI, 8, .inl kj)), ((bd 25), .inl (cI, 8, .inl kt)), ((bd 27), .inl (cI, 8, .inl ro)), ((bd 28), .inl (cI, 8, .inl ri)), ((bd 29), .inl (cI, 8, .inl rv)), ((bd 30), .inl (cI, 4, .inl kc)), ((bd 31), .inl (cI, 4, .inl zz)), ((bd 32), .inl (cI, 4, .inl zl)), ((bd 33), .inl (cI, 240, .inl zs)), ((bd 34), .inl (cI, 60, .inl zh))] ∧ repC C sk sh ki st cl ∧ repM T mo mi mt ∧ repM E ro ri rv ∧ zS rl ln cf zz zl zs
theorem kk_lP {D : va_G} {cl : List vw_C} {ws wO : va_W} {H : Heap} (h : va_P D cl (ws ++ wO) H) : va_P D cl ws H := fun k q hq => h k q (by rw [List.getElem?_append_left (List.getElem?_eq_some_iff.mp hq).1]; exact hq)
theorem kk_rP {D : va_G} {cl : List vw_C} {ws wO : va_W} {H : Heap} (h : va_P D cl (ws ++ wO) H) : va_P D cl wO H := fun k q hq => h (ws.length + k) q (by rw [List.getElem?_append_right (by omega), Nat.add_sub_cancel_left]; exact hq)
theorem kk_lD {A : Nat → Prop} {ws wO : va_W} (h : va_D A (ws ++ wO)) : va_D A ws := by
  have e : ∀ (k : Nat) (q : Nat × va_E), ws[k]? = some q → (ws ++ wO)[k]? = some q := fun k q hq => by rw [List.getElem?_append_left (List.getElem?_eq_some_iff.mp hq).1]; exact hq
  exact ⟨fun i j p q hp hq hpq => h.1 i j p q (e i p hp) (e j q hq) hpq, fun k q hq => h.2 k q (e k q hq)⟩
theorem kk_swP {D : va_G} {cl : List vw_C} {ws wO : va_W} {H : Heap} (h : va_P D cl (ws ++ wO) H) : va_P D cl (wO ++ ws) H := fun k q hq => by
  rcases List.mem_append.mp (List.mem_of_getElem? hq) with z | z
  · obtain ⟨i, hi⟩ := List.getElem?_of_mem z
    exact kk_rP h i q hi
  · obtain ⟨i, hi⟩ := List.getElem?_of_mem z
    exact kk_lP h i q hi
theorem kk_swI {ws wO : va_W} {k : Nat} {q : Nat × va_E} (hq : (wO ++ ws)[k]? = some q) : (k < wO.length ∧ (ws ++ wO)[ws.length + k]? = some q) ∨ (wO.length ≤ k ∧ k - wO.length < ws.length ∧ (ws ++ wO)[k - wO.length]? = some q) := by
  by_cases h : k < wO.length
  · rw [List.getElem?_append_left h] at hq
    exact Or.inl ⟨h, by rw [List.getElem?_append_right (by omega), Nat.add_sub_cancel_left]; exact hq⟩
  · rw [List.getElem?_append_right (by omega)] at hq
    have h2 := (List.getElem?_eq_some_iff.mp hq).1
    exact Or.inr ⟨by omega, h2, by rw [List.getElem?_append_left h2]; exact hq⟩
theorem kk_swD {A : Nat → Prop} {ws wO : va_W} (h : va_D A (ws ++ wO)) : va_D A (wO ++ ws) := by
  refine ⟨fun i j p q hp hq hpq => ?_, fun k q hq => ?_⟩
  · rcases kk_swI hp with ⟨a1, a2⟩ | ⟨a1, a2, a3⟩ <;> rcases kk_swI hq with ⟨b1, b2⟩ | ⟨b1, b2, b3⟩
    · have := h.1 _ _ p q a2 b2 hpq; omega
    · have := h.1 _ _ p q a2 b3 hpq; omega
    · have := h.1 _ _ p q a3 b2 hpq; omega
    · have := h.1 _ _ p q a3 b3 hpq; omega
  · rcases kk_swI hq with ⟨a1, a2⟩ | ⟨a1, a2, a3⟩
    · exact h.2 _ q a2
    · exact h.2 _ q a3
/-- behind a call: a world beside another -/
theorem kk_join3 {A0 : Nat → Prop} {D : va_G} {cl : List vw_C} {ws wc w1 ws' wr wO : va_W} {H H1 : Heap} (hP : va_P D cl (ws ++ wO) H) (hD : va_D A0 (ws ++ wO)) (isC isR : List Nat) (hC : isC.map (fun i => ws[i]?) = wc.map some) (hC' : isC.map (fun i => ws'[i]?) = w1.map some) (hR1 : isR.map (fun i => ws'[i]?) = wr.map some) (hR2 : isR.map (fun i => ws[i]?) = wr.map some) (n : Nat) (hn : ws'.length = n) (hn2 : ws.length = n) (hall : (List.range n).all (fun k => isC.contains k || isR.contains k) = true) (ads : List Nat) (ha1 : ws'.map Prod.fst = ads) (ha2 : ws.map Prod.fst = ads)
    (hk : ∀ q : Nat, q < H.size → ¬ va_A wc H.size q → H1[q]? = H[q]?) (hP1 : va_P D cl w1 H1) : va_P D cl (ws' ++ wO) H1 ∧ va_D A0 (ws' ++ wO) := by
  obtain ⟨h1, h2⟩ := kk_join2 (kk_lP hP) (kk_lD hD) isC isR hC hC' hR1 hR2 n hn hall ads ha1 ha2 hk hP1
  refine ⟨fun k q hq => ?_, kk_D (by rw [List.map_append, List.map_append, ha1, ha2]) hD⟩
  by_cases hl : k < ws'.length
  · rw [List.getElem?_append_left hl] at hq
    exact h1 k q hq
  · have hq0 : (ws ++ wO)[k]? = some q := by
      rw [List.getElem?_append_right (by omega)] at hq
      rw [List.getElem?_append_right (by omega), hn2, ← hn]
      exact hq
    refine (hP k q hq0).kept (hk q.1 (hP k q hq0).lt ?_)
    rintro (⟨j2, e, h⟩ | h)
    · have h5 : (isC.map (fun i => ws[i]?))[j2]? = some (some (q.1, e)) := by rw [hC, List.getElem?_map, h]; rfl
      rw [List.getElem?_map] at h5
      cases hi : isC[j2]? with
      | none => rw [hi] at h5; cases h5
      | some i =>
        rw [hi] at h5
        have h6 : ws[i]? = some (q.1, e) := Option.some.inj h5
        have h8 := (List.getElem?_eq_some_iff.mp h6).1
        have h7 : (ws ++ wO)[i]? = some (q.1, e) := by rw [List.getElem?_append_left h8]; exact h6
        have h9 := hD.1 k i q (q.1, e) hq0 h7 rfl
        omega
    · have h8 := (hP k q hq0).lt
      omega
/-- which sheet a call may look at -/
def jx (x : Int32) : Nat := bif inB x 4 then tn x else 0
theorem jx_lt (x : Int32) : jx x < 4 := by
  unfold jx
  cases h : inB x 4 with
  | true =>
    obtain ⟨k, hk, rfl⟩ := inB_t h
    show (nI k).toNatClampNeg < 4
    rw [nI_clamp (show k < 2 ^ 31 by omega)]
    exact hk
  | false => exact (by decide : 0 < 4)
theorem jx_4 (x : Int32) : jx x = 0 ∨ jx x = 1 ∨ jx x = 2 ∨ jx x = 3 := by
  have := jx_lt x
  omega
theorem jx_of {x : Int32} {j0 j : Nat} (hj : jx x = j0) (hx : x = nI j) (h4 : j < 4) : j = j0 := by
  subst hx
  subst hj
  unfold jx
  rw [inB_n (show j < 2 ^ 31 by omega), decide_eq_true h4]
  exact (nI_clamp (show j < 2 ^ 31 by omega)).symm
theorem jx_in {x : Int32} {j0 : Nat} (hj : jx x = j0) (h : inB x 4 = true) : tn x = j0 := by
  subst hj
  unfold jx
  rw [h]
  rfl
theorem jx_sel {x : Int32} {j0 a : Nat} {ys : Nat → Option Nat} {ad : Nat → Nat} (hj : jx x = j0) (hys : ∀ j, j < 4 → ys j = some (ad (39 + j))) (ha : ad (39 + j0) = a) : ∀ j, x = nI j → j < 4 → ys j = some a := fun j h1 h2 => by
  have h3 := jx_of hj h1 h2
  subst h3
  rw [hys j h2, ha]
theorem jx_zR {x : Int32} {j0 : Nat} {rl : Nat → Int32} {ln : Nat → Nat} {cf : Nat → Nat → Int32} {zz zl zs : Nat → Int32} (hj : jx x = j0) (hz : zS rl ln cf zz zl zs) : ∀ j, x = nI j → j < 4 → zR j (rl j0) (ln j0) (cf j0) zz zl zs := fun j h1 h2 => by
  have h3 := jx_of hj h1 h2
  subst h3
  exact hz j h2
def setf {α : Type} (f : Nat → α) (j : Nat) (v : α) : Nat → α := fun i => if i = j then v else f i
theorem setf_at {α : Type} (f : Nat → α) (j : Nat) (v : α) : setf f j v j = v := if_pos rfl
theorem setf_ne {α : Type} (f : Nat → α) {j i : Nat} (v : α) (h : ¬ i = j) : setf f j v i = f i := if_neg h
theorem zS_len {rl : Nat → Int32} {ln : Nat → Nat} {cf : Nat → Nat → Int32} {zz zl zs : Nat → Int32} (hz : zS rl ln cf zz zl zs) : ∀ j, j < 4 → ln j ≤ 60 := fun j h => (hz j h).2.1
theorem RM_len {bd : Nat → Nat} {cI : ClassId} {C : Co} {T E : Mv} {rl : Nat → Int32} {ln : Nat → Nat} {cf : Nat → Nat → Int32} {tr ft : Int32} {w : va_W} (h : RM bd cI C T E rl ln cf tr ft w) : ∀ j, j < 4 → ln j ≤ 60 := by
  obtain ⟨sk, sh, ki, st, cl, qs, qh, qk, qt, mo, mi, mt, fa, gi, ko, kj, kt, ro, ri, rv, kc, zz, zl, zs, zh, i10, i11, i12, -, -, -, -, hz⟩ := h
  exact zS_len hz
section KK4
variable {p : Program} {l : Launch} {e : Env} {R : Room} {s : State} {m : MethodId} {args : Array Value} {below : List Frame} {meth : Method} {c : Code} {H : Heap} {locs : List Loc} {cells slots : Nat} {Q : State → Prop}
variable {cc : ByteArray} {pc : Nat} {ls : Array Slot} {rest : List Value} {A : Nat → Prop} {H0 : Heap}
theorem kk_sld (hx : p.tables.exec = Jvm.exec) (hb : c.code = cc) {b L : Nat} {xs : Nat → Int32} (hX : va_X b L xs s H0) (hbl : b < H0.size) (hbA : ¬ A b) (hS : va_S A H0 H locs) {j : Nat} (hj : j < L) (hL : L ≤ 3584) (hdg : decode cc pc = .ok (.iaload, 1))
    (kk : W p l e R s m args below meth c H locs cells slots Q (F0 m (pc + 1) ls (.int (xs j) :: rest))) : W p l e R s m args below meth c H locs cells slots Q (F0 m pc ls (.int (nI j) :: .ref b :: rest)) :=
  va_sld hx hb hX hbl hbA hS (vp_in_nI hj (by omega)) hdg (by rw [nI_clamp (show j < 2 ^ 31 by omega)]; exact kk)
end KK4
