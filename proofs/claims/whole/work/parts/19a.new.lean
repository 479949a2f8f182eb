/-! constructors: what is made is new, and apart -/
/-- an end that says where the new cells are -/
abbrev kQn {S : Type} (D : va_G) (post : S → Prop) (nw : S → va_W) (A : Nat → Prop) : Array Value → State → Outcome → State → Prop := va_Qv post (fun u t => va_P D vwCl (nw u) t.heap ∧ va_D A (nw u)) A
/-- of cells that are made: all 0 -/
def zF : Nat → Int32 := fun _ => 0
def yF : Nat → Option Nat := fun _ => none
/-- a start that knows the rows of sheets -/
def kBo (D : va_G) (cI cS : ClassId) (ws : va_W) (sz : Nat) : State → Prop := fun U => kB D cI cS ws sz U ∧ va_AO RX6 U
theorem kBo_blind {D : va_G} {cI cS : ClassId} {ws : va_W} {sz : Nat} {av : List Value} : FrameBlind (va_Pc av (kBo D cI cS ws sz)) := fun a U g mk q => by
  have h := kB_blind a U g mk ⟨q.1, q.2.1⟩
  exact ⟨h.1, h.2, va_AO.moved (u := U) (U := U.calling g mk a) (Vm.Alike.refl U.vm) q.2.2⟩
section KK2
variable {p : Program} {l : Launch} {e : Env} {R : Room} {s : State} {m : MethodId} {args : Array Value} {below : List Frame} {meth : Method} {c : Code} {H : Heap} {locs : List Loc} {cells slots : Nat} {Q : State → Prop}
variable {cc : ByteArray} {pc : Nat} {ls : Array Slot} {rest : List Value}
variable {D : va_G} {A : Nat → Prop} {ws : va_W} {H0 : Heap} {cI cS : ClassId}
theorem kk_newi (hx : p.tables.exec = Jvm.exec) (hb : c.code = cc) (harr : (Cond.arrayClass .int).before args s = true) (hK : va_K D vwCl (kT cI cS) s) (hP : va_P D vwCl ws H) (hD : va_D A ws) (hS : va_S A H0 H locs) (hA : ∀ q, H0.size ≤ q → A q) {n : Nat} (hn : n < 1000) (hcells : cells + 1 ≤ R.cells) (hslots : slots + n ≤ R.slots) (hdg : decode cc pc = .ok (.newarray .int, 2))
    (kk : ∀ (q : Nat) (H1 : Heap), va_P D vwCl (ws ++ [(q, .inl (cI, n, .inl zF))]) H1 → va_D A (ws ++ [(q, .inl (cI, n, .inl zF))]) → va_S A H0 H1 locs → W p l e R s m args below meth c H1 locs (cells + 1) (slots + n) Q (F0 m (pc + 2) ls (.ref q :: rest))) : W p l e R s m args below meth c H locs cells slots Q (F0 m pc ls (.int (nI n) :: rest)) := by
  refine va_newa (atype := .int) (ty := .int) (N' := n) (a0 := (n, .inl zF)) hx hb harr rfl hK hP hD hS hA (fun cA => ?_) (nI_pos (by omega)) (nI_clamp (by omega)) (by show n * 4 ≤ 536870912; omega) hcells hslots hdg (fun q cA H1 hK1 hP1 hD1 hS1 => ?_)
  · exact vp_cell_i _ _ _
  · have h1 := (hK1.2 2 (cA, .int) rfl).2
    have h2 := (hK.2 0 (cI, .int) rfl).2
    have h3 : cA = cI := Option.some.inj ((show s.vm.findClass _ = some cA from h1).symm.trans (show s.vm.findClass _ = some cI from h2))
    subst h3
    exact kk q H1 hP1 hD1 hS1
theorem kk_newq (hx : p.tables.exec = Jvm.exec) (hb : c.code = cc) {own : String} {index : Nat} (hown : s.vm.findClass own = some m.cls) (hcl : (Cond.classLink own index RX6).before args s = true) (hover : va_AO RX6 s) (hK : va_K D vwCl (kT cI cS) s) (hP : va_P D vwCl ws H) (hD : va_D A ws) (hS : va_S A H0 H locs) (hA : ∀ q, H0.size ≤ q → A q) {n : Nat} (hn : n < 1000) (hcells : cells + 1 ≤ R.cells) (hslots : slots + n ≤ R.slots) (hdg : decode cc pc = .ok (.anewarray index, 3))
    (kk : ∀ (q : Nat) (H1 : Heap), va_P D vwCl (ws ++ [(q, .inl (cS, n, .inr (.inr (.inr (.inr yF)))))]) H1 → va_D A (ws ++ [(q, .inl (cS, n, .inr (.inr (.inr (.inr yF)))))]) → va_S A H0 H1 locs → W p l e R s m args below meth c H1 locs (cells + 1) (slots + n) Q (F0 m (pc + 3) ls (.ref q :: rest))) : W p l e R s m args below meth c H locs cells slots Q (F0 m pc ls (.int (nI n) :: rest)) := by
  refine va_newq (C := RX6) (N' := n) hx hb hown hcl hover hK hP hD hS hA (nI_pos (by omega)) (nI_clamp (by omega)) (by omega) hcells hslots hdg (fun q cA H1 hK1 hP1 hD1 hS1 => ?_)
  obtain ⟨k1, c1, -, -, -, h1⟩ := (hK1.2 2 (cA, .object RX6) rfl).2
  obtain ⟨k2, c2, -, -, -, h2⟩ := (hK.2 1 (cS, .object RX6) rfl).2
  have h3 : cA = cS := Option.some.inj (h1.symm.trans h2)
  subst h3
  exact kk q H1 hP1 hD1 hS1
theorem kk_astq (hx : p.tables.exec = Jvm.exec) (hb : c.code = cc) (hK : va_K D vwCl (kT cI cS) s) (hP : va_P D vwCl ws H) (hD : va_D A ws) (hS : va_S A H0 H locs) (q0 qk : Nat) {a n v i : Nat} {vs : List Value} {f : Nat → Option Nat} (ha : ws[q0]? = some (a, .inl (cS, n, .inr (.inr (.inr (.inr f)))))) (hv : ws[qk]? = some (v, .inr (5, vs))) (hi : i < n) (hn : n < 1000) (hdg : decode cc pc = .ok (.aastore, 1))
    (kk : ∀ (H1 : Heap) (locs1 : List Loc), va_P D vwCl (ws.set q0 (a, .inl (cS, n, .inr (.inr (.inr (.inr (va_up f i (some v)))))))) H1 → va_D A (ws.set q0 (a, .inl (cS, n, .inr (.inr (.inr (.inr (va_up f i (some v)))))))) → va_S A H0 H1 locs1 → W p l e R s m args below meth c H1 locs1 cells slots Q (F0 m (pc + 1) ls rest)) : W p l e R s m args below meth c H locs cells slots Q (F0 m pc ls (.ref v :: .int (nI i) :: .ref a :: rest)) := by
  refine va_astq (r := (RX6, TX6, 3)) hx hb hK hP hD hS q0 1 qk 5 ha rfl hv rfl (vp_in_nI hi (by omega)) hdg (fun H1 locs1 h1 h2 h3 => ?_)
  rw [nI_clamp (show i < 2 ^ 31 by omega)] at h1 h2
  exact kk H1 locs1 h1 h2 h3
end KK2

abbrev rmX1_init : Room := { frames := 1, cells := 3, slots := 24, locals := 30 }
set_option maxHeartbeats 4000000 in
set_option maxRecDepth 100000 in
theorem c_X1_init (lL : Launch) (D : va_G) (cI cS : ClassId) (sz : Nat) (h0 : Nat) : Met lL yX1_init wsX1_init rmX1_init (va_Pc [.ref h0] (kB D cI cS [(h0, .inr (0, [.int 0, .null, .null, .null]))] sz)) (kQn D (fun u : Nat × Nat × Nat => True) (fun u : Nat × Nat × Nat => [(h0, .inr (0, [.int (nI 0), .ref u.1, .ref u.2.1, .ref u.2.2])), (u.1, .inl (cI, 8, .inl zF)), (u.2.1, .inl (cI, 8, .inl zF)), (u.2.2, .inl (cI, 8, .inl zF))]) (va_A [(h0, .inr (0, [.int 0, .null, .null, .null]))] sz)) 3 24 (va_A [(h0, .inr (0, [.int 0, .null, .null, .null]))] sz) := by
  refine Met.ofW (cc := cX1_init) (maxL := 1) (ret := none) (by decide) rfl ?_
  intro pP eE sS mM args below meth cC s₁ B hml hv
  obtain ⟨rfl, hsz, hP, hK, hD0⟩ := hv
  have hx := B.exec
  have hb := B.bytes
  have hr := B.returns
  have hts := atoms_spec (ws := wsX1_init) B.pre
  have hown : sS.vm.findClass RX1 = some mM.cls := findClass_of_methodNamed B.named
  have hlocks := B.notSynchronized
  have hin : meth.name = "<init>" := (name_of_methodNamed B.named B.method).1
  subst hsz
  have hD := hD0.self (sz := sS.heap.size)
  generalize hAe : va_A [(h0, .inr (0, [.int 0, .null, .null, .null]))] sS.heap.size = A at hD ⊢
  have hA : ∀ q : Nat, sS.heap.size ≤ q → A q := fun q h => by rw [← hAe]; exact Or.inr h
  have hS : va_S A sS.heap sS.heap [] := va_S.rf
  have hP : va_P D vwCl [(h0, .inr (0, [.int 0, .null, .null, .null]))] sS.heap := hP
  have hD : va_D A [(h0, .inr (0, [.int 0, .null, .null, .null]))] := hD
  have hf_9 := hts (.fieldLink RX1 9 "OldLamps$Entries" "count" "I") (List.mem_of_getElem? (i := 4) rfl)
  have hf_15 := hts (.fieldLink RX1 15 "OldLamps$Entries" "whos" "[I") (List.mem_of_getElem? (i := 6) rfl)
  have hf_19 := hts (.fieldLink RX1 19 "OldLamps$Entries" "watches" "[I") (List.mem_of_getElem? (i := 7) rfl)
  have hf_22 := hts (.fieldLink RX1 22 "OldLamps$Entries" "values" "[I") (List.mem_of_getElem? (i := 8) rfl)
  have harr := hts (.arrayClass .int) (List.mem_of_getElem? (i := 5) rfl)
  have hoi1 := hts (.methodLink RX1 3 objectInit) (List.mem_of_getElem? (i := 1) rfl)
  have hoi2 := hts (.instanceMethod objectInit) (List.mem_of_getElem? (i := 2) rfl)
  have hoi3 := hts (.code objectInit ⟨#[0xb1]⟩ 1 none) (List.mem_of_getElem? (i := 3) rfl)
  have hwX1 : ∀ w ∈ wsX10, w ∈ wsX1_init := fun _ h => List.mem_cons_of_mem _ (List.mem_append_right _ h)
  have hl := lv_entry ([.ref h0]) (n := 1) (Nat.le_of_ble_eq_true rfl)
  rw [lg_entry_eq]
  generalize (lg_sl ([.ref h0]) ++ List.replicate (1 - (lg_sl ([.ref h0])).length) Slot.unset).toArray = ls at hl ⊢
  have hl : lv_has ls 1 [(0, .ref h0)] := hl
  obtain ⟨QQ, hQQ⟩ : ∃ QQ : State → Prop, QQ = MQ below (kQn D (fun u : Nat × Nat × Nat => True) (fun u : Nat × Nat × Nat => [(h0, .inr (0, [.int (nI 0), .ref u.1, .ref u.2.1, .ref u.2.2])), (u.1, .inl (cI, 8, .inl zF)), (u.2.1, .inl (cI, 8, .inl zF)), (u.2.2, .inl (cI, 8, .inl zF))]) A) ([.ref h0]).toArray sS 3 24 A := ⟨_, rfl⟩
  refine kk_QQ hQQ.symm ?_
  refine lv_aload_n hx hb dX1_init_0 rfl (lv_at hl 0 rfl) ?_
  refine W.objInit hx hb hown hoi1 hoi2 hoi3 rfl (by rw [hml]; exact hl.1) rfl dX1_init_1 (Nat.le_of_ble_eq_true rfl) (Nat.le_of_ble_eq_true rfl) ?_
  refine W.eq (g2 := F0 mM 4 ls []) rfl ?_
  refine lv_aload_n hx hb dX1_init_4 rfl (lv_at hl 0 rfl) ?_
  refine lv_iconst (v := nI 0) hx hb dX1_init_5 (by decide +kernel) ?_
  refine va_put (D := D) (ci := 0) (v := .int (nI 0)) (ty := .int) (C := RX1) (T := TX1) (N := 4) hx hb hts hwX1 tyX1 tyX1_ok nmX1 hown hK hP hD hS 0 rfl rfl 0 (by decide) hf_9 (fun _ h9 => h9) rfl (by decide +kernel) rfl rfl (Nat.le_of_ble_eq_true rfl) dX1_init_6 (fun H locs hP hD hS => ?_)
  have hP : va_P D vwCl [(h0, .inr (0, [.int (nI 0), .null, .null, .null]))] H := hP
  have hD : va_D A [(h0, .inr (0, [.int (nI 0), .null, .null, .null]))] := hD
  refine lv_aload_n hx hb dX1_init_9 rfl (lv_at hl 0 rfl) ?_
  refine lv_bipush (v := nI 8) hx hb dX1_init_10 (by decide +kernel) ?_
  refine kk_newi (n := 8) hx hb harr hK hP hD hS hA (by decide) (Nat.le_of_ble_eq_true rfl) (Nat.le_of_ble_eq_true rfl) dX1_init_12 (fun na_1 H hP hD hS => ?_)
  have hP : va_P D vwCl [(h0, .inr (0, [.int (nI 0), .null, .null, .null])), (na_1, .inl (cI, 8, .inl zF))] H := hP
  have hD : va_D A [(h0, .inr (0, [.int (nI 0), .null, .null, .null])), (na_1, .inl (cI, 8, .inl zF))] := hD
  refine W.widen (k := 1) (n := 8) (by decide) (by decide) ?_
  refine va_putF (D := D) (ci := 0) (v := .ref na_1) (ty := (.array .int)) (C := RX1) (T := TX1) (N := 4) hx hb hts hwX1 tyX1 tyX1_ok nmX1 hown hK hP hD hS 0 rfl rfl 1 (by decide) hf_15 (fun _ h9 => h9) rfl hin rfl (by decide +kernel) rfl rfl (Nat.le_of_ble_eq_true rfl) dX1_init_14 (fun H locs hP hD hS => ?_)
  have hP : va_P D vwCl [(h0, .inr (0, [.int (nI 0), .ref na_1, .null, .null])), (na_1, .inl (cI, 8, .inl zF))] H := hP
  have hD : va_D A [(h0, .inr (0, [.int (nI 0), .ref na_1, .null, .null])), (na_1, .inl (cI, 8, .inl zF))] := hD
  refine lv_aload_n hx hb dX1_init_17 rfl (lv_at hl 0 rfl) ?_
  refine lv_bipush (v := nI 8) hx hb dX1_init_18 (by decide +kernel) ?_
  refine kk_newi (n := 8) hx hb harr hK hP hD hS hA (by decide) (Nat.le_of_ble_eq_true rfl) (Nat.le_of_ble_eq_true rfl) dX1_init_20 (fun na_2 H hP hD hS => ?_)
  have hP : va_P D vwCl [(h0, .inr (0, [.int (nI 0), .ref na_1, .null, .null])), (na_1, .inl (cI, 8, .inl zF)), (na_2, .inl (cI, 8, .inl zF))] H := hP
  have hD : va_D A [(h0, .inr (0, [.int (nI 0), .ref na_1, .null, .null])), (na_1, .inl (cI, 8, .inl zF)), (na_2, .inl (cI, 8, .inl zF))] := hD
  refine W.widen (k := 2) (n := 16) (by decide) (by decide) ?_
  refine va_putF (D := D) (ci := 0) (v := .ref na_2) (ty := (.array .int)) (C := RX1) (T := TX1) (N := 4) hx hb hts hwX1 tyX1 tyX1_ok nmX1 hown hK hP hD hS 0 rfl rfl 2 (by decide) hf_19 (fun _ h9 => h9) rfl hin rfl (by decide +kernel) rfl rfl (Nat.le_of_ble_eq_true rfl) dX1_init_22 (fun H locs hP hD hS => ?_)
  have hP : va_P D vwCl [(h0, .inr (0, [.int (nI 0), .ref na_1, .ref na_2, .null])), (na_1, .inl (cI, 8, .inl zF)), (na_2, .inl (cI, 8, .inl zF))] H := hP
  have hD : va_D A [(h0, .inr (0, [.int (nI 0), .ref na_1, .ref na_2, .null])), (na_1, .inl (cI, 8, .inl zF)), (na_2, .inl (cI, 8, .inl zF))] := hD
  refine lv_aload_n hx hb dX1_init_25 rfl (lv_at hl 0 rfl) ?_
  refine lv_bipush (v := nI 8) hx hb dX1_init_26 (by decide +kernel) ?_
  refine kk_newi (n := 8) hx hb harr hK hP hD hS hA (by decide) (Nat.le_of_ble_eq_true rfl) (Nat.le_of_ble_eq_true rfl) dX1_init_28 (fun na_3 H hP hD hS => ?_)
  have hP : va_P D vwCl [(h0, .inr (0, [.int (nI 0), .ref na_1, .ref na_2, .null])), (na_1, .inl (cI, 8, .inl zF)), (na_2, .inl (cI, 8, .inl zF)), (na_3, .inl (cI, 8, .inl zF))] H := hP
  have hD : va_D A [(h0, .inr (0, [.int (nI 0), .ref na_1, .ref na_2, .null])), (na_1, .inl (cI, 8, .inl zF)), (na_2, .inl (cI, 8, .inl zF)), (na_3, .inl (cI, 8, .inl zF))] := hD
  refine W.widen (k := 3) (n := 24) (by decide) (by decide) ?_
  refine va_putF (D := D) (ci := 0) (v := .ref na_3) (ty := (.array .int)) (C := RX1) (T := TX1) (N := 4) hx hb hts hwX1 tyX1 tyX1_ok nmX1 hown hK hP hD hS 0 rfl rfl 3 (by decide) hf_22 (fun _ h9 => h9) rfl hin rfl (by decide +kernel) rfl rfl (Nat.le_of_ble_eq_true rfl) dX1_init_30 (fun H locs hP hD hS => ?_)
  have hP : va_P D vwCl [(h0, .inr (0, [.int (nI 0), .ref na_1, .ref na_2, .ref na_3])), (na_1, .inl (cI, 8, .inl zF)), (na_2, .inl (cI, 8, .inl zF)), (na_3, .inl (cI, 8, .inl zF))] H := hP
  have hD : va_D A [(h0, .inr (0, [.int (nI 0), .ref na_1, .ref na_2, .ref na_3])), (na_1, .inl (cI, 8, .inl zF)), (na_2, .inl (cI, 8, .inl zF)), (na_3, .inl (cI, 8, .inl zF))] := hD
  have hP : va_P D vwCl [(h0, .inr (0, [.int (nI 0), .ref na_1, .ref na_2, .ref na_3])), (na_1, .inl (cI, 8, .inl zF)), (na_2, .inl (cI, 8, .inl zF)), (na_3, .inl (cI, 8, .inl zF))] H := hP.sub [0, 1, 2, 3] rfl
  have hD : va_D A [(h0, .inr (0, [.int (nI 0), .ref na_1, .ref na_2, .ref na_3])), (na_1, .inl (cI, 8, .inl zF)), (na_2, .inl (cI, 8, .inl zF)), (na_3, .inl (cI, 8, .inl zF))] := hD.sub [0, 1, 2, 3] (by decide) rfl
  have hq : True := by trivial
  refine kk_QQ hQQ ?_
  exact W.vret hx hb hr (fun t ht hW => ⟨⟨(na_1, na_2, na_3), rfl, hq, by show va_P D vwCl _ t.heap ∧ va_D A _; rw [ht]; exact ⟨hP, hD⟩⟩, hS.F ht⟩) hS.2.2 dX1_init_33

abbrev rmX2_init : Room := { frames := 1, cells := 5, slots := 22, locals := 30 }
set_option maxHeartbeats 4000000 in
set_option maxRecDepth 100000 in
theorem c_X2_init (lL : Launch) (D : va_G) (cI cS : ClassId) (sz : Nat) (h0 : Nat) : Met lL yX2_init wsX2_init rmX2_init (va_Pc [.ref h0] (kB D cI cS [(h0, .inr (1, [.int 0, .int 0, .int 0, .null, .null, .null, .null, .null]))] sz)) (kQn D (fun u : Nat × Nat × Nat × Nat × Nat => True) (fun u : Nat × Nat × Nat × Nat × Nat => [(h0, .inr (1, [.int (nI 0), .int (nI 0), .int (nI 0), .ref u.1, .ref u.2.1, .ref u.2.2.1, .ref u.2.2.2.1, .ref u.2.2.2.2])), (u.1, .inl (cI, 6, .inl zF)), (u.2.1, .inl (cI, 4, .inl zF)), (u.2.2.1, .inl (cI, 4, .inl zF)), (u.2.2.2.1, .inl (cI, 4, .inl zF)), (u.2.2.2.2, .inl (cI, 4, .inl zF))]) (va_A [(h0, .inr (1, [.int 0, .int 0, .int 0, .null, .null, .null, .null, .null]))] sz)) 5 22 (va_A [(h0, .inr (1, [.int 0, .int 0, .int 0, .null, .null, .null, .null, .null]))] sz) := by
  refine Met.ofW (cc := cX2_init) (maxL := 1) (ret := none) (by decide) rfl ?_
  intro pP eE sS mM args below meth cC s₁ B hml hv
  obtain ⟨rfl, hsz, hP, hK, hD0⟩ := hv
  have hx := B.exec
  have hb := B.bytes
  have hr := B.returns
  have hts := atoms_spec (ws := wsX2_init) B.pre
  have hown : sS.vm.findClass RX2 = some mM.cls := findClass_of_methodNamed B.named
  have hlocks := B.notSynchronized
  have hin : meth.name = "<init>" := (name_of_methodNamed B.named B.method).1
  subst hsz
  have hD := hD0.self (sz := sS.heap.size)
  generalize hAe : va_A [(h0, .inr (1, [.int 0, .int 0, .int 0, .null, .null, .null, .null, .null]))] sS.heap.size = A at hD ⊢
  have hA : ∀ q : Nat, sS.heap.size ≤ q → A q := fun q h => by rw [← hAe]; exact Or.inr h
  have hS : va_S A sS.heap sS.heap [] := va_S.rf
  have hP : va_P D vwCl [(h0, .inr (1, [.int 0, .int 0, .int 0, .null, .null, .null, .null, .null]))] sS.heap := hP
  have hD : va_D A [(h0, .inr (1, [.int 0, .int 0, .int 0, .null, .null, .null, .null, .null]))] := hD
  have hf_9 := hts (.fieldLink RX2 9 "OldLamps$Ground" "spots" "I") (List.mem_of_getElem? (i := 4) rfl)
  have hf_15 := hts (.fieldLink RX2 15 "OldLamps$Ground" "lamps" "I") (List.mem_of_getElem? (i := 5) rfl)
  have hf_18 := hts (.fieldLink RX2 18 "OldLamps$Ground" "lightAge" "I") (List.mem_of_getElem? (i := 6) rfl)
  have hf_21 := hts (.fieldLink RX2 21 "OldLamps$Ground" "skies" "[I") (List.mem_of_getElem? (i := 8) rfl)
  have hf_25 := hts (.fieldLink RX2 25 "OldLamps$Ground" "shades" "[I") (List.mem_of_getElem? (i := 9) rfl)
  have hf_28 := hts (.fieldLink RX2 28 "OldLamps$Ground" "lampKinds" "[I") (List.mem_of_getElem? (i := 10) rfl)
  have hf_31 := hts (.fieldLink RX2 31 "OldLamps$Ground" "firstSpots" "[I") (List.mem_of_getElem? (i := 11) rfl)
  have hf_34 := hts (.fieldLink RX2 34 "OldLamps$Ground" "dayClouds" "[I") (List.mem_of_getElem? (i := 12) rfl)
  have harr := hts (.arrayClass .int) (List.mem_of_getElem? (i := 7) rfl)
  have hoi1 := hts (.methodLink RX2 3 objectInit) (List.mem_of_getElem? (i := 1) rfl)
  have hoi2 := hts (.instanceMethod objectInit) (List.mem_of_getElem? (i := 2) rfl)
  have hoi3 := hts (.code objectInit ⟨#[0xb1]⟩ 1 none) (List.mem_of_getElem? (i := 3) rfl)
  have hwX2 : ∀ w ∈ wsX20, w ∈ wsX2_init := fun _ h => List.mem_cons_of_mem _ (List.mem_append_right _ h)
  have hl := lv_entry ([.ref h0]) (n := 1) (Nat.le_of_ble_eq_true rfl)
  rw [lg_entry_eq]
  generalize (lg_sl ([.ref h0]) ++ List.replicate (1 - (lg_sl ([.ref h0])).length) Slot.unset).toArray = ls at hl ⊢
  have hl : lv_has ls 1 [(0, .ref h0)] := hl
  obtain ⟨QQ, hQQ⟩ : ∃ QQ : State → Prop, QQ = MQ below (kQn D (fun u : Nat × Nat × Nat × Nat × Nat => True) (fun u : Nat × Nat × Nat × Nat × Nat => [(h0, .inr (1, [.int (nI 0), .int (nI 0), .int (nI 0), .ref u.1, .ref u.2.1, .ref u.2.2.1, .ref u.2.2.2.1, .ref u.2.2.2.2])), (u.1, .inl (cI, 6, .inl zF)), (u.2.1, .inl (cI, 4, .inl zF)), (u.2.2.1, .inl (cI, 4, .inl zF)), (u.2.2.2.1, .inl (cI, 4, .inl zF)), (u.2.2.2.2, .inl (cI, 4, .inl zF))]) A) ([.ref h0]).toArray sS 5 22 A := ⟨_, rfl⟩
  refine kk_QQ hQQ.symm ?_
  refine lv_aload_n hx hb dX2_init_0 rfl (lv_at hl 0 rfl) ?_
  refine W.objInit hx hb hown hoi1 hoi2 hoi3 rfl (by rw [hml]; exact hl.1) rfl dX2_init_1 (Nat.le_of_ble_eq_true rfl) (Nat.le_of_ble_eq_true rfl) ?_
  refine W.eq (g2 := F0 mM 4 ls []) rfl ?_
  refine lv_aload_n hx hb dX2_init_4 rfl (lv_at hl 0 rfl) ?_
  refine lv_iconst (v := nI 0) hx hb dX2_init_5 (by decide +kernel) ?_
  refine va_put (D := D) (ci := 1) (v := .int (nI 0)) (ty := .int) (C := RX2) (T := TX2) (N := 8) hx hb hts hwX2 tyX2 tyX2_ok nmX2 hown hK hP hD hS 0 rfl rfl 0 (by decide) hf_9 (fun _ h9 => h9) rfl (by decide +kernel) rfl rfl (Nat.le_of_ble_eq_true rfl) dX2_init_6 (fun H locs hP hD hS => ?_)
  have hP : va_P D vwCl [(h0, .inr (1, [.int (nI 0), .int 0, .int 0, .null, .null, .null, .null, .null]))] H := hP
  have hD : va_D A [(h0, .inr (1, [.int (nI 0), .int 0, .int 0, .null, .null, .null, .null, .null]))] := hD
  refine lv_aload_n hx hb dX2_init_9 rfl (lv_at hl 0 rfl) ?_
  refine lv_iconst (v := nI 0) hx hb dX2_init_10 (by decide +kernel) ?_
  refine va_put (D := D) (ci := 1) (v := .int (nI 0)) (ty := .int) (C := RX2) (T := TX2) (N := 8) hx hb hts hwX2 tyX2 tyX2_ok nmX2 hown hK hP hD hS 0 rfl rfl 1 (by decide) hf_15 (fun _ h9 => h9) rfl (by decide +kernel) rfl rfl (Nat.le_of_ble_eq_true rfl) dX2_init_11 (fun H locs hP hD hS => ?_)
  have hP : va_P D vwCl [(h0, .inr (1, [.int (nI 0), .int (nI 0), .int 0, .null, .null, .null, .null, .null]))] H := hP
  have hD : va_D A [(h0, .inr (1, [.int (nI 0), .int (nI 0), .int 0, .null, .null, .null, .null, .null]))] := hD
  refine lv_aload_n hx hb dX2_init_14 rfl (lv_at hl 0 rfl) ?_
  refine lv_iconst (v := nI 0) hx hb dX2_init_15 (by decide +kernel) ?_
  refine va_put (D := D) (ci := 1) (v := .int (nI 0)) (ty := .int) (C := RX2) (T := TX2) (N := 8) hx hb hts hwX2 tyX2 tyX2_ok nmX2 hown hK hP hD hS 0 rfl rfl 2 (by decide) hf_18 (fun _ h9 => h9) rfl (by decide +kernel) rfl rfl (Nat.le_of_ble_eq_true rfl) dX2_init_16 (fun H locs hP hD hS => ?_)
  have hP : va_P D vwCl [(h0, .inr (1, [.int (nI 0), .int (nI 0), .int (nI 0), .null, .null, .null, .null, .null]))] H := hP
  have hD : va_D A [(h0, .inr (1, [.int (nI 0), .int (nI 0), .int (nI 0), .null, .null, .null, .null, .null]))] := hD
  refine lv_aload_n hx hb dX2_init_19 rfl (lv_at hl 0 rfl) ?_
  refine lv_bipush (v := nI 6) hx hb dX2_init_20 (by decide +kernel) ?_
  refine kk_newi (n := 6) hx hb harr hK hP hD hS hA (by decide) (Nat.le_of_ble_eq_true rfl) (Nat.le_of_ble_eq_true rfl) dX2_init_22 (fun na_1 H hP hD hS => ?_)
  have hP : va_P D vwCl [(h0, .inr (1, [.int (nI 0), .int (nI 0), .int (nI 0), .null, .null, .null, .null, .null])), (na_1, .inl (cI, 6, .inl zF))] H := hP
  have hD : va_D A [(h0, .inr (1, [.int (nI 0), .int (nI 0), .int (nI 0), .null, .null, .null, .null, .null])), (na_1, .inl (cI, 6, .inl zF))] := hD
  refine W.widen (k := 1) (n := 6) (by decide) (by decide) ?_
  refine va_putF (D := D) (ci := 1) (v := .ref na_1) (ty := (.array .int)) (C := RX2) (T := TX2) (N := 8) hx hb hts hwX2 tyX2 tyX2_ok nmX2 hown hK hP hD hS 0 rfl rfl 3 (by decide) hf_21 (fun _ h9 => h9) rfl hin rfl (by decide +kernel) rfl rfl (Nat.le_of_ble_eq_true rfl) dX2_init_24 (fun H locs hP hD hS => ?_)
  have hP : va_P D vwCl [(h0, .inr (1, [.int (nI 0), .int (nI 0), .int (nI 0), .ref na_1, .null, .null, .null, .null])), (na_1, .inl (cI, 6, .inl zF))] H := hP
  have hD : va_D A [(h0, .inr (1, [.int (nI 0), .int (nI 0), .int (nI 0), .ref na_1, .null, .null, .null, .null])), (na_1, .inl (cI, 6, .inl zF))] := hD
  refine lv_aload_n hx hb dX2_init_27 rfl (lv_at hl 0 rfl) ?_
  refine lv_iconst (v := nI 4) hx hb dX2_init_28 (by decide +kernel) ?_
  refine kk_newi (n := 4) hx hb harr hK hP hD hS hA (by decide) (Nat.le_of_ble_eq_true rfl) (Nat.le_of_ble_eq_true rfl) dX2_init_29 (fun na_2 H hP hD hS => ?_)
  have hP : va_P D vwCl [(h0, .inr (1, [.int (nI 0), .int (nI 0), .int (nI 0), .ref na_1, .null, .null, .null, .null])), (na_1, .inl (cI, 6, .inl zF)), (na_2, .inl (cI, 4, .inl zF))] H := hP
  have hD : va_D A [(h0, .inr (1, [.int (nI 0), .int (nI 0), .int (nI 0), .ref na_1, .null, .null, .null, .null])), (na_1, .inl (cI, 6, .inl zF)), (na_2, .inl (cI, 4, .inl zF))] := hD
  refine W.widen (k := 2) (n := 10) (by decide) (by decide) ?_
  refine va_putF (D := D) (ci := 1) (v := .ref na_2) (ty := (.array .int)) (C := RX2) (T := TX2) (N := 8) hx hb hts hwX2 tyX2 tyX2_ok nmX2 hown hK hP hD hS 0 rfl rfl 4 (by decide) hf_25 (fun _ h9 => h9) rfl hin rfl (by decide +kernel) rfl rfl (Nat.le_of_ble_eq_true rfl) dX2_init_31 (fun H locs hP hD hS => ?_)
  have hP : va_P D vwCl [(h0, .inr (1, [.int (nI 0), .int (nI 0), .int (nI 0), .ref na_1, .ref na_2, .null, .null, .null])), (na_1, .inl (cI, 6, .inl zF)), (na_2, .inl (cI, 4, .inl zF))] H := hP
  have hD : va_D A [(h0, .inr (1, [.int (nI 0), .int (nI 0), .int (nI 0), .ref na_1, .ref na_2, .null, .null, .null])), (na_1, .inl (cI, 6, .inl zF)), (na_2, .inl (cI, 4, .inl zF))] := hD
  refine lv_aload_n hx hb dX2_init_34 rfl (lv_at hl 0 rfl) ?_
  refine lv_iconst (v := nI 4) hx hb dX2_init_35 (by decide +kernel) ?_
  refine kk_newi (n := 4) hx hb harr hK hP hD hS hA (by decide) (Nat.le_of_ble_eq_true rfl) (Nat.le_of_ble_eq_true rfl) dX2_init_36 (fun na_3 H hP hD hS => ?_)
  have hP : va_P D vwCl [(h0, .inr (1, [.int (nI 0), .int (nI 0), .int (nI 0), .ref na_1, .ref na_2, .null, .null, .null])), (na_1, .inl (cI, 6, .inl zF)), (na_2, .inl (cI, 4, .inl zF)), (na_3, .inl (cI, 4, .inl zF))] H := hP
  have hD : va_D A [(h0, .inr (1, [.int (nI 0), .int (nI 0), .int (nI 0), .ref na_1, .ref na_2, .null, .null, .null])), (na_1, .inl (cI, 6, .inl zF)), (na_2, .inl (cI, 4, .inl zF)), (na_3, .inl (cI, 4, .inl zF))] := hD
  refine W.widen (k := 3) (n := 14) (by decide) (by decide) ?_
  refine va_putF (D := D) (ci := 1) (v := .ref na_3) (ty := (.array .int)) (C := RX2) (T := TX2) (N := 8) hx hb hts hwX2 tyX2 tyX2_ok nmX2 hown hK hP hD hS 0 rfl rfl 5 (by decide) hf_28 (fun _ h9 => h9) rfl hin rfl (by decide +kernel) rfl rfl (Nat.le_of_ble_eq_true rfl) dX2_init_38 (fun H locs hP hD hS => ?_)
  have hP : va_P D vwCl [(h0, .inr (1, [.int (nI 0), .int (nI 0), .int (nI 0), .ref na_1, .ref na_2, .ref na_3, .null, .null])), (na_1, .inl (cI, 6, .inl zF)), (na_2, .inl (cI, 4, .inl zF)), (na_3, .inl (cI, 4, .inl zF))] H := hP
  have hD : va_D A [(h0, .inr (1, [.int (nI 0), .int (nI 0), .int (nI 0), .ref na_1, .ref na_2, .ref na_3, .null, .null])), (na_1, .inl (cI, 6, .inl zF)), (na_2, .inl (cI, 4, .inl zF)), (na_3, .inl (cI, 4, .inl zF))] := hD
  refine lv_aload_n hx hb dX2_init_41 rfl (lv_at hl 0 rfl) ?_
  refine lv_iconst (v := nI 4) hx hb dX2_init_42 (by decide +kernel) ?_
  refine kk_newi (n := 4) hx hb harr hK hP hD hS hA (by decide) (Nat.le_of_ble_eq_true rfl) (Nat.le_of_ble_eq_true rfl) dX2_init_43 (fun na_4 H hP hD hS => ?_)
  have hP : va_P D vwCl [(h0, .inr (1, [.int (nI 0), .int (nI 0), .int (nI 0), .ref na_1, .ref na_2, .ref na_3, .null, .null])), (na_1, .inl (cI, 6, .inl zF)), (na_2, .inl (cI, 4, .inl zF)), (na_3, .inl (cI, 4, .inl zF)), (na_4, .inl (cI, 4, .inl zF))] H := hP
  have hD : va_D A [(h0, .inr (1, [.int (nI 0), .int (nI 0), .int (nI 0), .ref na_1, .ref na_2, .ref na_3, .null, .null])), (na_1, .inl (cI, 6, .inl zF)), (na_2, .inl (cI, 4, .inl zF)), (na_3, .inl (cI, 4, .inl zF)), (na_4, .inl (cI, 4, .inl zF))] := hD
  refine W.widen (k := 4) (n := 18) (by decide) (by decide) ?_
  refine va_putF (D := D) (ci := 1) (v := .ref na_4) (ty := (.array .int)) (C := RX2) (T := TX2) (N := 8) hx hb hts hwX2 tyX2 tyX2_ok nmX2 hown hK hP hD hS 0 rfl rfl 6 (by decide) hf_31 (fun _ h9 => h9) rfl hin rfl (by decide +kernel) rfl rfl (Nat.le_of_ble_eq_true rfl) dX2_init_45 (fun H locs hP hD hS => ?_)
  have hP : va_P D vwCl [(h0, .inr (1, [.int (nI 0), .int (nI 0), .int (nI 0), .ref na_1, .ref na_2, .ref na_3, .ref na_4, .null])), (na_1, .inl (cI, 6, .inl zF)), (na_2, .inl (cI, 4, .inl zF)), (na_3, .inl (cI, 4, .inl zF)), (na_4, .inl (cI, 4, .inl zF))] H := hP
  have hD : va_D A [(h0, .inr (1, [.int (nI 0), .int (nI 0), .int (nI 0), .ref na_1, .ref na_2, .ref na_3, .ref na_4, .null])), (na_1, .inl (cI, 6, .inl zF)), (na_2, .inl (cI, 4, .inl zF)), (na_3, .inl (cI, 4, .inl zF)), (na_4, .inl (cI, 4, .inl zF))] := hD
  refine lv_aload_n hx hb dX2_init_48 rfl (lv_at hl 0 rfl) ?_
  refine lv_iconst (v := nI 4) hx hb dX2_init_49 (by decide +kernel) ?_
  refine kk_newi (n := 4) hx hb harr hK hP hD hS hA (by decide) (Nat.le_of_ble_eq_true rfl) (Nat.le_of_ble_eq_true rfl) dX2_init_50 (fun na_5 H hP hD hS => ?_)
  have hP : va_P D vwCl [(h0, .inr (1, [.int (nI 0), .int (nI 0), .int (nI 0), .ref na_1, .ref na_2, .ref na_3, .ref na_4, .null])), (na_1, .inl (cI, 6, .inl zF)), (na_2, .inl (cI, 4, .inl zF)), (na_3, .inl (cI, 4, .inl zF)), (na_4, .inl (cI, 4, .inl zF)), (na_5, .inl (cI, 4, .inl zF))] H := hP
  have hD : va_D A [(h0, .inr (1, [.int (nI 0), .int (nI 0), .int (nI 0), .ref na_1, .ref na_2, .ref na_3, .ref na_4, .null])), (na_1, .inl (cI, 6, .inl zF)), (na_2, .inl (cI, 4, .inl zF)), (na_3, .inl (cI, 4, .inl zF)), (na_4, .inl (cI, 4, .inl zF)), (na_5, .inl (cI, 4, .inl zF))] := hD
  refine W.widen (k := 5) (n := 22) (by decide) (by decide) ?_
  refine va_putF (D := D) (ci := 1) (v := .ref na_5) (ty := (.array .int)) (C := RX2) (T := TX2) (N := 8) hx hb hts hwX2 tyX2 tyX2_ok nmX2 hown hK hP hD hS 0 rfl rfl 7 (by decide) hf_34 (fun _ h9 => h9) rfl hin rfl (by decide +kernel) rfl rfl (Nat.le_of_ble_eq_true rfl) dX2_init_52 (fun H locs hP hD hS => ?_)
  have hP : va_P D vwCl [(h0, .inr (1, [.int (nI 0), .int (nI 0), .int (nI 0), .ref na_1, .ref na_2, .ref na_3, .ref na_4, .ref na_5])), (na_1, .inl (cI, 6, .inl zF)), (na_2, .inl (cI, 4, .inl zF)), (na_3, .inl (cI, 4, .inl zF)), (na_4, .inl (cI, 4, .inl zF)), (na_5, .inl (cI, 4, .inl zF))] H := hP
  have hD : va_D A [(h0, .inr (1, [.int (nI 0), .int (nI 0), .int (nI 0), .ref na_1, .ref na_2, .ref na_3, .ref na_4, .ref na_5])), (na_1, .inl (cI, 6, .inl zF)), (na_2, .inl (cI, 4, .inl zF)), (na_3, .inl (cI, 4, .inl zF)), (na_4, .inl (cI, 4, .inl zF)), (na_5, .inl (cI, 4, .inl zF))] := hD
  have hP : va_P D vwCl [(h0, .inr (1, [.int (nI 0), .int (nI 0), .int (nI 0), .ref na_1, .ref na_2, .ref na_3, .ref na_4, .ref na_5])), (na_1, .inl (cI, 6, .inl zF)), (na_2, .inl (cI, 4, .inl zF)), (na_3, .inl (cI, 4, .inl zF)), (na_4, .inl (cI, 4, .inl zF)), (na_5, .inl (cI, 4, .inl zF))] H := hP.sub [0, 1, 2, 3, 4, 5] rfl
  have hD : va_D A [(h0, .inr (1, [.int (nI 0), .int (nI 0), .int (nI 0), .ref na_1, .ref na_2, .ref na_3, .ref na_4, .ref na_5])), (na_1, .inl (cI, 6, .inl zF)), (na_2, .inl (cI, 4, .inl zF)), (na_3, .inl (cI, 4, .inl zF)), (na_4, .inl (cI, 4, .inl zF)), (na_5, .inl (cI, 4, .inl zF))] := hD.sub [0, 1, 2, 3, 4, 5] (by decide) rfl
  have hq : True := by trivial
  refine kk_QQ hQQ ?_
  exact W.vret hx hb hr (fun t ht hW => ⟨⟨(na_1, na_2, na_3, na_4, na_5), rfl, hq, by show va_P D vwCl _ t.heap ∧ va_D A _; rw [ht]; exact ⟨hP, hD⟩⟩, hS.F ht⟩) hS.2.2 dX2_init_55

abbrev rmX6_init : Room := { frames := 1, cells := 1, slots := 60, locals := 30 }
set_option maxHeartbeats 4000000 in
set_option maxRecDepth 100000 in
theorem c_X6_init (lL : Launch) (D : va_G) (cI cS : ClassId) (sz : Nat) (h0 : Nat) : Met lL yX6_init wsX6_init rmX6_init (va_Pc [.ref h0] (kB D cI cS [(h0, .inr (5, [.null, .int 0, .int 0]))] sz)) (kQn D (fun u : Nat => True) (fun u : Nat => [(h0, .inr (5, [.ref u, .int (nI 0), .int (-1 : Int32)])), (u, .inl (cI, 60, .inl zF))]) (va_A [(h0, .inr (5, [.null, .int 0, .int 0]))] sz)) 1 60 (va_A [(h0, .inr (5, [.null, .int 0, .int 0]))] sz) := by
  refine Met.ofW (cc := cX6_init) (maxL := 1) (ret := none) (by decide) rfl ?_
  intro pP eE sS mM args below meth cC s₁ B hml hv
  obtain ⟨rfl, hsz, hP, hK, hD0⟩ := hv
  have hx := B.exec
  have hb := B.bytes
  have hr := B.returns
  have hts := atoms_spec (ws := wsX6_init) B.pre
  have hown : sS.vm.findClass RX6 = some mM.cls := findClass_of_methodNamed B.named
  have hlocks := B.notSynchronized
  have hin : meth.name = "<init>" := (name_of_methodNamed B.named B.method).1
  subst hsz
  have hD := hD0.self (sz := sS.heap.size)
  generalize hAe : va_A [(h0, .inr (5, [.null, .int 0, .int 0]))] sS.heap.size = A at hD ⊢
  have hA : ∀ q : Nat, sS.heap.size ≤ q → A q := fun q h => by rw [← hAe]; exact Or.inr h
  have hS : va_S A sS.heap sS.heap [] := va_S.rf
  have hP : va_P D vwCl [(h0, .inr (5, [.null, .int 0, .int 0]))] sS.heap := hP
  have hD : va_D A [(h0, .inr (5, [.null, .int 0, .int 0]))] := hD
  have hf_9 := hts (.fieldLink RX6 9 "OldLamps$Sheet" "cells" "[I") (List.mem_of_getElem? (i := 5) rfl)
  have hf_15 := hts (.fieldLink RX6 15 "OldLamps$Sheet" "length" "I") (List.mem_of_getElem? (i := 6) rfl)
  have hf_19 := hts (.fieldLink RX6 19 "OldLamps$Sheet" "rowLane" "I") (List.mem_of_getElem? (i := 7) rfl)
  have harr := hts (.arrayClass .int) (List.mem_of_getElem? (i := 4) rfl)
  have hoi1 := hts (.methodLink RX6 3 objectInit) (List.mem_of_getElem? (i := 1) rfl)
  have hoi2 := hts (.instanceMethod objectInit) (List.mem_of_getElem? (i := 2) rfl)
  have hoi3 := hts (.code objectInit ⟨#[0xb1]⟩ 1 none) (List.mem_of_getElem? (i := 3) rfl)
  have hwX6 : ∀ w ∈ wsX60, w ∈ wsX6_init := fun _ h => List.mem_cons_of_mem _ (List.mem_append_right _ h)
  have hl := lv_entry ([.ref h0]) (n := 1) (Nat.le_of_ble_eq_true rfl)
  rw [lg_entry_eq]
  generalize (lg_sl ([.ref h0]) ++ List.replicate (1 - (lg_sl ([.ref h0])).length) Slot.unset).toArray = ls at hl ⊢
  have hl : lv_has ls 1 [(0, .ref h0)] := hl
  obtain ⟨QQ, hQQ⟩ : ∃ QQ : State → Prop, QQ = MQ below (kQn D (fun u : Nat => True) (fun u : Nat => [(h0, .inr (5, [.ref u, .int (nI 0), .int (-1 : Int32)])), (u, .inl (cI, 60, .inl zF))]) A) ([.ref h0]).toArray sS 1 60 A := ⟨_, rfl⟩
  refine kk_QQ hQQ.symm ?_
  refine lv_aload_n hx hb dX6_init_0 rfl (lv_at hl 0 rfl) ?_
  refine W.objInit hx hb hown hoi1 hoi2 hoi3 rfl (by rw [hml]; exact hl.1) rfl dX6_init_1 (Nat.le_of_ble_eq_true rfl) (Nat.le_of_ble_eq_true rfl) ?_
  refine W.eq (g2 := F0 mM 4 ls []) rfl ?_
  refine lv_aload_n hx hb dX6_init_4 rfl (lv_at hl 0 rfl) ?_
  refine lv_bipush (v := nI 60) hx hb dX6_init_5 (by decide +kernel) ?_
  refine kk_newi (n := 60) hx hb harr hK hP hD hS hA (by decide) (Nat.le_of_ble_eq_true rfl) (Nat.le_of_ble_eq_true rfl) dX6_init_7 (fun na_1 H hP hD hS => ?_)
  have hP : va_P D vwCl [(h0, .inr (5, [.null, .int 0, .int 0])), (na_1, .inl (cI, 60, .inl zF))] H := hP
  have hD : va_D A [(h0, .inr (5, [.null, .int 0, .int 0])), (na_1, .inl (cI, 60, .inl zF))] := hD
  refine W.widen (k := 1) (n := 60) (by decide) (by decide) ?_
  refine va_putF (D := D) (ci := 5) (v := .ref na_1) (ty := (.array .int)) (C := RX6) (T := TX6) (N := 3) hx hb hts hwX6 tyX6 tyX6_ok nmX6 hown hK hP hD hS 0 rfl rfl 0 (by decide) hf_9 (fun _ h9 => h9) rfl hin rfl (by decide +kernel) rfl rfl (Nat.le_of_ble_eq_true rfl) dX6_init_9 (fun H locs hP hD hS => ?_)
  have hP : va_P D vwCl [(h0, .inr (5, [.ref na_1, .int 0, .int 0])), (na_1, .inl (cI, 60, .inl zF))] H := hP
  have hD : va_D A [(h0, .inr (5, [.ref na_1, .int 0, .int 0])), (na_1, .inl (cI, 60, .inl zF))] := hD
  refine lv_aload_n hx hb dX6_init_12 rfl (lv_at hl 0 rfl) ?_
  refine lv_iconst (v := nI 0) hx hb dX6_init_13 (by decide +kernel) ?_
  refine va_put (D := D) (ci := 5) (v := .int (nI 0)) (ty := .int) (C := RX6) (T := TX6) (N := 3) hx hb hts hwX6 tyX6 tyX6_ok nmX6 hown hK hP hD hS 0 rfl rfl 1 (by decide) hf_15 (fun _ h9 => h9) rfl (by decide +kernel) rfl rfl (Nat.le_of_ble_eq_true rfl) dX6_init_14 (fun H locs hP hD hS => ?_)
  have hP : va_P D vwCl [(h0, .inr (5, [.ref na_1, .int (nI 0), .int 0])), (na_1, .inl (cI, 60, .inl zF))] H := hP
  have hD : va_D A [(h0, .inr (5, [.ref na_1, .int (nI 0), .int 0])), (na_1, .inl (cI, 60, .inl zF))] := hD
  refine lv_aload_n hx hb dX6_init_17 rfl (lv_at hl 0 rfl) ?_
  refine lv_iconst (v := (-1 : Int32)) hx hb dX6_init_18 (by decide +kernel) ?_
  refine va_put (D := D) (ci := 5) (v := .int (-1 : Int32)) (ty := .int) (C := RX6) (T := TX6) (N := 3) hx hb hts hwX6 tyX6 tyX6_ok nmX6 hown hK hP hD hS 0 rfl rfl 2 (by decide) hf_19 (fun _ h9 => h9) rfl (by decide +kernel) rfl rfl (Nat.le_of_ble_eq_true rfl) dX6_init_19 (fun H locs hP hD hS => ?_)
  have hP : va_P D vwCl [(h0, .inr (5, [.ref na_1, .int (nI 0), .int (-1 : Int32)])), (na_1, .inl (cI, 60, .inl zF))] H := hP
  have hD : va_D A [(h0, .inr (5, [.ref na_1, .int (nI 0), .int (-1 : Int32)])), (na_1, .inl (cI, 60, .inl zF))] := hD
  have hP : va_P D vwCl [(h0, .inr (5, [.ref na_1, .int (nI 0), .int (-1 : Int32)])), (na_1, .inl (cI, 60, .inl zF))] H := hP.sub [0, 1] rfl
  have hD : va_D A [(h0, .inr (5, [.ref na_1, .int (nI 0), .int (-1 : Int32)])), (na_1, .inl (cI, 60, .inl zF))] := hD.sub [0, 1] (by decide) rfl
  have hq : True := by trivial
  refine kk_QQ hQQ ?_
  exact W.vret hx hb hr (fun t ht hW => ⟨⟨na_1, rfl, hq, by show va_P D vwCl _ t.heap ∧ va_D A _; rw [ht]; exact ⟨hP, hD⟩⟩, hS.F ht⟩) hS.2.2 dX6_init_22

abbrev rmX8_init : Room := { frames := 1, cells := 5, slots := 480, locals := 30 }
set_option maxHeartbeats 4000000 in
set_option maxRecDepth 100000 in
theorem c_X8_init (lL : Launch) (D : va_G) (cI cS : ClassId) (sz : Nat) (h0 : Nat) : Met lL yX8_init wsX8_init rmX8_init (va_Pc [.ref h0] (kB D cI cS [(h0, .inr (7, [.null, .null, .null, .null, .null]))] sz)) (kQn D (fun u : Nat × Nat × Nat × Nat × Nat => True) (fun u : Nat × Nat × Nat × Nat × Nat => [(h0, .inr (7, [.ref u.1, .ref u.2.1, .ref u.2.2.1, .ref u.2.2.2.1, .ref u.2.2.2.2])), (u.1, .inl (cI, 96, .inl zF)), (u.2.1, .inl (cI, 96, .inl zF)), (u.2.2.1, .inl (cI, 96, .inl zF)), (u.2.2.2.1, .inl (cI, 96, .inl zF)), (u.2.2.2.2, .inl (cI, 96, .inl zF))]) (va_A [(h0, .inr (7, [.null, .null, .null, .null, .null]))] sz)) 5 480 (va_A [(h0, .inr (7, [.null, .null, .null, .null, .null]))] sz) := by
  refine Met.ofW (cc := cX8_init) (maxL := 1) (ret := none) (by decide) rfl ?_
  intro pP eE sS mM args below meth cC s₁ B hml hv
  obtain ⟨rfl, hsz, hP, hK, hD0⟩ := hv
  have hx := B.exec
  have hb := B.bytes
  have hr := B.returns
  have hts := atoms_spec (ws := wsX8_init) B.pre
  have hown : sS.vm.findClass RX8 = some mM.cls := findClass_of_methodNamed B.named
  have hlocks := B.notSynchronized
  have hin : meth.name = "<init>" := (name_of_methodNamed B.named B.method).1
  subst hsz
  have hD := hD0.self (sz := sS.heap.size)
  generalize hAe : va_A [(h0, .inr (7, [.null, .null, .null, .null, .null]))] sS.heap.size = A at hD ⊢
  have hA : ∀ q : Nat, sS.heap.size ≤ q → A q := fun q h => by rw [← hAe]; exact Or.inr h
  have hS : va_S A sS.heap sS.heap [] := va_S.rf
  have hP : va_P D vwCl [(h0, .inr (7, [.null, .null, .null, .null, .null]))] sS.heap := hP
  have hD : va_D A [(h0, .inr (7, [.null, .null, .null, .null, .null]))] := hD
  have hf_11 := hts (.fieldLink RX8 11 "OldLamps$Watches" "places" "[I") (List.mem_of_getElem? (i := 5) rfl)
  have hf_15 := hts (.fieldLink RX8 15 "OldLamps$Watches" "given" "[I") (List.mem_of_getElem? (i := 6) rfl)
  have hf_18 := hts (.fieldLink RX8 18 "OldLamps$Watches" "fallen" "[I") (List.mem_of_getElem? (i := 7) rfl)
  have hf_21 := hts (.fieldLink RX8 21 "OldLamps$Watches" "days" "[I") (List.mem_of_getElem? (i := 8) rfl)
  have hf_24 := hts (.fieldLink RX8 24 "OldLamps$Watches" "lit" "[I") (List.mem_of_getElem? (i := 9) rfl)
  have harr := hts (.arrayClass .int) (List.mem_of_getElem? (i := 4) rfl)
  have hoi1 := hts (.methodLink RX8 3 objectInit) (List.mem_of_getElem? (i := 1) rfl)
  have hoi2 := hts (.instanceMethod objectInit) (List.mem_of_getElem? (i := 2) rfl)
  have hoi3 := hts (.code objectInit ⟨#[0xb1]⟩ 1 none) (List.mem_of_getElem? (i := 3) rfl)
  have hwX8 : ∀ w ∈ wsX80, w ∈ wsX8_init := fun _ h => List.mem_cons_of_mem _ (List.mem_append_right _ h)
  have hl := lv_entry ([.ref h0]) (n := 1) (Nat.le_of_ble_eq_true rfl)
  rw [lg_entry_eq]
  generalize (lg_sl ([.ref h0]) ++ List.replicate (1 - (lg_sl ([.ref h0])).length) Slot.unset).toArray = ls at hl ⊢
  have hl : lv_has ls 1 [(0, .ref h0)] := hl
  obtain ⟨QQ, hQQ⟩ : ∃ QQ : State → Prop, QQ = MQ below (kQn D (fun u : Nat × Nat × Nat × Nat × Nat => True) (fun u : Nat × Nat × Nat × Nat × Nat => [(h0, .inr (7, [.ref u.1, .ref u.2.1, .ref u.2.2.1, .ref u.2.2.2.1, .ref u.2.2.2.2])), (u.1, .inl (cI, 96, .inl zF)), (u.2.1, .inl (cI, 96, .inl zF)), (u.2.2.1, .inl (cI, 96, .inl zF)), (u.2.2.2.1, .inl (cI, 96, .inl zF)), (u.2.2.2.2, .inl (cI, 96, .inl zF))]) A) ([.ref h0]).toArray sS 5 480 A := ⟨_, rfl⟩
  refine kk_QQ hQQ.symm ?_
  refine lv_aload_n hx hb dX8_init_0 rfl (lv_at hl 0 rfl) ?_
  refine W.objInit hx hb hown hoi1 hoi2 hoi3 rfl (by rw [hml]; exact hl.1) rfl dX8_init_1 (Nat.le_of_ble_eq_true rfl) (Nat.le_of_ble_eq_true rfl) ?_
  refine W.eq (g2 := F0 mM 4 ls []) rfl ?_
  refine lv_aload_n hx hb dX8_init_4 rfl (lv_at hl 0 rfl) ?_
  refine lv_bipush (v := nI 96) hx hb dX8_init_5 (by decide +kernel) ?_
  refine kk_newi (n := 96) hx hb harr hK hP hD hS hA (by decide) (Nat.le_of_ble_eq_true rfl) (Nat.le_of_ble_eq_true rfl) dX8_init_7 (fun na_1 H hP hD hS => ?_)
  have hP : va_P D vwCl [(h0, .inr (7, [.null, .null, .null, .null, .null])), (na_1, .inl (cI, 96, .inl zF))] H := hP
  have hD : va_D A [(h0, .inr (7, [.null, .null, .null, .null, .null])), (na_1, .inl (cI, 96, .inl zF))] := hD
  refine W.widen (k := 1) (n := 96) (by decide) (by decide) ?_
  refine va_putF (D := D) (ci := 7) (v := .ref na_1) (ty := (.array .int)) (C := RX8) (T := TX8) (N := 5) hx hb hts hwX8 tyX8 tyX8_ok nmX8 hown hK hP hD hS 0 rfl rfl 0 (by decide) hf_11 (fun _ h9 => h9) rfl hin rfl (by decide +kernel) rfl rfl (Nat.le_of_ble_eq_true rfl) dX8_init_9 (fun H locs hP hD hS => ?_)
  have hP : va_P D vwCl [(h0, .inr (7, [.ref na_1, .null, .null, .null, .null])), (na_1, .inl (cI, 96, .inl zF))] H := hP
  have hD : va_D A [(h0, .inr (7, [.ref na_1, .null, .null, .null, .null])), (na_1, .inl (cI, 96, .inl zF))] := hD
  refine lv_aload_n hx hb dX8_init_12 rfl (lv_at hl 0 rfl) ?_
  refine lv_bipush (v := nI 96) hx hb dX8_init_13 (by decide +kernel) ?_
  refine kk_newi (n := 96) hx hb harr hK hP hD hS hA (by decide) (Nat.le_of_ble_eq_true rfl) (Nat.le_of_ble_eq_true rfl) dX8_init_15 (fun na_2 H hP hD hS => ?_)
  have hP : va_P D vwCl [(h0, .inr (7, [.ref na_1, .null, .null, .null, .null])), (na_1, .inl (cI, 96, .inl zF)), (na_2, .inl (cI, 96, .inl zF))] H := hP
  have hD : va_D A [(h0, .inr (7, [.ref na_1, .null, .null, .null, .null])), (na_1, .inl (cI, 96, .inl zF)), (na_2, .inl (cI, 96, .inl zF))] := hD
  refine W.widen (k := 2) (n := 192) (by decide) (by decide) ?_
  refine va_putF (D := D) (ci := 7) (v := .ref na_2) (ty := (.array .int)) (C := RX8) (T := TX8) (N := 5) hx hb hts hwX8 tyX8 tyX8_ok nmX8 hown hK hP hD hS 0 rfl rfl 1 (by decide) hf_15 (fun _ h9 => h9) rfl hin rfl (by decide +kernel) rfl rfl (Nat.le_of_ble_eq_true rfl) dX8_init_17 (fun H locs hP hD hS => ?_)
  have hP : va_P D vwCl [(h0, .inr (7, [.ref na_1, .ref na_2, .null, .null, .null])), (na_1, .inl (cI, 96, .inl zF)), (na_2, .inl (cI, 96, .inl zF))] H := hP
  have hD : va_D A [(h0, .inr (7, [.ref na_1, .ref na_2, .null, .null, .null])), (na_1, .inl (cI, 96, .inl zF)), (na_2, .inl (cI, 96, .inl zF))] := hD
  refine lv_aload_n hx hb dX8_init_20 rfl (lv_at hl 0 rfl) ?_
  refine lv_bipush (v := nI 96) hx hb dX8_init_21 (by decide +kernel) ?_
  refine kk_newi (n := 96) hx hb harr hK hP hD hS hA (by decide) (Nat.le_of_ble_eq_true rfl) (Nat.le_of_ble_eq_true rfl) dX8_init_23 (fun na_3 H hP hD hS => ?_)
  have hP : va_P D vwCl [(h0, .inr (7, [.ref na_1, .ref na_2, .null, .null, .null])), (na_1, .inl (cI, 96, .inl zF)), (na_2, .inl (cI, 96, .inl zF)), (na_3, .inl (cI, 96, .inl zF))] H := hP
  have hD : va_D A [(h0, .inr (7, [.ref na_1, .ref na_2, .null, .null, .null])), (na_1, .inl (cI, 96, .inl zF)), (na_2, .inl (cI, 96, .inl zF)), (na_3, .inl (cI, 96, .inl zF))] := hD
  refine W.widen (k := 3) (n := 288) (by decide) (by decide) ?_
  refine va_putF (D := D) (ci := 7) (v := .ref na_3) (ty := (.array .int)) (C := RX8) (T := TX8) (N := 5) hx hb hts hwX8 tyX8 tyX8_ok nmX8 hown hK hP hD hS 0 rfl rfl 2 (by decide) hf_18 (fun _ h9 => h9) rfl hin rfl (by decide +kernel) rfl rfl (Nat.le_of_ble_eq_true rfl) dX8_init_25 (fun H locs hP hD hS => ?_)
  have hP : va_P D vwCl [(h0, .inr (7, [.ref na_1, .ref na_2, .ref na_3, .null, .null])), (na_1, .inl (cI, 96, .inl zF)), (na_2, .inl (cI, 96, .inl zF)), (na_3, .inl (cI, 96, .inl zF))] H := hP
  have hD : va_D A [(h0, .inr (7, [.ref na_1, .ref na_2, .ref na_3, .null, .null])), (na_1, .inl (cI, 96, .inl zF)), (na_2, .inl (cI, 96, .inl zF)), (na_3, .inl (cI, 96, .inl zF))] := hD
  refine lv_aload_n hx hb dX8_init_28 rfl (lv_at hl 0 rfl) ?_
  refine lv_bipush (v := nI 96) hx hb dX8_init_29 (by decide +kernel) ?_
  refine kk_newi (n := 96) hx hb harr hK hP hD hS hA (by decide) (Nat.le_of_ble_eq_true rfl) (Nat.le_of_ble_eq_true rfl) dX8_init_31 (fun na_4 H hP hD hS => ?_)
  have hP : va_P D vwCl [(h0, .inr (7, [.ref na_1, .ref na_2, .ref na_3, .null, .null])), (na_1, .inl (cI, 96, .inl zF)), (na_2, .inl (cI, 96, .inl zF)), (na_3, .inl (cI, 96, .inl zF)), (na_4, .inl (cI, 96, .inl zF))] H := hP
  have hD : va_D A [(h0, .inr (7, [.ref na_1, .ref na_2, .ref na_3, .null, .null])), (na_1, .inl (cI, 96, .inl zF)), (na_2, .inl (cI, 96, .inl zF)), (na_3, .inl (cI, 96, .inl zF)), (na_4, .inl (cI, 96, .inl zF))] := hD
  refine W.widen (k := 4) (n := 384) (by decide) (by decide) ?_
  refine va_putF (D := D) (ci := 7) (v := .ref na_4) (ty := (.array .int)) (C := RX8) (T := TX8) (N := 5) hx hb hts hwX8 tyX8 tyX8_ok nmX8 hown hK hP hD hS 0 rfl rfl 3 (by decide) hf_21 (fun _ h9 => h9) rfl hin rfl (by decide +kernel) rfl rfl (Nat.le_of_ble_eq_true rfl) dX8_init_33 (fun H locs hP hD hS => ?_)
  have hP : va_P D vwCl [(h0, .inr (7, [.ref na_1, .ref na_2, .ref na_3, .ref na_4, .null])), (na_1, .inl (cI, 96, .inl zF)), (na_2, .inl (cI, 96, .inl zF)), (na_3, .inl (cI, 96, .inl zF)), (na_4, .inl (cI, 96, .inl zF))] H := hP
  have hD : va_D A [(h0, .inr (7, [.ref na_1, .ref na_2, .ref na_3, .ref na_4, .null])), (na_1, .inl (cI, 96, .inl zF)), (na_2, .inl (cI, 96, .inl zF)), (na_3, .inl (cI, 96, .inl zF)), (na_4, .inl (cI, 96, .inl zF))] := hD
  refine lv_aload_n hx hb dX8_init_36 rfl (lv_at hl 0 rfl) ?_
  refine lv_bipush (v := nI 96) hx hb dX8_init_37 (by decide +kernel) ?_
  refine kk_newi (n := 96) hx hb harr hK hP hD hS hA (by decide) (Nat.le_of_ble_eq_true rfl) (Nat.le_of_ble_eq_true rfl) dX8_init_39 (fun na_5 H hP hD hS => ?_)
  have hP : va_P D vwCl [(h0, .inr (7, [.ref na_1, .ref na_2, .ref na_3, .ref na_4, .null])), (na_1, .inl (cI, 96, .inl zF)), (na_2, .inl (cI, 96, .inl zF)), (na_3, .inl (cI, 96, .inl zF)), (na_4, .inl (cI, 96, .inl zF)), (na_5, .inl (cI, 96, .inl zF))] H := hP
  have hD : va_D A [(h0, .inr (7, [.ref na_1, .ref na_2, .ref na_3, .ref na_4, .null])), (na_1, .inl (cI, 96, .inl zF)), (na_2, .inl (cI, 96, .inl zF)), (na_3, .inl (cI, 96, .inl zF)), (na_4, .inl (cI, 96, .inl zF)), (na_5, .inl (cI, 96, .inl zF))] := hD
  refine W.widen (k := 5) (n := 480) (by decide) (by decide) ?_
  refine va_putF (D := D) (ci := 7) (v := .ref na_5) (ty := (.array .int)) (C := RX8) (T := TX8) (N := 5) hx hb hts hwX8 tyX8 tyX8_ok nmX8 hown hK hP hD hS 0 rfl rfl 4 (by decide) hf_24 (fun _ h9 => h9) rfl hin rfl (by decide +kernel) rfl rfl (Nat.le_of_ble_eq_true rfl) dX8_init_41 (fun H locs hP hD hS => ?_)
  have hP : va_P D vwCl [(h0, .inr (7, [.ref na_1, .ref na_2, .ref na_3, .ref na_4, .ref na_5])), (na_1, .inl (cI, 96, .inl zF)), (na_2, .inl (cI, 96, .inl zF)), (na_3, .inl (cI, 96, .inl zF)), (na_4, .inl (cI, 96, .inl zF)), (na_5, .inl (cI, 96, .inl zF))] H := hP
  have hD : va_D A [(h0, .inr (7, [.ref na_1, .ref na_2, .ref na_3, .ref na_4, .ref na_5])), (na_1, .inl (cI, 96, .inl zF)), (na_2, .inl (cI, 96, .inl zF)), (na_3, .inl (cI, 96, .inl zF)), (na_4, .inl (cI, 96, .inl zF)), (na_5, .inl (cI, 96, .inl zF))] := hD
  have hP : va_P D vwCl [(h0, .inr (7, [.ref na_1, .ref na_2, .ref na_3, .ref na_4, .ref na_5])), (na_1, .inl (cI, 96, .inl zF)), (na_2, .inl (cI, 96, .inl zF)), (na_3, .inl (cI, 96, .inl zF)), (na_4, .inl (cI, 96, .inl zF)), (na_5, .inl (cI, 96, .inl zF))] H := hP.sub [0, 1, 2, 3, 4, 5] rfl
  have hD : va_D A [(h0, .inr (7, [.ref na_1, .ref na_2, .ref na_3, .ref na_4, .ref na_5])), (na_1, .inl (cI, 96, .inl zF)), (na_2, .inl (cI, 96, .inl zF)), (na_3, .inl (cI, 96, .inl zF)), (na_4, .inl (cI, 96, .inl zF)), (na_5, .inl (cI, 96, .inl zF))] := hD.sub [0, 1, 2, 3, 4, 5] (by decide) rfl
  have hq : True := by trivial
  refine kk_QQ hQQ ?_
  exact W.vret hx hb hr (fun t ht hW => ⟨⟨(na_1, na_2, na_3, na_4, na_5), rfl, hq, by show va_P D vwCl _ t.heap ∧ va_D A _; rw [ht]; exact ⟨hP, hD⟩⟩, hS.F ht⟩) hS.2.2 dX8_init_44

abbrev rmX5_init : Room := { frames := 2, cells := 12, slots := 970, locals := 50 }
set_option maxHeartbeats 4000000 in
set_option maxRecDepth 100000 in
theorem c_X5_init (lL : Launch) (D : va_G) (cI cS : ClassId) (sz : Nat) (h0 : Nat) : Met lL yX5_init wsX5_init rmX5_init (va_Pc [.ref h0] (kB D cI cS [(h0, .inr (4, [.null, .null, .int 0, .int 0]))] sz)) (kQn D (fun u : Nat × Nat × Nat × Nat × Nat × Nat × Nat × Nat × Nat × Nat × Nat × Nat => True) (fun u : Nat × Nat × Nat × Nat × Nat × Nat × Nat × Nat × Nat × Nat × Nat × Nat => [(h0, .inr (4, [.ref u.1, .ref u.2.2.2.2.2.2.1, .int (-9 : Int32), .int (nI 0)])), (u.1, .inr (7, [.ref u.2.1, .ref u.2.2.1, .ref u.2.2.2.1, .ref u.2.2.2.2.1, .ref u.2.2.2.2.2.1])), (u.2.1, .inl (cI, 96, .inl zF)), (u.2.2.1, .inl (cI, 96, .inl zF)), (u.2.2.2.1, .inl (cI, 96, .inl zF)), (u.2.2.2.2.1, .inl (cI, 96, .inl zF)), (u.2.2.2.2.2.1, .inl (cI, 96, .inl zF)), (u.2.2.2.2.2.2.1, .inr (7, [.ref u.2.2.2.2.2.2.2.1, .ref u.2.2.2.2.2.2.2.2.1, .ref u.2.2.2.2.2.2.2.2.2.1, .ref u.2.2.2.2.2.2.2.2.2.2.1, .ref u.2.2.2.2.2.2.2.2.2.2.2])), (u.2.2.2.2.2.2.2.1, .inl (cI, 96, .inl zF)), (u.2.2.2.2.2.2.2.2.1, .inl (cI, 96, .inl zF)), (u.2.2.2.2.2.2.2.2.2.1, .inl (cI, 96, .inl zF)), (u.2.2.2.2.2.2.2.2.2.2.1, .inl (cI, 96, .inl zF)), (u.2.2.2.2.2.2.2.2.2.2.2, .inl (cI, 96, .inl zF))]) (va_A [(h0, .inr (4, [.null, .null, .int 0, .int 0]))] sz)) 12 970 (va_A [(h0, .inr (4, [.null, .null, .int 0, .int 0]))] sz) := by
  refine Met.ofW (cc := cX5_init) (maxL := 1) (ret := none) (by decide) rfl ?_
  intro pP eE sS mM args below meth cC s₁ B hml hv
  obtain ⟨rfl, hsz, hP, hK, hD0⟩ := hv
  have hx := B.exec
  have hb := B.bytes
  have hr := B.returns
  have hts := atoms_spec (ws := wsX5_init) B.pre
  have hown : sS.vm.findClass RX5 = some mM.cls := findClass_of_methodNamed B.named
  have hlocks := B.notSynchronized
  have hin : meth.name = "<init>" := (name_of_methodNamed B.named B.method).1
  subst hsz
  have hD := hD0.self (sz := sS.heap.size)
  generalize hAe : va_A [(h0, .inr (4, [.null, .null, .int 0, .int 0]))] sS.heap.size = A at hD ⊢
  have hA : ∀ q : Nat, sS.heap.size ≤ q → A q := fun q h => by rw [← hAe]; exact Or.inr h
  have hS : va_S A sS.heap sS.heap [] := va_S.rf
  have hP : va_P D vwCl [(h0, .inr (4, [.null, .null, .int 0, .int 0]))] sS.heap := hP
  have hD : va_D A [(h0, .inr (4, [.null, .null, .int 0, .int 0]))] := hD
  have hf_12 := hts (.fieldLink RX5 12 "OldLamps$Search" "now" "LOldLamps$Watches;") (List.mem_of_getElem? (i := 7) rfl)
  have hf_18 := hts (.fieldLink RX5 18 "OldLamps$Search" "then" "LOldLamps$Watches;") (List.mem_of_getElem? (i := 8) rfl)
  have hf_21 := hts (.fieldLink RX5 21 "OldLamps$Search" "bestMove" "I") (List.mem_of_getElem? (i := 9) rfl)
  have hf_25 := hts (.fieldLink RX5 25 "OldLamps$Search" "bestScore" "I") (List.mem_of_getElem? (i := 10) rfl)
  have hi1_X8 := hts (.initialized RX8) (List.mem_of_getElem? (i := 6) rfl)
  have hi2_X8_init := hts (.methodLink RX5 11 yX8_init) (List.mem_of_getElem? (i := 11) rfl)
  have hi3_X8_init := hts (.instanceMethod yX8_init) (List.mem_of_getElem? (i := 12) rfl)
  have hn1_9 := hts (.classLink RX5 9 RX8) (List.mem_of_getElem? (i := 4) rfl)
  have hn2_X8 := hts (.instantiable RX8 5) (List.mem_of_getElem? (i := 5) rfl)
  have hn3_X8 := hts (.initialized RX8) (List.mem_of_getElem? (i := 6) rfl)
  have hoi1 := hts (.methodLink RX5 3 objectInit) (List.mem_of_getElem? (i := 1) rfl)
  have hoi2 := hts (.instanceMethod objectInit) (List.mem_of_getElem? (i := 2) rfl)
  have hoi3 := hts (.code objectInit ⟨#[0xb1]⟩ 1 none) (List.mem_of_getElem? (i := 3) rfl)
  have hwX5 : ∀ w ∈ wsX50, w ∈ wsX5_init := fun _ h => List.mem_cons_of_mem _ (List.mem_append_right _ h)
  have hwX8 : ∀ w ∈ wsX80, w ∈ wsX5_init := fun _ h => List.mem_cons_of_mem _ (List.mem_append_left _ (List.mem_append_right _ h))
  have hl := lv_entry ([.ref h0]) (n := 1) (Nat.le_of_ble_eq_true rfl)
  rw [lg_entry_eq]
  generalize (lg_sl ([.ref h0]) ++ List.replicate (1 - (lg_sl ([.ref h0])).length) Slot.unset).toArray = ls at hl ⊢
  have hl : lv_has ls 1 [(0, .ref h0)] := hl
  obtain ⟨QQ, hQQ⟩ : ∃ QQ : State → Prop, QQ = MQ below (kQn D (fun u : Nat × Nat × Nat × Nat × Nat × Nat × Nat × Nat × Nat × Nat × Nat × Nat => True) (fun u : Nat × Nat × Nat × Nat × Nat × Nat × Nat × Nat × Nat × Nat × Nat × Nat => [(h0, .inr (4, [.ref u.1, .ref u.2.2.2.2.2.2.1, .int (-9 : Int32), .int (nI 0)])), (u.1, .inr (7, [.ref u.2.1, .ref u.2.2.1, .ref u.2.2.2.1, .ref u.2.2.2.2.1, .ref u.2.2.2.2.2.1])), (u.2.1, .inl (cI, 96, .inl zF)), (u.2.2.1, .inl (cI, 96, .inl zF)), (u.2.2.2.1, .inl (cI, 96, .inl zF)), (u.2.2.2.2.1, .inl (cI, 96, .inl zF)), (u.2.2.2.2.2.1, .inl (cI, 96, .inl zF)), (u.2.2.2.2.2.2.1, .inr (7, [.ref u.2.2.2.2.2.2.2.1, .ref u.2.2.2.2.2.2.2.2.1, .ref u.2.2.2.2.2.2.2.2.2.1, .ref u.2.2.2.2.2.2.2.2.2.2.1, .ref u.2.2.2.2.2.2.2.2.2.2.2])), (u.2.2.2.2.2.2.2.1, .inl (cI, 96, .inl zF)), (u.2.2.2.2.2.2.2.2.1, .inl (cI, 96, .inl zF)), (u.2.2.2.2.2.2.2.2.2.1, .inl (cI, 96, .inl zF)), (u.2.2.2.2.2.2.2.2.2.2.1, .inl (cI, 96, .inl zF)), (u.2.2.2.2.2.2.2.2.2.2.2, .inl (cI, 96, .inl zF))]) A) ([.ref h0]).toArray sS 12 970 A := ⟨_, rfl⟩
  refine kk_QQ hQQ.symm ?_
  refine lv_aload_n hx hb dX5_init_0 rfl (lv_at hl 0 rfl) ?_
  refine W.objInit hx hb hown hoi1 hoi2 hoi3 rfl (by rw [hml]; exact hl.1) rfl dX5_init_1 (Nat.le_of_ble_eq_true rfl) (Nat.le_of_ble_eq_true rfl) ?_
  refine W.eq (g2 := F0 mM 4 ls []) rfl ?_
  refine lv_aload_n hx hb dX5_init_4 rfl (lv_at hl 0 rfl) ?_
  refine va_new (ci := 7) (fs := [.null, .null, .null, .null, .null]) (C := RX8) (T := TX8) (N := 5) hx hb hts hwX8 tyX8 tyX8_ok hown hn1_9 hn2_X8 hn3_X8 hK hP hD hS hA rfl (fun j hj => by rcases (show j = 0 ∨ j = 1 ∨ j = 2 ∨ j = 3 ∨ j = 4 by omega) with rfl | rfl | rfl | rfl | rfl <;> rfl) (Nat.le_of_ble_eq_true rfl) (Nat.le_of_ble_eq_true rfl) dX5_init_5 (fun nw_1 H hP hD hS => ?_)
  have hP : va_P D vwCl [(h0, .inr (4, [.null, .null, .int 0, .int 0])), (nw_1, .inr (7, [.null, .null, .null, .null, .null]))] H := hP
  have hD : va_D A [(h0, .inr (4, [.null, .null, .int 0, .int 0])), (nw_1, .inr (7, [.null, .null, .null, .null, .null]))] := hD
  refine W.widen (k := 1) (n := 5) (by decide) (by decide) ?_
  refine lv_dup hx hb dX5_init_8 rfl ?_
  have hF := va_free (wc := [(nw_1, .inr (7, [.null, .null, .null, .null, .null]))]) hD hS hA [1] rfl
  refine va_callv (va_runI (As := []) (rest := [.ref nw_1, .ref h0]) ⟨hx, hb, hml, hown, hts⟩ (c_X8_init lL D cI cS _ nw_1) (cwI 0 hts gX5_init_X8_init rfl rfl rfl hi1_X8 hi2_X8_init hi3_X8_init rfl (by decide +kernel) ⟨Nat.le_of_ble_eq_true rfl, Nat.le_of_ble_eq_true rfl⟩) ⟨kB_blind, fun U hU hW => ⟨rfl, by rw [hU], by rw [hU]; exact hP.sub [1] rfl, va_K.moved hW.alike hK, (hD.sub [1] (by decide) rfl).weaken (fun _ _ _ _ => trivial)⟩⟩ rfl rfl hl.1 rfl (lv_room (Nat.le_of_ble_eq_true rfl)) dX5_init_9 ⟨Nat.le_of_ble_eq_true rfl, Nat.le_of_ble_eq_true rfl⟩) hS (fun q _ h => hF q h) hF (fun u_2 t H1 locs ht hvm hw_2 hB hz1 hk1 hS => ?_)
  obtain ⟨a0_2, a1_2, a2_2, a3_2, a4_2⟩ := u_2
  obtain ⟨hP1, hD1⟩ := hB
  rw [ht] at hP1
  obtain ⟨hP, hD⟩ := va_join (wr := [(h0, .inr (4, [.null, .null, .int 0, .int 0]))]) (w1 := [(nw_1, .inr (7, [.ref a0_2, .ref a1_2, .ref a2_2, .ref a3_2, .ref a4_2])), (a0_2, .inl (cI, 96, .inl zF)), (a1_2, .inl (cI, 96, .inl zF)), (a2_2, .inl (cI, 96, .inl zF)), (a3_2, .inl (cI, 96, .inl zF)), (a4_2, .inl (cI, 96, .inl zF))]) hP hD [1] [0] rfl rfl (by decide) (by decide) hk1 hF hP1 hD1
  clear hF hk1 hz1 hvm hP1 hD1
  clear ht
  generalize H1 = H at hP hS ⊢
  have hP : va_P D vwCl [(h0, .inr (4, [.null, .null, .int 0, .int 0])), (nw_1, .inr (7, [.ref a0_2, .ref a1_2, .ref a2_2, .ref a3_2, .ref a4_2])), (a0_2, .inl (cI, 96, .inl zF)), (a1_2, .inl (cI, 96, .inl zF)), (a2_2, .inl (cI, 96, .inl zF)), (a3_2, .inl (cI, 96, .inl zF)), (a4_2, .inl (cI, 96, .inl zF))] H := hP
  have hD : va_D A [(h0, .inr (4, [.null, .null, .int 0, .int 0])), (nw_1, .inr (7, [.ref a0_2, .ref a1_2, .ref a2_2, .ref a3_2, .ref a4_2])), (a0_2, .inl (cI, 96, .inl zF)), (a1_2, .inl (cI, 96, .inl zF)), (a2_2, .inl (cI, 96, .inl zF)), (a3_2, .inl (cI, 96, .inl zF)), (a4_2, .inl (cI, 96, .inl zF))] := hD
  refine W.widen (k := 6) (n := 485) (by decide) (by decide) ?_
  refine va_putF (D := D) (ci := 4) (v := .ref nw_1) (ty := (.object "OldLamps$Watches")) (C := RX5) (T := TX5) (N := 4) hx hb hts hwX5 tyX5 tyX5_ok nmX5 hown hK hP hD hS 0 rfl rfl 0 (by decide) hf_12 (fun _ h9 => h9) rfl hin rfl (by decide +kernel) rfl rfl (Nat.le_of_ble_eq_true rfl) dX5_init_12 (fun H locs hP hD hS => ?_)
  have hP : va_P D vwCl [(h0, .inr (4, [.ref nw_1, .null, .int 0, .int 0])), (nw_1, .inr (7, [.ref a0_2, .ref a1_2, .ref a2_2, .ref a3_2, .ref a4_2])), (a0_2, .inl (cI, 96, .inl zF)), (a1_2, .inl (cI, 96, .inl zF)), (a2_2, .inl (cI, 96, .inl zF)), (a3_2, .inl (cI, 96, .inl zF)), (a4_2, .inl (cI, 96, .inl zF))] H := hP
  have hD : va_D A [(h0, .inr (4, [.ref nw_1, .null, .int 0, .int 0])), (nw_1, .inr (7, [.ref a0_2, .ref a1_2, .ref a2_2, .ref a3_2, .ref a4_2])), (a0_2, .inl (cI, 96, .inl zF)), (a1_2, .inl (cI, 96, .inl zF)), (a2_2, .inl (cI, 96, .inl zF)), (a3_2, .inl (cI, 96, .inl zF)), (a4_2, .inl (cI, 96, .inl zF))] := hD
  refine lv_aload_n hx hb dX5_init_15 rfl (lv_at hl 0 rfl) ?_
  refine va_new (ci := 7) (fs := [.null, .null, .null, .null, .null]) (C := RX8) (T := TX8) (N := 5) hx hb hts hwX8 tyX8 tyX8_ok hown hn1_9 hn2_X8 hn3_X8 hK hP hD hS hA rfl (fun j hj => by rcases (show j = 0 ∨ j = 1 ∨ j = 2 ∨ j = 3 ∨ j = 4 by omega) with rfl | rfl | rfl | rfl | rfl <;> rfl) (Nat.le_of_ble_eq_true rfl) (Nat.le_of_ble_eq_true rfl) dX5_init_16 (fun nw_3 H hP hD hS => ?_)
  have hP : va_P D vwCl [(h0, .inr (4, [.ref nw_1, .null, .int 0, .int 0])), (nw_1, .inr (7, [.ref a0_2, .ref a1_2, .ref a2_2, .ref a3_2, .ref a4_2])), (a0_2, .inl (cI, 96, .inl zF)), (a1_2, .inl (cI, 96, .inl zF)), (a2_2, .inl (cI, 96, .inl zF)), (a3_2, .inl (cI, 96, .inl zF)), (a4_2, .inl (cI, 96, .inl zF)), (nw_3, .inr (7, [.null, .null, .null, .null, .null]))] H := hP
  have hD : va_D A [(h0, .inr (4, [.ref nw_1, .null, .int 0, .int 0])), (nw_1, .inr (7, [.ref a0_2, .ref a1_2, .ref a2_2, .ref a3_2, .ref a4_2])), (a0_2, .inl (cI, 96, .inl zF)), (a1_2, .inl (cI, 96, .inl zF)), (a2_2, .inl (cI, 96, .inl zF)), (a3_2, .inl (cI, 96, .inl zF)), (a4_2, .inl (cI, 96, .inl zF)), (nw_3, .inr (7, [.null, .null, .null, .null, .null]))] := hD
  refine W.widen (k := 7) (n := 490) (by decide) (by decide) ?_
  refine lv_dup hx hb dX5_init_19 rfl ?_
  have hF := va_free (wc := [(nw_3, .inr (7, [.null, .null, .null, .null, .null]))]) hD hS hA [7] rfl
  refine va_callv (va_runI (As := []) (rest := [.ref nw_3, .ref h0]) ⟨hx, hb, hml, hown, hts⟩ (c_X8_init lL D cI cS _ nw_3) (cwI 0 hts gX5_init_X8_init rfl rfl rfl hi1_X8 hi2_X8_init hi3_X8_init rfl (by decide +kernel) ⟨Nat.le_of_ble_eq_true rfl, Nat.le_of_ble_eq_true rfl⟩) ⟨kB_blind, fun U hU hW => ⟨rfl, by rw [hU], by rw [hU]; exact hP.sub [7] rfl, va_K.moved hW.alike hK, (hD.sub [7] (by decide) rfl).weaken (fun _ _ _ _ => trivial)⟩⟩ rfl rfl hl.1 rfl (lv_room (Nat.le_of_ble_eq_true rfl)) dX5_init_20 ⟨Nat.le_of_ble_eq_true rfl, Nat.le_of_ble_eq_true rfl⟩) hS (fun q _ h => hF q h) hF (fun u_4 t H1 locs ht hvm hw_4 hB hz1 hk1 hS => ?_)
  obtain ⟨a0_4, a1_4, a2_4, a3_4, a4_4⟩ := u_4
  obtain ⟨hP1, hD1⟩ := hB
  rw [ht] at hP1
  obtain ⟨hP, hD⟩ := va_join (wr := [(h0, .inr (4, [.ref nw_1, .null, .int 0, .int 0])), (nw_1, .inr (7, [.ref a0_2, .ref a1_2, .ref a2_2, .ref a3_2, .ref a4_2])), (a0_2, .inl (cI, 96, .inl zF)), (a1_2, .inl (cI, 96, .inl zF)), (a2_2, .inl (cI, 96, .inl zF)), (a3_2, .inl (cI, 96, .inl zF)), (a4_2, .inl (cI, 96, .inl zF))]) (w1 := [(nw_3, .inr (7, [.ref a0_4, .ref a1_4, .ref a2_4, .ref a3_4, .ref a4_4])), (a0_4, .inl (cI, 96, .inl zF)), (a1_4, .inl (cI, 96, .inl zF)), (a2_4, .inl (cI, 96, .inl zF)), (a3_4, .inl (cI, 96, .inl zF)), (a4_4, .inl (cI, 96, .inl zF))]) hP hD [7] [0, 1, 2, 3, 4, 5, 6] rfl rfl (by decide) (by decide) hk1 hF hP1 hD1
  clear hF hk1 hz1 hvm hP1 hD1
  clear ht
  generalize H1 = H at hP hS ⊢
  have hP : va_P D vwCl [(h0, .inr (4, [.ref nw_1, .null, .int 0, .int 0])), (nw_1, .inr (7, [.ref a0_2, .ref a1_2, .ref a2_2, .ref a3_2, .ref a4_2])), (a0_2, .inl (cI, 96, .inl zF)), (a1_2, .inl (cI, 96, .inl zF)), (a2_2, .inl (cI, 96, .inl zF)), (a3_2, .inl (cI, 96, .inl zF)), (a4_2, .inl (cI, 96, .inl zF)), (nw_3, .inr (7, [.ref a0_4, .ref a1_4, .ref a2_4, .ref a3_4, .ref a4_4])), (a0_4, .inl (cI, 96, .inl zF)), (a1_4, .inl (cI, 96, .inl zF)), (a2_4, .inl (cI, 96, .inl zF)), (a3_4, .inl (cI, 96, .inl zF)), (a4_4, .inl (cI, 96, .inl zF))] H := hP
  have hD : va_D A [(h0, .inr (4, [.ref nw_1, .null, .int 0, .int 0])), (nw_1, .inr (7, [.ref a0_2, .ref a1_2, .ref a2_2, .ref a3_2, .ref a4_2])), (a0_2, .inl (cI, 96, .inl zF)), (a1_2, .inl (cI, 96, .inl zF)), (a2_2, .inl (cI, 96, .inl zF)), (a3_2, .inl (cI, 96, .inl zF)), (a4_2, .inl (cI, 96, .inl zF)), (nw_3, .inr (7, [.ref a0_4, .ref a1_4, .ref a2_4, .ref a3_4, .ref a4_4])), (a0_4, .inl (cI, 96, .inl zF)), (a1_4, .inl (cI, 96, .inl zF)), (a2_4, .inl (cI, 96, .inl zF)), (a3_4, .inl (cI, 96, .inl zF)), (a4_4, .inl (cI, 96, .inl zF))] := hD
  refine W.widen (k := 12) (n := 970) (by decide) (by decide) ?_
  refine va_putF (D := D) (ci := 4) (v := .ref nw_3) (ty := (.object "OldLamps$Watches")) (C := RX5) (T := TX5) (N := 4) hx hb hts hwX5 tyX5 tyX5_ok nmX5 hown hK hP hD hS 0 rfl rfl 1 (by decide) hf_18 (fun _ h9 => h9) rfl hin rfl (by decide +kernel) rfl rfl (Nat.le_of_ble_eq_true rfl) dX5_init_23 (fun H locs hP hD hS => ?_)
  have hP : va_P D vwCl [(h0, .inr (4, [.ref nw_1, .ref nw_3, .int 0, .int 0])), (nw_1, .inr (7, [.ref a0_2, .ref a1_2, .ref a2_2, .ref a3_2, .ref a4_2])), (a0_2, .inl (cI, 96, .inl zF)), (a1_2, .inl (cI, 96, .inl zF)), (a2_2, .inl (cI, 96, .inl zF)), (a3_2, .inl (cI, 96, .inl zF)), (a4_2, .inl (cI, 96, .inl zF)), (nw_3, .inr (7, [.ref a0_4, .ref a1_4, .ref a2_4, .ref a3_4, .ref a4_4])), (a0_4, .inl (cI, 96, .inl zF)), (a1_4, .inl (cI, 96, .inl zF)), (a2_4, .inl (cI, 96, .inl zF)), (a3_4, .inl (cI, 96, .inl zF)), (a4_4, .inl (cI, 96, .inl zF))] H := hP
  have hD : va_D A [(h0, .inr (4, [.ref nw_1, .ref nw_3, .int 0, .int 0])), (nw_1, .inr (7, [.ref a0_2, .ref a1_2, .ref a2_2, .ref a3_2, .ref a4_2])), (a0_2, .inl (cI, 96, .inl zF)), (a1_2, .inl (cI, 96, .inl zF)), (a2_2, .inl (cI, 96, .inl zF)), (a3_2, .inl (cI, 96, .inl zF)), (a4_2, .inl (cI, 96, .inl zF)), (nw_3, .inr (7, [.ref a0_4, .ref a1_4, .ref a2_4, .ref a3_4, .ref a4_4])), (a0_4, .inl (cI, 96, .inl zF)), (a1_4, .inl (cI, 96, .inl zF)), (a2_4, .inl (cI, 96, .inl zF)), (a3_4, .inl (cI, 96, .inl zF)), (a4_4, .inl (cI, 96, .inl zF))] := hD
  refine lv_aload_n hx hb dX5_init_26 rfl (lv_at hl 0 rfl) ?_
  refine lv_bipush (v := (-9 : Int32)) hx hb dX5_init_27 (by decide +kernel) ?_
  refine va_put (D := D) (ci := 4) (v := .int (-9 : Int32)) (ty := .int) (C := RX5) (T := TX5) (N := 4) hx hb hts hwX5 tyX5 tyX5_ok nmX5 hown hK hP hD hS 0 rfl rfl 2 (by decide) hf_21 (fun _ h9 => h9) rfl (by decide +kernel) rfl rfl (Nat.le_of_ble_eq_true rfl) dX5_init_29 (fun H locs hP hD hS => ?_)
  have hP : va_P D vwCl [(h0, .inr (4, [.ref nw_1, .ref nw_3, .int (-9 : Int32), .int 0])), (nw_1, .inr (7, [.ref a0_2, .ref a1_2, .ref a2_2, .ref a3_2, .ref a4_2])), (a0_2, .inl (cI, 96, .inl zF)), (a1_2, .inl (cI, 96, .inl zF)), (a2_2, .inl (cI, 96, .inl zF)), (a3_2, .inl (cI, 96, .inl zF)), (a4_2, .inl (cI, 96, .inl zF)), (nw_3, .inr (7, [.ref a0_4, .ref a1_4, .ref a2_4, .ref a3_4, .ref a4_4])), (a0_4, .inl (cI, 96, .inl zF)), (a1_4, .inl (cI, 96, .inl zF)), (a2_4, .inl (cI, 96, .inl zF)), (a3_4, .inl (cI, 96, .inl zF)), (a4_4, .inl (cI, 96, .inl zF))] H := hP
  have hD : va_D A [(h0, .inr (4, [.ref nw_1, .ref nw_3, .int (-9 : Int32), .int 0])), (nw_1, .inr (7, [.ref a0_2, .ref a1_2, .ref a2_2, .ref a3_2, .ref a4_2])), (a0_2, .inl (cI, 96, .inl zF)), (a1_2, .inl (cI, 96, .inl zF)), (a2_2, .inl (cI, 96, .inl zF)), (a3_2, .inl (cI, 96, .inl zF)), (a4_2, .inl (cI, 96, .inl zF)), (nw_3, .inr (7, [.ref a0_4, .ref a1_4, .ref a2_4, .ref a3_4, .ref a4_4])), (a0_4, .inl (cI, 96, .inl zF)), (a1_4, .inl (cI, 96, .inl zF)), (a2_4, .inl (cI, 96, .inl zF)), (a3_4, .inl (cI, 96, .inl zF)), (a4_4, .inl (cI, 96, .inl zF))] := hD
  refine lv_aload_n hx hb dX5_init_32 rfl (lv_at hl 0 rfl) ?_
  refine lv_iconst (v := nI 0) hx hb dX5_init_33 (by decide +kernel) ?_
  refine va_put (D := D) (ci := 4) (v := .int (nI 0)) (ty := .int) (C := RX5) (T := TX5) (N := 4) hx hb hts hwX5 tyX5 tyX5_ok nmX5 hown hK hP hD hS 0 rfl rfl 3 (by decide) hf_25 (fun _ h9 => h9) rfl (by decide +kernel) rfl rfl (Nat.le_of_ble_eq_true rfl) dX5_init_34 (fun H locs hP hD hS => ?_)
  have hP : va_P D vwCl [(h0, .inr (4, [.ref nw_1, .ref nw_3, .int (-9 : Int32), .int (nI 0)])), (nw_1, .inr (7, [.ref a0_2, .ref a1_2, .ref a2_2, .ref a3_2, .ref a4_2])), (a0_2, .inl (cI, 96, .inl zF)), (a1_2, .inl (cI, 96, .inl zF)), (a2_2, .inl (cI, 96, .inl zF)), (a3_2, .inl (cI, 96, .inl zF)), (a4_2, .inl (cI, 96, .inl zF)), (nw_3, .inr (7, [.ref a0_4, .ref a1_4, .ref a2_4, .ref a3_4, .ref a4_4])), (a0_4, .inl (cI, 96, .inl zF)), (a1_4, .inl (cI, 96, .inl zF)), (a2_4, .inl (cI, 96, .inl zF)), (a3_4, .inl (cI, 96, .inl zF)), (a4_4, .inl (cI, 96, .inl zF))] H := hP
  have hD : va_D A [(h0, .inr (4, [.ref nw_1, .ref nw_3, .int (-9 : Int32), .int (nI 0)])), (nw_1, .inr (7, [.ref a0_2, .ref a1_2, .ref a2_2, .ref a3_2, .ref a4_2])), (a0_2, .inl (cI, 96, .inl zF)), (a1_2, .inl (cI, 96, .inl zF)), (a2_2, .inl (cI, 96, .inl zF)), (a3_2, .inl (cI, 96, .inl zF)), (a4_2, .inl (cI, 96, .inl zF)), (nw_3, .inr (7, [.ref a0_4, .ref a1_4, .ref a2_4, .ref a3_4, .ref a4_4])), (a0_4, .inl (cI, 96, .inl zF)), (a1_4, .inl (cI, 96, .inl zF)), (a2_4, .inl (cI, 96, .inl zF)), (a3_4, .inl (cI, 96, .inl zF)), (a4_4, .inl (cI, 96, .inl zF))] := hD
  have hP : va_P D vwCl [(h0, .inr (4, [.ref nw_1, .ref nw_3, .int (-9 : Int32), .int (nI 0)])), (nw_1, .inr (7, [.ref a0_2, .ref a1_2, .ref a2_2, .ref a3_2, .ref a4_2])), (a0_2, .inl (cI, 96, .inl zF)), (a1_2, .inl (cI, 96, .inl zF)), (a2_2, .inl (cI, 96, .inl zF)), (a3_2, .inl (cI, 96, .inl zF)), (a4_2, .inl (cI, 96, .inl zF)), (nw_3, .inr (7, [.ref a0_4, .ref a1_4, .ref a2_4, .ref a3_4, .ref a4_4])), (a0_4, .inl (cI, 96, .inl zF)), (a1_4, .inl (cI, 96, .inl zF)), (a2_4, .inl (cI, 96, .inl zF)), (a3_4, .inl (cI, 96, .inl zF)), (a4_4, .inl (cI, 96, .inl zF))] H := hP.sub [0, 1, 2, 3, 4, 5, 6, 7, 8, 9, 10, 11, 12] rfl
  have hD : va_D A [(h0, .inr (4, [.ref nw_1, .ref nw_3, .int (-9 : Int32), .int (nI 0)])), (nw_1, .inr (7, [.ref a0_2, .ref a1_2, .ref a2_2, .ref a3_2, .ref a4_2])), (a0_2, .inl (cI, 96, .inl zF)), (a1_2, .inl (cI, 96, .inl zF)), (a2_2, .inl (cI, 96, .inl zF)), (a3_2, .inl (cI, 96, .inl zF)), (a4_2, .inl (cI, 96, .inl zF)), (nw_3, .inr (7, [.ref a0_4, .ref a1_4, .ref a2_4, .ref a3_4, .ref a4_4])), (a0_4, .inl (cI, 96, .inl zF)), (a1_4, .inl (cI, 96, .inl zF)), (a2_4, .inl (cI, 96, .inl zF)), (a3_4, .inl (cI, 96, .inl zF)), (a4_4, .inl (cI, 96, .inl zF))] := hD.sub [0, 1, 2, 3, 4, 5, 6, 7, 8, 9, 10, 11, 12] (by decide) rfl
  have hq : True := by trivial
  refine kk_QQ hQQ ?_
  exact W.vret hx hb hr (fun t ht hW => ⟨⟨(nw_1, a0_2, a1_2, a2_2, a3_2, a4_2, nw_3, a0_4, a1_4, a2_4, a3_4, a4_4), rfl, hq, by show va_P D vwCl _ t.heap ∧ va_D A _; rw [ht]; exact ⟨hP, hD⟩⟩, hS.F ht⟩) hS.2.2 dX5_init_37
