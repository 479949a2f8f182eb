theorem sX9_coast {p : Program} {l : Launch} {e : Env} {s : State} {m : MethodId} {args : Array Value} {below : List Frame} {meth : Method} {c : Code} {H : Heap} {locs : List Loc} {Q : State → Prop} {D : va_G} {cI cS : ClassId} {A : Nat → Prop} {ls : Array Slot} {k n : Nat} {ad : Nat → Nat} {C : Co} {T E : Mv} {rl : Nat → Int32} {ln : Nat → Nat} {cf : Nat → Nat → Int32} {tr ft : Int32} {w wO : va_W} (F : LF p s m args c) (hK : va_K D vwCl (kT cI cS) s) (hls : ls.size = 4) (hk : k + 1 ≤ 600000) (hn : n + 9 ≤ 7302250) (hR : RX ad cI cS C T E rl ln cf tr ft w) (hX : okX C T E) (hP : va_P D vwCl (w ++ wO) H) (hD : va_D A (w ++ wO)) (hS : va_S A s.heap H locs) (hA : ∀ q, s.heap.size ≤ q → A q) (x1 x2 x3 x4 : Int32) {J0 : Nat} (hlen : ∀ j, j < 4 → ln j ≤ 60) (hj : jx x1 = J0)
    (kk : ∀ (w' : va_W) (H1 : Heap) (locs1 : List Loc), RX ad cI cS (bif ok_coast (rl J0) (ln J0) (cf J0) x1 x2 x3 x4 then nC (cdT (cf J0) (tn x3) (tn x4)) else C) (bif ok_coast (rl J0) (ln J0) (cf J0) x1 x2 x3 x4 then mZ else T) (bif ok_coast (rl J0) (ln J0) (cf J0) x1 x2 x3 x4 then mZ else E) rl ln cf tr (nf_coast (rl J0) (ln J0) x1 x2 x3 x4) w' → va_P D vwCl (w' ++ wO) H1 → va_D A (w' ++ wO) → va_S A s.heap H1 locs1 → W p l e room_1 s m args below meth c H1 locs1 (k + 1) (n + 9) Q (F0 m 212 ls [.int (sp_coast (rl J0) (ln J0) (cf J0) x1 x2 x3 x4)])) : W p l e room_1 s m args below meth c H locs k n Q (F0 m 209 ls [.int x4, .int x3, .int x2, .int x1, .ref (ad 0)]) := by
  have h4 : J0 = 0 ∨ J0 = 1 ∨ J0 = 2 ∨ J0 = 3 := by rw [← hj]; exact jx_4 _
  rcases h4 with rfl | rfl | rfl | rfl
  · exact sX9_coast_0 F hK hls hk hn hR hX hP hD hS hA x1 x2 x3 x4 hlen hj kk
  · exact sX9_coast_1 F hK hls hk hn hR hX hP hD hS hA x1 x2 x3 x4 hlen hj kk
  · exact sX9_coast_2 F hK hls hk hn hR hX hP hD hS hA x1 x2 x3 x4 hlen hj kk
  · exact sX9_coast_3 F hK hls hk hn hR hX hP hD hS hA x1 x2 x3 x4 hlen hj kk

theorem sX9_moves {p : Program} {l : Launch} {e : Env} {s : State} {m : MethodId} {args : Array Value} {below : List Frame} {meth : Method} {c : Code} {H : Heap} {locs : List Loc} {Q : State → Prop} {D : va_G} {cI cS : ClassId} {A : Nat → Prop} {ls : Array Slot} {k n : Nat} {ad : Nat → Nat} {C : Co} {T E : Mv} {rl : Nat → Int32} {ln : Nat → Nat} {cf : Nat → Nat → Int32} {tr ft : Int32} {w wO : va_W} (F : LF p s m args c) (hK : va_K D vwCl (kT cI cS) s) (hls : ls.size = 4) (hk : k + 1 ≤ 600000) (hn : n + 9 ≤ 7302250) (hR : RX ad cI cS C T E rl ln cf tr ft w) (hX : okX C T E) (hP : va_P D vwCl (w ++ wO) H) (hD : va_D A (w ++ wO)) (hS : va_S A s.heap H locs) (hA : ∀ q, s.heap.size ≤ q → A q) (x1 x2 x3 x4 x5 x6 : Int32) {J0 : Nat} (hlen : ∀ j, j < 4 → ln j ≤ 60) (hj : jx x3 = J0)
    (kk : ∀ (w' : va_W) (H1 : Heap) (locs1 : List Loc), RX ad cI cS C T E rl ln cf tr (nf_moves C (rl J0) (ln J0) x1 x2 x3 x4 x5 x6) w' → va_P D vwCl (w' ++ wO) H1 → va_D A (w' ++ wO) → va_S A s.heap H1 locs1 → W p l e room_1 s m args below meth c H1 locs1 (k + 1) (n + 9) Q (F0 m 738 ls [.int (sp_moves C (rl J0) (ln J0) (cf J0) x1 x2 x3 x4 x5 x6)])) : W p l e room_1 s m args below meth c H locs k n Q (F0 m 735 ls [.int x6, .int x5, .int x4, .int x3, .int x2, .int x1, .ref (ad 0)]) := by
  have h4 : J0 = 0 ∨ J0 = 1 ∨ J0 = 2 ∨ J0 = 3 := by rw [← hj]; exact jx_4 _
  rcases h4 with rfl | rfl | rfl | rfl
  · exact sX9_moves_0 F hK hls hk hn hR hX hP hD hS hA x1 x2 x3 x4 x5 x6 hlen hj kk
  · exact sX9_moves_1 F hK hls hk hn hR hX hP hD hS hA x1 x2 x3 x4 x5 x6 hlen hj kk
  · exact sX9_moves_2 F hK hls hk hn hR hX hP hD hS hA x1 x2 x3 x4 x5 x6 hlen hj kk
  · exact sX9_moves_3 F hK hls hk hn hR hX hP hD hS hA x1 x2 x3 x4 x5 x6 hlen hj kk

theorem sX9_sheet {p : Program} {l : Launch} {e : Env} {s : State} {m : MethodId} {args : Array Value} {below : List Frame} {meth : Method} {c : Code} {H : Heap} {locs : List Loc} {Q : State → Prop} {D : va_G} {cI cS : ClassId} {A : Nat → Prop} {ls : Array Slot} {k n : Nat} {ad : Nat → Nat} {C : Co} {T E : Mv} {rl : Nat → Int32} {ln : Nat → Nat} {cf : Nat → Nat → Int32} {tr ft : Int32} {w wO : va_W} (F : LF p s m args c) (hK : va_K D vwCl (kT cI cS) s) (hls : ls.size = 4) (hk : k + 1 ≤ 600000) (hn : n + 9 ≤ 7302250) (hR : RX ad cI cS C T E rl ln cf tr ft w) (hX : okX C T E) (hP : va_P D vwCl (w ++ wO) H) (hD : va_D A (w ++ wO)) (hS : va_S A s.heap H locs) (hA : ∀ q, s.heap.size ≤ q → A q) (x1 x2 x3 : Int32) {J0 : Nat} (hlen : ∀ j, j < 4 → ln j ≤ 60) (hj : jx x1 = J0)
    (kk : ∀ (cf2 : Nat → Int32) (_ : bif ok_sheet x1 x2 x3 then ∀ j, j < tn x3 → cf2 j = nI 0 else cf2 = cf J0) (w' : va_W) (H1 : Heap) (locs1 : List Loc), RX ad cI cS C T E (setf rl J0 (bif ok_sheet x1 x2 x3 then x2 else rl J0)) (setf ln J0 (bif ok_sheet x1 x2 x3 then tn x3 else ln J0)) (setf cf J0 cf2) tr (nf_sheet x1 x2 x3) w' → va_P D vwCl (w' ++ wO) H1 → va_D A (w' ++ wO) → va_S A s.heap H1 locs1 → W p l e room_1 s m args below meth c H1 locs1 (k + 1) (n + 9) Q (F0 m 1022 ls [.int (sp_sheet x1 x2 x3)])) : W p l e room_1 s m args below meth c H locs k n Q (F0 m 1019 ls [.int x3, .int x2, .int x1, .ref (ad 0)]) := by
  have h4 : J0 = 0 ∨ J0 = 1 ∨ J0 = 2 ∨ J0 = 3 := by rw [← hj]; exact jx_4 _
  rcases h4 with rfl | rfl | rfl | rfl
  · exact sX9_sheet_0 F hK hls hk hn hR hX hP hD hS hA x1 x2 x3 hlen hj kk
  · exact sX9_sheet_1 F hK hls hk hn hR hX hP hD hS hA x1 x2 x3 hlen hj kk
  · exact sX9_sheet_2 F hK hls hk hn hR hX hP hD hS hA x1 x2 x3 hlen hj kk
  · exact sX9_sheet_3 F hK hls hk hn hR hX hP hD hS hA x1 x2 x3 hlen hj kk

theorem sX9_lose {p : Program} {l : Launch} {e : Env} {s : State} {m : MethodId} {args : Array Value} {below : List Frame} {meth : Method} {c : Code} {H : Heap} {locs : List Loc} {Q : State → Prop} {D : va_G} {cI cS : ClassId} {A : Nat → Prop} {ls : Array Slot} {k n : Nat} {ad : Nat → Nat} {C : Co} {T E : Mv} {rl : Nat → Int32} {ln : Nat → Nat} {cf : Nat → Nat → Int32} {tr ft : Int32} {w wO : va_W} (F : LF p s m args c) (hK : va_K D vwCl (kT cI cS) s) (hls : ls.size = 4) (hk : k + 1 ≤ 600000) (hn : n + 9 ≤ 7302250) (hR : RX ad cI cS C T E rl ln cf tr ft w) (hX : okX C T E) (hP : va_P D vwCl (w ++ wO) H) (hD : va_D A (w ++ wO)) (hS : va_S A s.heap H locs) (hA : ∀ q, s.heap.size ≤ q → A q) (x1 : Int32) {J0 : Nat} (hlen : ∀ j, j < 4 → ln j ≤ 60) (hj : jx x1 = J0)
    (kk : ∀ (w' : va_W) (H1 : Heap) (locs1 : List Loc), RX ad cI cS C T E (setf rl J0 (bif ok_lose (rl J0) x1 then (-1) else rl J0)) (setf ln J0 (bif ok_lose (rl J0) x1 then 0 else ln J0)) cf tr ft w' → va_P D vwCl (w' ++ wO) H1 → va_D A (w' ++ wO) → va_S A s.heap H1 locs1 → W p l e room_1 s m args below meth c H1 locs1 (k + 1) (n + 9) Q (F0 m 1055 ls [.int (sp_lose (rl J0) x1)])) : W p l e room_1 s m args below meth c H locs k n Q (F0 m 1052 ls [.int x1, .ref (ad 0)]) := by
  have h4 : J0 = 0 ∨ J0 = 1 ∨ J0 = 2 ∨ J0 = 3 := by rw [← hj]; exact jx_4 _
  rcases h4 with rfl | rfl | rfl | rfl
  · exact sX9_lose_0 F hK hls hk hn hR hX hP hD hS hA x1 hlen hj kk
  · exact sX9_lose_1 F hK hls hk hn hR hX hP hD hS hA x1 hlen hj kk
  · exact sX9_lose_2 F hK hls hk hn hR hX hP hD hS hA x1 hlen hj kk
  · exact sX9_lose_3 F hK hls hk hn hR hX hP hD hS hA x1 hlen hj kk

theorem sX9_put {p : Program} {l : Launch} {e : Env} {s : State} {m : MethodId} {args : Array Value} {below : List Frame} {meth : Method} {c : Code} {H : Heap} {locs : List Loc} {Q : State → Prop} {D : va_G} {cI cS : ClassId} {A : Nat → Prop} {ls : Array Slot} {k n : Nat} {ad : Nat → Nat} {C : Co} {T E : Mv} {rl : Nat → Int32} {ln : Nat → Nat} {cf : Nat → Nat → Int32} {tr ft : Int32} {w wO : va_W} (F : LF p s m args c) (hK : va_K D vwCl (kT cI cS) s) (hls : ls.size = 4) (hk : k + 1 ≤ 600000) (hn : n + 9 ≤ 7302250) (hR : RX ad cI cS C T E rl ln cf tr ft w) (hX : okX C T E) (hP : va_P D vwCl (w ++ wO) H) (hD : va_D A (w ++ wO)) (hS : va_S A s.heap H locs) (hA : ∀ q, s.heap.size ≤ q → A q) (x1 x2 x3 : Int32) {J0 : Nat} (hlen : ∀ j, j < 4 → ln j ≤ 60) (hj : jx x1 = J0)
    (kk : ∀ (w' : va_W) (H1 : Heap) (locs1 : List Loc), RX ad cI cS C T E rl ln (setf cf J0 (bif ok_put (rl J0) (ln J0) x1 x2 then upd (cf J0) (tn x2) (cutL (rl J0) x3) else cf J0)) tr (nf_put (rl J0) (ln J0) x1 x2) w' → va_P D vwCl (w' ++ wO) H1 → va_D A (w' ++ wO) → va_S A s.heap H1 locs1 → W p l e room_1 s m args below meth c H1 locs1 (k + 1) (n + 9) Q (F0 m 1088 ls [.int (sp_put (rl J0) (ln J0) x1 x2)])) : W p l e room_1 s m args below meth c H locs k n Q (F0 m 1085 ls [.int x3, .int x2, .int x1, .ref (ad 0)]) := by
  have h4 : J0 = 0 ∨ J0 = 1 ∨ J0 = 2 ∨ J0 = 3 := by rw [← hj]; exact jx_4 _
  rcases h4 with rfl | rfl | rfl | rfl
  · exact sX9_put_0 F hK hls hk hn hR hX hP hD hS hA x1 x2 x3 hlen hj kk
  · exact sX9_put_1 F hK hls hk hn hR hX hP hD hS hA x1 x2 x3 hlen hj kk
  · exact sX9_put_2 F hK hls hk hn hR hX hP hD hS hA x1 x2 x3 hlen hj kk
  · exact sX9_put_3 F hK hls hk hn hR hX hP hD hS hA x1 x2 x3 hlen hj kk

theorem sX9_cell {p : Program} {l : Launch} {e : Env} {s : State} {m : MethodId} {args : Array Value} {below : List Frame} {meth : Method} {c : Code} {H : Heap} {locs : List Loc} {Q : State → Prop} {D : va_G} {cI cS : ClassId} {A : Nat → Prop} {ls : Array Slot} {k n : Nat} {ad : Nat → Nat} {C : Co} {T E : Mv} {rl : Nat → Int32} {ln : Nat → Nat} {cf : Nat → Nat → Int32} {tr ft : Int32} {w wO : va_W} (F : LF p s m args c) (hK : va_K D vwCl (kT cI cS) s) (hls : ls.size = 4) (hk : k + 1 ≤ 600000) (hn : n + 9 ≤ 7302250) (hR : RX ad cI cS C T E rl ln cf tr ft w) (hX : okX C T E) (hP : va_P D vwCl (w ++ wO) H) (hD : va_D A (w ++ wO)) (hS : va_S A s.heap H locs) (hA : ∀ q, s.heap.size ≤ q → A q) (x1 x2 x3 : Int32) {J0 : Nat} (hlen : ∀ j, j < 4 → ln j ≤ 60) (hj : jx x1 = J0)
    (kk : ∀ (w' : va_W) (H1 : Heap) (locs1 : List Loc), RX ad cI cS C T E rl ln cf tr (nf_cell (rl J0) (ln J0) x1 x2 x3) w' → va_P D vwCl (w' ++ wO) H1 → va_D A (w' ++ wO) → va_S A s.heap H1 locs1 → W p l e room_1 s m args below meth c H1 locs1 (k + 1) (n + 9) Q (F0 m 1131 ls [.long (sp_cell (rl J0) (ln J0) (cf J0) x1 x2 x3)])) : W p l e room_1 s m args below meth c H locs k n Q (F0 m 1128 ls [.int x3, .int x2, .int x1, .ref (ad 0)]) := by
  have h4 : J0 = 0 ∨ J0 = 1 ∨ J0 = 2 ∨ J0 = 3 := by rw [← hj]; exact jx_4 _
  rcases h4 with rfl | rfl | rfl | rfl
  · exact sX9_cell_0 F hK hls hk hn hR hX hP hD hS hA x1 x2 x3 hlen hj kk
  · exact sX9_cell_1 F hK hls hk hn hR hX hP hD hS hA x1 x2 x3 hlen hj kk
  · exact sX9_cell_2 F hK hls hk hn hR hX hP hD hS hA x1 x2 x3 hlen hj kk
  · exact sX9_cell_3 F hK hls hk hn hR hX hP hD hS hA x1 x2 x3 hlen hj kk

theorem sX9_copy {p : Program} {l : Launch} {e : Env} {s : State} {m : MethodId} {args : Array Value} {below : List Frame} {meth : Method} {c : Code} {H : Heap} {locs : List Loc} {Q : State → Prop} {D : va_G} {cI cS : ClassId} {A : Nat → Prop} {ls : Array Slot} {k n : Nat} {ad : Nat → Nat} {C : Co} {T E : Mv} {rl : Nat → Int32} {ln : Nat → Nat} {cf : Nat → Nat → Int32} {tr ft : Int32} {w wO : va_W} (F : LF p s m args c) (hK : va_K D vwCl (kT cI cS) s) (hls : ls.size = 4) (hk : k + 1 ≤ 600000) (hn : n + 9 ≤ 7302250) (hR : RX ad cI cS C T E rl ln cf tr ft w) (hX : okX C T E) (hP : va_P D vwCl (w ++ wO) H) (hD : va_D A (w ++ wO)) (hS : va_S A s.heap H locs) (hA : ∀ q, s.heap.size ≤ q → A q) (x1 x2 x3 x4 x5 : Int32) {J0 K0 : Nat} (hlen : ∀ j, j < 4 → ln j ≤ 60) (hj : jx x1 = J0) (hj2 : jx x3 = K0)
    (kk : ∀ (w' : va_W) (H1 : Heap) (locs1 : List Loc), RX ad cI cS C T E rl ln (setf cf K0 (bif ok_copy (rl J0) (ln J0) (rl K0) (ln K0) x1 x2 x3 x4 x5 then va_cpy (cf J0) (cf K0) (tn x2) (tn x4) (tn x5) else cf K0)) tr (nf_copy (rl J0) (ln J0) (rl K0) (ln K0) x1 x2 x3 x4 x5) w' → va_P D vwCl (w' ++ wO) H1 → va_D A (w' ++ wO) → va_S A s.heap H1 locs1 → W p l e room_1 s m args below meth c H1 locs1 (k + 1) (n + 9) Q (F0 m 1185 ls [.int (sp_copy (rl J0) (ln J0) (rl K0) (ln K0) x1 x2 x3 x4 x5)])) : W p l e room_1 s m args below meth c H locs k n Q (F0 m 1182 ls [.int x5, .int x4, .int x3, .int x2, .int x1, .ref (ad 0)]) := by
  have h4 : J0 = 0 ∨ J0 = 1 ∨ J0 = 2 ∨ J0 = 3 := by rw [← hj]; exact jx_4 _
  have h5 : K0 = 0 ∨ K0 = 1 ∨ K0 = 2 ∨ K0 = 3 := by rw [← hj2]; exact jx_4 _
  rcases h4 with rfl | rfl | rfl | rfl <;> rcases h5 with rfl | rfl | rfl | rfl
  · exact sX9_copy_0_0 F hK hls hk hn hR hX hP hD hS hA x1 x2 x3 x4 x5 hlen hj hj2 kk
  · exact sX9_copy_0_1 F hK hls hk hn hR hX hP hD hS hA x1 x2 x3 x4 x5 hlen hj hj2 kk
  · exact sX9_copy_0_2 F hK hls hk hn hR hX hP hD hS hA x1 x2 x3 x4 x5 hlen hj hj2 kk
  · exact sX9_copy_0_3 F hK hls hk hn hR hX hP hD hS hA x1 x2 x3 x4 x5 hlen hj hj2 kk
  · exact sX9_copy_1_0 F hK hls hk hn hR hX hP hD hS hA x1 x2 x3 x4 x5 hlen hj hj2 kk
  · exact sX9_copy_1_1 F hK hls hk hn hR hX hP hD hS hA x1 x2 x3 x4 x5 hlen hj hj2 kk
  · exact sX9_copy_1_2 F hK hls hk hn hR hX hP hD hS hA x1 x2 x3 x4 x5 hlen hj hj2 kk
  · exact sX9_copy_1_3 F hK hls hk hn hR hX hP hD hS hA x1 x2 x3 x4 x5 hlen hj hj2 kk
  · exact sX9_copy_2_0 F hK hls hk hn hR hX hP hD hS hA x1 x2 x3 x4 x5 hlen hj hj2 kk
  · exact sX9_copy_2_1 F hK hls hk hn hR hX hP hD hS hA x1 x2 x3 x4 x5 hlen hj hj2 kk
  · exact sX9_copy_2_2 F hK hls hk hn hR hX hP hD hS hA x1 x2 x3 x4 x5 hlen hj hj2 kk
  · exact sX9_copy_2_3 F hK hls hk hn hR hX hP hD hS hA x1 x2 x3 x4 x5 hlen hj hj2 kk
  · exact sX9_copy_3_0 F hK hls hk hn hR hX hP hD hS hA x1 x2 x3 x4 x5 hlen hj hj2 kk
  · exact sX9_copy_3_1 F hK hls hk hn hR hX hP hD hS hA x1 x2 x3 x4 x5 hlen hj hj2 kk
  · exact sX9_copy_3_2 F hK hls hk hn hR hX hP hD hS hA x1 x2 x3 x4 x5 hlen hj hj2 kk
  · exact sX9_copy_3_3 F hK hls hk hn hR hX hP hD hS hA x1 x2 x3 x4 x5 hlen hj hj2 kk
