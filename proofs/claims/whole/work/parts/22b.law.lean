set_option maxHeartbeats 4000000 in
set_option maxRecDepth 100000 in
theorem law_sw {p : Program} {l : Launch} {e : Env} {s : State} {m : MethodId} {args : Array Value} {below : List Frame} {meth : Method} {c : Code} {H : Heap} {locs : List Loc} {Q : State → Prop} {ls : Array Slot} {k n : Nat} (hx : p.tables.exec = Jvm.exec) (hb : c.code = cL_law) {v : Int32} (h : ∀ t ∈ [1347, 188, 241, 264, 287, 320, 353, 376, 419, 442, 475, 508, 541, 574, 617, 660, 703, 778, 801, 844, 867, 890, 913, 926, 949, 1003, 1046, 1069, 1112, 1156, 1219, 1242, 1265, 1298, 1311, 1324], W p l e room_1 s m args below meth c H locs k n Q (F0 m t ls [])) : W p l e room_1 s m args below meth c H locs k n Q (F0 m 33 ls [.int v]) := by
  by_cases h1 : v.toInt < 0
  · exact lv_tableOut (tgt := 1347) hx hb dL_law_33 (Or.inl h1) (by decide) (h _ (by decide))
  · by_cases h2 : 34 < v.toInt
    · exact lv_tableOut (tgt := 1347) hx hb dL_law_33 (Or.inr h2) (by decide) (h _ (by decide))
    · obtain ⟨z1, z2⟩ := kk_ofInt (x := v) (by omega)
      generalize v.toInt.toNat = nn at z1 z2
      subst z2
      rw [nI_toInt z1] at h1 h2
      have h3 : nn = 0 ∨ nn = 1 ∨ nn = 2 ∨ nn = 3 ∨ nn = 4 ∨ nn = 5 ∨ nn = 6 ∨ nn = 7 ∨ nn = 8 ∨ nn = 9 ∨ nn = 10 ∨ nn = 11 ∨ nn = 12 ∨ nn = 13 ∨ nn = 14 ∨ nn = 15 ∨ nn = 16 ∨ nn = 17 ∨ nn = 18 ∨ nn = 19 ∨ nn = 20 ∨ nn = 21 ∨ nn = 22 ∨ nn = 23 ∨ nn = 24 ∨ nn = 25 ∨ nn = 26 ∨ nn = 27 ∨ nn = 28 ∨ nn = 29 ∨ nn = 30 ∨ nn = 31 ∨ nn = 32 ∨ nn = 33 ∨ nn = 34 := by omega
      rcases h3 with rfl | rfl | rfl | rfl | rfl | rfl | rfl | rfl | rfl | rfl | rfl | rfl | rfl | rfl | rfl | rfl | rfl | rfl | rfl | rfl | rfl | rfl | rfl | rfl | rfl | rfl | rfl | rfl | rfl | rfl | rfl | rfl | rfl | rfl | rfl
      · exact lv_tableIn (tgt := 188) (off := 155) hx hb dL_law_33 (by rw [nI_toInt (by decide)]; decide) (by rw [nI_toInt (by decide)]; decide) (by rw [nI_toInt (by decide)]; rfl) (by decide) (h _ (by decide))
      · exact lv_tableIn (tgt := 241) (off := 208) hx hb dL_law_33 (by rw [nI_toInt (by decide)]; decide) (by rw [nI_toInt (by decide)]; decide) (by rw [nI_toInt (by decide)]; rfl) (by decide) (h _ (by decide))
      · exact lv_tableIn (tgt := 264) (off := 231) hx hb dL_law_33 (by rw [nI_toInt (by decide)]; decide) (by rw [nI_toInt (by decide)]; decide) (by rw [nI_toInt (by decide)]; rfl) (by decide) (h _ (by decide))
      · exact lv_tableIn (tgt := 287) (off := 254) hx hb dL_law_33 (by rw [nI_toInt (by decide)]; decide) (by rw [nI_toInt (by decide)]; decide) (by rw [nI_toInt (by decide)]; rfl) (by decide) (h _ (by decide))
      · exact lv_tableIn (tgt := 320) (off := 287) hx hb dL_law_33 (by rw [nI_toInt (by decide)]; decide) (by rw [nI_toInt (by decide)]; decide) (by rw [nI_toInt (by decide)]; rfl) (by decide) (h _ (by decide))
      · exact lv_tableIn (tgt := 353) (off := 320) hx hb dL_law_33 (by rw [nI_toInt (by decide)]; decide) (by rw [nI_toInt (by decide)]; decide) (by rw [nI_toInt (by decide)]; rfl) (by decide) (h _ (by decide))
      · exact lv_tableIn (tgt := 376) (off := 343) hx hb dL_law_33 (by rw [nI_toInt (by decide)]; decide) (by rw [nI_toInt (by decide)]; decide) (by rw [nI_toInt (by decide)]; rfl) (by decide) (h _ (by decide))
      · exact lv_tableIn (tgt := 419) (off := 386) hx hb dL_law_33 (by rw [nI_toInt (by decide)]; decide) (by rw [nI_toInt (by decide)]; decide) (by rw [nI_toInt (by decide)]; rfl) (by decide) (h _ (by decide))
      · exact lv_tableIn (tgt := 442) (off := 409) hx hb dL_law_33 (by rw [nI_toInt (by decide)]; decide) (by rw [nI_toInt (by decide)]; decide) (by rw [nI_toInt (by decide)]; rfl) (by decide) (h _ (by decide))
      · exact lv_tableIn (tgt := 475) (off := 442) hx hb dL_law_33 (by rw [nI_toInt (by decide)]; decide) (by rw [nI_toInt (by decide)]; decide) (by rw [nI_toInt (by decide)]; rfl) (by decide) (h _ (by decide))
      · exact lv_tableIn (tgt := 508) (off := 475) hx hb dL_law_33 (by rw [nI_toInt (by decide)]; decide) (by rw [nI_toInt (by decide)]; decide) (by rw [nI_toInt (by decide)]; rfl) (by decide) (h _ (by decide))
      · exact lv_tableIn (tgt := 541) (off := 508) hx hb dL_law_33 (by rw [nI_toInt (by decide)]; decide) (by rw [nI_toInt (by decide)]; decide) (by rw [nI_toInt (by decide)]; rfl) (by decide) (h _ (by decide))
      · exact lv_tableIn (tgt := 574) (off := 541) hx hb dL_law_33 (by rw [nI_toInt (by decide)]; decide) (by rw [nI_toInt (by decide)]; decide) (by rw [nI_toInt (by decide)]; rfl) (by decide) (h _ (by decide))
      · exact lv_tableIn (tgt := 617) (off := 584) hx hb dL_law_33 (by rw [nI_toInt (by decide)]; decide) (by rw [nI_toInt (by decide)]; decide) (by rw [nI_toInt (by decide)]; rfl) (by decide) (h _ (by decide))
      · exact lv_tableIn (tgt := 660) (off := 627) hx hb dL_law_33 (by rw [nI_toInt (by decide)]; decide) (by rw [nI_toInt (by decide)]; decide) (by rw [nI_toInt (by decide)]; rfl) (by decide) (h _ (by decide))
      · exact lv_tableIn (tgt := 703) (off := 670) hx hb dL_law_33 (by rw [nI_toInt (by decide)]; decide) (by rw [nI_toInt (by decide)]; decide) (by rw [nI_toInt (by decide)]; rfl) (by decide) (h _ (by decide))
      · exact lv_tableIn (tgt := 778) (off := 745) hx hb dL_law_33 (by rw [nI_toInt (by decide)]; decide) (by rw [nI_toInt (by decide)]; decide) (by rw [nI_toInt (by decide)]; rfl) (by decide) (h _ (by decide))
      · exact lv_tableIn (tgt := 801) (off := 768) hx hb dL_law_33 (by rw [nI_toInt (by decide)]; decide) (by rw [nI_toInt (by decide)]; decide) (by rw [nI_toInt (by decide)]; rfl) (by decide) (h _ (by decide))
      · exact lv_tableIn (tgt := 844) (off := 811) hx hb dL_law_33 (by rw [nI_toInt (by decide)]; decide) (by rw [nI_toInt (by decide)]; decide) (by rw [nI_toInt (by decide)]; rfl) (by decide) (h _ (by decide))
      · exact lv_tableIn (tgt := 867) (off := 834) hx hb dL_law_33 (by rw [nI_toInt (by decide)]; decide) (by rw [nI_toInt (by decide)]; decide) (by rw [nI_toInt (by decide)]; rfl) (by decide) (h _ (by decide))
      · exact lv_tableIn (tgt := 890) (off := 857) hx hb dL_law_33 (by rw [nI_toInt (by decide)]; decide) (by rw [nI_toInt (by decide)]; decide) (by rw [nI_toInt (by decide)]; rfl) (by decide) (h _ (by decide))
      · exact lv_tableIn (tgt := 913) (off := 880) hx hb dL_law_33 (by rw [nI_toInt (by decide)]; decide) (by rw [nI_toInt (by decide)]; decide) (by rw [nI_toInt (by decide)]; rfl) (by decide) (h _ (by decide))
      · exact lv_tableIn (tgt := 926) (off := 893) hx hb dL_law_33 (by rw [nI_toInt (by decide)]; decide) (by rw [nI_toInt (by decide)]; decide) (by rw [nI_toInt (by decide)]; rfl) (by decide) (h _ (by decide))
      · exact lv_tableIn (tgt := 949) (off := 916) hx hb dL_law_33 (by rw [nI_toInt (by decide)]; decide) (by rw [nI_toInt (by decide)]; decide) (by rw [nI_toInt (by decide)]; rfl) (by decide) (h _ (by decide))
      · exact lv_tableIn (tgt := 1003) (off := 970) hx hb dL_law_33 (by rw [nI_toInt (by decide)]; decide) (by rw [nI_toInt (by decide)]; decide) (by rw [nI_toInt (by decide)]; rfl) (by decide) (h _ (by decide))
      · exact lv_tableIn (tgt := 1046) (off := 1013) hx hb dL_law_33 (by rw [nI_toInt (by decide)]; decide) (by rw [nI_toInt (by decide)]; decide) (by rw [nI_toInt (by decide)]; rfl) (by decide) (h _ (by decide))
      · exact lv_tableIn (tgt := 1069) (off := 1036) hx hb dL_law_33 (by rw [nI_toInt (by decide)]; decide) (by rw [nI_toInt (by decide)]; decide) (by rw [nI_toInt (by decide)]; rfl) (by decide) (h _ (by decide))
      · exact lv_tableIn (tgt := 1112) (off := 1079) hx hb dL_law_33 (by rw [nI_toInt (by decide)]; decide) (by rw [nI_toInt (by decide)]; decide) (by rw [nI_toInt (by decide)]; rfl) (by decide) (h _ (by decide))
      · exact lv_tableIn (tgt := 1156) (off := 1123) hx hb dL_law_33 (by rw [nI_toInt (by decide)]; decide) (by rw [nI_toInt (by decide)]; decide) (by rw [nI_toInt (by decide)]; rfl) (by decide) (h _ (by decide))
      · exact lv_tableIn (tgt := 1219) (off := 1186) hx hb dL_law_33 (by rw [nI_toInt (by decide)]; decide) (by rw [nI_toInt (by decide)]; decide) (by rw [nI_toInt (by decide)]; rfl) (by decide) (h _ (by decide))
      · exact lv_tableIn (tgt := 1242) (off := 1209) hx hb dL_law_33 (by rw [nI_toInt (by decide)]; decide) (by rw [nI_toInt (by decide)]; decide) (by rw [nI_toInt (by decide)]; rfl) (by decide) (h _ (by decide))
      · exact lv_tableIn (tgt := 1265) (off := 1232) hx hb dL_law_33 (by rw [nI_toInt (by decide)]; decide) (by rw [nI_toInt (by decide)]; decide) (by rw [nI_toInt (by decide)]; rfl) (by decide) (h _ (by decide))
      · exact lv_tableIn (tgt := 1298) (off := 1265) hx hb dL_law_33 (by rw [nI_toInt (by decide)]; decide) (by rw [nI_toInt (by decide)]; decide) (by rw [nI_toInt (by decide)]; rfl) (by decide) (h _ (by decide))
      · exact lv_tableIn (tgt := 1311) (off := 1278) hx hb dL_law_33 (by rw [nI_toInt (by decide)]; decide) (by rw [nI_toInt (by decide)]; decide) (by rw [nI_toInt (by decide)]; rfl) (by decide) (h _ (by decide))
      · exact lv_tableIn (tgt := 1324) (off := 1291) hx hb dL_law_33 (by rw [nI_toInt (by decide)]; decide) (by rw [nI_toInt (by decide)]; decide) (by rw [nI_toInt (by decide)]; rfl) (by decide) (h _ (by decide))
