/-- behind a call: the world as a list that is given whole -/
theorem kk_join2 {A0 : Nat → Prop} {D : va_G} {cl : List vw_C} {ws wc w1 ws' wr : va_W} {H H1 : Heap} (hP : va_P D cl ws H) (hD : va_D A0 ws) (isC isR : List Nat) (hC : isC.map (fun i => ws[i]?) = wc.map some) (hC' : isC.map (fun i => ws'[i]?) = w1.map some) (hR1 : isR.map (fun i => ws'[i]?) = wr.map some) (hR2 : isR.map (fun i => ws[i]?) = wr.map some) (n : Nat) (hn : ws'.length = n) (hall : (List.range n).all (fun k => isC.contains k || isR.contains k) = true) (ads : List Nat) (ha1 : ws'.map Prod.fst = ads) (ha2 : ws.map Prod.fst = ads)
    (hk : ∀ q : Nat, q < H.size → ¬ va_A wc H.size q → H1[q]? = H[q]?) (hP1 : va_P D cl w1 H1) : va_P D cl ws' H1 ∧ va_D A0 ws' := by
  refine ⟨fun k q hq => ?_, kk_D (ha1.trans ha2.symm) hD⟩
  have hkn : k < n := by rw [← hn]; exact (List.getElem?_eq_some_iff.mp hq).1
  have h1 := List.all_eq_true.mp hall k (List.mem_range.mpr hkn)
  by_cases hc : k ∈ isC
  · obtain ⟨j, hj⟩ := List.getElem?_of_mem hc
    have h3 : (isC.map (fun i => ws'[i]?))[j]? = some (ws'[k]?) := by rw [List.getElem?_map, hj]; rfl
    rw [hC', List.getElem?_map, hq] at h3
    cases h4 : w1[j]? with
    | none => rw [h4] at h3; cases h3
    | some z =>
      rw [h4] at h3
      have h5 : z = q := Option.some.inj (Option.some.inj h3)
      rw [h5] at h4
      exact hP1 j q h4
  · have hr : k ∈ isR := by simpa [hc] using h1
    obtain ⟨j, hj⟩ := List.getElem?_of_mem hr
    have h3 : (isR.map (fun i => ws'[i]?))[j]? = some (ws'[k]?) := by rw [List.getElem?_map, hj]; rfl
    rw [hR1.trans hR2.symm, List.getElem?_map, hj, hq] at h3
    have h4 : ws[k]? = some q := Option.some.inj h3
    refine (hP k q h4).kept (hk q.1 (hP k q h4).lt ?_)
    rintro (⟨j2, e, h⟩ | h)
    · have h5 : (isC.map (fun i => ws[i]?))[j2]? = some (some (q.1, e)) := by rw [hC, List.getElem?_map, h]; rfl
      rw [List.getElem?_map] at h5
      cases hi : isC[j2]? with
      | none => rw [hi] at h5; cases h5
      | some i =>
        rw [hi] at h5
        have h6 : ws[i]? = some (q.1, e) := Option.some.inj h5
        have h7 := hD.1 k i q (q.1, e) h4 h6 rfl
        subst h7
        exact hc (List.mem_of_getElem? hi)
    · have h8 := (hP k q h4).lt
      omega
