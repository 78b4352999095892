/-! ===== setters, collapse ===== -/
theorem Rel.cap {F E t : Nat} {σ : hs_T} {m : Nat → Int32} (h : Rel F E t σ m) {r : Nat} (hr5 : r < 5) {x : Int32} (hx : 1 ≤ x) : Rel F E t (phr σ r 0 x) (upd m (60 + r) x) := by
  obtain ⟨hw, e, c, hN, hM, hR, hSt, hU, hL, hG⟩ := h
  have lo : ∀ j, j ≠ 60 + r → upd m (60 + r) x j = m j := fun j hj => upd_ne _ _ hj
  obtain ⟨n1, n2, n3, n4, n5, n6, n7, n8, n9, n10⟩ := hN
  refine ⟨hw.put (by omega) _, e, c, ⟨n1, by rw [lo 103 (by omega)]; exact n2, n3, n4, by rw [lo 109 (by omega)]; exact n5, n6, n7, by rw [lo 107 (by omega)]; exact n8, n9, n10⟩, hM.cong rfl (fun j hj => lo j (by omega)), ?_, hSt.cong rfl rfl rfl (fun j hj => lo j (by omega)), hU.cong rfl rfl rfl (fun j hj => lo j (by omega)), hL.cong rfl rfl (fun j hj => lo j (by omega)), hG.cong (fun j hj => lo j (by omega))⟩
  intro q hq
  obtain ⟨a0, a1, a2, a3, a4, a5, a6, a7, a8, a9, a10⟩ := hR q hq
  have hi : rIns (upd m (60 + r) x) (nI q) = rIns m (nI q) := rIns_cong (fun j hj => lo j (by omega)) _
  have rd : ∀ j, j ≠ 0 → hr (phr σ r 0 x) q j = hr σ q j := fun j hj => by rw [phr_rd, if_neg (by omega)]
  rw [hi, lo (65 + q) (by omega), lo (70 + q) (by omega), lo (75 + q) (by omega), lo (80 + q) (by omega), lo (85 + q) (by omega), lo (90 + q) (by omega), lo (95 + q) (by omega), rd 1 (by omega), rd 2 (by omega), rd 3 (by omega), rd 4 (by omega), rd 5 (by omega), rd 6 (by omega), rd 7 (by omega), rd 8 (by omega)]
  have hz : hr (phr σ r 0 x) q 0 = upd m (60 + r) x (60 + q) ∧ 1 ≤ upd m (60 + r) x (60 + q) := by
    rw [phr_rd]
    by_cases hqr : q = r
    · subst hqr
      rw [if_pos ⟨rfl, rfl⟩, upd_same]
      exact ⟨rfl, hx⟩
    · rw [if_neg (by omega), lo (60 + q) (by omega)]
      exact ⟨a0, a9⟩
  exact ⟨hz.1, a1, a2, a3, a4, a5, a6, a7, a8, hz.2, a10⟩
theorem Rel.share {F E t : Nat} {σ : hs_T} {m : Nat → Int32} (h : Rel F E t σ m) {r : Nat} (hr5 : r < 5) {x : Int32} (hx : 1 ≤ x) : Rel F E t (phr σ r 1 x) (upd m (65 + r) x) := by
  obtain ⟨hw, e, c, hN, hM, hR, hSt, hU, hL, hG⟩ := h
  have lo : ∀ j, j ≠ 65 + r → upd m (65 + r) x j = m j := fun j hj => upd_ne _ _ hj
  have hx0 : ¬ x = 0 := by
    intro z
    rw [z] at hx
    exact absurd hx (by decide)
  obtain ⟨n1, n2, n3, n4, n5, n6, n7, n8, n9, n10⟩ := hN
  have hw' : RW (upd m (65 + r) x) := by
    refine ⟨fun k hk => ?_, ?_, fun q hq => ?_, fun j hj => ?_⟩
    · rw [lo k (by omega), lo (12 + k) (by omega)]; exact hw.1 k hk
    · rw [lo 108 (by omega)]; exact hw.2.1
    · by_cases hqr : q = r
      · subst hqr
        rw [upd_same]
        exact hx0
      · rw [lo (65 + q) (by omega)]; exact hw.2.2.1 q hq
    · rw [lo j (by omega)]; exact hw.2.2.2 j hj
  refine ⟨hw', e, c, ⟨n1, by rw [lo 103 (by omega)]; exact n2, n3, n4, by rw [lo 109 (by omega)]; exact n5, n6, n7, by rw [lo 107 (by omega)]; exact n8, n9, n10⟩, hM.cong rfl (fun j hj => lo j (by omega)), ?_, hSt.cong rfl rfl rfl (fun j hj => lo j (by omega)), hU.cong rfl rfl rfl (fun j hj => lo j (by omega)), hL.cong rfl rfl (fun j hj => lo j (by omega)), hG.cong (fun j hj => lo j (by omega))⟩
  intro q hq
  obtain ⟨a0, a1, a2, a3, a4, a5, a6, a7, a8, a9, a10⟩ := hR q hq
  have hi : rIns (upd m (65 + r) x) (nI q) = rIns m (nI q) := rIns_cong (fun j hj => lo j (by omega)) _
  have rd : ∀ j, j ≠ 1 → hr (phr σ r 1 x) q j = hr σ q j := fun j hj => by rw [phr_rd, if_neg (by omega)]
  rw [hi, lo (60 + q) (by omega), lo (70 + q) (by omega), lo (75 + q) (by omega), lo (80 + q) (by omega), lo (85 + q) (by omega), lo (90 + q) (by omega), lo (95 + q) (by omega), rd 0 (by omega), rd 2 (by omega), rd 3 (by omega), rd 4 (by omega), rd 5 (by omega), rd 6 (by omega), rd 7 (by omega), rd 8 (by omega)]
  have hz : hr (phr σ r 1 x) q 1 = upd m (65 + r) x (65 + q) ∧ 1 ≤ upd m (65 + r) x (65 + q) := by
    rw [phr_rd]
    by_cases hqr : q = r
    · subst hqr
      rw [if_pos ⟨rfl, rfl⟩, upd_same]
      exact ⟨rfl, hx⟩
    · rw [if_neg (by omega), lo (65 + q) (by omega)]
      exact ⟨a1, a10⟩
  exact ⟨a0, hz.1, a2, a3, a4, a5, a6, a7, a8, a9, hz.2⟩
theorem Rel.rule {F E t : Nat} {σ : hs_T} {m : Nat → Int32} (h : Rel F E t σ m) {r n : Nat} (hr3 : r < 3) {x : Int32} (hx : x = nI n) (h1 : 1 ≤ n) (h0 : r = 0 → n ≤ 100) (h2 : r = 2 → n ≤ 50) : Rel F E t (phu σ r x) (upd m (100 + r) x) := by
  obtain ⟨hw, e, c, hN, hM, hR, hSt, hU, hL, hG⟩ := h
  have lo : ∀ j, j ≠ 100 + r → upd m (100 + r) x j = m j := fun j hj => upd_ne _ _ hj
  obtain ⟨n1, n2, n3, n4, n5, n6, n7, n8, n9, n10⟩ := hN
  refine ⟨hw.put (by omega) _, e, c, ⟨n1, by rw [lo 103 (by omega)]; exact n2, n3, n4, by rw [lo 109 (by omega)]; exact n5, n6, n7, by rw [lo 107 (by omega)]; exact n8, n9, n10⟩, hM.cong rfl (fun j hj => lo j (by omega)), hR.cong rfl (fun j hj => lo j (by omega)), ?_, hU.cong rfl rfl rfl (fun j hj => lo j (by omega)), hL.cong rfl rfl (fun j hj => lo j (by omega)), hG.cong (fun j hj => lo j (by omega))⟩
  obtain ⟨u0, u1, u2, u6, u7, hp, hv⟩ := hSt
  have rd : ∀ j, hu (phu σ r x) j = if j = r then x else hu σ j := fun j => rfl
  have e106 : upd m (100 + r) x 106 = m 106 := lo 106 (by omega)
  have e110 : upd m (100 + r) x 110 = m 110 := lo 110 (by omega)
  have key : ∀ j, j < 3 → hu σ j = m (100 + j) → hu (phu σ r x) j = upd m (100 + r) x (100 + j) := by
    intro j hj hjj
    rw [rd]
    by_cases hz : j = r
    · subst hz
      rw [if_pos rfl, upd_same]
    · rw [if_neg hz, lo (100 + j) (by omega)]
      exact hjj
  refine ⟨key 0 (by omega) u0, key 1 (by omega) u1, key 2 (by omega) u2, by rw [e106]; exact u6, by rw [e110]; exact u7, ?_, ?_⟩
  · by_cases hz : r = 0
    · subst hz
      exact ⟨n, h1, h0 rfl, by rw [upd_same]; exact hx⟩
    · rw [lo 100 (by omega)]
      exact hp
  · by_cases hz : r = 2
    · subst hz
      exact ⟨n, h1, h2 rfl, by rw [upd_same]; exact hx⟩
    · rw [lo 102 (by omega)]
      exact hv

