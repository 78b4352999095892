/-! ===== a request ===== -/
theorem upd_id (m : Nat → Int32) (j : Nat) : upd m j (m j) = m := by
  funext i
  by_cases h : i = j
  · subst h; rw [upd_same]
  · rw [upd_ne _ _ h]
theorem Rel.turn {F E t : Nat} {σ : hs_T} {m : Nat → Int32} (h : Rel F E t σ m) {r : Nat} (hr5 : r < 5) (x : Int32) : Rel F E t (phr σ r 2 x) (upd m (70 + r) x) := by
  obtain ⟨hw, e, c, hN, hM, hR, hSt, hU, hL, hG⟩ := h
  have lo : ∀ j, j ≠ 70 + r → upd m (70 + r) x j = m j := fun j hj => upd_ne _ _ hj
  obtain ⟨n1, n2, n3, n4, n5, n6, n7, n8, n9, n10⟩ := hN
  refine ⟨hw.put (by omega) _, e, c, ⟨n1, by rw [lo 103 (by omega)]; exact n2, n3, n4, by rw [lo 109 (by omega)]; exact n5, n6, n7, by rw [lo 107 (by omega)]; exact n8, n9, n10⟩, hM.cong rfl (fun j hj => lo j (by omega)), ?_, hSt.cong rfl rfl rfl (fun j hj => lo j (by omega)), hU.cong rfl rfl rfl (fun j hj => lo j (by omega)), hL.cong rfl rfl (fun j hj => lo j (by omega)), hG.cong (fun j hj => lo j (by omega))⟩
  intro q hq
  obtain ⟨a0, a1, a2, a3, a4, a5, a6, a7, a8, a9, a10⟩ := hR q hq
  have hi : rIns (upd m (70 + r) x) (nI q) = rIns m (nI q) := rIns_cong (fun j hj => lo j (by omega)) _
  have rd : ∀ j, j ≠ 2 → hr (phr σ r 2 x) q j = hr σ q j := fun j hj => by rw [phr_rd, if_neg (by omega)]
  rw [hi, lo (60 + q) (by omega), lo (65 + q) (by omega), lo (75 + q) (by omega), lo (80 + q) (by omega), lo (85 + q) (by omega), lo (90 + q) (by omega), lo (95 + q) (by omega), rd 0 (by omega), rd 1 (by omega), rd 3 (by omega), rd 4 (by omega), rd 5 (by omega), rd 6 (by omega), rd 7 (by omega), rd 8 (by omega)]
  refine ⟨a0, a1, ?_, a3, a4, a5, a6, a7, a8, a9, a10⟩
  rw [phr_rd]
  by_cases hqr : q = r
  · subst hqr
    rw [if_pos ⟨rfl, rfl⟩, upd_same]
  · rw [if_neg (by omega), lo (70 + q) (by omega)]
    exact a2
theorem line_short {σ : hs_T} {m : Nat → Int32} (hL : RLine σ m) {k : Nat} (hk : k < 12) (h1 : ¬ m k = 1) : hLn σ < 12 := by
  have a := line_ct hL (fun q => decide (m q = 1)) (fun q hq z => of_decide_eq_true z)
  have b : fb_ct (fun j => decide (m (hPl σ j) = 1)) (hLn σ) = hLn σ := fb_ct_all.mpr (fun j hj => decide_eq_true (hL.2.2.1 j hj).2.2)
  rw [b] at a
  have d := fb_ct_le (fun q => decide (m q = 1)) 12
  by_cases hz : hLn σ = 12
  · rw [hz] at a
    have := fb_ct_all.mp a k hk
    exact absurd (of_decide_eq_true this) h1
  · omega

