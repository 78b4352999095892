/-! ===== collapse ===== -/
theorem rCol_ne (m : Nat → Int32) {k j : Nat} (h1 : j ≠ k) (h2 : j ≠ 24 + k) (h3 : j ≠ 36 + k) : rCol m k j = m j := by
  rw [rCol, upd_ne _ _ h3, upd_ne _ _ h2, upd_ne _ _ h1]
theorem rCol_k (m : Nat → Int32) (k : Nat) : rCol m k k = 3 := by
  rw [rCol, upd_ne _ _ (by omega), upd_ne _ _ (by omega), upd_same]
theorem rCol_s (m : Nat → Int32) {k : Nat} (hk : k < 12) : rCol m k (24 + k) = m 103 := by
  rw [rCol, upd_ne _ _ (by omega), upd_same, upd_ne _ _ (by omega)]
theorem rCol_x (m : Nat → Int32) (k : Nat) : rCol m k (36 + k) = 0 := by
  rw [rCol, upd_same]
theorem Rel.col {F E t : Nat} {σ : hs_T} {m : Nat → Int32} (h : Rel F E t σ m) {k : Nat} (hk : k < 12) (h2 : m k = 2) : Rel F E t (hBe σ k 3 (hm σ k 1) (hf σ 5) 0) (rCol m k) := by
  obtain ⟨hw, e, c, hN, hM, hR, hSt, hU, hL, hG⟩ := h
  have lo : ∀ j, j ≠ k → j ≠ 24 + k → j ≠ 36 + k → rCol m k j = m j := fun j a b d => rCol_ne m a b d
  have hroom : ∀ q, q < 12 → rCol m k (12 + q) = m (12 + q) := fun q hq => lo _ (by omega) (by omega) (by omega)
  have hin : ∀ q, q < 12 → (1 < rCol m k q ↔ 1 < m q) := by
    intro q hq
    by_cases hqk : q = k
    · subst hqk
      rw [rCol_k, h2]
      exact ⟨fun _ => by decide, fun _ => by decide⟩
    · rw [lo q hqk (by omega) (by omega)]
  have h1k : 1 < m k := by rw [h2]; decide
  have hiu : rInUse (rCol m k) = rInUse m := rInUse_of (fun q hq z => by rw [hroom q hq]; exact hU.2.1 q hq ((hin q hq).mp z)) hk ((hin k hk).mpr h1k)
  have hins : ∀ x, rIns (rCol m k) x = rIns m x := fun x => fb_ct_cong (fun q hq => by rw [hroom q hq]; congr 1; exact decide_eq_decide.mpr (hin q hq))
  obtain ⟨n1, n2, n3, n4, n5, n6, n7, n8, n9, n10⟩ := hN
  refine ⟨?_, e, c, ⟨n1, by rw [lo 103 (by omega) (by omega) (by omega)]; exact n2, n3, n4, by rw [lo 109 (by omega) (by omega) (by omega)]; exact n5, n6, n7, by rw [lo 107 (by omega) (by omega) (by omega)]; exact n8, n9, n10⟩, ?_, ?_, hSt.cong rfl rfl rfl (fun j hj => lo j (by omega) (by omega) (by omega)), ⟨?_, ?_, ?_, ?_, ?_⟩, ?_, hG.cong (fun j hj => lo j (by omega) (by omega) (by omega))⟩
  · refine ⟨fun q hq => ?_, by rw [lo 108 (by omega) (by omega) (by omega)]; exact hw.2.1, fun r hr => by rw [lo (65 + r) (by omega) (by omega) (by omega)]; exact hw.2.2.1 r hr, fun j hj => by rw [lo j (by omega) (by omega) (by omega)]; exact hw.2.2.2 j hj⟩
    by_cases hqk : q = k
    · subst hqk
      rw [hroom q hq]
      exact Or.inr ((hw.1 q hq).resolve_left (by rw [h2]; decide))
    · rw [lo q hqk (by omega) (by omega), hroom q hq]
      exact hw.1 q hq
  · intro q hq
    obtain ⟨⟨a0, a1, a2, a3⟩, b, hs, g, w⟩ := hM q hq
    rw [hBe_rd, hBe_rd, hBe_rd, hBe_rd, hroom q hq, lo (48 + q) (by omega) (by omega) (by omega)]
    by_cases hqk : q = k
    · subst hqk
      rw [rCol_k, rCol_s m hq, rCol_x]
      rw [if_pos rfl, if_pos rfl, if_pos rfl, if_pos rfl]
      refine ⟨⟨rfl, a1, ?_, by rw [if_pos rfl, if_pos rfl]⟩, Or.inr (Or.inr (Or.inr rfl)), fun _ => ⟨t, Nat.le_refl _, n2⟩, fun z => absurd z (by decide), fun z => absurd z (by decide)⟩
      rw [if_pos rfl]
      show hf σ 5 = m 103
      rw [n1, n2]
    · rw [lo q hqk (by omega) (by omega), lo (24 + q) (by omega) (by omega) (by omega), lo (36 + q) (by omega) (by omega) (by omega)]
      simp only [if_neg hqk]
      exact ⟨⟨a0, a1, a2, a3⟩, b, hs, g, w⟩
  · intro r hr
    have := hR r hr
    rw [hins, lo (60 + r) (by omega) (by omega) (by omega), lo (65 + r) (by omega) (by omega) (by omega), lo (70 + r) (by omega) (by omega) (by omega), lo (75 + r) (by omega) (by omega) (by omega), lo (80 + r) (by omega) (by omega) (by omega), lo (85 + r) (by omega) (by omega) (by omega), lo (90 + r) (by omega) (by omega) (by omega), lo (95 + r) (by omega) (by omega) (by omega)]
    exact this
  · rw [hiu]; exact hU.1
  · intro q hq z
    rw [hiu, hroom q hq]
    exact hU.2.1 q hq ((hin q hq).mp z)
  · rw [hiu, lo 104 (by omega) (by omega) (by omega)]; exact hU.2.2.1
  · rw [hiu, lo 105 (by omega) (by omega) (by omega)]; exact hU.2.2.2.1
  · rw [lo 104 (by omega) (by omega) (by omega)]; exact hU.2.2.2.2
  · obtain ⟨g1, g2, g3, g4, g5⟩ := hL
    have hnk : ∀ i, i < hLn σ → hPl σ i ≠ k := fun i hi z => by
      have := (g3 i hi).2.2
      rw [z, h2] at this
      exact absurd this (by decide)
    refine ⟨g1, g2, fun i hi => ?_, fun q hq z => ?_, fun i j hij hj => ?_⟩
    · obtain ⟨a, b, d⟩ := g3 i hi
      refine ⟨a, b, ?_⟩
      show rCol m k (hPl σ i) = 1
      rw [lo _ (hnk i hi) (by omega) (by omega)]
      exact d
    · refine g4 q hq ?_
      by_cases hqk : q = k
      · subst hqk
        rw [rCol_k] at z
        exact absurd z (by decide)
      · rw [lo q hqk (by omega) (by omega)] at z
        exact z
    · have hi' : i < hLn σ := Nat.lt_trans hij hj
      have b1 := (g3 i hi').1
      have b2 := (g3 j hj).1
      have c1 := hnk i hi'
      have c2 := hnk j hj
      show rCol m k (48 + hPl σ i) < rCol m k (48 + hPl σ j) ∧ rCol m k (24 + hPl σ i) ≤ rCol m k (24 + hPl σ j)
      rw [lo (48 + hPl σ i) (by omega) (by omega) (by omega), lo (48 + hPl σ j) (by omega) (by omega) (by omega), lo (24 + hPl σ i) (by omega) (by omega) (by omega), lo (24 + hPl σ j) (by omega) (by omega) (by omega)]
      exact g5 i j hij hj

