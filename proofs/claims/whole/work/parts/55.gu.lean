/-! ===== withdrawing ===== -/
theorem Rel.gu {F E t : Nat} {σ : hs_T} {m : Nat → Int32} (h : Rel F E t σ m) {k : Nat} (hk : k < 12) (h1 : m k = 1) : Rel F E t (hGu σ k) (rLeaves m k) := by
  obtain ⟨hw, e, c, hN, hM, hR, hSt, hU, hL, hG⟩ := h
  have lo : ∀ j, 48 ≤ j → rLeaves m k j = m j := fun j hj => rLeaves_ne m (by omega) (by omega) (by omega) (by omega)
  have mem := fun q hq hne => rLeaves_mem m (k := k) (q := q) hk hq hne
  have hin : ∀ q, q < 12 → 1 < rLeaves m k q → q ≠ k := by
    intro q hq z hqk
    subst hqk
    rw [rLeaves_st] at z
    exact absurd z (by decide)
  have hk1 : ¬ 1 < m k := by rw [h1]; decide
  have hins : ∀ x, rIns (rLeaves m k) x = rIns m x := fun x => fb_ct_cong (fun q hq => by
    by_cases hqk : q = k
    · subst hqk
      rw [rLeaves_st, h1]
      rfl
    · rw [(mem q hq hqk).1, (mem q hq hqk).2.1])
  have hiu : rInUse (rLeaves m k) = rInUse m := by
    by_cases hx : ∃ q, q < 12 ∧ 1 < m q
    · obtain ⟨q, hq, hq1⟩ := hx
      have hqk : q ≠ k := fun z => hk1 (by rw [← z]; exact hq1)
      refine rInUse_of (k := q) (fun p hp z => ?_) hq (by rw [(mem q hq hqk).1]; exact hq1)
      have hpk := hin p hp z
      rw [(mem p hp hpk).1] at z
      rw [(mem p hp hpk).2.1]
      exact hU.2.1 p hp z
    · rw [rInUse_no (m := m) (fun q hq z => hx ⟨q, hq, z⟩), rInUse_no]
      intro q hq z
      have hqk := hin q hq z
      rw [(mem q hq hqk).1] at z
      exact hx ⟨q, hq, z⟩
  obtain ⟨n1, n2, n3, n4, n5, n6, n7, n8, n9, n10⟩ := hN
  refine ⟨?_, e, c, ⟨n1, by rw [lo 103 (by omega)]; exact n2, n3, n4, by rw [lo 109 (by omega)]; exact n5, n6, n7, by rw [lo 107 (by omega)]; exact n8, n9, n10⟩, ?_, ?_, hSt.cong rfl rfl rfl (fun j hj => lo j (by omega)), ⟨?_, ?_, ?_, ?_, ?_⟩, ?_, hG.cong (fun j hj => lo j (by omega))⟩
  · refine ⟨fun q hq => ?_, by rw [lo 108 (by omega)]; exact hw.2.1, fun r hr => by rw [lo (65 + r) (by omega)]; exact hw.2.2.1 r hr, fun j hj => by rw [lo j (by omega)]; exact hw.2.2.2 j hj⟩
    by_cases hqk : q = k
    · subst hqk
      exact Or.inl (rLeaves_st m q)
    · rw [(mem q hq hqk).1, (mem q hq hqk).2.1]
      exact hw.1 q hq
  · intro q hq
    obtain ⟨⟨a0, a1, a2, a3⟩, b, hs, g, w⟩ := hM q hq
    rw [hGu, hBe_rd, hBe_rd, hBe_rd, hBe_rd]
    by_cases hqk : q = k
    · subst hqk
      rw [rLeaves_st, rLeaves_rm, rLeaves_si, rLeaves_ti]
      simp only [eq_self_iff_true, if_true]
      exact ⟨⟨by simp, by simp, by simp, trivial⟩, by simp, by simp, by simp, by simp⟩
    · obtain ⟨b1, b2, b3, b4, b5⟩ := mem q hq hqk
      rw [b1, b2, b3, b4, b5, if_neg hqk, if_neg hqk, if_neg hqk, if_neg hqk]
      exact ⟨⟨a0, a1, a2, a3⟩, b, hs, g, w⟩
  · intro r hr
    have := hR r hr
    rw [hins, lo (60 + r) (by omega), lo (65 + r) (by omega), lo (70 + r) (by omega), lo (75 + r) (by omega), lo (80 + r) (by omega), lo (85 + r) (by omega), lo (90 + r) (by omega), lo (95 + r) (by omega)]
    exact this
  · rw [hiu]; exact hU.1
  · intro q hq z
    have hqk := hin q hq z
    rw [(mem q hq hqk).1] at z
    rw [hiu, (mem q hq hqk).2.1]
    exact hU.2.1 q hq z
  · rw [hiu, lo 104 (by omega)]; exact hU.2.2.1
  · rw [hiu, lo 105 (by omega)]; exact hU.2.2.2.1
  · rw [lo 104 (by omega)]; exact hU.2.2.2.2
  · exact hL.drop hk rfl rfl (by rw [rLeaves_st]; decide) (fun q hq hqk => ⟨(mem q hq hqk).1, (mem q hq hqk).2.2.1, (mem q hq hqk).2.2.2.2⟩)

