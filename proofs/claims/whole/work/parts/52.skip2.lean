/-! ===== the house's quiet ticks are the reference's ===== -/
theorem hQt_le (σ : hs_T) (x : Int32) : ∀ n, hQt σ x n ≤ x ∧ ∀ k, k < n → hQt σ x n ≤ hTc σ k - 1
  | 0 => ⟨Int32.le_refl _, fun k hk => absurd hk (by omega)⟩
  | n + 1 => by
    obtain ⟨a, b⟩ := hQt_le σ x n
    rw [hQt]
    by_cases h : hTc σ n - 1 < hQt σ x n
    · rw [if_pos h]
      have h' := Int32.le_of_lt h
      refine ⟨Int32.le_trans h' a, fun k hk => ?_⟩
      by_cases hkn : k = n
      · subst hkn
        exact Int32.le_refl _
      · exact Int32.le_trans h' (b k (by omega))
    · rw [if_neg h]
      refine ⟨a, fun k hk => ?_⟩
      by_cases hkn : k = n
      · subst hkn
        exact Int32.not_lt.mp h
      · exact b k (by omega)
theorem Rel.quiet {F E t : Nat} {σ : hs_T} {m : Nat → Int32} (h : Rel F E t σ m) {most : Int32} {X : Nat} (hx : hQt σ most 12 = nI X) (hX : t + X ≤ 20600) : ∃ u, rQt t u X m := by
  obtain ⟨hw, e, c, hN, hM, hR, hSt, hU, hL, hG⟩ := h
  obtain ⟨u0, u1, u2, u6, u7, ⟨p, p1, p2, p3⟩, ⟨u, v1, v2, v3⟩⟩ := hSt
  have h5 : hf σ 5 = nI t := hN.1
  have ht := hN.2.2.1
  have hle := (hQt_le σ most 12).2
  refine ⟨u, hN.2.1, v3, by omega, by omega, fun k hk => ?_⟩
  obtain ⟨⟨q0, q1, q2, q3⟩, b, hs, -, hti⟩ := hM k hk
  have hk1 := hle k hk
  rw [hx] at hk1
  have hk2 : (X : Int) ≤ (hTc σ k - 1).toInt := by
    have := Int32.le_iff_toInt_le.mp hk1
    rw [nI_toInt (by omega)] at this
    exact this
  have h11 : (1 : Int32) = nI 1 := rfl
  refine ⟨fun z => ?_, fun z => ?_⟩
  · obtain ⟨n, n1, n2, n3⟩ := hti (Or.inr z)
    refine ⟨n, ?_, n2, n3⟩
    rw [hTc, if_pos (by rw [q0]; exact z), q3, n3, h11, pk_sub_toInt (by omega) (by omega)] at hk2
    omega
  · obtain ⟨s, s1, s2⟩ := hs (by rw [z]; decide)
    refine ⟨s, s1, s2, ?_⟩
    rw [hTc, if_neg (by rw [q0, z]; decide), if_pos (by rw [q0]; exact z), q2, u2, h5, s2, v3, nI_add, h11, Int32.sub_sub, nI_add, pk_sub_toInt (by omega) (by omega)] at hk2
    omega
theorem Rel.skip {F E t N : Nat} {σ : hs_T} {m : Nat → Int32} (h : Rel F E t σ m) (ht : t + N ≤ 20600) (hs : (rOnce m).2 = false) : ∃ X, X ≤ N ∧ (hSkip σ (nI N)).2 = nI X ∧ (∀ y, y ≤ X → rPass 14 y m = some (rSk m y)) ∧ Rel F E (t + X) (hSkip σ (nI N)).1 (rSk m X) ∧ (rOnce (rSk m X)).2 = false := by
  have hw := h.1
  by_cases h0 : 0 < hQt σ (nI N) 12
  · obtain ⟨X, hX, hx⟩ := nI_of2 (M := nI N) (n := N) (nI_toInt (by omega)) (fun z => absurd (Int32.lt_trans h0 z) Int32.lt_irrefl) (hQt_le σ (nI N) 12).1
    obtain ⟨u, hq⟩ := h.quiet hx (by omega)
    obtain ⟨-, -, b⟩ := rPass_quiet hw hq hs X (Nat.le_refl _)
    have e0 := h.sk (show t + X ≤ 20600 by omega) hq
    have e1 : hSkip σ (nI N) = (hSkL (phf σ 5 (hf σ 5 + nI X)) (nI X) 12, nI X) := by rw [hSkip, if_pos h0, hx]
    revert e0 e1
    generalize hSkL (phf σ 5 (hf σ 5 + nI X)) (nI X) 12 = τ
    intro e0 e1
    rw [e1]
    exact ⟨X, hX, rfl, fun y hy => (rPass_quiet hw hq hs y hy).1, e0, b⟩
  · have e1 : hSkip σ (nI N) = (σ, 0) := by rw [hSkip, if_neg h0]
    rw [e1]
    refine ⟨0, by omega, nI_0.symm, ?_, ?_, ?_⟩
    · intro y hy
      have hy0 : y = 0 := by omega
      subst hy0
      rw [rSk_0 hw, rPass]
    · rw [rSk_0 hw]
      exact h
    · rw [rSk_0 hw]
      exact hs
theorem rPass_add (n : Nat) (m : Nat → Int32) (a : Nat) : ∀ b, rPass n (a + b) m = (rPass n a m).bind (rPass n b)
  | 0 => by
    rw [Nat.add_zero]
    cases rPass n a m with
    | none => rfl
    | some x => rw [Option.bind_some, rPass]
  | b + 1 => by
    rw [← Nat.add_assoc, rPass, rPass_add n m a b]
    cases rPass n a m with
    | none => rfl
    | some x => rw [Option.bind_some, Option.bind_some, rPass]
theorem rPass_one (n : Nat) (m : Nat → Int32) : rPass n 1 m = rTick n m := by rw [rPass, rPass, Option.bind_some]
/-- a tick and the quiet ticks behind it -/
theorem Rel.tickSkip {F E t N : Nat} {σ : hs_T} {m : Nat → Int32} (h : Rel F E t σ m) (hF : F + 40 ≤ 1000000000) (ht : t + 1 + N ≤ 20600) : ∃ X m1, rTick 14 m = some m1 ∧ Rel (F + 40) E (t + 1) (hTick σ) m1 ∧ X ≤ N ∧ (hSkip (hTick σ) (nI N)).2 = nI X ∧ (∀ y, y ≤ X → rPass 14 (1 + y) m = some (rSk m1 y)) ∧ Rel (F + 40) E (t + 1 + X) (hSkip (hTick σ) (nI N)).1 (rSk m1 X) := by
  obtain ⟨m1, a, b, c⟩ := h.tick hF (by omega)
  obtain ⟨X, x1, x2, x3, x4, -⟩ := b.skip ht c
  refine ⟨X, m1, a, b, x1, x2, fun y hy => ?_, x4⟩
  rw [rPass_add, rPass_one, a, Option.bind_some]
  exact x3 y hy

