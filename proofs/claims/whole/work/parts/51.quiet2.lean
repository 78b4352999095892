/-! ===== quiet ticks: what stays ===== -/
def rQt (t p u x : Nat) (m : Nat → Int32) : Prop := m 103 = nI t ∧ m 100 = nI p ∧ m 102 = nI u ∧ p ≤ 100 ∧ u ≤ 50 ∧ t + x ≤ 30000 ∧ ∀ k, k < 12 → (m k = 1 → ∃ s, s ≤ t ∧ m (24 + k) = nI s ∧ (p ≤ t - s ∨ t + x - s < p)) ∧ (m k = 2 → ∃ n, x < n ∧ n ≤ 999 ∧ m (36 + k) = nI n) ∧ (m k = 3 → ∃ s, s ≤ t ∧ m (24 + k) = nI s ∧ t + x - s < u)
theorem rOnce_2 (m : Nat → Int32) : (rOnce m).2 = if rInUse m = -1 then (if rNext m = -1 then false else true) else if m 104 = 0 ∨ rWai m (rInUse m) = 0 ∨ m (60 + (rInUse m).toNatClampNeg) ≤ nI (rIns m (rInUse m)) then false else true := by
  rw [rOnce]
  by_cases h1 : rInUse m = -1
  · rw [if_pos h1, if_pos h1]
    by_cases h2 : rNext m = -1
    · rw [if_pos h2, if_pos h2]
    · rw [if_neg h2, if_neg h2]
  · rw [if_neg h1, if_neg h1]
    by_cases h2 : m 104 = 0 ∨ rWai m (rInUse m) = 0 ∨ m (60 + (rInUse m).toNatClampNeg) ≤ nI (rIns m (rInUse m))
    · rw [if_pos h2, if_pos h2]
    · rw [if_neg h2, if_neg h2]
      split
      · rfl
      · rfl
theorem rNf_cong {m m' : Nat → Int32} (h : ∀ j, 48 ≤ j ∧ j < 60 → m' j = m j) (hi : ∀ k, k < 12 → rImp m' k = rImp m k) : ∀ n, n ≤ 12 → rNf m' n = rNf m n
  | 0, _ => rfl
  | n + 1, hn => by
    rw [rNf, rNf, rNf_cong h hi n (by omega), hi n (by omega)]
    cases hf : rNf m n with
    | none => rfl
    | some f =>
      have := (rNf_is hf).1
      simp only [h (48 + n) (by omega), h (48 + f) (by omega)]
theorem rNb_cong {m m' : Nat → Int32} (h : ∀ j, j < 24 ∨ (70 ≤ j ∧ j < 75) → m' j = m j) : ∀ n, n ≤ 5 → rNb m' n = rNb m n
  | 0, _ => rfl
  | n + 1, hn => by
    rw [rNb, rNb, rNb_cong h n (by omega), rWai_cong (fun j hj => h j (Or.inl hj))]
    cases hf : rNb m n with
    | none => rfl
    | some f =>
      have := (rNb_is hf).1
      simp only [h (70 + n) (by omega), h (70 + f) (by omega)]
theorem rNext_cong {m m' : Nat → Int32} (h : ∀ j, j < 24 ∨ (48 ≤ j ∧ j < 60) ∨ (70 ≤ j ∧ j < 75) → m' j = m j) (hi : ∀ k, k < 12 → rImp m' k = rImp m k) : rNext m' = rNext m := by
  rw [rNext, rNext, rNf_cong (fun j hj => h j (by omega)) hi 12 (by omega), rNb_cong (fun j hj => h j (by omega)) 5 (by omega)]
  cases hf : rNf m 12 with
  | none => rfl
  | some f =>
    have := (rNf_is hf).1
    exact h (12 + f) (by omega)
theorem rOnce_2_cong {m m' : Nat → Int32} (hw : RW m) (h : ∀ j, j < 24 ∨ (48 ≤ j ∧ j < 75) ∨ j = 104 → m' j = m j) (hi : ∀ k, k < 12 → rImp m' k = rImp m k) : (rOnce m').2 = (rOnce m).2 := by
  rw [rOnce_2, rOnce_2, rInUse_cong (fun j hj => h j (by omega)), rNext_cong (fun j hj => h j (by omega)) hi, h 104 (by omega)]
  rcases rInUse_is hw with a | ⟨r, hr, a⟩
  · rw [a, if_pos rfl, if_pos rfl]
  · rw [a, nI_clamp (by omega), h (60 + r) (by omega), rWai_cong (fun j hj => h j (by omega)), rIns_cong (fun j hj => h j (by omega))]
theorem rImp_sk {t p u x : Nat} {m : Nat → Int32} (hw : RW m) (hq : rQt t p u (x + 1) m) {k : Nat} (hk : k < 12) : rImp (rSk m 1) k = rImp m k := by
  obtain ⟨q1, q2, q3, q4, q5, q6, q7⟩ := hq
  rw [rImp, rImp, rSk_t hw, rSk_ne hw 1 (j := k) (by omega), rSk_ne hw 1 (j := 100) (by omega), rSk_ne hw 1 (j := 24 + k) (by omega)]
  by_cases h1 : m k = 1
  · obtain ⟨s, s1, s2, s3⟩ := (q7 k hk).1 h1
    rw [q1, q2, s2, nI_add, nI_sb (by omega), nI_sb (by omega)]
    congr 1
    apply decide_eq_decide.mpr
    rw [nI_leI (by omega) (by omega), nI_leI (by omega) (by omega)]
    omega
  · simp [h1]
theorem rTkL_quiet {t p u x : Nat} {m : Nat → Int32} (hw : RW m) (hq : rQt t p u (x + 1) m) : ∀ n, n ≤ 12 → rTkL (upd m 103 (m 103 + nI 1)) n = rSkL (upd m 103 (m 103 + nI 1)) (nI 1) n
  | 0, _ => rfl
  | n + 1, hn => by
    have hw' : RW (upd m 103 (m 103 + nI 1)) := hw.put (by omega) _
    rw [rTkL, rSkL, rTkL_quiet hw hq n (by omega)]
    have rd : ∀ j, (j < 36 ∨ 36 + n ≤ j) → (j < 85 ∨ 90 ≤ j) → rSkL (upd m 103 (m 103 + nI 1)) (nI 1) n j = upd m 103 (m 103 + nI 1) j := by
      intro j h1 h2
      have n1 : ¬ (36 ≤ j ∧ j < 36 + n ∧ upd m 103 (m 103 + nI 1) (j - 36) = 2) := fun z => by omega
      have n2 : ¬ (85 ≤ j ∧ j < 90) := by omega
      rw [rSkL_rd hw' 1 n (by omega), if_neg n1, if_neg n2]
    have i0 : rSkL (upd m 103 (m 103 + nI 1)) (nI 1) n n = m n := by rw [rd n (by omega) (by omega), upd_ne _ _ (by omega)]
    have i1 : rSkL (upd m 103 (m 103 + nI 1)) (nI 1) n (12 + n) = m (12 + n) := by rw [rd _ (by omega) (by omega), upd_ne _ _ (by omega)]
    have i2 : rSkL (upd m 103 (m 103 + nI 1)) (nI 1) n (24 + n) = m (24 + n) := by rw [rd _ (by omega) (by omega), upd_ne _ _ (by omega)]
    have i3 : rSkL (upd m 103 (m 103 + nI 1)) (nI 1) n (36 + n) = m (36 + n) := by rw [rd _ (by omega) (by omega), upd_ne _ _ (by omega)]
    have i4 : rSkL (upd m 103 (m 103 + nI 1)) (nI 1) n 102 = m 102 := by rw [rd _ (by omega) (by omega), upd_ne _ _ (by omega)]
    have i5 : rSkL (upd m 103 (m 103 + nI 1)) (nI 1) n 103 = m 103 + nI 1 := by rw [rd _ (by omega) (by omega), upd_same]
    generalize rSkL (upd m 103 (m 103 + nI 1)) (nI 1) n = m1 at *
    obtain ⟨q1, q2, q3, q4, q5, q6, q7⟩ := hq
    have h11 : (1 : Int32) = nI 1 := rfl
    by_cases h2 : m n = 2
    · obtain ⟨r, hr5, er⟩ := (hw.1 n (by omega)).resolve_left (by rw [h2]; decide)
      obtain ⟨y, y1, y2, y3⟩ := (q7 n (by omega)).2.1 h2
      have hu : upd m1 (85 + r) (m1 (85 + r) + nI 1) (36 + n) = m (36 + n) := by rw [upd_ne _ _ (by omega), i3]
      have hz : ¬ m (36 + n) - nI 1 = 0 := by rw [y3, nI_sb (by omega)]; exact nI_ne0 (by omega) (by omega)
      simp only [rTkS, rSkS]
      rw [i0, if_pos h2, if_pos h2, i1, er, nI_clamp (by omega), h11, hu, upd_same, if_neg hz, i3]
    · simp only [rTkS, rSkS]
      have hz : ¬ (m n = 3 ∧ m 102 ≤ m 103 + nI 1 - m (24 + n)) := by
        intro z
        obtain ⟨s, s1, s2, s3⟩ := (q7 n (by omega)).2.2 z.1
        have z2 := z.2
        rw [q1, q3, s2, nI_add, nI_sb (by omega), nI_leI (by omega) (by omega)] at z2
        omega
      rw [i0, if_neg h2, if_neg h2, i4, i5, i2, if_neg hz]
theorem rTick_quiet {t p u x : Nat} {m : Nat → Int32} (hw : RW m) (hq : rQt t p u (x + 1) m) (hs : (rOnce m).2 = false) : rTick 14 m = some (rSk m 1) ∧ rQt (t + 1) p u x (rSk m 1) ∧ (rOnce (rSk m 1)).2 = false := by
  have h1 : (rOnce (rSk m 1)).2 = false := by rw [rOnce_2_cong hw (fun j hj => rSk_ne hw 1 (by omega)) (fun k hk => rImp_sk hw hq hk)]; exact hs
  refine ⟨?_, ?_, h1⟩
  · show rActs 14 (rTkL (upd m 103 (m 103 + nI 1)) 12) = _
    rw [rTkL_quiet hw hq 12 (by omega)]
    show rActs 14 (rSk m 1) = _
    rw [rActs_step, if_neg (by rw [h1]; decide)]
  · obtain ⟨q1, q2, q3, q4, q5, q6, q7⟩ := hq
    refine ⟨by rw [rSk_t hw, q1, nI_add], by rw [rSk_ne hw 1 (by omega)]; exact q2, by rw [rSk_ne hw 1 (by omega)]; exact q3, q4, q5, by omega, fun k hk => ?_⟩
    rw [rSk_ne hw 1 (j := k) (by omega), rSk_ne hw 1 (j := 24 + k) (by omega)]
    obtain ⟨a, b, c⟩ := q7 k hk
    refine ⟨fun z => ?_, fun z => ?_, fun z => ?_⟩
    · obtain ⟨s, s1, s2, s3⟩ := a z
      exact ⟨s, by omega, s2, by omega⟩
    · obtain ⟨n, n1, n2, n3⟩ := b z
      refine ⟨n - 1, by omega, by omega, ?_⟩
      have hp : 36 ≤ 36 + k ∧ 36 + k < 48 ∧ m (36 + k - 36) = 2 := ⟨by omega, by omega, by rw [Nat.add_sub_cancel_left]; exact z⟩
      rw [rSk_rd hw, if_pos hp, n3, nI_sb (by omega)]
    · obtain ⟨s, s1, s2, s3⟩ := c z
      exact ⟨s, by omega, s2, by omega⟩
theorem rPass_quiet {t p u x : Nat} {m : Nat → Int32} (hw : RW m) (hq : rQt t p u x m) (hs : (rOnce m).2 = false) : ∀ T, T ≤ x → rPass 14 T m = some (rSk m T) ∧ rQt (t + T) p u (x - T) (rSk m T) ∧ (rOnce (rSk m T)).2 = false
  | 0, _ => by rw [rSk_0 hw]; exact ⟨rfl, hq, hs⟩
  | T + 1, hT => by
    obtain ⟨a, b, c⟩ := rPass_quiet hw hq hs T (by omega)
    have b' : rQt (t + T) p u ((x - (T + 1)) + 1) (rSk m T) := by rw [show x - (T + 1) + 1 = x - T by omega]; exact b
    obtain ⟨d, e, f⟩ := rTick_quiet (hw.sk T) b' c
    rw [rSk_1 hw] at d e f
    exact ⟨by rw [rPass, a, Option.bind_some, d], by rw [← Nat.add_assoc]; exact e, f⟩
theorem Rel.sk {F E t p u X : Nat} {σ : hs_T} {m : Nat → Int32} (h : Rel F E t σ m) (ht : t + X ≤ 20600) (hq : rQt t p u X m) : Rel F E (t + X) (hSkL (phf σ 5 (hf σ 5 + nI X)) (nI X) 12) (rSk m X) := by
  have h1 := h.time X ht (x := nI X) rfl
  have hw := h1.1
  have key : ∀ n, n ≤ 12 → Rel F E (t + X) (hSkL (phf σ 5 (hf σ 5 + nI X)) (nI X) n) (rSkL (upd m 103 (m 103 + nI X)) (nI X) n) := by
    intro n
    induction n with
    | zero => intro _; exact h1
    | succ n ih =>
      intro hn
      have h2 := ih (by omega)
      have rd : ∀ j, (j < 36 ∨ 36 + n ≤ j) → (j < 85 ∨ 90 ≤ j) → rSkL (upd m 103 (m 103 + nI X)) (nI X) n j = upd m 103 (m 103 + nI X) j := by
        intro j h1 h2
        have n1 : ¬ (36 ≤ j ∧ j < 36 + n ∧ upd m 103 (m 103 + nI X) (j - 36) = 2) := fun z => by omega
        have n2 : ¬ (85 ≤ j ∧ j < 90) := by omega
        rw [rSkL_rd hw X n (by omega), if_neg n1, if_neg n2]
      have i0 : rSkL (upd m 103 (m 103 + nI X)) (nI X) n n = m n := by rw [rd n (by omega) (by omega), upd_ne _ _ (by omega)]
      have i3 : rSkL (upd m 103 (m 103 + nI X)) (nI X) n (36 + n) = m (36 + n) := by rw [rd _ (by omega) (by omega), upd_ne _ _ (by omega)]
      rw [hSkL, rSkL]
      generalize rSkL (upd m 103 (m 103 + nI X)) (nI X) n = m1 at *
      generalize hSkL (phf σ 5 (hf σ 5 + nI X)) (nI X) n = τ at *
      have h3 := h2
      obtain ⟨hw1, e, c, hN, hM, hR, hSt, hU, hL, hG⟩ := h2
      obtain ⟨⟨q0, q1, q2, q3⟩, -⟩ := hM n (by omega)
      rw [hSkS, rSkS, q0]
      by_cases h4 : m1 n = 2
      · obtain ⟨r, hr5, er⟩ := (hw1.1 n (by omega)).resolve_left (by rw [h4]; decide)
        obtain ⟨y, y1, y2, y3⟩ := (hq.2.2.2.2.2.2 n (by omega)).2.1 (by rw [← i0]; exact h4)
        have hrn : hRn τ n = r := by rw [hRn, q1, er, nI_clamp (by omega)]
        have hr6 : hr τ r 6 = m1 (85 + r) := (hR r hr5).2.2.2.2.2.2.1
        have hv : m1 (36 + n) - nI X = nI (y - X) := by rw [i3, y3, nI_sb (by omega)]
        rw [if_pos h4, if_pos h4, hrn, er, nI_clamp (by omega), q3]
        have h5 := (h3.tin hr5 (m1 (85 + r) + nI X)).tik (k := n) (by omega) hv (by omega) (by omega)
        rw [← hr6] at h5 ⊢
        exact h5
      · rw [if_neg h4, if_neg h4]
        exact h3
  exact key 12 (by omega)

