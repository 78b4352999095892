/-! ===== quiet ticks: what stays ===== -/
def rQt (t u x : Nat) (m : Nat → Int32) : Prop := m 103 = nI t ∧ m 102 = nI u ∧ u ≤ 50 ∧ t + x ≤ 30000 ∧ ∀ k, k < 12 → (m k = 2 → ∃ n, x < n ∧ n ≤ 999 ∧ m (36 + k) = nI n) ∧ (m k = 3 → ∃ s, s ≤ t ∧ m (24 + k) = nI s ∧ t + x - s < u)
theorem rOnce_2 (m : Nat → Int32) : (rOnce m).2 = if rInUse m = -1 then (if rNext m = -1 then false else true) else if m 104 = 0 ∨ rWai m (rInUse m) = 0 ∨ m (60 + (rInUse m).toNatClampNeg) ≤ nI (rIns m (rInUse m)) then false else true := by
  rw [rOnce]
  by_cases h1 : rInUse m = -1
  · rw [if_pos h1, if_pos h1]
    by_cases h2 : rNext m = -1
    · rw [if_pos h2, if_pos h2]
    · rw [if_neg h2, if_neg h2]
  · rw [if_neg h1, if_neg h1]
    by_cases h2 : m 104 = 0 ∨ rWai m (rInUse m) = 0 ∨ m (60 + (rInUse m).toNatClampNeg) ≤ nI (rIns m (rInUse m))
    · rw [if_pos h2, if_pos h2]
    · rw [if_neg h2, if_neg h2]
      split
      · rfl
      · rfl
/-- no room is next: nobody waits -/
theorem rNext_no {m : Nat → Int32} (hw : RW m) (h : rNext m = -1) : ∀ r, r < 5 → rWai m (nI r) = 0 := by
  intro r hr
  rw [rNext] at h
  cases hf : rNf m 12 with
  | some k =>
    rw [hf] at h
    have h' : m (12 + k) = -1 := h
    obtain ⟨h1, h2⟩ := rNf_is hf
    simp only [rImp, Bool.and_eq_true, decide_eq_true_eq] at h2
    obtain ⟨q, hq, hq2⟩ := (hw.1 k h1).resolve_left (fun e => by rw [e] at h2; exact absurd h2.1 (by decide))
    rw [hq2] at h'
    exact absurd h' (nI_ne_m1 (by omega))
  | none =>
    cases hb : rNb m 5 with
    | some q =>
      rw [hf, hb] at h
      have h' : nI q = -1 := h
      have hq := (rNb_is hb).1
      exact absurd h' (nI_ne_m1 (by omega))
    | none =>
      have := rNb_none hb r hr
      omega
/-- whoever becomes impatient: where no room was next, none is -/
theorem rNext_keeps {m m' : Nat → Int32} (hw : RW m) (hw' : RW m') (h : ∀ j, j < 24 → m' j = m j) (hn : rNext m = -1) : rNext m' = -1 := by
  rcases rNext_is hw' with a | ⟨r, hr, -, hq⟩
  · exact a
  · rw [rWai_cong h] at hq
    exact absurd (rNext_no hw hn r hr) hq
theorem rOnce_2_keeps {m m' : Nat → Int32} (hw : RW m) (hw' : RW m') (h : ∀ j, j < 24 ∨ (48 ≤ j ∧ j < 75) ∨ j = 104 → m' j = m j) (hs : (rOnce m).2 = false) : (rOnce m').2 = false := by
  rw [rOnce_2] at hs
  rw [rOnce_2, rInUse_cong (fun j hj => h j (by omega)), h 104 (by omega)]
  rcases rInUse_is hw with a | ⟨r, hr, a⟩
  · rw [a, if_pos rfl] at hs
    rw [a, if_pos rfl]
    by_cases hn : rNext m = -1
    · rw [if_pos (rNext_keeps hw hw' (fun j hj => h j (by omega)) hn)]
    · rw [if_neg hn] at hs
      exact Bool.noConfusion hs
  · have hn : ¬ nI r = -1 := nI_ne_m1 (by omega)
    rw [a, if_neg hn, nI_clamp (by omega)] at hs
    rw [a, if_neg hn, nI_clamp (by omega), h (60 + r) (by omega), rWai_cong (fun j hj => h j (by omega)), rIns_cong (fun j hj => h j (by omega))]
    exact hs
theorem rTkL_quiet {t u x : Nat} {m : Nat → Int32} (hw : RW m) (hq : rQt t u (x + 1) m) : ∀ n, n ≤ 12 → rTkL (upd m 103 (m 103 + nI 1)) n = rSkL (upd m 103 (m 103 + nI 1)) (nI 1) n
  | 0, _ => rfl
  | n + 1, hn => by
    have hw' : RW (upd m 103 (m 103 + nI 1)) := hw.put (by omega) _
    rw [rTkL, rSkL, rTkL_quiet hw hq n (by omega)]
    have rd : ∀ j, (j < 36 ∨ 36 + n ≤ j) → (j < 85 ∨ 90 ≤ j) → rSkL (upd m 103 (m 103 + nI 1)) (nI 1) n j = upd m 103 (m 103 + nI 1) j := by
      intro j h1 h2
      have n1 : ¬ (36 ≤ j ∧ j < 36 + n ∧ upd m 103 (m 103 + nI 1) (j - 36) = 2) := fun z => by omega
      have n2 : ¬ (85 ≤ j ∧ j < 90) := by omega
      rw [rSkL_rd hw' 1 n (by omega), if_neg n1, if_neg n2]
    have i0 : rSkL (upd m 103 (m 103 + nI 1)) (nI 1) n n = m n := by rw [rd n (by omega) (by omega), upd_ne _ _ (by omega)]
    have i1 : rSkL (upd m 103 (m 103 + nI 1)) (nI 1) n (12 + n) = m (12 + n) := by rw [rd _ (by omega) (by omega), upd_ne _ _ (by omega)]
    have i2 : rSkL (upd m 103 (m 103 + nI 1)) (nI 1) n (24 + n) = m (24 + n) := by rw [rd _ (by omega) (by omega), upd_ne _ _ (by omega)]
    have i3 : rSkL (upd m 103 (m 103 + nI 1)) (nI 1) n (36 + n) = m (36 + n) := by rw [rd _ (by omega) (by omega), upd_ne _ _ (by omega)]
    have i4 : rSkL (upd m 103 (m 103 + nI 1)) (nI 1) n 102 = m 102 := by rw [rd _ (by omega) (by omega), upd_ne _ _ (by omega)]
    have i5 : rSkL (upd m 103 (m 103 + nI 1)) (nI 1) n 103 = m 103 + nI 1 := by rw [rd _ (by omega) (by omega), upd_same]
    generalize rSkL (upd m 103 (m 103 + nI 1)) (nI 1) n = m1 at *
    obtain ⟨q1, q3, q5, q6, q7⟩ := hq
    have h11 : (1 : Int32) = nI 1 := rfl
    by_cases h2 : m n = 2
    · obtain ⟨r, hr5, er⟩ := (hw.1 n (by omega)).resolve_left (by rw [h2]; decide)
      obtain ⟨y, y1, y2, y3⟩ := (q7 n (by omega)).1 h2
      have hu : upd m1 (85 + r) (m1 (85 + r) + nI 1) (36 + n) = m (36 + n) := by rw [upd_ne _ _ (by omega), i3]
      have hz : ¬ m (36 + n) - nI 1 = 0 := by rw [y3, nI_sb (by omega)]; exact nI_ne0 (by omega) (by omega)
      simp only [rTkS, rSkS]
      rw [i0, if_pos h2, if_pos h2, i1, er, nI_clamp (by omega), h11, hu, upd_same, if_neg hz, i3]
    · simp only [rTkS, rSkS]
      have hz : ¬ (m n = 3 ∧ m 102 ≤ m 103 + nI 1 - m (24 + n)) := by
        intro z
        obtain ⟨s, s1, s2, s3⟩ := (q7 n (by omega)).2 z.1
        have z2 := z.2
        rw [q1, q3, s2, nI_add, nI_sb (by omega), nI_leI (by omega) (by omega)] at z2
        omega
      rw [i0, if_neg h2, if_neg h2, i4, i5, i2, if_neg hz]
theorem rTick_quiet {t u x : Nat} {m : Nat → Int32} (hw : RW m) (hq : rQt t u (x + 1) m) (hs : (rOnce m).2 = false) : rTick 14 m = some (rSk m 1) ∧ rQt (t + 1) u x (rSk m 1) ∧ (rOnce (rSk m 1)).2 = false := by
  have h1 : (rOnce (rSk m 1)).2 = false := rOnce_2_keeps hw (hw.sk 1) (fun j hj => rSk_ne hw 1 (by omega)) hs
  refine ⟨?_, ?_, h1⟩
  · show rActs 14 (rTkL (upd m 103 (m 103 + nI 1)) 12) = _
    rw [rTkL_quiet hw hq 12 (by omega)]
    show rActs 14 (rSk m 1) = _
    rw [rActs_step, if_neg (by rw [h1]; decide)]
  · obtain ⟨q1, q3, q5, q6, q7⟩ := hq
    refine ⟨by rw [rSk_t hw, q1, nI_add], by rw [rSk_ne hw 1 (by omega)]; exact q3, q5, by omega, fun k hk => ?_⟩
    rw [rSk_ne hw 1 (j := k) (by omega), rSk_ne hw 1 (j := 24 + k) (by omega)]
    obtain ⟨b, c⟩ := q7 k hk
    refine ⟨fun z => ?_, fun z => ?_⟩
    · obtain ⟨n, n1, n2, n3⟩ := b z
      refine ⟨n - 1, by omega, by omega, ?_⟩
      have hp : 36 ≤ 36 + k ∧ 36 + k < 48 ∧ m (36 + k - 36) = 2 := ⟨by omega, by omega, by rw [Nat.add_sub_cancel_left]; exact z⟩
      rw [rSk_rd hw, if_pos hp, n3, nI_sb (by omega)]
    · obtain ⟨s, s1, s2, s3⟩ := c z
      exact ⟨s, by omega, s2, by omega⟩
theorem rPass_quiet {t u x : Nat} {m : Nat → Int32} (hw : RW m) (hq : rQt t u x m) (hs : (rOnce m).2 = false) : ∀ T, T ≤ x → rPass 14 T m = some (rSk m T) ∧ rQt (t + T) u (x - T) (rSk m T) ∧ (rOnce (rSk m T)).2 = false
  | 0, _ => by rw [rSk_0 hw]; exact ⟨rfl, hq, hs⟩
  | T + 1, hT => by
    obtain ⟨a, b, c⟩ := rPass_quiet hw hq hs T (by omega)
    have b' : rQt (t + T) u ((x - (T + 1)) + 1) (rSk m T) := by rw [show x - (T + 1) + 1 = x - T by omega]; exact b
    obtain ⟨d, e, f⟩ := rTick_quiet (hw.sk T) b' c
    rw [rSk_1 hw] at d e f
    exact ⟨by rw [rPass, a, Option.bind_some, d], by rw [← Nat.add_assoc]; exact e, f⟩
theorem Rel.sk {F E t u X : Nat} {σ : hs_T} {m : Nat → Int32} (h : Rel F E t σ m) (ht : t + X ≤ 20600) (hq : rQt t u X m) : Rel F E (t + X) (hSkL (phf σ 5 (hf σ 5 + nI X)) (nI X) 12) (rSk m X) := by
  have h1 := h.time X ht (x := nI X) rfl
  have hw := h1.1
  have key : ∀ n, n ≤ 12 → Rel F E (t + X) (hSkL (phf σ 5 (hf σ 5 + nI X)) (nI X) n) (rSkL (upd m 103 (m 103 + nI X)) (nI X) n) := by
    intro n
    induction n with
    | zero => intro _; exact h1
    | succ n ih =>
      intro hn
      have h2 := ih (by omega)
      have rd : ∀ j, (j < 36 ∨ 36 + n ≤ j) → (j < 85 ∨ 90 ≤ j) → rSkL (upd m 103 (m 103 + nI X)) (nI X) n j = upd m 103 (m 103 + nI X) j := by
        intro j h1 h2
        have n1 : ¬ (36 ≤ j ∧ j < 36 + n ∧ upd m 103 (m 103 + nI X) (j - 36) = 2) := fun z => by omega
        have n2 : ¬ (85 ≤ j ∧ j < 90) := by omega
        rw [rSkL_rd hw X n (by omega), if_neg n1, if_neg n2]
      have i0 : rSkL (upd m 103 (m 103 + nI X)) (nI X) n n = m n := by rw [rd n (by omega) (by omega), upd_ne _ _ (by omega)]
      have i3 : rSkL (upd m 103 (m 103 + nI X)) (nI X) n (36 + n) = m (36 + n) := by rw [rd _ (by omega) (by omega), upd_ne _ _ (by omega)]
      rw [hSkL, rSkL]
      generalize rSkL (upd m 103 (m 103 + nI X)) (nI X) n = m1 at *
      generalize hSkL (phf σ 5 (hf σ 5 + nI X)) (nI X) n = τ at *
      have h3 := h2
      obtain ⟨hw1, e, c, hN, hM, hR, hSt, hU, hL, hG⟩ := h2
      obtain ⟨⟨q0, q1, q2, q3⟩, -⟩ := hM n (by omega)
      rw [hSkS, rSkS, q0]
      by_cases h4 : m1 n = 2
      · obtain ⟨r, hr5, er⟩ := (hw1.1 n (by omega)).resolve_left (by rw [h4]; decide)
        obtain ⟨y, y1, y2, y3⟩ := (hq.2.2.2.2 n (by omega)).1 (by rw [← i0]; exact h4)
        have hrn : hRn τ n = r := by rw [hRn, q1, er, nI_clamp (by omega)]
        have hr6 : hr τ r 6 = m1 (85 + r) := (hR r hr5).2.2.2.2.2.2.1
        have hv : m1 (36 + n) - nI X = nI (y - X) := by rw [i3, y3, nI_sb (by omega)]
        rw [if_pos h4, if_pos h4, hrn, er, nI_clamp (by omega), q3]
        have h5 := (h3.tin hr5 (m1 (85 + r) + nI X)).tik (k := n) (by omega) hv (by omega) (by omega)
        rw [← hr6] at h5 ⊢
        exact h5
      · rw [if_neg h4, if_neg h4]
        exact h3
  exact key 12 (by omega)

