/-! ===== queues: the line and the order of the calls ===== -/
theorem ct_line {N : Nat} {f : Nat → Nat} : ∀ (n : Nat) (p : Nat → Bool), (∀ i, i < n → f i < N) → (∀ i j, i < j → j < n → f i ≠ f j) → (∀ q, q < N → p q = true → ∃ i, i < n ∧ f i = q) → fb_ct p N = fb_ct (fun j => p (f j)) n
  | 0, p, _, _, hc => by
    rw [show fb_ct (fun j => p (f j)) 0 = 0 from rfl, fb_ct_zero]
    intro k hk
    cases h : p k with
    | false => rfl
    | true =>
      obtain ⟨i, hi, -⟩ := hc k hk h
      omega
  | n + 1, p, hb, hi, hc => by
    have hu := fb_ct_upd p false (i := f n) (n := N) (hb n (by omega))
    have ih := ct_line (N := N) (f := f) n (fun k => if k = f n then false else p k) (fun i h => hb i (by omega)) (fun i j h1 h2 => hi i j h1 (by omega)) (fun q hq hp => by
      by_cases e : q = f n
      · simp [e] at hp
      · simp only [e, if_false] at hp
        obtain ⟨i, h1, h2⟩ := hc q hq hp
        refine ⟨i, ?_, h2⟩
        rcases Nat.lt_or_ge i n with z | z
        · exact z
        · have : i = n := by omega
          subst this
          exact absurd h2.symm e)
    rw [ih] at hu
    rw [fb_ct_succ]
    have hc2 : fb_ct (fun j => if f j = f n then false else p (f j)) n = fb_ct (fun j => p (f j)) n :=
      fb_ct_cong (fun j hj => by rw [if_neg (hi j n hj (by omega))])
    rw [hc2] at hu
    simp only [Bool.false_eq_true, if_false, Nat.add_zero] at hu
    exact hu.symm
theorem ct_below (p : Nat → Bool) {i n : Nat} (h : i ≤ n) : fb_ct (fun j => p j && decide (j < i)) n = fb_ct p i := by
  obtain ⟨d, rfl⟩ := Nat.exists_eq_add_of_le h
  have h0 : fb_ct (fun k => p (i + k) && decide (i + k < i)) d = 0 := fb_ct_zero.mpr (fun k hk => by simp)
  rw [fb_ct_split, h0, Nat.add_zero]
  exact fb_ct_cong (fun k hk => by simp [hk])
/-- what a line says of the members -/
theorem RLine.inj {σ : hs_T} {m : Nat → Int32} (h : RLine σ m) : ∀ i j, i < j → j < hLn σ → hPl σ i ≠ hPl σ j := by
  intro i j hij hj e
  have := (h.2.2.2.2 i j hij hj).1
  rw [e] at this
  exact absurd this Int32.lt_irrefl
theorem RLine.call {σ : hs_T} {m : Nat → Int32} (h : RLine σ m) {i j : Nat} (hi : i < hLn σ) (hj : j < hLn σ) : m (48 + hPl σ j) < m (48 + hPl σ i) ↔ j < i := by
  constructor
  · intro hlt
    rcases Nat.lt_or_ge j i with z | z
    · exact z
    · rcases Nat.lt_or_ge i j with y | y
      · exact absurd (Int32.lt_trans hlt (h.2.2.2.2 i j y hj).1) Int32.lt_irrefl
      · have : i = j := by omega
        subst this
        exact absurd hlt Int32.lt_irrefl
  · intro hlt
    exact (h.2.2.2.2 j i hlt hi).1
theorem line_ct {σ : hs_T} {m : Nat → Int32} (h : RLine σ m) (p : Nat → Bool) (hp : ∀ q, q < 12 → p q = true → m q = 1) : fb_ct p 12 = fb_ct (fun j => p (hPl σ j)) (hLn σ) :=
  ct_line (hLn σ) p (fun i hi => (h.2.2.1 i hi).1) h.inj (fun q hq hpq => h.2.2.2.1 q hq (hp q hq hpq))
theorem rWai_line {t c : Nat} {σ : hs_T} {m : Nat → Int32} (hM : RMem t c σ m) (h : RLine σ m) (x : Int32) : rWai m x = hCq σ (hPl σ) x (hLn σ) := by
  rw [rWai, line_ct h _ (fun q hq hpq => by simp only [Bool.and_eq_true, decide_eq_true_eq] at hpq; exact hpq.1), hCq]
  refine fb_ct_cong (fun j hj => ?_)
  obtain ⟨a, b, d⟩ := h.2.2.1 j hj
  rw [d, (hM _ a).1.2.1]
  simp
theorem rBef_line {t c : Nat} {σ : hs_T} {m : Nat → Int32} (hM : RMem t c σ m) (h : RLine σ m) {i : Nat} (hi : i < hLn σ) : rBef m (hPl σ i) = hCq σ (hPl σ) (hm σ (hPl σ i) 1) i := by
  obtain ⟨a, b, d⟩ := h.2.2.1 i hi
  rw [rBef, line_ct h _ (fun q hq hpq => by simp only [Bool.and_eq_true, decide_eq_true_eq] at hpq; exact hpq.1), hCq, ← ct_below _ (Nat.le_of_lt hi)]
  refine fb_ct_cong (fun j hj => ?_)
  obtain ⟨a', b', d'⟩ := h.2.2.1 j hj
  rw [d', (hM _ a).1.2.1, (hM _ a').1.2.1]
  by_cases z : j < i
  · simp [z, (h.call hi hj).mpr z]
  · have : ¬ m (48 + hPl σ j) < m (48 + hPl σ i) := fun y => z ((h.call hi hj).mp y)
    simp [z, this]
theorem rInq_line {t c : Nat} {σ : hs_T} {m : Nat → Int32} (hM : RMem t c σ m) (h : RLine σ m) (x pc : Int32) : hInq σ (hPl σ) (hLn σ) x pc = rInq m x pc := by
  have hle : ∀ i, i ≤ hLn σ → hCq σ (hPl σ) x i ≤ 12 := fun i hi => Nat.le_trans (fb_ct_le _ _) (Nat.le_trans hi h.1)
  rw [hInq, rInq]
  cases hf : ff (fun i => decide (hm σ (hPl σ i) 1 = x) && decide (nI (hCq σ (hPl σ) x i) = pc)) (hLn σ) with
  | some i =>
    obtain ⟨i1, i2, -⟩ := ff_is hf
    simp only [Bool.and_eq_true, decide_eq_true_eq] at i2
    obtain ⟨a, b, d⟩ := h.2.2.1 i i1
    have hbi := rBef_line hM h i1
    rw [i2.1] at hbi
    cases hg : ff (fun k => decide (m k = 1) && (decide (m (12 + k) = x) && decide (nI (rBef m k) = pc))) 12 with
    | none =>
      have := ff_no hg _ a
      rw [d, ← (hM _ a).1.2.1, i2.1, hbi, i2.2] at this
      simp at this
    | some q =>
      obtain ⟨q1, q2, -⟩ := ff_is hg
      simp only [Bool.and_eq_true, decide_eq_true_eq] at q2
      obtain ⟨i', hi', rfl⟩ := h.2.2.2.1 q q1 q2.1
      have hbi' := rBef_line hM h hi'
      have hrm : hm σ (hPl σ i') 1 = x := by rw [(hM _ q1).1.2.1]; exact q2.2.1
      rw [hrm] at hbi'
      have he : hCq σ (hPl σ) x i = hCq σ (hPl σ) x i' := by
        have h3 := q2.2.2
        rw [hbi', ← i2.2] at h3
        have l1 := hle i (by omega)
        have l2 := hle i' (by omega)
        exact ((nI_eq (by omega) (by omega)).mp h3).symm
      have : i = i' := fb_ct_kth_one (p := fun i => decide (hm σ (hPl σ i) 1 = x)) (by simp [i2.1]) (by simp [hrm]) he
      subst this
      rfl
  | none =>
    cases hg : ff (fun k => decide (m k = 1) && (decide (m (12 + k) = x) && decide (nI (rBef m k) = pc))) 12 with
    | none => rfl
    | some q =>
      obtain ⟨q1, q2, -⟩ := ff_is hg
      simp only [Bool.and_eq_true, decide_eq_true_eq] at q2
      obtain ⟨i', hi', rfl⟩ := h.2.2.2.1 q q1 q2.1
      have hbi' := rBef_line hM h hi'
      have hrm : hm σ (hPl σ i') 1 = x := by rw [(hM _ q1).1.2.1]; exact q2.2.1
      rw [hrm] at hbi'
      have := ff_no hf i' hi'
      rw [hrm, ← hbi', q2.2.2] at this
      simp at this
theorem hCb_line {t c : Nat} {σ : hs_T} {m : Nat → Int32} (hM : RMem t c σ m) (h : RLine σ m) {q : Nat} (hq : q < 12) : hCb σ (hPl σ) (hLn σ) q = if m q = 1 then nI (rBef m q) else -1 := by
  rw [hCb]
  by_cases h1 : m q = 1
  · obtain ⟨i, hi, rfl⟩ := h.2.2.2.1 q hq h1
    rw [if_pos h1, ff_some (i := i) hi (by simp) (fun j hj => by simp [h.inj j i hj hi]), rBef_line hM h hi]
    rfl
  · rw [if_neg h1, ff_none (fun j hj => by
      have := (h.2.2.1 j hj).2.2
      simp
      intro e
      rw [e] at this
      exact h1 this)]
    rfl
theorem himp_line {F E t e c : Nat} {σ : hs_T} {m : Nat → Int32} (hN : RNum F E t e c σ m) (hM : RMem t c σ m) (hSt : RSet σ m) {k : Nat} (hk : k < 12) (h1 : m k = 1) : himp σ k = rImp m k := by
  rw [himp, rImp, hSt.1, hN.1, ← hN.2.1, (hM k hk).1.2.2.1, h1]
  simp
theorem hTo_line {F E t e c : Nat} {σ : hs_T} {m : Nat → Int32} (hN : RNum F E t e c σ m) (hM : RMem t c σ m) (hSt : RSet σ m) (hU : RUse σ m) (h : RLine σ m) (hu : ¬ rInUse m = -1) : hTo σ = rDue m (rInUse m) := by
  have h10 : hf σ 10 = m 105 := by rw [hU.2.2.2.1, if_neg hu]
  have hoth : ∀ i, i < hLn σ → rOth m (rInUse m) (hPl σ i) = !decide (hm σ (hPl σ i) 1 = hf σ 8) := by
    intro i hi
    obtain ⟨a, b, d⟩ := h.2.2.1 i hi
    rw [rOth, d, hU.1, (hM _ a).1.2.1]
    simp
  have key : hTo σ = true ↔ rDue m (rInUse m) = true := by
    rw [hTo, rDue, ex_iff, Bool.and_eq_true, Bool.or_eq_true, ex_iff, ex_iff, hSt.2.1, h10]
    constructor
    · rintro ⟨i, hi, hp⟩
      obtain ⟨a, b, d⟩ := h.2.2.1 i hi
      rw [← hoth i hi, himp_line hN hM hSt a d, Bool.and_eq_true, Bool.or_eq_true] at hp
      refine ⟨⟨_, a, hp.1⟩, ?_⟩
      rcases hp.2 with z | z
      · exact Or.inr z
      · exact Or.inl ⟨_, a, by rw [hp.1, z]; rfl⟩
    · rintro ⟨⟨q, hq, hp⟩, hz⟩
      have w1 : ∀ q, rOth m (rInUse m) q = true → m q = 1 := fun q z => by
        simp only [rOth, Bool.and_eq_true, decide_eq_true_eq] at z
        exact z.1
      rcases hz with ⟨q2, hq2, hp2⟩ | hz
      · rw [Bool.and_eq_true] at hp2
        obtain ⟨i, hi, rfl⟩ := h.2.2.2.1 q2 hq2 (w1 q2 hp2.1)
        obtain ⟨a, b, d⟩ := h.2.2.1 i hi
        exact ⟨i, hi, by rw [← hoth i hi, himp_line hN hM hSt a d, hp2.1, hp2.2]; simp⟩
      · obtain ⟨i, hi, rfl⟩ := h.2.2.2.1 q hq (w1 q hp)
        exact ⟨i, hi, by rw [← hoth i hi, hp, hz]; rfl⟩
  cases h1 : hTo σ with
  | true => exact (key.mp h1).symm
  | false =>
    cases h2 : rDue m (rInUse m) with
    | false => rfl
    | true => rw [key.mpr h2] at h1; cases h1

