/-! ===== which room is next ===== -/
theorem rNf_least {m : Nat → Int32} : ∀ {n f : Nat}, rNf m n = some f → ∀ k, k < n → rImp m k = true → ¬ m (48 + k) < m (48 + f)
  | 0, f, h, k, hk, _ => by omega
  | n + 1, f, h, k, hk, hi => by
    rw [rNf] at h
    cases hf : rNf m n with
    | none =>
      rw [hf] at h
      have hno : ∀ {n : Nat}, rNf m n = none → ∀ k, k < n → rImp m k = false := by
        intro n
        induction n with
        | zero => intro _ k hk; omega
        | succ n ih =>
          intro hn k hk
          rw [rNf] at hn
          cases hg : rNf m n with
          | some g =>
            rw [hg] at hn
            by_cases z : (rImp m n && decide (m (48 + n) < m (48 + g))) = true
            · simp only [z, if_true] at hn; cases hn
            · simp only [z, Bool.false_eq_true, if_false] at hn; cases hn
          | none =>
            rw [hg] at hn
            by_cases z : k = n
            · subst z
              cases y : rImp m k with
              | false => rfl
              | true => simp [y] at hn
            · exact ih hg k (by omega)
      by_cases z : k = n
      · subst z
        simp only [hi, if_true, Option.some.injEq] at h
        subst h
        exact Int32.lt_irrefl
      · rw [hno hf k (by omega)] at hi; cases hi
    | some g =>
      rw [hf] at h
      by_cases z : (rImp m n && decide (m (48 + n) < m (48 + g))) = true
      · simp only [z, if_true, Option.some.injEq] at h
        subst h
        simp only [Bool.and_eq_true, decide_eq_true_eq] at z
        by_cases y : k = n
        · subst y; exact Int32.lt_irrefl
        · intro hlt
          exact rNf_least hf k (by omega) hi (Int32.lt_trans hlt z.2)
      · simp only [z, Bool.false_eq_true, if_false, Option.some.injEq] at h
        subst h
        by_cases y : k = n
        · subst y
          intro hlt
          exact z (by simp [hi, hlt])
        · exact rNf_least hf k (by omega) hi
theorem rNf_none {m : Nat → Int32} : ∀ {n : Nat}, rNf m n = none ↔ ∀ k, k < n → rImp m k = false
  | 0 => ⟨fun _ k hk => absurd hk (by omega), fun _ => rfl⟩
  | n + 1 => by
    rw [rNf]
    cases hg : rNf m n with
    | some g =>
      constructor
      · intro hn
        by_cases z : (rImp m n && decide (m (48 + n) < m (48 + g))) = true
        · simp only [z, if_true] at hn; cases hn
        · simp only [z, Bool.false_eq_true, if_false] at hn; cases hn
      · intro ha
        have := rNf_is hg
        rw [ha g (by omega)] at this
        exact absurd this.2 (by decide)
    | none =>
      constructor
      · intro hn k hk
        by_cases z : k = n
        · subst z
          cases y : rImp m k with
          | false => rfl
          | true => simp [y] at hn
        · exact rNf_none.mp hg k (by omega)
      · intro ha
        simp [ha n (by omega)]
/-- a before b, by score, then by number -/
def lexb (s : Nat → Int32) (a b : Nat) : Prop := s a < s b ∨ (s a = s b ∧ a < b)
theorem lexb_trans {s : Nat → Int32} {a b c : Nat} (h1 : lexb s a b) (h2 : lexb s b c) : lexb s a c := by
  rcases h1 with x | ⟨x, x2⟩ <;> rcases h2 with y | ⟨y, y2⟩
  · exact Or.inl (Int32.lt_trans x y)
  · exact Or.inl (by rw [← y]; exact x)
  · exact Or.inl (by rw [x]; exact y)
  · exact Or.inr ⟨x.trans y, by omega⟩
theorem lexb_irr {s : Nat → Int32} {a : Nat} : ¬ lexb s a a := by
  rintro (x | ⟨-, x⟩)
  · exact absurd x Int32.lt_irrefl
  · omega
theorem lexb_tot {s : Nat → Int32} {a b : Nat} (h : a ≠ b) : lexb s a b ∨ lexb s b a := by
  by_cases x : s a < s b
  · exact Or.inl (Or.inl x)
  · by_cases y : s b < s a
    · exact Or.inr (Or.inl y)
    · have e : s a = s b := Int32.le_antisymm (Int32.not_lt.mp y) (Int32.not_lt.mp x)
      rcases Nat.lt_or_ge a b with z | z
      · exact Or.inl (Or.inr ⟨e, z⟩)
      · exact Or.inr (Or.inr ⟨e.symm, by omega⟩)
theorem rNb_least {m : Nat → Int32} : ∀ {n f : Nat}, rNb m n = some f → ∀ k, k < n → 0 < rWai m (nI k) → ¬ lexb (fun r => m (70 + r)) k f
  | 0, f, h, k, hk, _ => by omega
  | n + 1, f, h, k, hk, hi => by
    have hfn : f < n + 1 := (rNb_is h).1
    rw [rNb] at h
    cases hf : rNb m n with
    | none =>
      rw [hf] at h
      have hfe : f = n := by
        by_cases z : 0 < rWai m (nI n)
        · simp only [z, if_true, Option.some.injEq] at h; exact h.symm
        · simp only [z, if_false] at h; cases h
      subst hfe
      by_cases z : k = f
      · subst z; exact lexb_irr
      · have hno : ∀ {n : Nat}, rNb m n = none → ∀ k, k < n → ¬ 0 < rWai m (nI k) := by
          intro n
          induction n with
          | zero => intro _ k hk; omega
          | succ n ih =>
            intro hn k hk
            rw [rNb] at hn
            cases hg : rNb m n with
            | some g =>
              rw [hg] at hn
              by_cases z : (decide (0 < rWai m (nI n)) && decide (m (70 + n) < m (70 + g))) = true
              · simp only [z, if_true] at hn; cases hn
              · simp only [z, Bool.false_eq_true, if_false] at hn; cases hn
            | none =>
              rw [hg] at hn
              by_cases z : k = n
              · subst z
                intro y
                simp only [y, if_true] at hn
                cases hn
              · exact ih hg k (by omega)
        exact absurd hi (hno hf k (by omega))
    | some g =>
      have hg := rNb_is hf
      rw [hf] at h
      by_cases z : (decide (0 < rWai m (nI n)) && decide (m (70 + n) < m (70 + g))) = true
      · simp only [z, if_true, Option.some.injEq] at h
        subst h
        simp only [Bool.and_eq_true, decide_eq_true_eq] at z
        by_cases y : k = n
        · subst y; exact lexb_irr
        · intro hlt
          exact rNb_least hf k (by omega) hi (lexb_trans hlt (Or.inl z.2))
      · simp only [z, Bool.false_eq_true, if_false, Option.some.injEq] at h
        subst h
        by_cases y : k = n
        · subst y
          rintro (x | ⟨-, x⟩)
          · exact z (by simp [hi, x])
          · omega
        · exact rNb_least hf k (by omega) hi
theorem rNb_none {m : Nat → Int32} : ∀ {n : Nat}, rNb m n = none → ∀ k, k < n → ¬ 0 < rWai m (nI k)
  | 0, _, k, hk => by omega
  | n + 1, hn, k, hk => by
    rw [rNb] at hn
    cases hg : rNb m n with
    | some g =>
      rw [hg] at hn
      by_cases z : (decide (0 < rWai m (nI n)) && decide (m (70 + n) < m (70 + g))) = true
      · simp only [z, if_true] at hn; cases hn
      · simp only [z, Bool.false_eq_true, if_false] at hn; cases hn
    | none =>
      rw [hg] at hn
      by_cases z : k = n
      · subst z
        intro y
        simp only [y, if_true] at hn
        cases hn
      · exact rNb_none hg k (by omega)
theorem hNx_is {σ : hs_T} {pl : Nat → Nat} : ∀ {n b : Nat}, hNx σ pl n = some b → (∃ i, i < n ∧ hRn σ (pl i) = b) ∧ ∀ i, i < n → ¬ lexb (fun r => hr σ r 2) (hRn σ (pl i)) b
  | 0, b, h => by simp [hNx] at h
  | n + 1, b, h => by
    rw [hNx] at h
    have hgb : ∀ a c, hGb σ a c = true ↔ lexb (fun r => hr σ r 2) a c := by
      intro a c
      simp [hGb, lexb]
    cases hc : hNx σ pl n with
    | none =>
      rw [hc] at h
      cases h
      have hn0 : n = 0 := by
        cases n with
        | zero => rfl
        | succ n =>
          rw [hNx] at hc
          cases hd : hNx σ pl n with
          | none => rw [hd] at hc; cases hc
          | some y =>
            rw [hd] at hc
            by_cases z : hGb σ (hRn σ (pl n)) y = true
            · simp only [z, if_true] at hc; cases hc
            · simp only [z, Bool.false_eq_true, if_false] at hc; cases hc
      subst hn0
      refine ⟨⟨0, by omega, rfl⟩, fun i hi => ?_⟩
      have : i = 0 := by omega
      subst this
      exact lexb_irr
    | some y =>
      obtain ⟨⟨j, hj, hj2⟩, hmin⟩ := hNx_is hc
      rw [hc] at h
      by_cases z : hGb σ (hRn σ (pl n)) y = true
      · simp only [z, if_true, Option.some.injEq] at h
        subst h
        refine ⟨⟨n, by omega, rfl⟩, fun i hi => ?_⟩
        by_cases e : i = n
        · subst e; exact lexb_irr
        · intro hlt
          exact hmin i (by omega) (lexb_trans hlt ((hgb _ _).mp z))
      · simp only [z, Bool.false_eq_true, if_false, Option.some.injEq] at h
        subst h
        refine ⟨⟨j, by omega, hj2⟩, fun i hi => ?_⟩
        by_cases e : i = n
        · subst e; exact fun hlt => z ((hgb _ _).mpr hlt)
        · exact hmin i (by omega)
theorem hNx_some {σ : hs_T} {pl : Nat → Nat} {n : Nat} (h : 0 < n) : ∃ b, hNx σ pl n = some b := by
  cases n with
  | zero => omega
  | succ n =>
    rw [hNx]
    cases hc : hNx σ pl n with
    | none => exact ⟨_, rfl⟩
    | some y =>
      by_cases z : hGb σ (hRn σ (pl n)) y = true
      · exact ⟨hRn σ (pl n), by simp only [z, if_true]⟩
      · exact ⟨y, by simp only [z, Bool.false_eq_true, if_false]⟩
theorem hNext_line {F E t e c : Nat} {σ : hs_T} {m : Nat → Int32} (hw : RW m) (hN : RNum F E t e c σ m) (hM : RMem t c σ m) (hR : RRoom σ m) (hSt : RSet σ m) (h : RLine σ m) : hNext σ (hPl σ) (hLn σ) = rNext m := by
  have wimp : ∀ k, rImp m k = true → m k = 1 := fun k z => by
    simp only [rImp, Bool.and_eq_true, decide_eq_true_eq] at z
    exact z.1
  rw [hNext, rNext]
  by_cases h0 : hLn σ = 0
  · rw [if_pos h0, rNf_none.mpr (fun k hk => by
      cases y : rImp m k with
      | false => rfl
      | true =>
        obtain ⟨i, hi, -⟩ := h.2.2.2.1 k hk (wimp k y)
        omega)]
    cases hb : rNb m 5 with
    | none => rfl
    | some f =>
      have := (rNb_is hb).2
      rw [rWai_line hM h, h0] at this
      exact absurd this (Nat.lt_irrefl 0)
  · rw [if_neg h0]
    obtain ⟨a0, b0, d0⟩ := h.2.2.1 0 (by omega)
    rw [himp_line hN hM hSt a0 d0]
    by_cases hi0 : rImp m (hPl σ 0) = true
    · rw [if_pos hi0]
      cases hf : rNf m 12 with
      | none =>
        rw [rNf_none.mp hf _ a0] at hi0
        cases hi0
      | some f =>
        obtain ⟨f1, f2⟩ := rNf_is hf
        obtain ⟨i, hi, rfl⟩ := h.2.2.2.1 f f1 (wimp f f2)
        have hl := rNf_least hf _ a0 hi0
        have : i = 0 := by
          rcases Nat.eq_zero_or_pos i with z | z
          · exact z
          · exact absurd (h.2.2.2.2 0 i z hi).1 hl
        subst this
        exact (hM _ a0).1.2.1
    · rw [if_neg hi0]
      have hno : ∀ k, k < 12 → rImp m k = false := by
        intro k hk
        cases y : rImp m k with
        | false => rfl
        | true =>
          exfalso
          apply hi0
          have y1 := wimp k y
          obtain ⟨i, hi, rfl⟩ := h.2.2.2.1 k hk y1
          obtain ⟨s0, hs0, es0⟩ := (hM _ a0).2.2.1 (by rw [d0]; decide)
          obtain ⟨si, hsi, esi⟩ := (hM _ hk).2.2.1 (by rw [y1]; decide)
          obtain ⟨p, hp1, hp2, ep⟩ := hSt.2.2.2.2.2.1
          have ht := hN.2.1
          have ht2 := hN.2.2.1
          have hle : s0 ≤ si := by
            rcases Nat.eq_zero_or_pos i with z | z
            · subst z
              rw [es0] at esi
              have := (nI_eq (by omega) (by omega)).mp esi
              omega
            · have := (h.2.2.2.2 0 i z hi).2
              rw [es0, esi] at this
              exact (nI_leI (by omega) (by omega)).mp this
          simp only [rImp, Bool.and_eq_true, decide_eq_true_eq] at y ⊢
          refine ⟨d0, ?_⟩
          have y2 := y.2
          rw [ep, ht, esi, pk_sub hsi] at y2
          have := (nI_leI (by omega) (by omega)).mp y2
          rw [ep, ht, es0, pk_sub hs0]
          exact nI_le (by omega) (by omega)
      rw [rNf_none.mpr hno]
      show oI (hNx σ (hPl σ) (hLn σ)) = oI (rNb m 5)
      obtain ⟨b, hb⟩ := hNx_some (σ := σ) (pl := hPl σ) (n := hLn σ) (by omega)
      obtain ⟨⟨i, hi, hib⟩, hmin⟩ := hNx_is hb
      have room : ∀ i, i < hLn σ → ∃ r, r < 5 ∧ m (12 + hPl σ i) = nI r ∧ hRn σ (hPl σ i) = r ∧ 0 < rWai m (nI r) := by
        intro i hi
        obtain ⟨a, b, d⟩ := h.2.2.1 i hi
        obtain ⟨r, hr1, hr2⟩ := (hw.1 _ a).resolve_left (by rw [d]; decide)
        refine ⟨r, hr1, hr2, by rw [hRn, (hM _ a).1.2.1, hr2, nI_clamp (by omega)], ?_⟩
        have := rWai_pos a d hr2
        omega
      obtain ⟨r, hr5, hr2, hr3, hr4⟩ := room i hi
      have hbr : b = r := by rw [← hib]; exact hr3
      subst hbr
      cases hf : rNb m 5 with
      | none => exact absurd hr4 (rNb_none hf _ hr5)
      | some f =>
        obtain ⟨f1, f2⟩ := rNb_is hf
        have hl := rNb_least hf _ hr5 hr4
        have f3 := f2
        rw [rWai_line hM h] at f3
        obtain ⟨i', hi', hp'⟩ := fb_ct_pos.mp f3
        simp only [decide_eq_true_eq] at hp'
        have hrn' : hRn σ (hPl σ i') = f := by rw [hRn, hp', nI_clamp (by omega)]
        have hm' := hmin i' hi'
        rw [hrn'] at hm'
        have sc : ∀ a c, a < 5 → c < 5 → (lexb (fun r => hr σ r 2) a c ↔ lexb (fun r => m (70 + r)) a c) := by
          intro a c ha hc
          simp only [lexb]
          rw [(hR a ha).2.2.1, (hR c hc).2.2.1]
        rw [hb]
        by_cases z : b = f
        · rw [z]
        · rcases lexb_tot (s := fun r => m (70 + r)) z with y | y
          · exact absurd y hl
          · exact absurd ((sc f b f1 hr5).mpr y) hm'

