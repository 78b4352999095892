/-! ===== houses that answer alike; foretelling ===== -/
theorem Rel.ext {F E t : Nat} {σ σ' : hs_T} {m : Nat → Int32} (h : Rel F E t σ m) (hE : hEq σ σ') : Rel F E t σ' m := by
  obtain ⟨hw, e, c, hN, hM, hR, hSt, hU, hL, hG⟩ := h
  obtain ⟨e1, e2, e3, e4, e5, e6, e7, e8⟩ := hE
  have eL : hLn σ' = hLn σ := by rw [hLn, hLn, e5]
  have eP : ∀ i, i < 12 → hPl σ' i = hPl σ i := fun i hi => by rw [hPl, hPl, e4 i hi]
  obtain ⟨l1, l2, l3, l4, l5⟩ := hL
  refine ⟨hw, e, c, ?_, fun k hk => ?_, fun r hr5 => ?_, ?_, ?_, ?_, ?_⟩
  · obtain ⟨n1, n2, n3, n4, n5⟩ := hN
    exact ⟨by rw [e3 5 (by omega) (by omega)]; exact n1, n2, n3, by rw [e7]; exact n4, n5⟩
  · rw [e1 k 0 hk (by omega), e1 k 1 hk (by omega), e1 k 2 hk (by omega), e1 k 3 hk (by omega)]
    exact hM k hk
  · rw [e2 r 0 hr5 (by omega), e2 r 1 hr5 (by omega), e2 r 2 hr5 (by omega), e2 r 3 hr5 (by omega), e2 r 4 hr5 (by omega), e2 r 5 hr5 (by omega), e2 r 6 hr5 (by omega), e2 r 7 hr5 (by omega), e2 r 8 hr5 (by omega)]
    exact hR r hr5
  · rw [RSet, e8 0 (by omega), e8 1 (by omega), e8 2 (by omega), e3 6 (by omega) (by omega), e3 7 (by omega) (by omega)]
    exact hSt
  · rw [RUse, e3 8 (by omega) (by omega), e3 9 (by omega) (by omega), e3 10 (by omega) (by omega)]
    exact hU
  · rw [RLine, eL, e5]
    refine ⟨l1, l2, fun i hi => ?_, fun k hk hk1 => ?_, fun i j hij hj => ?_⟩
    · rw [eP i (by omega), e4 i (by omega)]
      exact l3 i hi
    · obtain ⟨i, hi, hi2⟩ := l4 k hk hk1
      exact ⟨i, hi, by rw [eP i (by omega)]; exact hi2⟩
    · rw [eP i (by omega), eP j (by omega)]
      exact l5 i j hij hj
  · refine ⟨hG.1, fun i w hi hw4 => ?_⟩
    rw [e6 _ (by omega)]
    exact hG.2 i w hi hw4
theorem Rel.quota {F E t : Nat} {σ : hs_T} {m : Nat → Int32} (h : Rel F E t σ m) (x : Int32) : Rel F E t (phu σ 1 x) (upd m 101 x) := by
  obtain ⟨hw, e, c, hN, hM, hR, hSt, hU, hL, hG⟩ := h
  have lo : ∀ j, j ≠ 101 → upd m 101 x j = m j := fun j hj => upd_ne _ _ hj
  obtain ⟨n1, n2, n3, n4, n5, n6, n7, n8, n9, n10⟩ := hN
  refine ⟨hw.put (by omega) _, e, c, ⟨n1, by rw [lo 103 (by omega)]; exact n2, n3, n4, by rw [lo 109 (by omega)]; exact n5, n6, n7, by rw [lo 107 (by omega)]; exact n8, n9, n10⟩, hM.cong rfl (fun j hj => lo j (by omega)), hR.cong rfl (fun j hj => lo j (by omega)), ?_, hU.cong rfl rfl rfl (fun j hj => lo j (by omega)), hL.cong rfl rfl (fun j hj => lo j (by omega)), hG.cong (fun j hj => lo j (by omega))⟩
  obtain ⟨u0, u1, u2, u6, u7, hp, hv⟩ := hSt
  refine ⟨?_, ?_, ?_, ?_, ?_, ?_, ?_⟩
  · rw [lo 100 (by omega)]; exact u0
  · rw [upd_same]; show upd (hu σ) 1 x 1 = x; exact upd_same _ _ _
  · rw [lo 102 (by omega)]; exact u2
  · rw [lo 106 (by omega)]; exact u6
  · rw [lo 110 (by omega)]; exact u7
  · rw [lo 100 (by omega)]; exact hp
  · rw [lo 102 (by omega)]; exact hv
/-- one that waits waits on, or enters -/
def wst (x : Int32) : Prop := x = 1 ∨ x = 2
theorem rEnt_wst {m : Nat → Int32} {r k q : Nat} (hr : r < 5) (hk : k < 12) (hq : q < 12) (h : wst (m q)) : wst (rEnt m r k q) := by
  rw [rEnt, rLogs_lo _ _ _ _ (by omega)]
  by_cases e : q = k
  · subst e
    exact Or.inr (rEnt1_k hr hk)
  · rw [rEnt1_ne m e (by omega) (by omega) (by omega) (by omega) (by omega)]
    exact h
theorem rOnce_wst {m : Nat → Int32} (h : RW m) {q : Nat} (hq : q < 12) (hs : wst (m q)) : wst ((rOnce m).1 q) := by
  rw [rOnce]
  split
  · split
    · exact hs
    · rename_i h1 h2
      obtain ⟨r, hr, er, hw⟩ := (rNext_is h).resolve_left h2
      rw [er, nI_clamp (by omega)]
      have hw2 : ¬ rWai (rOpn m r) (nI r) = 0 := by rw [rWai_cong (fun j hj => rOpn_lo m hr (by omega))]; exact hw
      obtain ⟨k, hk, ek, hk1, -⟩ := rInq_ex hw2
      rw [ek, nI_clamp (by omega)]
      exact rEnt_wst hr hk hq (by rw [rOpn_lo m hr (by omega)]; exact hs)
  · split
    · exact hs
    · rename_i h1 h2
      obtain ⟨r, hr, er⟩ := (rInUse_is h).resolve_left h1
      split
      · show wst (rLogs (upd m 104 0) 3 (-1) (rInUse m) q)
        rw [rLogs_lo _ _ _ _ (by omega), upd_ne _ _ (by omega)]
        exact hs
      · have hw : ¬ rWai m (rInUse m) = 0 := fun e => h2 (Or.inr (Or.inl e))
        obtain ⟨k, hk, ek, hk1, -⟩ := rInq_ex hw
        rw [er] at ek ⊢
        rw [ek, nI_clamp (by omega), nI_clamp (by omega)]
        exact rEnt_wst hr hk hq hs
theorem rActs_wst {q : Nat} (hq : q < 12) : ∀ {n : Nat} {m m' : Nat → Int32}, RW m → rActs n m = some m' → wst (m q) → wst (m' q)
  | 0, m, m', _, h, _ => by simp [rActs] at h
  | n + 1, m, m', hw, h, hs => by
    rw [rActs] at h
    split at h
    · exact rActs_wst hq hw.once h (rOnce_wst hw hq hs)
    · cases h; exact hs
theorem rTkS_one {m : Nat → Int32} {q k : Nat} (hq : q < 12) (hk : k < 12) (h1 : m q = 1) : rTkS m k q = 1 := by
  by_cases e : q = k
  · subst e
    simp only [rTkS]
    rw [if_neg (by rw [h1]; decide), if_neg (fun z => absurd z.1 (by rw [h1]; decide))]
    exact h1
  · simp only [rTkS]
    split
    · split
      · rw [rLogs_lo _ _ _ _ (by omega), rLeaves_ne _ e (by omega) (by omega) (by omega), upd_ne _ _ (by omega), upd_ne _ _ (by omega)]
        exact h1
      · rw [upd_ne _ _ (by omega), upd_ne _ _ (by omega)]
        exact h1
    · split
      · rw [rLogs_lo _ _ _ _ (by omega), rLeaves_ne _ e (by omega) (by omega) (by omega)]
        exact h1
      · exact h1
theorem rTkL_one {m : Nat → Int32} {q : Nat} (hq : q < 12) (h1 : m q = 1) : ∀ n, n ≤ 12 → rTkL m n q = 1
  | 0, _ => h1
  | n + 1, hn => rTkS_one hq (by omega) (rTkL_one hq h1 n (by omega))
theorem rTick_wst {m m' : Nat → Int32} {n q : Nat} (hw : RW m) (hq : q < 12) (h1 : m q = 1) (h : rTick n m = some m') : wst (m' q) :=
  rActs_wst hq (RW.tkL (hw.put (by omega) _) (Nat.le_refl 12)) h (Or.inl (rTkL_one hq (by rw [upd_ne _ _ (by omega)]; exact h1) 12 (Nat.le_refl _)))
/-- the reference's row behind so many ticks -/
def rP (m : Nat → Int32) (T : Nat) : Nat → Int32 := (rPass 14 T m).getD m
theorem rP_of {m m' : Nat → Int32} {T : Nat} (h : rPass 14 T m = some m') : rP m T = m' := by rw [rP, h]; rfl
theorem rP_0 (m : Nat → Int32) : rP m 0 = m := rfl
theorem Rel.passes {F E t : Nat} {σ : hs_T} {m : Nat → Int32} (h : Rel F E t σ m) : ∀ T, F + 40 * T ≤ 1000000000 → t + T ≤ 20600 → ∃ σ' m', rPass 14 T m = some m' ∧ Rel (F + 40 * T) E (t + T) σ' m'
  | 0, _, _ => ⟨σ, m, rfl, h⟩
  | T + 1, h1, h2 => by
    obtain ⟨σ', m', a, b⟩ := Rel.passes h T (by omega) (by omega)
    obtain ⟨m2, c, d, -⟩ := b.tick (by omega) (by omega)
    refine ⟨hTick σ', m2, ?_, ?_⟩
    · rw [rPass, a, Option.bind_some]
      exact c
    · rw [show F + 40 * (T + 1) = F + 40 * T + 40 by omega, show t + (T + 1) = t + T + 1 by omega]
      exact d
theorem Rel.rP {F E t : Nat} {σ : hs_T} {m : Nat → Int32} (h : Rel F E t σ m) {T : Nat} (h1 : F + 40 * T ≤ 1000000000) (h2 : t + T ≤ 20600) : rPass 14 T m = some (rP m T) := by
  obtain ⟨σ', m', a, -⟩ := h.passes T h1 h2
  rw [rP_of a]
  exact a
def eO (m : Nat → Int32) (k N : Nat) : Option Nat := ff (fun T => !decide (rP m T k = 1)) (N + 1)
def eM (m : Nat → Int32) (N : Nat) : Option Nat := ff (fun T => decide (rPre (rP m T) = 0)) (N + 1)
theorem rEi_of {m : Nat → Int32} {k : Nat} {q : Int32} (h : ∀ T, T ≤ 500 → rPass 14 T (upd m 101 q) = some (rP (upd m 101 q) T)) : rEi 14 m k q (eO (upd m 101 q) k 500) := by
  cases hf : eO (upd m 101 q) k 500 with
  | none =>
    have hn := ff_no hf
    have h1 : ∀ T, T ≤ 500 → rP (upd m 101 q) T k = 1 := fun T hT => by
      have := hn T (by omega)
      simpa using this
    refine ⟨500, _, Nat.le_refl _, h 500 (by omega), fun T mT hT hm => ?_, Or.inl rfl, by rw [if_pos (h1 500 (by omega))]⟩
    rw [← rP_of hm]
    exact h1 T (by omega)
  | some i =>
    obtain ⟨h1, h2, h3⟩ := ff_is hf
    have h4 : ¬ rP (upd m 101 q) i k = 1 := by simpa using h2
    refine ⟨i, _, by omega, h i (by omega), fun T mT hT hm => ?_, Or.inr h4, by rw [if_neg h4]⟩
    rw [← rP_of hm]
    have := h3 T hT
    simpa using this
theorem rEm_of {m : Nat → Int32} (h : ∀ T, T ≤ 500 → rPass 14 T m = some (rP m T)) : rEm 14 m (eM m 500) := by
  cases hf : eM m 500 with
  | none =>
    have hn := ff_no hf
    have h1 : ∀ T, T ≤ 500 → ¬ rPre (rP m T) = 0 := fun T hT => by
      have := hn T (by omega)
      simpa using this
    refine ⟨500, _, Nat.le_refl _, h 500 (by omega), fun T mT hT hm => ?_, Or.inl rfl, by rw [if_neg (h1 500 (by omega))]⟩
    rw [← rP_of hm]
    exact Nat.pos_of_ne_zero (h1 T (by omega))
  | some i =>
    obtain ⟨h1, h2, h3⟩ := ff_is hf
    have h4 : rPre (rP m i) = 0 := by simpa using h2
    refine ⟨i, _, by omega, h i (by omega), fun T mT hT hm => ?_, Or.inr h4, by rw [if_pos h4]⟩
    rw [← rP_of hm]
    have := h3 T hT
    simp only [decide_eq_false_iff_not] at this
    exact Nat.pos_of_ne_zero this
theorem eO_none {m : Nat → Int32} {k N : Nat} (h : ∀ T, T ≤ N → rP m T k = 1) : eO m k N = none := ff_none (fun T hT => by rw [h T (by omega)]; rfl)
theorem eO_some {m : Nat → Int32} {k N a : Nat} (h : ∀ T, T < a → rP m T k = 1) (ha : a ≤ N) (h1 : ¬ rP m a k = 1) : eO m k N = some a := ff_some (by omega) (by simpa using h1) (fun T hT => by rw [h T hT]; rfl)
theorem eM_none {m : Nat → Int32} {N : Nat} (h : ∀ T, T ≤ N → ¬ rPre (rP m T) = 0) : eM m N = none := ff_none (fun T hT => by simpa using h T (by omega))
theorem eM_some {m : Nat → Int32} {N a : Nat} (h : ∀ T, T < a → ¬ rPre (rP m T) = 0) (ha : a ≤ N) (h1 : rPre (rP m a) = 0) : eM m N = some a := ff_some (by omega) (by simpa using h1) (fun T hT => by simpa using h T hT)
theorem rPre_cong {m m' : Nat → Int32} (h : ∀ j, j < 12 → m' j = m j) : rPre m' = rPre m := fb_ct_cong (fun k hk => by rw [h k hk])
/-- nobody is there -/
theorem Rel.desert {F E t : Nat} {σ : hs_T} {m : Nat → Int32} (h : Rel F E t σ m) : (hf σ 8 = -1 ∧ hn σ 1 = 0) ↔ rPre m = 0 := by
  obtain ⟨hw, e, c, hN, hM, hR, hSt, hU, hL, hG⟩ := h
  rw [rPre, fb_ct_zero]
  constructor
  · intro ⟨h8, hn0⟩ k hk
    have hu : rInUse m = -1 := by rw [← hU.1]; exact h8
    have hno := no_inside hw hU hu k hk
    have hl0 : hLn σ = 0 := by rw [hLn, hn0]; rfl
    have h1 : ¬ m k = 1 := fun z => by
      obtain ⟨i, hi, -⟩ := hL.2.2.2.1 k hk z
      omega
    rcases (hM k hk).2.1 with z | z | z | z
    · rw [z]; rfl
    · exact absurd z h1
    · exact absurd (by rw [z]; decide) hno
    · exact absurd (by rw [z]; decide) hno
  · intro hz
    have hz' : ∀ k, k < 12 → ¬ 0 < m k := fun k hk => by simpa using hz k hk
    refine ⟨?_, ?_⟩
    · rw [hU.1]
      exact rInUse_no (fun k hk h1 => hz' k hk (Int32.lt_trans (by decide) h1))
    · rw [hL.2.1]
      have h0 : hLn σ = 0 := by
        rcases Nat.eq_zero_or_pos (hLn σ) with z | z
        · exact z
        · obtain ⟨a, b, c⟩ := hL.2.2.1 0 z
          exact absurd (by rw [c]; decide) (hz' _ a)
      rw [h0]; rfl

