/-! ===== a member goes out ===== -/
theorem rLeaves_ne (m : Nat → Int32) {k j : Nat} (h1 : j ≠ k) (h2 : j ≠ 12 + k) (h3 : j ≠ 24 + k) (h4 : j ≠ 36 + k) : rLeaves m k j = m j := by
  rw [rLeaves, upd_ne _ _ h4, upd_ne _ _ h3, upd_ne _ _ h2, upd_ne _ _ h1]
theorem rLeaves_st (m : Nat → Int32) (k : Nat) : rLeaves m k k = 0 := by
  rw [rLeaves, upd_ne _ _ (by omega), upd_ne _ _ (by omega), upd_ne _ _ (by omega), upd_same]
theorem rLeaves_rm (m : Nat → Int32) (k : Nat) : rLeaves m k (12 + k) = -1 := by
  rw [rLeaves, upd_ne _ _ (by omega), upd_ne _ _ (by omega), upd_same]
theorem rLeaves_si (m : Nat → Int32) (k : Nat) : rLeaves m k (24 + k) = -1 := by
  rw [rLeaves, upd_ne _ _ (by omega), upd_same]
theorem rLeaves_ti (m : Nat → Int32) (k : Nat) : rLeaves m k (36 + k) = 0 := by
  rw [rLeaves, upd_same]
theorem rLeaves_mem (m : Nat → Int32) {k q : Nat} (hk : k < 12) (hq : q < 12) (hne : q ≠ k) : rLeaves m k q = m q ∧ rLeaves m k (12 + q) = m (12 + q) ∧ rLeaves m k (24 + q) = m (24 + q) ∧ rLeaves m k (36 + q) = m (36 + q) ∧ rLeaves m k (48 + q) = m (48 + q) :=
  ⟨rLeaves_ne m hne (by omega) (by omega) (by omega), rLeaves_ne m (by omega) (by omega) (by omega) (by omega), rLeaves_ne m (by omega) (by omega) (by omega) (by omega), rLeaves_ne m (by omega) (by omega) (by omega) (by omega), rLeaves_ne m (by omega) (by omega) (by omega) (by omega)⟩
/-- how many are inside, once one of them has gone -/
theorem rIns_leaves {m : Nat → Int32} {k : Nat} (hk : k < 12) (h1 : 1 < m k) (x : Int32) : rIns (rLeaves m k) x + (if m (12 + k) = x then 1 else 0) = rIns m x := by
  have hc : rIns (rLeaves m k) x = fb_ct (fun q => if q = k then false else (decide (1 < m q) && decide (m (12 + q) = x))) 12 := by
    refine fb_ct_cong (fun q hq => ?_)
    by_cases e : q = k
    · subst e
      rw [if_pos rfl, rLeaves_st]
      simp
    · obtain ⟨a, b, -⟩ := rLeaves_mem m hk hq e
      rw [if_neg e, a, b]
  have hu := fb_ct_upd (fun q => decide (1 < m q) && decide (m (12 + q) = x)) false (i := k) (n := 12) hk
  rw [← hc] at hu
  have hd : rIns m x = fb_ct (fun q => decide (1 < m q) && decide (m (12 + q) = x)) 12 := rfl
  rw [hd]
  by_cases e : m (12 + k) = x
  · simp only [h1, e, decide_true, Bool.and_self, if_true] at hu ⊢
    simpa using hu
  · simp only [e, decide_false, Bool.and_false, if_false] at hu ⊢
    simpa using hu
def hOutN (σ : hs_T) (k : Nat) : hs_T :=
  let s1 := hBe σ k 0 (-1) (-1) 0
  let s2 := phr s1 (hRn σ k) 3 (hr s1 (hRn σ k) 3 - 1)
  if hr s2 (hRn σ k) 3 = 0 then phf (phf (phf s2 8 (-1)) 9 0) 10 0 else s2
theorem hOut_eq (σ : hs_T) (k : Nat) (kd : Int32) : hOut σ k kd = hNt (hOutN σ k) (hf (hOutN σ k) 5) kd (nI k) (hm σ k 1) := by
  by_cases h : hr (hOut1 σ k kd) (hRn σ k) 3 = 0
  · have h' : hr (phr (hBe σ k 0 (-1) (-1) 0) (hRn σ k) 3 (hr (hBe σ k 0 (-1) (-1) 0) (hRn σ k) 3 - 1)) (hRn σ k) 3 = 0 := h
    rw [hOut, if_pos h]
    simp only [hOutN]
    rw [if_pos h']
    rfl
  · have h' : ¬ hr (phr (hBe σ k 0 (-1) (-1) 0) (hRn σ k) 3 (hr (hBe σ k 0 (-1) (-1) 0) (hRn σ k) 3 - 1)) (hRn σ k) 3 = 0 := h
    rw [hOut, if_neg h]
    simp only [hOutN]
    rw [if_neg h']
    rfl
theorem phr_rd (σ : hs_T) (q j : Nat) (x : Int32) (a b : Nat) : hr (phr σ q j x) a b = if a = q ∧ b = j then x else hr σ a b := by
  show ai_u (hr σ) q j x a b = _
  by_cases h : a = q
  · subst h
    rw [ai_u_at]
    by_cases h2 : b = j
    · subst h2; rw [upd_same, if_pos ⟨rfl, rfl⟩]
    · rw [upd_ne _ _ h2, if_neg (fun z => h2 z.2)]
  · rw [ai_u_ne _ _ _ h, if_neg (fun z => h z.1)]
theorem phm_rd (σ : hs_T) (q j : Nat) (x : Int32) (a b : Nat) : hm (phm σ q j x) a b = if a = q ∧ b = j then x else hm σ a b := by
  show ai_u (hm σ) q j x a b = _
  by_cases h : a = q
  · subst h
    rw [ai_u_at]
    by_cases h2 : b = j
    · subst h2; rw [upd_same, if_pos ⟨rfl, rfl⟩]
    · rw [upd_ne _ _ h2, if_neg (fun z => h2 z.2)]
  · rw [ai_u_ne _ _ _ h, if_neg (fun z => h z.1)]
theorem rInUse_of {m : Nat → Int32} {u : Int32} (h : ∀ k, k < 12 → 1 < m k → m (12 + k) = u) {k : Nat} (hk : k < 12) (h1 : 1 < m k) : rInUse m = u := by
  rw [rInUse]
  cases hf : ff (fun k => decide (1 < m k)) 12 with
  | none => exact absurd (ff_no hf k hk) (by simp [h1])
  | some q =>
    obtain ⟨a, b, -⟩ := ff_is hf
    exact h q a (by simpa using b)
theorem rInUse_no {m : Nat → Int32} (h : ∀ k, k < 12 → ¬ 1 < m k) : rInUse m = -1 := by
  rw [rInUse, ff_none (fun k hk => by simp [h k hk])]
  rfl
theorem Rel.outN {F E t : Nat} {σ : hs_T} {m : Nat → Int32} (h : Rel F E t σ m) {k : Nat} (hk : k < 12) (h1 : 1 < m k) : Rel F E t (hOutN σ k) (rLeaves m k) := by
  obtain ⟨hw, e, c, hN, hM, hR, hSt, hU, hL, hG⟩ := h
  have hne0 : ¬ m k = 0 := fun z => by rw [z] at h1; exact absurd h1 (by decide)
  have hne1 : ¬ m k = 1 := fun z => by rw [z] at h1; exact absurd h1 (by decide)
  obtain ⟨r, hr5, hre⟩ := (hw.1 k hk).resolve_left hne0
  have hrn : hRn σ k = r := by rw [hRn, (hM k hk).1.2.1, hre, nI_clamp (by omega)]
  have hiu : rInUse m = nI r := by rw [← hU.2.1 k hk h1, hre]
  have lo : ∀ j, 48 ≤ j → rLeaves m k j = m j := fun j hj => rLeaves_ne m (by omega) (by omega) (by omega) (by omega)
  have hins := rIns_leaves hk h1 (nI r)
  rw [if_pos hre] at hins
  have hlt : rIns m (nI r) ≤ 12 := fb_ct_le _ _
  have hr3 : hr (hBe σ k 0 (-1) (-1) 0) r 3 - 1 = nI (rIns (rLeaves m k) (nI r)) := by
    show hr σ r 3 - 1 = _
    rw [(hR r hr5).2.2.2.1, ← hins]
    exact pk_sub (a := rIns (rLeaves m k) (nI r) + 1) (b := 1) (by omega)
  have hmem : ∀ q j, hm (hOutN σ k) q j = hm (hBe σ k 0 (-1) (-1) 0) q j := by
    intro q j
    simp only [hOutN]
    split <;> rfl
  have hroom : ∀ q j, hr (hOutN σ k) q j = if q = r ∧ j = 3 then nI (rIns (rLeaves m k) (nI r)) else hr σ q j := by
    intro q j
    simp only [hOutN, hrn]
    have : hr (phr (hBe σ k 0 (-1) (-1) 0) r 3 (hr (hBe σ k 0 (-1) (-1) 0) r 3 - 1)) q j = if q = r ∧ j = 3 then nI (rIns (rLeaves m k) (nI r)) else hr σ q j := by
      rw [phr_rd, hr3]
      rfl
    split
    · exact this
    · exact this
  have huse : rInUse (rLeaves m k) = if rIns (rLeaves m k) (nI r) = 0 then -1 else nI r := by
    have hall : ∀ q, q < 12 → 1 < rLeaves m k q → rLeaves m k (12 + q) = nI r := by
      intro q hq hq1
      by_cases e : q = k
      · subst e; rw [rLeaves_st] at hq1; exact absurd hq1 (by decide)
      · obtain ⟨a, b, -⟩ := rLeaves_mem m hk hq e
        rw [a] at hq1
        rw [b, hU.2.1 q hq hq1, hiu]
    by_cases z : rIns (rLeaves m k) (nI r) = 0
    · rw [if_pos z]
      refine rInUse_no (fun q hq hq1 => ?_)
      have := fb_ct_zero.mp z q hq
      simp [hq1, hall q hq hq1] at this
    · rw [if_neg z]
      have hpos : 0 < rIns (rLeaves m k) (nI r) := by omega
      obtain ⟨q, hq, hq1⟩ := fb_ct_pos.mp hpos
      simp only [Bool.and_eq_true, decide_eq_true_eq] at hq1
      exact rInUse_of hall hq hq1.1
  have hfl : ∀ j, hf (hOutN σ k) j = if rIns (rLeaves m k) (nI r) = 0 then upd (upd (upd (hf σ) 8 (-1)) 9 0) 10 0 j else hf σ j := by
    intro j
    simp only [hOutN, hrn]
    have hc : hr (phr (hBe σ k 0 (-1) (-1) 0) r 3 (hr (hBe σ k 0 (-1) (-1) 0) r 3 - 1)) r 3 = nI (rIns (rLeaves m k) (nI r)) := by
      rw [phr_rd, if_pos ⟨rfl, rfl⟩, hr3]
    by_cases z : rIns (rLeaves m k) (nI r) = 0
    · rw [if_pos z, if_pos (by rw [hc, z]; rfl)]
      rfl
    · rw [if_neg z, if_neg (by rw [hc]; exact nI_ne0 (by omega) (by omega))]
      rfl
  have hf5 : ∀ j, j < 8 → hf (hOutN σ k) j = hf σ j := by
    intro j hj
    rw [hfl]
    split
    · rw [upd_ne _ _ (by omega), upd_ne _ _ (by omega), upd_ne _ _ (by omega)]
    · rfl
  have hother : hp (hOutN σ k) = hp σ ∧ hn (hOutN σ k) = hn σ ∧ hg (hOutN σ k) = hg σ ∧ he (hOutN σ k) = he σ ∧ hu (hOutN σ k) = hu σ := by
    simp only [hOutN]
    split <;> exact ⟨rfl, rfl, rfl, rfl, rfl⟩
  obtain ⟨o1, o2, o3, o4, o5⟩ := hother
  obtain ⟨n1, n2, n3, n4, n5, n6, n7, n8, n9, n10⟩ := hN
  refine ⟨hw.leaves hk, e, c, ⟨by rw [hf5 5 (by omega)]; exact n1, by rw [lo 103 (by omega)]; exact n2, n3, by rw [o4]; exact n4, by rw [lo 109 (by omega)]; exact n5, n6, n7, by rw [lo 107 (by omega)]; exact n8, n9, n10⟩, ?_, ?_, ?_, ?_, ?_, ?_⟩
  · intro q hq
    rw [hmem, hmem, hmem, hmem, hBe_rd, hBe_rd, hBe_rd, hBe_rd]
    by_cases z : q = k
    · subst z
      rw [rLeaves_st, rLeaves_rm, rLeaves_si, rLeaves_ti]
      exact ⟨⟨by simp, by simp, by simp, by simp⟩, Or.inl rfl, fun z => absurd rfl z, fun z => absurd z (by decide), fun z => absurd z (by decide)⟩
    · obtain ⟨a1, a2, a3, a4, a5⟩ := rLeaves_mem m hk hq z
      rw [if_neg z, if_neg z, if_neg z, if_neg z, a1, a2, a3, a4, a5]
      exact hM q hq
  · intro q hq
    rw [hroom, hroom, hroom, hroom, hroom, hroom, hroom, hroom, hroom, lo (60 + q) (by omega), lo (65 + q) (by omega), lo (70 + q) (by omega), lo (75 + q) (by omega), lo (80 + q) (by omega), lo (85 + q) (by omega), lo (90 + q) (by omega), lo (95 + q) (by omega)]
    obtain ⟨b0, b1, b2, b3, b4, b5, b6, b7, b8, b9, b10⟩ := hR q hq
    refine ⟨by rw [if_neg (by omega)]; exact b0, by rw [if_neg (by omega)]; exact b1, by rw [if_neg (by omega)]; exact b2, ?_, by rw [if_neg (by omega)]; exact b4, by rw [if_neg (by omega)]; exact b5, by rw [if_neg (by omega)]; exact b6, by rw [if_neg (by omega)]; exact b7, by rw [if_neg (by omega)]; exact b8, b9, b10⟩
    by_cases z : q = r
    · subst z; rw [if_pos ⟨rfl, rfl⟩]
    · rw [if_neg (fun y => z y.1), b3]
      have hx := rIns_leaves hk h1 (nI q)
      rw [hre, if_neg (fun y => z ((nI_eq (by omega) (by omega)).mp y).symm)] at hx
      rw [← hx]; rfl
  · exact hSt.cong o5 (hf5 6 (by omega)) (hf5 7 (by omega)) (fun j hj => lo j (by omega))
  · refine ⟨?_, ?_, ?_, ?_, by rw [lo 104 (by omega)]; exact hU.2.2.2.2⟩
    · rw [hfl, huse]
      split
      · rw [upd_ne _ _ (by omega), upd_ne _ _ (by omega), upd_same]
      · rw [hU.1, hiu]
    · intro q hq hq1
      rw [huse]
      by_cases z : q = k
      · subst z; rw [rLeaves_st] at hq1; exact absurd hq1 (by decide)
      · obtain ⟨a, b, -⟩ := rLeaves_mem m hk hq z
        rw [a] at hq1
        have hb2 : rLeaves m k (12 + q) = nI r := by rw [b, hU.2.1 q hq hq1, hiu]
        have : 0 < rIns (rLeaves m k) (nI r) := fb_ct_pos.mpr ⟨q, hq, by rw [a]; simp [hq1, hb2]⟩
        rw [if_neg (by omega), hb2]
    · rw [hfl, huse, lo 104 (by omega)]
      split
      · rw [upd_ne _ _ (by omega), upd_same, if_pos rfl]
      · rw [if_neg (nI_ne_m1 (by omega)), hU.2.2.1, hiu, if_neg (nI_ne_m1 (by omega))]
    · rw [hfl, huse, lo 105 (by omega)]
      split
      · rw [upd_same, if_pos rfl]
      · rw [if_neg (nI_ne_m1 (by omega)), hU.2.2.2.1, hiu, if_neg (nI_ne_m1 (by omega))]
  · have e1 : hLn (hOutN σ k) = hLn σ := by rw [hLn, hLn, o2]
    have e2 : hPl (hOutN σ k) = hPl σ := by funext i; rw [hPl, hPl, o1]
    obtain ⟨g1, g2, g3, g4, g5⟩ := hL
    have hnk : ∀ i, i < hLn σ → hPl σ i ≠ k := fun i hi z => hne1 (by rw [← z]; exact (g3 i hi).2.2)
    rw [RLine, e1, e2, o1, o2]
    refine ⟨g1, g2, fun i hi => ?_, fun q hq hq1 => ?_, fun i j hij hj => ?_⟩
    · obtain ⟨a, b, d⟩ := g3 i hi
      exact ⟨a, b, by rw [(rLeaves_mem m hk a (hnk i hi)).1]; exact d⟩
    · by_cases z : q = k
      · subst z; rw [rLeaves_st] at hq1; exact absurd hq1 (by decide)
      · rw [(rLeaves_mem m hk hq z).1] at hq1
        exact g4 q hq hq1
    · obtain ⟨-, -, a3, -, a5⟩ := rLeaves_mem m hk (g3 i (by omega)).1 (hnk i (by omega))
      obtain ⟨-, -, b3, -, b5⟩ := rLeaves_mem m hk (g3 j hj).1 (hnk j hj)
      rw [a3, a5, b3, b5]
      exact g5 i j hij hj
  · rw [o3]
    exact hG.cong (fun j hj => lo j (by omega))
theorem Rel.out {F E t : Nat} {σ : hs_T} {m : Nat → Int32} (h : Rel F E t σ m) (hF : F + 1 ≤ 1000000000) {k : Nat} (hk : k < 12) (h1 : 1 < m k) (kd : Int32) : Rel (F + 1) E t (hOut σ k kd) (rLogs (rLeaves m k) kd (nI k) (m (12 + k))) := by
  have hM := h.2
  obtain ⟨e, c, -, hM, -⟩ := hM
  rw [hOut_eq, (hM k hk).1.2.1]
  exact (h.outN hk h1).note hF _ _ _

