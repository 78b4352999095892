/-! ===== a member enters; a room is opened; a door is closed ===== -/
theorem hRemS_n (σ : hs_T) (x : Int32) (n : Nat) : hn (hRemS σ x n) 1 = nI (hRem (hp σ) x n).2 := by
  show upd (hn σ) 1 (nI (hRem (hp σ) x n).2) 1 = _
  exact upd_same _ _ _
theorem line_rem {σ : hs_T} {m : Nat → Int32} {k : Nat} (h : RLine σ m) (hk : k < 12) : ∃ g : Nat → Nat, hLn (hRemS σ (nI k) (hLn σ)) ≤ hLn σ ∧ hn (hRemS σ (nI k) (hLn σ)) 1 = nI (hLn (hRemS σ (nI k) (hLn σ))) ∧ (∀ j, j < hLn (hRemS σ (nI k) (hLn σ)) → g j < hLn σ ∧ hPl (hRemS σ (nI k) (hLn σ)) j = hPl σ (g j) ∧ hp (hRemS σ (nI k) (hLn σ)) j = nI (hPl (hRemS σ (nI k) (hLn σ)) j) ∧ hPl (hRemS σ (nI k) (hLn σ)) j ≠ k) ∧ (∀ a b, a < b → b < hLn (hRemS σ (nI k) (hLn σ)) → g a < g b) ∧ ∀ i, i < hLn σ → hPl σ i ≠ k → ∃ j, j < hLn (hRemS σ (nI k) (hLn σ)) ∧ g j = i := by
  obtain ⟨h1, h2, h3⟩ := hRem_is (hp σ) (nI k) (hLn σ)
  have hle := hRem_le (hp σ) (nI k) (hLn σ)
  have hn12 := h.1
  have hln : hLn (hRemS σ (nI k) (hLn σ)) = (kpt (hp σ) (nI k) (hLn σ)).length := by
    rw [hLn, hRemS_n, nI_clamp (by omega), h1]
  have hpe : hp (hRemS σ (nI k) (hLn σ)) = (hRem (hp σ) (nI k) (hLn σ)).1 := rfl
  have hget : ∀ j (hj : j < (kpt (hp σ) (nI k) (hLn σ)).length), (kpt (hp σ) (nI k) (hLn σ))[j] < hLn σ ∧ ¬ hp σ ((kpt (hp σ) (nI k) (hLn σ))[j]) = nI k := fun j hj => kpt_mem.mp (List.getElem_mem hj)
  refine ⟨fun j => (kpt (hp σ) (nI k) (hLn σ)).getD j 0, by rw [hln, ← h1]; exact hle, ?_, fun j hj => ?_, fun a b hab hb => ?_, fun i hi hne => ?_⟩
  · rw [hln, ← h1]
    exact hRemS_n _ _ _
  · rw [hln] at hj
    obtain ⟨g1, g2⟩ := hget j hj
    have ge : (kpt (hp σ) (nI k) (hLn σ)).getD j 0 = (kpt (hp σ) (nI k) (hLn σ))[j] := by simp [List.getD_eq_getElem?_getD, hj]
    dsimp only
    rw [ge]
    obtain ⟨a, b, d⟩ := h.2.2.1 _ g1
    have e1 : hp (hRemS σ (nI k) (hLn σ)) j = nI (hPl σ ((kpt (hp σ) (nI k) (hLn σ))[j])) := by rw [hpe, h2 j hj]; exact b
    have e2 : hPl (hRemS σ (nI k) (hLn σ)) j = hPl σ ((kpt (hp σ) (nI k) (hLn σ))[j]) := by rw [hPl, e1, nI_clamp (by omega)]
    refine ⟨g1, e2, by rw [e2]; exact e1, fun z => g2 ?_⟩
    rw [b, ← e2, z]
  · rw [hln] at hb
    have ha : a < (kpt (hp σ) (nI k) (hLn σ)).length := by omega
    show (kpt (hp σ) (nI k) (hLn σ)).getD a 0 < (kpt (hp σ) (nI k) (hLn σ)).getD b 0
    rw [show (kpt (hp σ) (nI k) (hLn σ)).getD a 0 = (kpt (hp σ) (nI k) (hLn σ))[a] by simp [List.getD_eq_getElem?_getD, ha], show (kpt (hp σ) (nI k) (hLn σ)).getD b 0 = (kpt (hp σ) (nI k) (hLn σ))[b] by simp [List.getD_eq_getElem?_getD, hb]]
    exact kpt_lt hab hb
  · obtain ⟨a, b, d⟩ := h.2.2.1 i hi
    have hm : i ∈ kpt (hp σ) (nI k) (hLn σ) := kpt_mem.mpr ⟨hi, by
      rw [b]
      intro z
      exact hne ((nI_eq (by omega) (by omega)).mp z)⟩
    obtain ⟨j, hj, hje⟩ := List.getElem_of_mem hm
    exact ⟨j, by rw [hln]; exact hj, by simp [List.getD_eq_getElem?_getD, hj, hje]⟩
theorem RLine.drop {σ σ' : hs_T} {m m' : Nat → Int32} {k : Nat} (h : RLine σ m) (hk : k < 12) (hsn : hn σ' = hn (hRemS σ (nI k) (hLn σ))) (hsp : hp σ' = hp (hRemS σ (nI k) (hLn σ))) (hk1 : ¬ m' k = 1) (he : ∀ q, q < 12 → q ≠ k → m' q = m q ∧ m' (24 + q) = m (24 + q) ∧ m' (48 + q) = m (48 + q)) : RLine σ' m' := by
  obtain ⟨g, g1, g2, g3, g4, g5⟩ := line_rem h hk
  have e1 : hLn σ' = hLn (hRemS σ (nI k) (hLn σ)) := by rw [hLn, hLn, hsn]
  have e2 : hPl σ' = hPl (hRemS σ (nI k) (hLn σ)) := by funext i; rw [hPl, hPl, hsp]
  rw [RLine, e1, e2, hsn, hsp]
  have hlt : ∀ j, j < hLn (hRemS σ (nI k) (hLn σ)) → hPl (hRemS σ (nI k) (hLn σ)) j < 12 := fun j hj => by
    obtain ⟨a1, a2, -, -⟩ := g3 j hj
    rw [a2]; exact (h.2.2.1 _ a1).1
  refine ⟨Nat.le_trans g1 h.1, g2, fun j hj => ?_, fun q hq hq1 => ?_, fun i j hij hj => ?_⟩
  · obtain ⟨a1, a2, a3, a4⟩ := g3 j hj
    refine ⟨hlt j hj, a3, ?_⟩
    rw [(he _ (hlt j hj) a4).1, a2]
    exact (h.2.2.1 _ a1).2.2
  · have hqk : q ≠ k := fun z => hk1 (by rw [← z]; exact hq1)
    rw [(he q hq hqk).1] at hq1
    obtain ⟨i, hi, hie⟩ := h.2.2.2.1 q hq hq1
    obtain ⟨j, hj, hje⟩ := g5 i hi (by rw [hie]; exact hqk)
    exact ⟨j, hj, by rw [(g3 j hj).2.1, hje, hie]⟩
  · obtain ⟨a1, a2, a3, a4⟩ := g3 i (by omega)
    obtain ⟨b1, b2, b3, b4⟩ := g3 j hj
    obtain ⟨-, x2, x3⟩ := he _ (hlt i (by omega)) a4
    obtain ⟨-, y2, y3⟩ := he _ (hlt j hj) b4
    rw [x2, x3, y2, y3, a2, b2]
    exact h.2.2.2.2 _ _ (g4 i j hij hj) b1
/-- a room is in use, or just opened -/
def RUseU (u : Nat) (σ : hs_T) (m : Nat → Int32) : Prop := u < 5 ∧ hf σ 8 = nI u ∧ (∀ k, k < 12 → 1 < m k → m (12 + k) = nI u) ∧ hf σ 9 = m 104 ∧ hf σ 10 = m 105 ∧ (m 104 = 0 ∨ m 104 = 1)
def RelU (F E t u : Nat) (σ : hs_T) (m : Nat → Int32) : Prop := RW m ∧ ∃ e c, RNum F E t e c σ m ∧ RMem t c σ m ∧ RRoom σ m ∧ RSet σ m ∧ RUseU u σ m ∧ RLine σ m ∧ RLog (hg σ) e m
theorem RUseU.cong {u : Nat} {σ σ' : hs_T} {m m' : Nat → Int32} (h : RUseU u σ m) (h8 : hf σ' 8 = hf σ 8) (h9 : hf σ' 9 = hf σ 9) (h10 : hf σ' 10 = hf σ 10) (he : ∀ j, j < 24 ∨ j = 104 ∨ j = 105 → m' j = m j) : RUseU u σ' m' := by
  refine ⟨h.1, by rw [h8]; exact h.2.1, fun k hk hk1 => ?_, by rw [h9, he 104 (by omega)]; exact h.2.2.2.1, by rw [h10, he 105 (by omega)]; exact h.2.2.2.2.1, by rw [he 104 (by omega)]; exact h.2.2.2.2.2⟩
  rw [he (12 + k) (by omega)]
  rw [he k (by omega)] at hk1
  exact h.2.2.1 k hk hk1
theorem Rel.toU {F E t u : Nat} {σ : hs_T} {m : Nat → Int32} (h : Rel F E t σ m) (hu5 : u < 5) (hu : rInUse m = nI u) : RelU F E t u σ m := by
  obtain ⟨hw, e, c, hN, hM, hR, hSt, hU, hL, hG⟩ := h
  have hne : ¬ rInUse m = -1 := by rw [hu]; exact nI_ne_m1 (by omega)
  refine ⟨hw, e, c, hN, hM, hR, hSt, ⟨hu5, by rw [hU.1, hu], fun k hk hk1 => by rw [hU.2.1 k hk hk1, hu], by rw [hU.2.2.1, if_neg hne], by rw [hU.2.2.2.1, if_neg hne], hU.2.2.2.2⟩, hL, hG⟩
theorem RelU.note {F E t u : Nat} {σ : hs_T} {m : Nat → Int32} (h : RelU F E t u σ m) (hF : F + 1 ≤ 1000000000) (kd me r : Int32) : RelU (F + 1) E t u (hNt σ (hf σ 5) kd me r) (rLogs m kd me r) := by
  obtain ⟨hw, e, c, hN, hM, hR, hSt, hU, hL, hG⟩ := h
  obtain ⟨n1, n2, n3, n4, n5, n6, n7, n8, n9, n10⟩ := hN
  have hev : hEv σ = e := by rw [hEv, n4, nI_clamp (by omega)]
  have lo : ∀ j, j < 108 ∨ j = 110 → rLogs m kd me r j = m j := fun j hj => rLogs_lo m kd me r hj
  refine ⟨hw.logs _ _ _, e + 1, c, ⟨n1, by rw [lo 103 (by omega)]; exact n2, n3, ?_, by rw [rLogs_109, n5, nI_1], by omega, hF, by rw [lo 107 (by omega)]; exact n8, n9, n10⟩, hM.cong rfl (fun j hj => lo j (by omega)), hR.cong rfl (fun j hj => lo j (by omega)), hSt.cong rfl rfl rfl (fun j hj => lo j (by omega)), hU.cong rfl rfl rfl (fun j hj => lo j (by omega)), hL.cong rfl rfl (fun j hj => lo j (by omega)), ?_⟩
  · rw [hNt, hev, hNote]
    show upd (he σ) 1 (nI (e + 1)) 1 = nI (e + 1)
    exact upd_same _ _ _
  · have := hG.note kd me r
    rw [n2, ← n1] at this
    rw [hNt, hev]
    exact this
/-- closing the door -/
theorem Rel.close {F E t : Nat} {σ : hs_T} {m : Nat → Int32} (h : Rel F E t σ m) (hF : F + 1 ≤ 1000000000) (hu : ¬ rInUse m = -1) : Rel (F + 1) E t (hCl σ) (rLogs (upd m 104 0) 3 (-1) (rInUse m)) := by
  obtain ⟨hw, e, c, hN, hM, hR, hSt, hU, hL, hG⟩ := h
  have lo : ∀ j, j ≠ 104 → upd m 104 0 j = m j := fun j hj => upd_ne _ _ hj
  have hiu : rInUse (upd m 104 0) = rInUse m := rInUse_cong (fun j hj => lo j (by omega))
  have h1 : Rel F E t (phf σ 9 0) (upd m 104 0) := by
    obtain ⟨n1, n2, n3, n4, n5, n6, n7, n8, n9, n10⟩ := hN
    refine ⟨hw.put (by omega) _, e, c, ⟨n1, by rw [lo 103 (by omega)]; exact n2, n3, n4, by rw [lo 109 (by omega)]; exact n5, n6, n7, by rw [lo 107 (by omega)]; exact n8, n9, n10⟩, hM.cong rfl (fun j hj => lo j (by omega)), hR.cong rfl (fun j hj => lo j (by omega)), hSt.cong rfl rfl rfl (fun j hj => lo j (by omega)), ⟨?_, ?_, ?_, ?_, Or.inl (upd_same _ _ _)⟩, hL.cong rfl rfl (fun j hj => lo j (by omega)), hG.cong (fun j hj => lo j (by omega))⟩
    · rw [hiu]; exact hU.1
    · intro k hk hk1
      rw [lo k (by omega)] at hk1
      rw [hiu, lo (12 + k) (by omega)]
      exact hU.2.1 k hk hk1
    · rw [hiu, if_neg hu, upd_same]; rfl
    · rw [hiu, if_neg hu, lo 105 (by omega)]
      have := hU.2.2.2.1
      rw [if_neg hu] at this
      exact this
  have h2 := h1.note hF 3 (-1) (rInUse m)
  have h3 : hCl σ = hNt (phf σ 9 0) (hf (phf σ 9 0) 5) 3 (-1) (rInUse m) := by
    rw [hCl, show hf (phf σ 9 0) 8 = rInUse m from hU.1]
  rw [h3]
  exact h2
theorem rIns_enter {m : Nat → Int32} {k : Nat} (hk : k < 12) (h1 : m k = 1) {m' : Nat → Int32} (hk2 : m' k = 2) (hroom : ∀ q, q < 12 → m' (12 + q) = m (12 + q)) (hst : ∀ q, q < 12 → q ≠ k → m' q = m q) (x : Int32) : rIns m' x = rIns m x + (if m (12 + k) = x then 1 else 0) := by
  have hc : rIns m' x = fb_ct (fun q => if q = k then decide (m (12 + k) = x) else (decide (1 < m q) && decide (m (12 + q) = x))) 12 := by
    refine fb_ct_cong (fun q hq => ?_)
    by_cases e : q = k
    · subst e
      rw [if_pos rfl, hk2, hroom q hq]
      simp
    · rw [if_neg e, hst q hq e, hroom q hq]
  have hu := fb_ct_upd (fun q => decide (1 < m q) && decide (m (12 + q) = x)) (decide (m (12 + k) = x)) (i := k) (n := 12) hk
  rw [← hc] at hu
  have hd : rIns m x = fb_ct (fun q => decide (1 < m q) && decide (m (12 + q) = x)) 12 := rfl
  rw [hd]
  have hz : (decide (1 < m k) && decide (m (12 + k) = x)) = false := by rw [h1]; simp
  rw [hz] at hu
  simp only [decide_eq_true_eq] at hu
  simpa using hu
theorem hCe_rd (σ : hs_T) (u : Nat) (w : Int32) (q j : Nat) : hr (hCe σ u w) q j = if q = u then (if j = 3 then hr σ u 3 + 1 else if j = 5 then hr σ u 5 + 1 else if j = 7 then hr σ u 7 + w else if j = 8 then (if hr σ u 8 < w then w else hr σ u 8) else hr σ u j) else hr σ q j := by
  simp only [hCe, phr_rd]
  by_cases h : q = u
  · subst h
    by_cases h3 : j = 3
    · subst h3; simp
    · by_cases h5 : j = 5
      · subst h5; simp
      · by_cases h7 : j = 7
        · subst h7; simp
        · by_cases h8 : j = 8
          · subst h8; simp
          · simp [h3, h5, h7, h8]
  · simp [h]
theorem rEnt1_ne (m : Nat → Int32) {u k j : Nat} (h1 : j ≠ k) (h2 : j ≠ 24 + k) (h3 : j ≠ 105) (h4 : j ≠ 80 + u) (h5 : j ≠ 90 + u) (h6 : j ≠ 95 + u) : rEnt1 m u k j = m j := by
  simp only [rEnt1]
  rw [upd_ne _ _ h6, upd_ne _ _ h5, upd_ne _ _ h4, upd_ne _ _ h3, upd_ne _ _ h2, upd_ne _ _ h1]
section ENT
variable {m : Nat → Int32} {u k : Nat}
theorem rEnt1_k (hu : u < 5) (hk : k < 12) : rEnt1 m u k k = 2 := by
  simp only [rEnt1]
  rw [upd_ne _ _ (by omega), upd_ne _ _ (by omega), upd_ne _ _ (by omega), upd_ne _ _ (by omega), upd_ne _ _ (by omega), upd_same]
theorem rEnt1_s (hu : u < 5) (hk : k < 12) : rEnt1 m u k (24 + k) = m 103 := by
  simp only [rEnt1]
  rw [upd_ne _ _ (by omega), upd_ne _ _ (by omega), upd_ne _ _ (by omega), upd_ne _ _ (by omega), upd_same, upd_ne _ _ (by omega)]
theorem rEnt1_c (hu : u < 5) (hk : k < 12) : rEnt1 m u k 105 = m 105 + 1 := by
  simp only [rEnt1]
  rw [upd_ne _ _ (by omega), upd_ne _ _ (by omega), upd_ne _ _ (by omega), upd_same, upd_ne _ _ (by omega), upd_ne _ _ (by omega)]
theorem rEnt1_e (hu : u < 5) (hk : k < 12) : rEnt1 m u k (80 + u) = m (80 + u) + 1 := by
  simp only [rEnt1]
  rw [upd_ne _ _ (by omega), upd_ne _ _ (by omega), upd_same, upd_ne _ _ (by omega), upd_ne _ _ (by omega), upd_ne _ _ (by omega)]
theorem rEnt1_w (hu : u < 5) (hk : k < 12) : rEnt1 m u k (90 + u) = m (90 + u) + (m 103 - m (24 + k)) := by
  simp only [rEnt1]
  rw [upd_ne _ _ (by omega), upd_same, upd_ne _ _ (by omega), upd_ne _ _ (by omega), upd_ne _ _ (by omega), upd_ne _ _ (by omega)]
theorem rEnt1_l (hu : u < 5) (hk : k < 12) : rEnt1 m u k (95 + u) = if m 103 - m (24 + k) ≤ m (95 + u) then m (95 + u) else m 103 - m (24 + k) := by
  simp only [rEnt1]
  rw [upd_same]
  have : upd (upd (upd (upd (upd m k 2) (24 + k) (upd m k 2 103)) 105 (upd (upd m k 2) (24 + k) (upd m k 2 103) 105 + 1)) (80 + u) (upd (upd (upd m k 2) (24 + k) (upd m k 2 103)) 105 (upd (upd m k 2) (24 + k) (upd m k 2 103) 105 + 1) (80 + u) + 1)) (90 + u) (upd (upd (upd (upd m k 2) (24 + k) (upd m k 2 103)) 105 (upd (upd m k 2) (24 + k) (upd m k 2 103) 105 + 1)) (80 + u) (upd (upd (upd m k 2) (24 + k) (upd m k 2 103)) 105 (upd (upd m k 2) (24 + k) (upd m k 2 103) 105 + 1) (80 + u) + 1) (90 + u) + (m 103 - m (24 + k))) (95 + u) = m (95 + u) := by
    rw [upd_ne _ _ (by omega), upd_ne _ _ (by omega), upd_ne _ _ (by omega), upd_ne _ _ (by omega), upd_ne _ _ (by omega)]
  rw [this]
end ENT
/-- the first of the queue of the room in use enters -/
theorem RelU.enter {F E t u : Nat} {σ : hs_T} {m : Nat → Int32} (h : RelU F E t u σ m) (hF : F + 1 ≤ 1000000000) {k : Nat} (hk : k < 12) (h1 : m k = 1) (hku : m (12 + k) = nI u) : Rel (F + 1) E t (hLet σ k) (rEnt m u k) ∧ rInUse (rEnt m u k) = nI u := by
  obtain ⟨hw, e, c, hN, hM, hR, hSt, hU, hL, hG⟩ := h
  obtain ⟨hu5, u8, uin, u9, u10, ud⟩ := hU
  obtain ⟨n1, n2, n3, n4, n5, n6, n7, n8, n9, n10⟩ := hN
  have hrn : hRn σ k = u := by rw [hRn, (hM k hk).1.2.1, hku, nI_clamp (by omega)]
  have hwc : hf σ 5 - hm σ k 2 = m 103 - m (24 + k) := by rw [n1, n2, (hM k hk).1.2.2.1]
  have lo : ∀ j, j ≠ k → j ≠ 24 + k → j ≠ 105 → j ≠ 80 + u → j ≠ 90 + u → j ≠ 95 + u → rEnt1 m u k j = m j := fun j a b c d e f => rEnt1_ne m a b c d e f
  have hroomk : ∀ q, q < 12 → rEnt1 m u k (12 + q) = m (12 + q) := fun q hq => lo _ (by omega) (by omega) (by omega) (by omega) (by omega) (by omega)
  have hstk : ∀ q, q < 12 → q ≠ k → rEnt1 m u k q = m q := fun q hq hne => lo _ hne (by omega) (by omega) (by omega) (by omega) (by omega)
  have hk2 : rEnt1 m u k k = 2 := rEnt1_k hu5 hk
  have hall : ∀ q, q < 12 → 1 < rEnt1 m u k q → rEnt1 m u k (12 + q) = nI u := by
    intro q hq hq1
    rw [hroomk q hq]
    by_cases z : q = k
    · rw [z]; exact hku
    · rw [hstk q hq z] at hq1; exact uin q hq hq1
  have hiu : rInUse (rEnt1 m u k) = nI u := rInUse_of hall hk (by rw [hk2]; decide)
  have hins := rIns_enter hk h1 hk2 hroomk hstk
  have hrd : ∀ q j, hr (hLet1 σ k) q j = hr (hCe σ u (m 103 - m (24 + k))) q j := by
    intro q j
    rw [← hwc, ← hrn]
    rfl
  have hmd : ∀ q j, hm (hLet1 σ k) q j = if q = k then (if j = 3 then hm σ k 3 else if j = 2 then hf σ 5 else if j = 1 then hm σ k 1 else if j = 0 then 2 else hm σ k j) else hm σ q j := by
    intro q j
    exact hBe_rd (hRemS (hCe σ (hRn σ k) (hf σ 5 - hm σ k 2)) (nI k) (hLn σ)) k 2 (hm σ k 1) (hf σ 5) (hm σ k 3) q j
  have hfd : ∀ j, hf (hLet1 σ k) j = if j = 10 then hf σ 10 + 1 else hf σ j := by
    intro j
    show upd (hf σ) 10 (hf σ 10 + 1) j = _
    by_cases z : j = 10
    · subst z; rw [upd_same, if_pos rfl]
    · rw [upd_ne _ _ z, if_neg z]
  have hne : ¬ (nI u : Int32) = -1 := nI_ne_m1 (by omega)
  have h2 : Rel F E t (hLet1 σ k) (rEnt1 m u k) := by
    refine ⟨?_, e, c, ⟨by rw [hfd]; exact n1, by rw [lo 103 (by omega) (by omega) (by omega) (by omega) (by omega) (by omega)]; exact n2, n3, n4, by rw [lo 109 (by omega) (by omega) (by omega) (by omega) (by omega) (by omega)]; exact n5, n6, n7, by rw [lo 107 (by omega) (by omega) (by omega) (by omega) (by omega) (by omega)]; exact n8, n9, n10⟩, ?_, ?_, ?_, ?_, ?_, ?_⟩
    · rw [rEnt1]
      exact (((((hw.state hk (by rw [h1]; decide) 2).put (by omega) _).put (by omega) _).put (by omega) _).put (by omega) _).put (by omega) _
    · intro q hq
      rw [hmd, hmd, hmd, hmd]
      by_cases z : q = k
      · subst z
        obtain ⟨⟨c0, c1, c2, c3⟩, d, e2, f2, g2⟩ := hM q hq
        rw [hk2, hroomk q hq, rEnt1_s hu5 hq, lo (36 + q) (by omega) (by omega) (by omega) (by omega) (by omega) (by omega)]
        refine ⟨⟨by simp, by simp [c1], by simp [n1, n2], by simp [c3]⟩, Or.inr (Or.inr (Or.inl rfl)), fun _ => ⟨t, Nat.le_refl t, n2⟩, fun y => absurd y (by decide), fun _ => g2 (Or.inl h1)⟩
      · rw [if_neg z, if_neg z, if_neg z, if_neg z, hstk q hq z, hroomk q hq, lo (24 + q) (by omega) (by omega) (by omega) (by omega) (by omega) (by omega), lo (36 + q) (by omega) (by omega) (by omega) (by omega) (by omega) (by omega), lo (48 + q) (by omega) (by omega) (by omega) (by omega) (by omega) (by omega)]
        exact hM q hq
    · intro q hq
      obtain ⟨b0, b1, b2, b3, b4, b5, b6, b7, b8, b9, b10⟩ := hR q hq
      rw [hrd, hrd, hrd, hrd, hrd, hrd, hrd, hrd, hrd, hCe_rd, hCe_rd, hCe_rd, hCe_rd, hCe_rd, hCe_rd, hCe_rd, hCe_rd, hCe_rd, hins, hku, lo (60 + q) (by omega) (by omega) (by omega) (by omega) (by omega) (by omega), lo (65 + q) (by omega) (by omega) (by omega) (by omega) (by omega) (by omega), lo (70 + q) (by omega) (by omega) (by omega) (by omega) (by omega) (by omega), lo (75 + q) (by omega) (by omega) (by omega) (by omega) (by omega) (by omega), lo (85 + q) (by omega) (by omega) (by omega) (by omega) (by omega) (by omega)]
      by_cases z : q = u
      · subst z
        rw [rEnt1_e hq hk, rEnt1_w hq hk, rEnt1_l hq hk]
        refine ⟨by simp [b0], by simp [b1], by simp [b2], ?_, by simp [b4], by simp [b5], by simp [b6], by simp [b7], ?_, b9, b10⟩
        · simp [b3, nI_1]
        · simp only [if_true]
          rw [if_neg (by decide), if_neg (by decide), if_neg (by decide), b8]
          by_cases y : m 103 - m (24 + k) ≤ m (95 + q)
          · rw [if_pos y, if_neg (Int32.not_lt.mpr y)]
          · rw [if_neg y, if_pos (Int32.not_le.mp y)]
      · have hzu : ¬ (nI u : Int32) = nI q := fun y => z ((nI_eq (by omega) (by omega)).mp y).symm
        rw [lo (80 + q) (by omega) (by omega) (by omega) (by omega) (by omega) (by omega), lo (90 + q) (by omega) (by omega) (by omega) (by omega) (by omega) (by omega), lo (95 + q) (by omega) (by omega) (by omega) (by omega) (by omega) (by omega)]
        simp only [if_neg z, if_neg hzu, Nat.add_zero]
        exact ⟨b0, b1, b2, b3, b4, b5, b6, b7, b8, b9, b10⟩
    · exact hSt.cong rfl (by rw [hfd]; rfl) (by rw [hfd]; rfl) (fun j hj => lo j (by omega) (by omega) (by omega) (by omega) (by omega) (by omega))
    · refine ⟨by rw [hfd, hiu]; exact u8, fun q hq hq1 => by rw [hiu]; exact hall q hq hq1, ?_, ?_, ?_⟩
      · rw [hfd, hiu, if_neg hne, lo 104 (by omega) (by omega) (by omega) (by omega) (by omega) (by omega)]; exact u9
      · rw [hfd, hiu, if_neg hne, if_pos rfl, rEnt1_c hu5 hk, u10]
      · rw [lo 104 (by omega) (by omega) (by omega) (by omega) (by omega) (by omega)]; exact ud
    · refine hL.drop hk rfl rfl (by rw [hk2]; decide) (fun q hq hne => ⟨hstk q hq hne, lo _ (by omega) (by omega) (by omega) (by omega) (by omega) (by omega), lo _ (by omega) (by omega) (by omega) (by omega) (by omega) (by omega)⟩)
    · exact hG.cong (fun j hj => lo j (by omega) (by omega) (by omega) (by omega) (by omega) (by omega))
  have h3 := h2.note hF 1 (nI k) (nI u)
  have h4 : hLet σ k = hNt (hLet1 σ k) (hf (hLet1 σ k) 5) 1 (nI k) (nI u) := by
    rw [hLet, hmd, if_pos rfl]
    simp [(hM k hk).1.2.1, hku]
  refine ⟨by rw [h4, rEnt]; exact h3, ?_⟩
  rw [rEnt, rInUse_cong (m := rEnt1 m u k) (fun j hj => rLogs_lo _ _ _ _ (by omega))]
  exact hiu

