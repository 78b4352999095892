/-! ===== acting ===== -/
theorem rInq_none {m : Nat → Int32} {x pc : Int32} (h : rWai m x = 0) : rInq m x pc = -1 := by
  rw [rInq, ff_none]
  · rfl
  · intro k hk
    have := fb_ct_zero.mp h k hk
    cases h1 : decide (m k = 1) with
    | false => rfl
    | true =>
      rw [h1] at this
      simp only [Bool.true_and] at this
      rw [this]
      rfl
theorem no_inside {m : Nat → Int32} {σ : hs_T} (hw : RW m) (hU : RUse σ m) (hu : rInUse m = -1) : ∀ k, k < 12 → ¬ 1 < m k := by
  intro k hk h1
  obtain ⟨r, hr5, hre⟩ := (hw.1 k hk).resolve_left (fun z => by rw [z] at h1; exact absurd h1 (by decide))
  have := hU.2.1 k hk h1
  rw [hre, hu] at this
  exact nI_ne_m1 (by omega) this
theorem h_opn1 {m : Nat → Int32} (hw : RW m) {r : Nat} (hr5 : r < 5) : RW (rOpn1 m r) := hw.cong (fun j hj => rOpn1_lo m hr5 (by omega)) (by rw [rOpn1_lo m hr5 (by omega)]; exact hw.2.1)
theorem Rel.opn {F E t : Nat} {σ : hs_T} {m : Nat → Int32} (h : Rel F E t σ m) (hF : F + 1 ≤ 1000000000) (hu : rInUse m = -1) {r : Nat} (hr5 : r < 5) : RelU (F + 1) E t r (hOpn σ r) (rOpn m r) := by
  obtain ⟨hw, e, c, hN, hM, hR, hSt, hU, hL, hG⟩ := h
  have hni := no_inside hw hU hu
  obtain ⟨n1, n2, n3, n4, n5, n6, n7, n8, n9, n10⟩ := hN
  have lo : ∀ j, j ≠ 106 → j ≠ 70 + r → j ≠ 104 → j ≠ 105 → j ≠ 75 + r → rOpn1 m r j = m j := by
    intro j a b c d e
    simp only [rOpn1]
    rw [upd_ne _ _ e, upd_ne _ _ d, upd_ne _ _ c, upd_ne _ _ b, upd_ne _ _ a]
  have v106 : rOpn1 m r 106 = m (70 + r) := by
    simp only [rOpn1]
    rw [upd_ne _ _ (by omega), upd_ne _ _ (by omega), upd_ne _ _ (by omega), upd_ne _ _ (by omega), upd_same]
  have v70 : rOpn1 m r (70 + r) = m (70 + r) + 2520 / m (65 + r) := by
    simp only [rOpn1]
    rw [upd_ne _ _ (by omega), upd_ne _ _ (by omega), upd_ne _ _ (by omega), upd_same, upd_ne _ _ (by omega), upd_ne _ _ (by omega)]
  have v104 : rOpn1 m r 104 = 1 := by
    simp only [rOpn1]
    rw [upd_ne _ _ (by omega), upd_ne _ _ (by omega), upd_same]
  have v105 : rOpn1 m r 105 = 0 := by
    simp only [rOpn1]
    rw [upd_ne _ _ (by omega), upd_same]
  have v75 : rOpn1 m r (75 + r) = m (75 + r) + 1 := by
    simp only [rOpn1]
    rw [upd_same, upd_ne _ _ (by omega), upd_ne _ _ (by omega), upd_ne _ _ (by omega), upd_ne _ _ (by omega)]
  have hfd : ∀ j, hf (hOpn1 σ r) j = if j = 10 then 0 else if j = 9 then 1 else if j = 8 then nI r else if j = 6 then hr σ r 2 else hf σ j := by
    intro j
    show upd (upd (upd (upd (hf σ) 6 (hr σ r 2)) 8 (nI r)) 9 1) 10 0 j = _
    simp only [upd]
  have hrd : ∀ q j, hr (hOpn1 σ r) q j = if q = r then (if j = 4 then hr σ r 4 + 1 else if j = 2 then hr σ r 2 + (if 1 ≤ hr σ r 1 then 2520 / hr σ r 1 else 2520) else hr σ r j) else hr σ q j := by
    intro q j
    have : hr (hOpn1 σ r) q j = hr (phr (phr σ r 2 (hr σ r 2 + (if 1 ≤ hr σ r 1 then 2520 / hr σ r 1 else 2520))) r 4 (hr (phr σ r 2 (hr σ r 2 + (if 1 ≤ hr σ r 1 then 2520 / hr σ r 1 else 2520))) r 4 + 1)) q j := rfl
    rw [this, phr_rd, phr_rd, phr_rd]
    by_cases z : q = r
    · subst z
      by_cases y : j = 4
      · subst y; simp
      · by_cases x : j = 2
        · subst x; simp
        · simp [x, y]
    · simp [z]
  have h1 : RelU F E t r (hOpn1 σ r) (rOpn1 m r) := by
    refine ⟨h_opn1 hw hr5, e, c, ⟨by rw [hfd]; exact n1, by rw [lo 103 (by omega) (by omega) (by omega) (by omega) (by omega)]; exact n2, n3, n4, by rw [lo 109 (by omega) (by omega) (by omega) (by omega) (by omega)]; exact n5, n6, n7, by rw [lo 107 (by omega) (by omega) (by omega) (by omega) (by omega)]; exact n8, n9, n10⟩, hM.cong rfl (fun j hj => lo j (by omega) (by omega) (by omega) (by omega) (by omega)), ?_, ?_, ?_, hL.cong rfl rfl (fun j hj => lo j (by omega) (by omega) (by omega) (by omega) (by omega)), hG.cong (fun j hj => lo j (by omega) (by omega) (by omega) (by omega) (by omega))⟩
    · intro q hq
      obtain ⟨b0, b1, b2, b3, b4, b5, b6, b7, b8, b9, b10⟩ := hR q hq
      rw [hrd, hrd, hrd, hrd, hrd, hrd, hrd, hrd, hrd, rIns_cong (m := m) (fun j hj => lo j (by omega) (by omega) (by omega) (by omega) (by omega)), lo (60 + q) (by omega) (by omega) (by omega) (by omega) (by omega), lo (65 + q) (by omega) (by omega) (by omega) (by omega) (by omega), lo (80 + q) (by omega) (by omega) (by omega) (by omega) (by omega), lo (85 + q) (by omega) (by omega) (by omega) (by omega) (by omega), lo (90 + q) (by omega) (by omega) (by omega) (by omega) (by omega), lo (95 + q) (by omega) (by omega) (by omega) (by omega) (by omega)]
      by_cases z : q = r
      · subst z
        rw [v70, v75]
        refine ⟨by simp [b0], by simp [b1], ?_, by simp [b3], by simp [b4], by simp [b5], by simp [b6], by simp [b7], by simp [b8], b9, b10⟩
        rw [if_pos rfl, if_neg (by decide), if_pos rfl, b1, if_pos b10, b2]
      · rw [lo (70 + q) (by omega) (by omega) (by omega) (by omega) (by omega), lo (75 + q) (by omega) (by omega) (by omega) (by omega) (by omega)]
        simp only [if_neg z]
        exact ⟨b0, b1, b2, b3, b4, b5, b6, b7, b8, b9, b10⟩
    · obtain ⟨s0, s1, s2, s3, s4, s5, s6⟩ := hSt
      refine ⟨by rw [lo 100 (by omega) (by omega) (by omega) (by omega) (by omega)]; exact s0, by rw [lo 101 (by omega) (by omega) (by omega) (by omega) (by omega)]; exact s1, by rw [lo 102 (by omega) (by omega) (by omega) (by omega) (by omega)]; exact s2, ?_, ?_, by rw [lo 100 (by omega) (by omega) (by omega) (by omega) (by omega)]; exact s5, by rw [lo 102 (by omega) (by omega) (by omega) (by omega) (by omega)]; exact s6⟩
      · rw [hfd, v106, ← (hR r hr5).2.2.1]; rfl
      · rw [hfd, lo 110 (by omega) (by omega) (by omega) (by omega) (by omega)]; exact s4
    · refine ⟨hr5, by rw [hfd]; rfl, fun k hk hk1 => ?_, by rw [hfd, v104]; rfl, by rw [hfd, v105]; rfl, Or.inr v104⟩
      rw [lo k (by omega) (by omega) (by omega) (by omega) (by omega)] at hk1
      exact absurd hk1 (hni k hk)
  exact h1.note hF 0 (-1) (nI r)
theorem Rel.more {F F' E t : Nat} {σ : hs_T} {m : Nat → Int32} (h : Rel F E t σ m) (hF : F ≤ F' ∧ F' ≤ 1000000000 := by omega) : Rel F' E t σ m := by
  obtain ⟨hw, e, c, ⟨n1, n2, n3, n4, n5, n6, n7, n8, n9, n10⟩, hR⟩ := h
  exact ⟨hw, e, c, ⟨n1, n2, n3, n4, n5, by omega, hF.2, n8, n9, n10⟩, hR⟩
theorem kpt_short {p : Nat → Int32} {x : Int32} : ∀ {n i : Nat}, i < n → p i = x → (kpt p x n).length < n
  | 0, i, h, _ => by omega
  | n + 1, i, h, hp => by
    have hle : (kpt p x n).length ≤ n := by
      have := List.length_filter_le (fun i => !decide (p i = x)) (List.range n)
      rw [List.length_range] at this
      exact this
    rw [kpt_succ]
    by_cases z : p n = x
    · rw [if_pos z]; omega
    · rw [if_neg z, List.length_append]
      have hin : i < n := by
        rcases Nat.lt_or_ge i n with y | y
        · exact y
        · exact absurd hp (by rw [show i = n by omega]; exact z)
      have := kpt_short hin hp
      simp
      omega
theorem hLn_let {F E t u : Nat} {σ : hs_T} {m : Nat → Int32} (h : RelU F E t u σ m) {k : Nat} (hk : k < 12) (h1 : m k = 1) : hLn (hLet σ k) < hLn σ := by
  obtain ⟨hw, e, c, hN, hM, hR, hSt, hU, hL, hG⟩ := h
  obtain ⟨i, hi, hie⟩ := hL.2.2.2.1 k hk h1
  have e1 : hLn (hLet σ k) = hLn (hRemS σ (nI k) (hLn σ)) := rfl
  obtain ⟨r1, -, -⟩ := hRem_is (hp σ) (nI k) (hLn σ)
  have hle := hRem_le (hp σ) (nI k) (hLn σ)
  have h12 := hL.1
  rw [e1, hLn, hRemS_n, nI_clamp (by omega), r1]
  exact kpt_short hi (by rw [(hL.2.2.1 i hi).2.1, hie])
theorem hFd_u {F E t u : Nat} {σ : hs_T} {m : Nat → Int32} (h : RelU F E t u σ m) : hFd σ = if m 104 = 0 ∨ m (60 + u) ≤ nI (rIns m (nI u)) then -1 else rInq m (nI u) 0 := by
  obtain ⟨hw, e, c, hN, hM, hR, hSt, hU, hL, hG⟩ := h
  obtain ⟨hu5, u8, uin, u9, u10, ud⟩ := hU
  have hiu : hIu σ = u := by rw [hIu, u8, nI_clamp (by omega)]
  have hne : ¬ (nI u : Int32) = -1 := nI_ne_m1 (by omega)
  rw [hFd, hiu, u8, u9, (hR u hu5).1, (hR u hu5).2.2.2.1, rInq_line hM hL]
  by_cases z : m 104 = 0 ∨ m (60 + u) ≤ nI (rIns m (nI u))
  · rw [if_pos z, if_pos (Or.inr z)]
  · rw [if_neg z, if_neg (fun y => y.elim hne z)]
theorem hFd_no {F E t : Nat} {σ : hs_T} {m : Nat → Int32} (h : Rel F E t σ m) (hu : rInUse m = -1) : hFd σ = -1 := by
  obtain ⟨hw, e, c, hN, hM, hR, hSt, hU, hL, hG⟩ := h
  rw [hFd, if_pos (Or.inl (by rw [hU.1, hu]))]
/-- one round of acting, on both sides -/
theorem Rel.once {F E t : Nat} {σ : hs_T} {m : Nat → Int32} (h : Rel F E t σ m) (hF : F + 2 ≤ 1000000000) :
    ((rOnce m).2 = false ∧ hA1 σ = σ ∧ hFd σ = -1) ∨
    ((rOnce m).2 = true ∧ 0 < hLn σ ∧ (rOnce (rOnce m).1).2 = false ∧ hFd (hA1 σ) = -1 ∧ Rel (F + 1) E t (hA1 σ) (rOnce m).1) ∨
    ((rOnce m).2 = true ∧ ∃ k, k < 12 ∧ hFd (hA1 σ) = nI k ∧ m k = 1 ∧ Rel (F + 2) E t (hLet (hA1 σ) k) (rOnce m).1 ∧ hLn (hLet (hA1 σ) k) < hLn σ) := by
  have h0 := h
  obtain ⟨hw, e, c, hN, hM, hR, hSt, hU, hL, hG⟩ := h
  have hnx := hNext_line hw hN hM hR hSt hL
  by_cases hu : rInUse m = -1
  · have h8 : hf σ 8 = -1 := by rw [hU.1, hu]
    by_cases hn : rNext m = -1
    · left
      refine ⟨by rw [rOnce, if_pos hu, if_pos hn], by rw [hA1, if_pos h8, hnx, if_pos hn], hFd_no h0 hu⟩
    · right; right
      obtain ⟨r, hr5, hre, hwr⟩ := (rNext_is hw).resolve_left hn
      have hA : hA1 σ = hOpn σ r := by rw [hA1, if_pos h8, hnx, if_neg hn, hre, nI_clamp (by omega)]
      have hop := h0.opn (by omega) hu hr5
      have hwo : ¬ rWai (rOpn m r) (nI r) = 0 := by rw [rWai_cong (fun j hj => rOpn_lo m hr5 (by omega))]; exact hwr
      obtain ⟨k, hk, ek, hk1, hk2⟩ := rInq_ex hwo
      have hni := no_inside hw hU hu
      have hz : rIns (rOpn m r) (nI r) = 0 := by
        rw [rIns_cong (m := m) (fun j hj => rOpn_lo m hr5 (by omega)), rIns, fb_ct_zero]
        intro q hq
        simp [hni q hq]
      have h104 : ¬ rOpn m r 104 = 0 := by
        rw [rOpn, rLogs_lo _ _ _ _ (by omega)]
        simp only [rOpn1]
        rw [upd_ne _ _ (by omega), upd_ne _ _ (by omega), upd_same]
        decide
      have hfd : hFd (hA1 σ) = nI k := by
        rw [hA, hFd_u hop, if_neg, ek]
        rintro (y | y)
        · exact h104 y
        · rw [hz, rOpn_lo m hr5 (by omega)] at y
          have := (hR r hr5).2.2.2.2.2.2.2.2.2.1
          exact absurd (Int32.le_trans this y) (by decide)
      obtain ⟨hent, -⟩ := hop.enter (by omega) hk hk1 hk2
      have hkm : m k = 1 := by rw [← rOpn_lo m hr5 (by omega : k < 70)]; exact hk1
      refine ⟨by rw [rOnce, if_pos hu, if_neg hn], k, hk, hfd, hkm, ?_, ?_⟩
      · rw [hA, rOnce, if_pos hu, if_neg hn, hre, nI_clamp (by omega), ek, nI_clamp (by omega)]
        exact hent
      · rw [hA]
        exact hLn_let hop hk hk1
  · obtain ⟨u, hu5, hue⟩ := (rInUse_is hw).resolve_left hu
    have h8 : ¬ hf σ 8 = -1 := by rw [hU.1]; exact hu
    have hU2 := h0.toU hu5 hue
    have hfu := hFd_u hU2
    by_cases hc : m 104 = 0 ∨ rWai m (rInUse m) = 0 ∨ m (60 + (rInUse m).toNatClampNeg) ≤ nI (rIns m (rInUse m))
    · left
      have hfd : hFd σ = -1 := by
        rw [hfu]
        rw [hue, nI_clamp (by omega)] at hc
        by_cases z : m 104 = 0 ∨ m (60 + u) ≤ nI (rIns m (nI u))
        · rw [if_pos z]
        · rw [if_neg z]
          exact rInq_none (by rcases hc with y | y | y; exact absurd (Or.inl y) z; exact y; exact absurd (Or.inr y) z)
      refine ⟨by rw [rOnce, if_neg hu, if_pos hc], ?_, hfd⟩
      rw [hA1, if_neg h8, if_neg (fun y => y.1 hfd)]
    · have hw0 : ¬ rWai m (nI u) = 0 := fun y => hc (Or.inr (Or.inl (by rw [hue]; exact y)))
      obtain ⟨k, hk, ek, hk1, hk2⟩ := rInq_ex hw0
      have hfd : hFd σ = nI k := by
        rw [hfu, if_neg, ek]
        rintro (y | y)
        · exact hc (Or.inl y)
        · exact hc (Or.inr (Or.inr (by rw [hue, nI_clamp (by omega)]; exact y)))
      have hto := hTo_line hN hM hSt hU hL hu
      by_cases hd : rDue m (rInUse m) = true
      · right; left
        have hA : hA1 σ = hCl σ := by rw [hA1, if_neg h8, if_pos ⟨by rw [hfd]; exact nI_ne_m1 (by omega), by rw [hto]; exact hd⟩]
        have hcl := h0.close (by omega) hu
        have e1 : rOnce m = (rLogs (upd m 104 0) 3 (-1) (rInUse m), true) := by rw [rOnce, if_neg hu, if_neg hc, if_pos hd]
        have hiu2 : rInUse (rLogs (upd m 104 0) 3 (-1) (rInUse m)) = nI u := by
          rw [rInUse_cong (m := m) (fun j hj => by rw [rLogs_lo _ _ _ _ (by omega), upd_ne _ _ (by omega)]), hue]
        have h104 : rLogs (upd m 104 0) 3 (-1) (rInUse m) 104 = 0 := by rw [rLogs_lo _ _ _ _ (by omega), upd_same]
        refine ⟨by rw [e1], ?_, ?_, ?_, by rw [hA, e1]; exact hcl⟩
        · obtain ⟨i, hi, -⟩ := hL.2.2.2.1 k hk hk1
          omega
        · rw [e1]
          show (rOnce (rLogs (upd m 104 0) 3 (-1) (rInUse m))).2 = false
          rw [rOnce, if_neg (by rw [hiu2]; exact nI_ne_m1 (by omega)), if_pos (Or.inl h104)]
        · rw [hA, hFd_u (hcl.toU hu5 hiu2), if_pos (Or.inl h104)]
      · right; right
        have hA : hA1 σ = σ := by rw [hA1, if_neg h8, if_neg (fun y => hd (by rw [← hto]; exact y.2))]
        obtain ⟨hent, -⟩ := hU2.enter (by omega) hk hk1 hk2
        refine ⟨by rw [rOnce, if_neg hu, if_neg hc, if_neg hd], k, hk, by rw [hA]; exact hfd, hk1, ?_, by rw [hA]; exact hLn_let hU2 hk hk1⟩
        rw [hA, rOnce, if_neg hu, if_neg hc, if_neg hd, hue, nI_clamp (by omega), ek, nI_clamp (by omega)]
        exact hent.more (by omega)

