/-! ===== a request ===== -/
theorem upd_id (m : Nat → Int32) (j : Nat) : upd m j (m j) = m := by
  funext i
  by_cases h : i = j
  · subst h; rw [upd_same]
  · rw [upd_ne _ _ h]
theorem Rel.turn {F E t : Nat} {σ : hs_T} {m : Nat → Int32} (h : Rel F E t σ m) {r : Nat} (hr5 : r < 5) (x : Int32) : Rel F E t (phr σ r 2 x) (upd m (70 + r) x) := by
  obtain ⟨hw, e, c, hN, hM, hR, hSt, hU, hL, hG⟩ := h
  have lo : ∀ j, j ≠ 70 + r → upd m (70 + r) x j = m j := fun j hj => upd_ne _ _ hj
  obtain ⟨n1, n2, n3, n4, n5, n6, n7, n8, n9, n10⟩ := hN
  refine ⟨hw.put (by omega) _, e, c, ⟨n1, by rw [lo 103 (by omega)]; exact n2, n3, n4, by rw [lo 109 (by omega)]; exact n5, n6, n7, by rw [lo 107 (by omega)]; exact n8, n9, n10⟩, hM.cong rfl (fun j hj => lo j (by omega)), ?_, hSt.cong rfl rfl rfl (fun j hj => lo j (by omega)), hU.cong rfl rfl rfl (fun j hj => lo j (by omega)), hL.cong rfl rfl (fun j hj => lo j (by omega)), hG.cong (fun j hj => lo j (by omega))⟩
  intro q hq
  obtain ⟨a0, a1, a2, a3, a4, a5, a6, a7, a8, a9, a10⟩ := hR q hq
  have hi : rIns (upd m (70 + r) x) (nI q) = rIns m (nI q) := rIns_cong (fun j hj => lo j (by omega)) _
  have rd : ∀ j, j ≠ 2 → hr (phr σ r 2 x) q j = hr σ q j := fun j hj => by rw [phr_rd, if_neg (by omega)]
  rw [hi, lo (60 + q) (by omega), lo (65 + q) (by omega), lo (75 + q) (by omega), lo (80 + q) (by omega), lo (85 + q) (by omega), lo (90 + q) (by omega), lo (95 + q) (by omega), rd 0 (by omega), rd 1 (by omega), rd 3 (by omega), rd 4 (by omega), rd 5 (by omega), rd 6 (by omega), rd 7 (by omega), rd 8 (by omega)]
  refine ⟨a0, a1, ?_, a3, a4, a5, a6, a7, a8, a9, a10⟩
  rw [phr_rd]
  by_cases hqr : q = r
  · subst hqr
    rw [if_pos ⟨rfl, rfl⟩, upd_same]
  · rw [if_neg (by omega), lo (70 + q) (by omega)]
    exact a2
theorem line_short {σ : hs_T} {m : Nat → Int32} (hL : RLine σ m) {k : Nat} (hk : k < 12) (h1 : ¬ m k = 1) : hLn σ < 12 := by
  have a := line_ct hL (fun q => decide (m q = 1)) (fun q hq z => of_decide_eq_true z)
  have b : fb_ct (fun j => decide (m (hPl σ j) = 1)) (hLn σ) = hLn σ := fb_ct_all.mpr (fun j hj => decide_eq_true (hL.2.2.1 j hj).2.2)
  rw [b] at a
  have d := fb_ct_le (fun q => decide (m q = 1)) 12
  by_cases hz : hLn σ = 12
  · rw [hz] at a
    have := fb_ct_all.mp a k hk
    exact absurd (of_decide_eq_true this) h1
  · omega
theorem rReq2_ne (m : Nat → Int32) (k r : Nat) (T : Int32) {j : Nat} (h0 : j ≠ k) (h1 : j ≠ 12 + k) (h2 : j ≠ 24 + k) (h3 : j ≠ 36 + k) (h4 : j ≠ 48 + k) (h5 : j ≠ 107) : rReq2 m k r T j = m j := by
  simp only [rReq2]
  rw [upd_ne _ _ h5, upd_ne _ _ h4, upd_ne _ _ h3, upd_ne _ _ h2, upd_ne _ _ h1, upd_ne _ _ h0]
theorem rReq2_at (m : Nat → Int32) {k : Nat} (hk : k < 12) (r : Nat) (T : Int32) : rReq2 m k r T k = 1 ∧ rReq2 m k r T (12 + k) = nI r ∧ rReq2 m k r T (24 + k) = m 103 ∧ rReq2 m k r T (36 + k) = T ∧ rReq2 m k r T (48 + k) = m 107 ∧ rReq2 m k r T 107 = m 107 + 1 := by
  simp only [rReq2]
  refine ⟨?_, ?_, ?_, ?_, ?_, ?_⟩
  · rw [upd_ne _ _ (by omega), upd_ne _ _ (by omega), upd_ne _ _ (by omega), upd_ne _ _ (by omega), upd_ne _ _ (by omega), upd_same]
  · rw [upd_ne _ _ (by omega), upd_ne _ _ (by omega), upd_ne _ _ (by omega), upd_ne _ _ (by omega), upd_same]
  · rw [upd_ne _ _ (by omega), upd_ne _ _ (by omega), upd_ne _ _ (by omega), upd_same, upd_ne _ _ (by omega), upd_ne _ _ (by omega)]
  · rw [upd_ne _ _ (by omega), upd_ne _ _ (by omega), upd_same]
  · rw [upd_ne _ _ (by omega), upd_same, upd_ne _ _ (by omega), upd_ne _ _ (by omega), upd_ne _ _ (by omega), upd_ne _ _ (by omega)]
  · rw [upd_same, upd_ne _ _ (by omega), upd_ne _ _ (by omega), upd_ne _ _ (by omega), upd_ne _ _ (by omega), upd_ne _ _ (by omega)]
def hQu2 (σ : hs_T) (k r : Nat) (T : Int32) : hs_T := phn (php (hBe σ k 1 (nI r) (hf σ 5) T) (hLn σ) (nI k)) 1 (nI (hLn σ + 1))
theorem Rel.req2 {F E t : Nat} {σ : hs_T} {m : Nat → Int32} (h : Rel F E t σ m) (hE : E + 1 ≤ 1000000000) {k r n : Nat} (hk : k < 12) (hr5 : r < 5) (h0 : m k = 0) {T : Int32} (hT : T = nI n) (hT1 : 1 ≤ n) (hT2 : n ≤ 999) : Rel F (E + 1) t (hQu2 σ k r T) (rReq2 m k r T) := by
  obtain ⟨hw, e, c, hN, hM, hR, hSt, hU, hL, hG⟩ := h
  obtain ⟨t0, t1, t2, t3, t4, t5⟩ := rReq2_at m hk r T
  have lo : ∀ j, j ≠ k → j ≠ 12 + k → j ≠ 24 + k → j ≠ 36 + k → j ≠ 48 + k → j ≠ 107 → rReq2 m k r T j = m j := fun j a b c d e f => rReq2_ne m k r T a b c d e f
  have hi : ∀ j, 60 ≤ j → j ≠ 107 → rReq2 m k r T j = m j := fun j a b => lo j (by omega) (by omega) (by omega) (by omega) (by omega) b
  have mem : ∀ q, q < 12 → q ≠ k → rReq2 m k r T q = m q ∧ rReq2 m k r T (12 + q) = m (12 + q) ∧ rReq2 m k r T (24 + q) = m (24 + q) ∧ rReq2 m k r T (36 + q) = m (36 + q) ∧ rReq2 m k r T (48 + q) = m (48 + q) := fun q hq hqk =>
    ⟨lo _ (by omega) (by omega) (by omega) (by omega) (by omega) (by omega), lo _ (by omega) (by omega) (by omega) (by omega) (by omega) (by omega), lo _ (by omega) (by omega) (by omega) (by omega) (by omega) (by omega), lo _ (by omega) (by omega) (by omega) (by omega) (by omega) (by omega), lo _ (by omega) (by omega) (by omega) (by omega) (by omega) (by omega)⟩
  have hshort := line_short hL hk (by rw [h0]; decide)
  generalize rReq2 m k r T = m' at *
  have hin : ∀ q, q < 12 → 1 < m' q → q ≠ k := by
    intro q hq z hqk
    subst hqk
    rw [t0] at z
    exact absurd z (by decide)
  have hk1 : ¬ 1 < m k := by rw [h0]; decide
  have hins : ∀ x, rIns m' x = rIns m x := fun x => fb_ct_cong (fun q hq => by
    by_cases hqk : q = k
    · subst hqk
      rw [t0, h0]
      rfl
    · rw [(mem q hq hqk).1, (mem q hq hqk).2.1])
  have hiu : rInUse m' = rInUse m := by
    by_cases hx : ∃ q, q < 12 ∧ 1 < m q
    · obtain ⟨q, hq, hq1⟩ := hx
      have hqk : q ≠ k := fun z => hk1 (by rw [← z]; exact hq1)
      refine rInUse_of (k := q) (fun p hp z => ?_) hq (by rw [(mem q hq hqk).1]; exact hq1)
      have hpk := hin p hp z
      rw [(mem p hp hpk).1] at z
      rw [(mem p hp hpk).2.1]
      exact hU.2.1 p hp z
    · rw [rInUse_no (m := m) (fun q hq z => hx ⟨q, hq, z⟩), rInUse_no]
      intro q hq z
      have hqk := hin q hq z
      rw [(mem q hq hqk).1] at z
      exact hx ⟨q, hq, z⟩
  obtain ⟨n1, n2, n3, n4, n5, n6, n7, n8, n9, n10⟩ := hN
  refine ⟨?_, e, c + 1, ⟨n1, by rw [hi 103 (by omega) (by omega)]; exact n2, n3, n4, by rw [hi 109 (by omega) (by omega)]; exact n5, n6, n7, by rw [t5, n8]; exact nI_1 c, by omega, hE⟩, ?_, ?_, hSt.cong rfl rfl rfl (fun j hj => hi j (by omega) (by omega)), ⟨?_, ?_, ?_, ?_, ?_⟩, ?_, hG.cong (fun j hj => hi j (by omega) (by omega))⟩
  · refine ⟨fun q hq => ?_, by rw [hi 108 (by omega) (by omega)]; exact hw.2.1, fun r hr => by rw [hi (65 + r) (by omega) (by omega)]; exact hw.2.2.1 r hr, fun j hj => by rw [hi j (by omega) (by omega)]; exact hw.2.2.2 j hj⟩
    by_cases hqk : q = k
    · subst hqk
      exact Or.inr ⟨r, hr5, t1⟩
    · rw [(mem q hq hqk).1, (mem q hq hqk).2.1]
      exact hw.1 q hq
  · intro q hq
    obtain ⟨⟨a0, a1, a2, a3⟩, b, hs, g, w⟩ := hM q hq
    have rd : ∀ j, hm (hQu2 σ k r T) q j = hm (hBe σ k 1 (nI r) (hf σ 5) T) q j := fun j => rfl
    rw [rd, rd, rd, rd, hBe_rd, hBe_rd, hBe_rd, hBe_rd]
    by_cases hqk : q = k
    · subst hqk
      rw [t0, t1, t2, t3, t4]
      refine ⟨⟨by simp, by simp, ?_, by simp⟩, by simp, fun _ => ⟨t, Nat.le_refl _, n2⟩, fun _ => ⟨c, by omega, n8⟩, fun _ => ⟨n, hT1, hT2, hT⟩⟩
      rw [if_pos rfl]
      show hf σ 5 = m 103
      rw [n1, n2]
    · obtain ⟨b1, b2, b3, b4, b5⟩ := mem q hq hqk
      rw [b1, b2, b3, b4, b5, if_neg hqk, if_neg hqk, if_neg hqk, if_neg hqk]
      refine ⟨⟨a0, a1, a2, a3⟩, b, hs, fun z => ?_, w⟩
      obtain ⟨y, y1, y2⟩ := g z
      exact ⟨y, by omega, y2⟩
  · intro r' hr'
    have := hR r' hr'
    rw [hins, hi (60 + r') (by omega) (by omega), hi (65 + r') (by omega) (by omega), hi (70 + r') (by omega) (by omega), hi (75 + r') (by omega) (by omega), hi (80 + r') (by omega) (by omega), hi (85 + r') (by omega) (by omega), hi (90 + r') (by omega) (by omega), hi (95 + r') (by omega) (by omega)]
    exact this
  · rw [hiu]; exact hU.1
  · intro q hq z
    have hqk := hin q hq z
    rw [(mem q hq hqk).1] at z
    rw [hiu, (mem q hq hqk).2.1]
    exact hU.2.1 q hq z
  · rw [hiu, hi 104 (by omega) (by omega)]; exact hU.2.2.1
  · rw [hiu, hi 105 (by omega) (by omega)]; exact hU.2.2.2.1
  · rw [hi 104 (by omega) (by omega)]; exact hU.2.2.2.2
  · obtain ⟨g1, g2, g3, g4, g5⟩ := hL
    have hl : hLn (hQu2 σ k r T) = hLn σ + 1 := by
      show (nI (hLn σ + 1)).toNatClampNeg = _
      exact nI_clamp (by omega)
    have hpn : hp (hQu2 σ k r T) (hLn σ) = nI k := by
      show upd (hp σ) (hLn σ) (nI k) (hLn σ) = nI k
      rw [upd_same]
    have hpo : ∀ i, i < hLn σ → hp (hQu2 σ k r T) i = hp σ i := fun i hi => by
      show upd (hp σ) (hLn σ) (nI k) i = hp σ i
      rw [upd_ne _ _ (by omega)]
    have hpln : hPl (hQu2 σ k r T) (hLn σ) = k := by rw [hPl, hpn, nI_clamp (by omega)]
    have hplo : ∀ i, i < hLn σ → hPl (hQu2 σ k r T) i = hPl σ i := fun i hi => by rw [hPl, hpo i hi, hPl]
    have hnk : ∀ i, i < hLn σ → hPl σ i ≠ k := fun i hi z => by
      have := (g3 i hi).2.2
      rw [z, h0] at this
      exact absurd this (by decide)
    refine ⟨by omega, by rw [hl]; rfl, fun i hi => ?_, fun q hq z => ?_, fun i j hij hj => ?_⟩
    · by_cases hil : i = hLn σ
      · subst hil
        rw [hpln, hpn]
        exact ⟨hk, rfl, t0⟩
      · have hi2 : i < hLn σ := by omega
        obtain ⟨a, b, d⟩ := g3 i hi2
        rw [hplo i hi2, hpo i hi2, (mem _ a (hnk i hi2)).1]
        exact ⟨a, b, d⟩
    · by_cases hqk : q = k
      · subst hqk
        exact ⟨hLn σ, by omega, hpln⟩
      · rw [(mem q hq hqk).1] at z
        obtain ⟨i, i1, i2⟩ := g4 q hq z
        exact ⟨i, by omega, by rw [hplo i i1]; exact i2⟩
    · have hi2 : i < hLn σ := by omega
      obtain ⟨a, b, d⟩ := g3 i hi2
      obtain ⟨-, -, m3, -, m5⟩ := mem _ a (hnk i hi2)
      rw [hplo i hi2, m3, m5]
      by_cases hjl : j = hLn σ
      · subst hjl
        rw [hpln, t2, t4, n2, n8]
        obtain ⟨-, -, hs, g, -⟩ := hM _ a
        obtain ⟨s, s1, s2⟩ := hs (by rw [d]; decide)
        obtain ⟨y, y1, y2⟩ := g d
        rw [s2, y2]
        exact ⟨nI_lt y1 (by omega), nI_le s1 (by omega)⟩
      · have hj2 : j < hLn σ := by omega
        obtain ⟨a', b', d'⟩ := g3 j hj2
        obtain ⟨-, -, m3', -, m5'⟩ := mem _ a' (hnk j hj2)
        rw [hplo j hj2, m3', m5']
        exact g5 i j hij hj2
theorem Rel.req {F E t : Nat} {σ : hs_T} {m : Nat → Int32} (h : Rel F E t σ m) (hE : E + 1 ≤ 1000000000) {k r n : Nat} (hk : k < 12) (hr5 : r < 5) (h0 : m k = 0) {T : Int32} (hT : T = nI n) (hT1 : 1 ≤ n) (hT2 : n ≤ 999) : Rel F (E + 1) t (hQu σ k r T) (rReq m k r T) := by
  have hh := h
  obtain ⟨hw, e, c, hN, hM, hR, hSt, hU, hL, hG⟩ := hh
  have hwl := rWai_line hM hL (nI r)
  have hr2 : hr σ r 2 = m (70 + r) := (hR r hr5).2.2.1
  have h6 : hf σ 6 = m 106 := hSt.2.2.2.1
  have key : ∀ σ1 m0, Rel F E t σ1 m0 → m0 k = 0 → hLn σ1 = hLn σ → phn (php (hBe σ1 k 1 (nI r) (hf σ1 5) T) (hLn σ) (nI k)) 1 (nI (hLn σ + 1)) = hQu2 σ1 k r T := by
    intro σ1 m0 _ _ hl
    rw [hQu2, hl]
  simp only [hQu]
  rw [rReq, hU.1, hr2, h6, ← hwl]
  by_cases hc : ¬ nI r = rInUse m ∧ rWai m (nI r) = 0
  · rw [if_pos hc]
    by_cases hd : m (70 + r) < m 106
    · rw [if_pos hd, if_pos ⟨fun z => hc.1 z.symm, hc.2, hd⟩]
      have h1 := h.turn hr5 (m 106)
      have h2 : upd m (70 + r) (m 106) k = 0 := by rw [upd_ne _ _ (by omega)]; exact h0
      rw [key _ _ h1 h2 rfl]
      exact h1.req2 hE hk hr5 h2 hT hT1 hT2
    · rw [if_neg hd, if_neg (fun z => hd z.2.2)]
      have h1 := h.turn hr5 (m (70 + r))
      rw [upd_id] at h1
      rw [key _ _ h1 h0 rfl]
      exact h1.req2 hE hk hr5 h0 hT hT1 hT2
  · rw [if_neg hc, if_neg (fun z => hc ⟨fun y => z.1 y.symm, z.2.1⟩), key _ _ h h0 rfl]
    exact h.req2 hE hk hr5 h0 hT hT1 hT2

