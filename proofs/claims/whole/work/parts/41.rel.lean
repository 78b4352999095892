/-! ===== the relation ===== -/
def RNum (F E t e c : Nat) (σ : hs_T) (m : Nat → Int32) : Prop := hf σ 5 = nI t ∧ m 103 = nI t ∧ t ≤ 20600 ∧ he σ 1 = nI e ∧ m 109 = nI e ∧ e ≤ F ∧ F ≤ 1000000000 ∧ m 107 = nI c ∧ c ≤ E ∧ E ≤ 1000000000
def RMem (t c : Nat) (σ : hs_T) (m : Nat → Int32) : Prop := ∀ k, k < 12 → (hm σ k 0 = m k ∧ hm σ k 1 = m (12 + k) ∧ hm σ k 2 = m (24 + k) ∧ hm σ k 3 = m (36 + k)) ∧ (m k = 0 ∨ m k = 1 ∨ m k = 2 ∨ m k = 3) ∧ (¬ m k = 0 → ∃ s, s ≤ t ∧ m (24 + k) = nI s) ∧ (m k = 1 → ∃ q, q < c ∧ m (48 + k) = nI q) ∧ (m k = 1 ∨ m k = 2 → ∃ x, 1 ≤ x ∧ x ≤ 999 ∧ m (36 + k) = nI x)
def RRoom (σ : hs_T) (m : Nat → Int32) : Prop := ∀ r, r < 5 → hr σ r 0 = m (60 + r) ∧ hr σ r 1 = m (65 + r) ∧ hr σ r 2 = m (70 + r) ∧ hr σ r 3 = nI (rIns m (nI r)) ∧ hr σ r 4 = m (75 + r) ∧ hr σ r 5 = m (80 + r) ∧ hr σ r 6 = m (85 + r) ∧ hr σ r 7 = m (90 + r) ∧ hr σ r 8 = m (95 + r) ∧ 1 ≤ m (60 + r) ∧ 1 ≤ m (65 + r)
def RSet (σ : hs_T) (m : Nat → Int32) : Prop := hu σ 0 = m 100 ∧ hu σ 1 = m 101 ∧ hu σ 2 = m 102 ∧ hf σ 6 = m 106 ∧ hf σ 7 = m 110 ∧ (∃ p, 1 ≤ p ∧ p ≤ 100 ∧ m 100 = nI p) ∧ (∃ p, 1 ≤ p ∧ p ≤ 50 ∧ m 102 = nI p)
def RUse (σ : hs_T) (m : Nat → Int32) : Prop := hf σ 8 = rInUse m ∧ (∀ k, k < 12 → 1 < m k → m (12 + k) = rInUse m) ∧ (hf σ 9 = if rInUse m = -1 then 0 else m 104) ∧ (hf σ 10 = if rInUse m = -1 then 0 else m 105) ∧ (m 104 = 0 ∨ m 104 = 1)
def RLine (σ : hs_T) (m : Nat → Int32) : Prop := hLn σ ≤ 12 ∧ hn σ 1 = nI (hLn σ) ∧ (∀ i, i < hLn σ → hPl σ i < 12 ∧ hp σ i = nI (hPl σ i) ∧ m (hPl σ i) = 1) ∧ (∀ k, k < 12 → m k = 1 → ∃ i, i < hLn σ ∧ hPl σ i = k) ∧ (∀ i j, i < j → j < hLn σ → m (48 + hPl σ i) < m (48 + hPl σ j) ∧ m (24 + hPl σ i) ≤ m (24 + hPl σ j))
def Rel (F E t : Nat) (σ : hs_T) (m : Nat → Int32) : Prop := RW m ∧ ∃ e c, RNum F E t e c σ m ∧ RMem t c σ m ∧ RRoom σ m ∧ RSet σ m ∧ RUse σ m ∧ RLine σ m ∧ RLog (hg σ) e m
theorem rIns_cong {m m' : Nat → Int32} (h : ∀ j, j < 24 → m' j = m j) (r : Int32) : rIns m' r = rIns m r :=
  fb_ct_cong (fun k hk => by rw [h k (by omega), h (12 + k) (by omega)])
theorem rInUse_cong {m m' : Nat → Int32} (h : ∀ j, j < 24 → m' j = m j) : rInUse m' = rInUse m := by
  rw [rInUse, rInUse, ff_cong (q := fun k => decide (1 < m k)) (fun k hk => by rw [h k (by omega)])]
  cases hf : ff (fun k => decide (1 < m k)) 12 with
  | none => rfl
  | some k =>
    have := (ff_is hf).1
    exact h (12 + k) (by omega)
theorem rImp_cong {m m' : Nat → Int32} (h : ∀ j, j < 36 ∨ j = 100 ∨ j = 103 → m' j = m j) {k : Nat} (hk : k < 12) : rImp m' k = rImp m k := by
  rw [rImp, rImp, h k (by omega), h 100 (by omega), h 103 (by omega), h (24 + k) (by omega)]
theorem RMem.cong {t c : Nat} {σ σ' : hs_T} {m m' : Nat → Int32} (h : RMem t c σ m) (hs : hm σ' = hm σ) (he : ∀ j, j < 60 → m' j = m j) : RMem t c σ' m' := by
  intro k hk
  rw [hs, he k (by omega), he (12 + k) (by omega), he (24 + k) (by omega), he (36 + k) (by omega), he (48 + k) (by omega)]
  exact h k hk
theorem RRoom.cong {σ σ' : hs_T} {m m' : Nat → Int32} (h : RRoom σ m) (hs : hr σ' = hr σ) (he : ∀ j, j < 24 ∨ (60 ≤ j ∧ j < 100) → m' j = m j) : RRoom σ' m' := by
  intro r hr5
  rw [hs, he (60 + r) (by omega), he (65 + r) (by omega), he (70 + r) (by omega), he (75 + r) (by omega), he (80 + r) (by omega), he (85 + r) (by omega), he (90 + r) (by omega), he (95 + r) (by omega), rIns_cong (fun j hj => he j (by omega))]
  exact h r hr5
theorem RSet.cong {σ σ' : hs_T} {m m' : Nat → Int32} (h : RSet σ m) (hs : hu σ' = hu σ) (h6 : hf σ' 6 = hf σ 6) (h7 : hf σ' 7 = hf σ 7) (he : ∀ j, j = 100 ∨ j = 101 ∨ j = 102 ∨ j = 106 ∨ j = 110 → m' j = m j) : RSet σ' m' := by
  rw [RSet, hs, h6, h7, he 100 (by omega), he 101 (by omega), he 102 (by omega), he 106 (by omega), he 110 (by omega)]
  exact h
theorem RUse.cong {σ σ' : hs_T} {m m' : Nat → Int32} (h : RUse σ m) (h8 : hf σ' 8 = hf σ 8) (h9 : hf σ' 9 = hf σ 9) (h10 : hf σ' 10 = hf σ 10) (he : ∀ j, j < 24 ∨ j = 104 ∨ j = 105 → m' j = m j) : RUse σ' m' := by
  have hu := rInUse_cong (m := m) (m' := m') (fun j hj => he j (by omega))
  refine ⟨by rw [h8, hu]; exact h.1, fun k hk hk1 => ?_, by rw [h9, hu, he 104 (by omega)]; exact h.2.2.1, by rw [h10, hu, he 105 (by omega)]; exact h.2.2.2.1, by rw [he 104 (by omega)]; exact h.2.2.2.2⟩
  rw [hu, he (12 + k) (by omega)]
  rw [he k (by omega)] at hk1
  exact h.2.1 k hk hk1
theorem RLine.cong {σ σ' : hs_T} {m m' : Nat → Int32} (h : RLine σ m) (hsn : hn σ' = hn σ) (hsp : hp σ' = hp σ) (he : ∀ j, j < 12 ∨ (24 ≤ j ∧ j < 36) ∨ (48 ≤ j ∧ j < 60) → m' j = m j) : RLine σ' m' := by
  have e1 : hLn σ' = hLn σ := by rw [hLn, hLn, hsn]
  have e2 : hPl σ' = hPl σ := by funext i; rw [hPl, hPl, hsp]
  obtain ⟨h1, h2, h3, h4, h5⟩ := h
  rw [RLine, e1, e2, hsn, hsp]
  refine ⟨h1, h2, fun i hi => ?_, fun k hk hk1 => ?_, fun i j hij hj => ?_⟩
  · obtain ⟨a, b, c⟩ := h3 i hi
    exact ⟨a, b, by rw [he _ (by omega)]; exact c⟩
  · rw [he k (by omega)] at hk1
    exact h4 k hk hk1
  · have a := (h3 i (by omega)).1
    have b := (h3 j hj).1
    rw [he (48 + hPl σ i) (by omega), he (48 + hPl σ j) (by omega), he (24 + hPl σ i) (by omega), he (24 + hPl σ j) (by omega)]
    exact h5 i j hij hj
/-- something is written into both logs -/
theorem Rel.note {F E t : Nat} {σ : hs_T} {m : Nat → Int32} (h : Rel F E t σ m) (hF : F + 1 ≤ 1000000000) (kd me r : Int32) : Rel (F + 1) E t (hNt σ (hf σ 5) kd me r) (rLogs m kd me r) := by
  obtain ⟨hw, e, c, hN, hM, hR, hSt, hU, hL, hG⟩ := h
  obtain ⟨n1, n2, n3, n4, n5, n6, n7, n8, n9, n10⟩ := hN
  have hev : hEv σ = e := by rw [hEv, n4, nI_clamp (by omega)]
  have lo : ∀ j, j < 108 ∨ j = 110 → rLogs m kd me r j = m j := fun j hj => rLogs_lo m kd me r hj
  refine ⟨hw.logs _ _ _, e + 1, c, ⟨n1, by rw [lo 103 (by omega)]; exact n2, n3, ?_, by rw [rLogs_109, n5, nI_1], by omega, hF, by rw [lo 107 (by omega)]; exact n8, n9, n10⟩, hM.cong rfl (fun j hj => lo j (by omega)), hR.cong rfl (fun j hj => lo j (by omega)), hSt.cong rfl rfl rfl (fun j hj => lo j (by omega)), hU.cong rfl rfl rfl (fun j hj => lo j (by omega)), hL.cong rfl rfl (fun j hj => lo j (by omega)), ?_⟩
  · rw [hNt, hev, hNote]
    show upd (he σ) 1 (nI (e + 1)) 1 = nI (e + 1)
    exact upd_same _ _ _
  · have := hG.note kd me r
    rw [n2, ← n1] at this
    rw [hNt, hev]
    exact this

