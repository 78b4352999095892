/-! ===== quiet ticks of the reference ===== -/
def rSkS (m : Nat → Int32) (x : Int32) (k : Nat) : Nat → Int32 := if m k = 2 then upd (upd m (85 + (m (12 + k)).toNatClampNeg) (m (85 + (m (12 + k)).toNatClampNeg) + x)) (36 + k) (m (36 + k) - x) else m
def rSkL (m : Nat → Int32) (x : Int32) : Nat → (Nat → Int32)
  | 0 => m
  | k + 1 => rSkS (rSkL m x k) x k
def rCt (m : Nat → Int32) (r n : Nat) : Nat := fb_ct (fun k => decide (m k = 2) && decide (m (12 + k) = nI r)) n
def rSk (m : Nat → Int32) (X : Nat) : Nat → Int32 := rSkL (upd m 103 (m 103 + nI X)) (nI X) 12
theorem rSkL_rd {m : Nat → Int32} (hw : RW m) (X : Nat) : ∀ (n : Nat), n ≤ 12 → ∀ j, rSkL m (nI X) n j = if 36 ≤ j ∧ j < 36 + n ∧ m (j - 36) = 2 then m j - nI X else if 85 ≤ j ∧ j < 90 then m j + nI (rCt m (j - 85) n * X) else m j
  | 0, _, j => by
    rw [if_neg (by omega)]
    split
    · show m j = m j + nI (0 * X)
      rw [Nat.zero_mul, nI_0, Int32.add_zero]
    · rfl
  | n + 1, hn, j => by
    have ih := rSkL_rd hw X n (by omega)
    have i0 : rSkL m (nI X) n n = m n := by rw [ih, if_neg (by omega), if_neg (by omega)]
    have i1 : rSkL m (nI X) n (12 + n) = m (12 + n) := by rw [ih, if_neg (by omega), if_neg (by omega)]
    have i3 : rSkL m (nI X) n (36 + n) = m (36 + n) := by rw [ih, if_neg (by omega), if_neg (by omega)]
    rw [rSkL, rSkS, i0, i1, i3]
    by_cases h2 : m n = 2
    · obtain ⟨r, hr5, er⟩ := (hw.1 n (by omega)).resolve_left (by rw [h2]; decide)
      rw [if_pos h2, er, nI_clamp (by omega)]
      by_cases hj : j = 36 + n
      · subst hj
        rw [upd_same, if_pos ⟨by omega, by omega, by rw [Nat.add_sub_cancel_left]; exact h2⟩]
      · rw [upd_ne _ _ hj]
        by_cases hj2 : j = 85 + r
        · subst hj2
          rw [upd_same, ih, if_neg (by omega), if_pos ⟨by omega, by omega⟩, if_neg (by omega), if_pos ⟨by omega, by omega⟩, Nat.add_sub_cancel_left]
          have hc : rCt m r (n + 1) = rCt m r n + 1 := by
            rw [rCt, fb_ct_succ, if_pos (by rw [h2, er]; simp)]
            rfl
          rw [hc, Nat.add_mul, Nat.one_mul, ← nI_add, Int32.add_assoc]
        · rw [upd_ne _ _ hj2, ih]
          have hc : 85 ≤ j ∧ j < 90 → rCt m (j - 85) (n + 1) = rCt m (j - 85) n := by
            intro z
            rw [rCt, fb_ct_succ, if_neg (by
              rw [er]
              have : ¬ nI r = nI (j - 85) := fun y => absurd ((nI_eq (by omega) (by omega)).mp y) (by omega)
              simp [this])]
            rfl
          by_cases ha : 36 ≤ j ∧ j < 36 + n ∧ m (j - 36) = 2
          · rw [if_pos ha, if_pos ⟨ha.1, by omega, ha.2.2⟩]
          · rw [if_neg ha, if_neg (show ¬ (36 ≤ j ∧ j < 36 + (n + 1) ∧ m (j - 36) = 2) from fun z => ha ⟨z.1, by omega, z.2.2⟩)]
            by_cases hb : 85 ≤ j ∧ j < 90
            · rw [if_pos hb, if_pos hb, hc hb]
            · rw [if_neg hb, if_neg hb]
    · rw [if_neg h2, ih]
      have hc : rCt m (j - 85) (n + 1) = rCt m (j - 85) n := by
        rw [rCt, fb_ct_succ, if_neg (by simp [h2])]
        rfl
      rw [hc]
      by_cases ha : 36 ≤ j ∧ j < 36 + n ∧ m (j - 36) = 2
      · rw [if_pos ha, if_pos ⟨ha.1, by omega, ha.2.2⟩]
      · have hz : ¬ (36 ≤ j ∧ j < 36 + (n + 1) ∧ m (j - 36) = 2) := by
          intro z
          by_cases hj : j = 36 + n
          · subst hj
            rw [Nat.add_sub_cancel_left] at z
            exact h2 z.2.2
          · exact ha ⟨z.1, by omega, z.2.2⟩
        rw [if_neg ha, if_neg hz]
theorem rSk_rd {m : Nat → Int32} (hw : RW m) (X j : Nat) : rSk m X j = if 36 ≤ j ∧ j < 48 ∧ m (j - 36) = 2 then m j - nI X else if 85 ≤ j ∧ j < 90 then m j + nI (rCt m (j - 85) 12 * X) else if j = 103 then m 103 + nI X else m j := by
  have hw' : RW (upd m 103 (m 103 + nI X)) := hw.put (by omega) _
  rw [rSk, rSkL_rd hw' X 12 (by omega)]
  have hc : rCt (upd m 103 (m 103 + nI X)) (j - 85) 12 = rCt m (j - 85) 12 := fb_ct_cong (fun k hk => by rw [upd_ne _ _ (by omega), upd_ne _ _ (by omega)])
  rw [hc]
  by_cases ha : 36 ≤ j ∧ j < 48
  · have e1 : upd m 103 (m 103 + nI X) (j - 36) = m (j - 36) := upd_ne _ _ (by omega)
    have e2 : upd m 103 (m 103 + nI X) j = m j := upd_ne _ _ (by omega)
    have n2 : ¬ (85 ≤ j ∧ j < 90) := by omega
    have n3 : ¬ j = 103 := by omega
    rw [e1, e2, if_neg n2, if_neg n2, if_neg n3]
  · have n1 : ¬ (36 ≤ j ∧ j < 36 + 12 ∧ upd m 103 (m 103 + nI X) (j - 36) = 2) := fun z => ha ⟨z.1, z.2.1⟩
    have n2 : ¬ (36 ≤ j ∧ j < 48 ∧ m (j - 36) = 2) := fun z => ha ⟨z.1, z.2.1⟩
    rw [if_neg n1, if_neg n2]
    by_cases hb : j = 103
    · subst hb
      rw [if_pos rfl, upd_same]
      rfl
    · have e2 : upd m 103 (m 103 + nI X) j = m j := upd_ne _ _ hb
      rw [e2, if_neg hb]
theorem rSk_ne {m : Nat → Int32} (hw : RW m) (X : Nat) {j : Nat} (hj : j < 36 ∨ 48 ≤ j ∧ j < 85 ∨ 90 ≤ j ∧ j ≠ 103) : rSk m X j = m j := by
  have n1 : ¬ (36 ≤ j ∧ j < 48 ∧ m (j - 36) = 2) := by omega
  have n2 : ¬ (85 ≤ j ∧ j < 90) := by omega
  have n3 : ¬ j = 103 := by omega
  rw [rSk_rd hw, if_neg n1, if_neg n2, if_neg n3]
theorem rSk_t {m : Nat → Int32} (hw : RW m) (X : Nat) : rSk m X 103 = m 103 + nI X := by
  have n1 : ¬ (36 ≤ 103 ∧ 103 < 48 ∧ m (103 - 36) = 2) := by omega
  rw [rSk_rd hw, if_neg n1]
  rfl
theorem RW.sk {m : Nat → Int32} (hw : RW m) (X : Nat) : RW (rSk m X) :=
  hw.cong (fun j hj => rSk_ne hw X (by omega)) (by rw [rSk_ne hw X (by omega)]; exact hw.2.1)
theorem rSk_0 {m : Nat → Int32} (hw : RW m) : rSk m 0 = m := by
  funext j
  rw [rSk_rd hw, Nat.mul_zero, nI_0]
  have hs : m j - 0 = m j := by rw [Int32.sub_zero]
  rw [hs, Int32.add_zero, Int32.add_zero]
  split
  · rfl
  · split
    · rfl
    · split
      · rename_i h
        rw [h]
      · rfl
theorem rSk_1 {m : Nat → Int32} (hw : RW m) (X : Nat) : rSk (rSk m X) 1 = rSk m (X + 1) := by
  funext j
  rw [rSk_rd (hw.sk X), rSk_rd hw (X + 1)]
  have hc : rCt (rSk m X) (j - 85) 12 = rCt m (j - 85) 12 := fb_ct_cong (fun k hk => by rw [rSk_ne hw X (by omega), rSk_ne hw X (by omega)])
  have e0 : j - 36 < 36 → rSk m X (j - 36) = m (j - 36) := fun z => rSk_ne hw X (by omega)
  rw [hc, rSk_t hw, rSk_rd hw X j]
  by_cases ha : 36 ≤ j ∧ j < 48
  · rw [e0 (by omega)]
    have n2 : ¬ (85 ≤ j ∧ j < 90) := by omega
    have n3 : ¬ j = 103 := by omega
    by_cases hb : 36 ≤ j ∧ j < 48 ∧ m (j - 36) = 2
    · rw [if_pos hb, if_pos hb, if_pos hb, Int32.sub_sub, nI_add]
    · rw [if_neg hb, if_neg hb, if_neg hb, if_neg n2, if_neg n2, if_neg n2, if_neg n3, if_neg n3, if_neg n3]
  · have n1 : ∀ z : Int32, ¬ (36 ≤ j ∧ j < 48 ∧ z = 2) := fun z w => ha ⟨w.1, w.2.1⟩
    rw [if_neg (n1 _), if_neg (n1 _), if_neg (n1 _)]
    by_cases hb : 85 ≤ j ∧ j < 90
    · rw [if_pos hb, if_pos hb, if_pos hb, Int32.add_assoc, nI_add, Nat.mul_add]
    · rw [if_neg hb, if_neg hb, if_neg hb]
      by_cases hd : j = 103
      · rw [if_pos hd, if_pos hd, Int32.add_assoc, nI_add]
      · rw [if_neg hd, if_neg hd, if_neg hd]

