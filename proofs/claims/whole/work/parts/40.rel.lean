/-! ===== how a house and the reference belong together: the log, the line ===== -/
theorem rShift_at (m : Nat → Int32) : ∀ n j, rShift m n (111 + j) = if j < n then m (111 + j + 4) else m (111 + j)
  | 0, j => by rw [if_neg (by omega)]; rfl
  | n + 1, j => by
    rw [rShift]
    by_cases h : j = n
    · subst h
      rw [upd_same, if_pos (by omega), show 111 + j + 4 = 111 + (j + 4) by omega, rShift_at m j (j + 4), if_neg (by omega)]
    · rw [upd_ne _ _ (by omega), rShift_at m n j]
      by_cases h2 : j < n
      · rw [if_pos h2, if_pos (by omega)]
      · rw [if_neg h2, if_neg (by omega)]
theorem rPush_log (m : Nat → Int32) (q : Nat) (kd me r : Int32) (i w : Nat) (hw : w < 4) : rPush m q kd me r (111 + 4 * i + w) = if i = q then (if w = 0 then m 103 else if w = 1 then kd else if w = 2 then me else r) else m (111 + 4 * i + w) := by
  simp only [rPush]
  rw [upd_ne _ _ (by omega), upd_ne _ _ (by omega)]
  by_cases h : i = q
  · subst h
    rw [if_pos rfl]
    rcases (show w = 0 ∨ w = 1 ∨ w = 2 ∨ w = 3 by omega) with rfl | rfl | rfl | rfl
    · rw [upd_ne _ _ (by omega), upd_ne _ _ (by omega), upd_ne _ _ (by omega), Nat.add_zero, upd_same]; rfl
    · rw [upd_ne _ _ (by omega), upd_ne _ _ (by omega), upd_same]; rfl
    · rw [upd_ne _ _ (by omega), upd_same]; rfl
    · rw [upd_same]; rfl
  · rw [if_neg h, upd_ne _ _ (by omega), upd_ne _ _ (by omega), upd_ne _ _ (by omega), upd_ne _ _ (by omega)]
theorem hNoteG_at (g : Nat → Int32) (e : Nat) (t kd me r : Int32) (i w : Nat) (hw : w < 4) : hNoteG g e t kd me r (i * 4 + w) = if i = e % 40 then (if w = 0 then t else if w = 1 then kd else if w = 2 then me else r) else g (i * 4 + w) := by
  simp only [hNoteG]
  by_cases h : i = e % 40
  · subst h
    rw [if_pos rfl]
    rcases (show w = 0 ∨ w = 1 ∨ w = 2 ∨ w = 3 by omega) with rfl | rfl | rfl | rfl
    · rw [upd_ne _ _ (by omega), upd_ne _ _ (by omega), upd_ne _ _ (by omega), Nat.add_zero, upd_same]; rfl
    · rw [upd_ne _ _ (by omega), upd_ne _ _ (by omega), upd_same]; rfl
    · rw [upd_ne _ _ (by omega), upd_same]; rfl
    · rw [upd_same]; rfl
  · rw [if_neg h, upd_ne _ _ (by omega), upd_ne _ _ (by omega), upd_ne _ _ (by omega), upd_ne _ _ (by omega)]
/-- the log: a ring of 40 and a row that is shifted -/
def RLog (g : Nat → Int32) (e : Nat) (m : Nat → Int32) : Prop := m 108 = nI (min e 40) ∧ ∀ i w, i < min e 40 → w < 4 → m (111 + 4 * i + w) = g ((e - min e 40 + i) % 40 * 4 + w)
theorem RLog.note {g : Nat → Int32} {e : Nat} {m : Nat → Int32} (h : RLog g e m) (kd me r : Int32) : RLog (hNoteG g e (m 103) kd me r) (e + 1) (rLogs m kd me r) := by
  obtain ⟨h8, hl⟩ := h
  by_cases he : e < 40
  · have hm : min e 40 = e := by omega
    have hm1 : min (e + 1) 40 = e + 1 := by omega
    have hne : ¬ m 108 = 40 := by
      rw [h8, hm]
      intro q
      have := (nI_eq (a := e) (b := 40) (by omega) (by omega)).mp q
      omega
    rw [rLogs, if_neg hne, h8, hm, nI_clamp (by omega)]
    refine ⟨by rw [rPush_108, h8, hm, hm1, nI_1], fun i w hi hw => ?_⟩
    rw [rPush_log m e kd me r i w hw, hm1, hNoteG_at _ _ _ _ _ _ _ _ hw, show (e + 1 - (e + 1) + i) % 40 = i by omega, show e % 40 = e by omega]
    by_cases hie : i = e
    · rw [if_pos hie, if_pos hie]
    · rw [if_neg hie, if_neg hie, hl i w (by omega) hw, hm, show (e - e + i) % 40 = i by omega]
  · have hm : min e 40 = 40 := by omega
    have hm1 : min (e + 1) 40 = 40 := by omega
    have h40 : m 108 = 40 := by rw [h8, hm]; rfl
    rw [rLogs, if_pos h40]
    refine ⟨by rw [rPush_108, upd_same, hm1]; rfl, fun i w hi hw => ?_⟩
    rw [rPush_log _ _ kd me r i w hw, hm1, hNoteG_at _ _ _ _ _ _ _ _ hw]
    by_cases hi9 : i = 39
    · rw [if_pos hi9, upd_ne _ _ (by omega), rShift_lo m (by omega), if_pos (show (e + 1 - 40 + i) % 40 = e % 40 by omega)]
    · rw [if_neg hi9, if_neg (by omega), upd_ne _ _ (by omega), show 111 + 4 * i + w = 111 + (4 * i + w) by omega, rShift_at, if_pos (by omega), show 111 + (4 * i + w) + 4 = 111 + 4 * (i + 1) + w by omega, hl (i + 1) w (by omega) hw, hm, show (e - 40 + (i + 1)) % 40 = (e + 1 - 40 + i) % 40 by omega]
theorem RLog.cong {g : Nat → Int32} {e : Nat} {m m' : Nat → Int32} (h : RLog g e m) (hc : ∀ j, j = 108 ∨ 111 ≤ j → m' j = m j) : RLog g e m' :=
  ⟨by rw [hc 108 (Or.inl rfl)]; exact h.1, fun i w hi hw => by rw [hc _ (Or.inr (by omega))]; exact h.2 i w hi hw⟩
/-- what remains of a line -/
def kpt (p : Nat → Int32) (x : Int32) (n : Nat) : List Nat := (List.range n).filter (fun i => !decide (p i = x))
theorem kpt_succ (p : Nat → Int32) (x : Int32) (n : Nat) : kpt p x (n + 1) = if p n = x then kpt p x n else kpt p x n ++ [n] := by
  rw [kpt, List.range_succ, List.filter_append]
  by_cases h : p n = x
  · rw [if_pos h]
    simp [kpt, h]
  · rw [if_neg h]
    simp [kpt, h]
theorem hRem_is (p : Nat → Int32) (x : Int32) : ∀ n, (hRem p x n).2 = (kpt p x n).length ∧ (∀ j (hj : j < (kpt p x n).length), (hRem p x n).1 j = p ((kpt p x n)[j])) ∧ ∀ j, n ≤ j → (hRem p x n).1 j = p j
  | 0 => ⟨rfl, fun j hj => absurd hj (by simp [kpt]), fun _ _ => rfl⟩
  | n + 1 => by
    obtain ⟨h1, h2, h3⟩ := hRem_is p x n
    have hle := hRem_le p x n
    rw [hRem, h3 n (Nat.le_refl n)]
    by_cases h : p n = x
    · have hk : kpt p x (n + 1) = kpt p x n := by rw [kpt_succ, if_pos h]
      rw [if_pos h]
      refine ⟨by rw [hk]; exact h1, fun j hj => ?_, fun j hj => h3 j (by omega)⟩
      simp only [hk] at hj ⊢
      exact h2 j hj
    · have hk : kpt p x (n + 1) = kpt p x n ++ [n] := by rw [kpt_succ, if_neg h]
      rw [if_neg h]
      refine ⟨by rw [hk, List.length_append, ← h1]; rfl, fun j hj => ?_, fun j hj => ?_⟩
      · simp only [hk] at hj ⊢
        rw [List.length_append] at hj
        by_cases hj2 : j < (kpt p x n).length
        · rw [upd_ne _ _ (by omega), h2 j hj2, List.getElem_append_left hj2]
        · have hjl : j = (kpt p x n).length := by simp at hj; omega
          rw [show (hRem p x n).2 = j by omega, upd_same, List.getElem_append_right (by omega)]
          simp [hjl]
      · show upd (hRem p x n).1 (hRem p x n).2 (p n) j = p j
        rw [upd_ne _ _ (by omega), h3 j (by omega)]
theorem kpt_mem {p : Nat → Int32} {x : Int32} {n i : Nat} : i ∈ kpt p x n ↔ i < n ∧ ¬ p i = x := by
  simp [kpt]
theorem kpt_lt {p : Nat → Int32} {x : Int32} {n : Nat} {a b : Nat} (hab : a < b) (hb : b < (kpt p x n).length) : (kpt p x n)[a]'(by omega) < (kpt p x n)[b] := by
  have hs : (kpt p x n).Pairwise (· < ·) := List.Pairwise.filter _ List.pairwise_lt_range
  exact List.pairwise_iff_getElem.mp hs a b (by omega) hb hab

