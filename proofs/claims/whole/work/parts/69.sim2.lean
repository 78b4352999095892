/-! ===== both read alike: steps ===== -/
/-- the open repetitions before step k, the innermost first -/
def stk (K : Nat → Int32) : Nat → List Nat
  | 0 => []
  | k + 1 => if K k = 40 then k :: stk K k else if K k = 41 then (stk K k).tail else stk K k
theorem stk_cong {K K' : Nat → Int32} : ∀ k, (∀ j, j < k → K' j = K j) → stk K' k = stk K k
  | 0, _ => rfl
  | k + 1, h => by rw [stk, stk, h k (by omega), stk_cong k (fun j hj => h j (by omega))]
theorem stk_upd (K : Nat → Int32) (x : Int32) {s k : Nat} (h : k ≤ s) : stk (upd K s x) k = stk K k := stk_cong k (fun j hj => upd_ne _ _ (by omega))
def EW (κ : sc_T) (k : Nat) : Prop := (ck κ k = 41 → ∃ o r, stk (ck κ) k = o :: r ∧ cn κ k = nI o) ∧ (ck κ k = 40 → ∃ n, 1 ≤ n ∧ n ≤ 50 ∧ cn κ k = nI n) ∧ (stk (ck κ) k).length ≤ 4
def ER (κ : sc_T) (ρ : md_T) (k : Nat) : Prop := rp ρ (4 * k) = ck κ k ∧ ((isC (ck κ k) ∧ (¬ ck κ k = 116 → rp ρ (4 * k + 1) = cm κ k) ∧ (ck κ k = 114 → rp ρ (4 * k + 2) = cr κ k) ∧ (ck κ k = 114 ∨ ck κ k = 116 → rp ρ (4 * k + 3) = cn κ k)) ∨ ((ck κ k = 40 ∨ ck κ k = 41) ∧ rp ρ (4 * k + 1) = cn κ k))
def ST (κ : sc_T) (ρ : md_T) (s d : Nat) : Prop := (∀ k, k < s → ER κ ρ k ∧ EW κ k) ∧ ((stk (ck κ) s).length = d ∧ d ≤ 4) ∧ ∀ i, i < d → ∃ o, (stk (ck κ) s)[d - 1 - i]? = some o ∧ co κ i = nI o ∧ ro ρ i = nI o
theorem ST.add {κ κ' : sc_T} {ρ ρ' : md_T} {s d d' : Nat} {x me r n : Int32} (h : ST κ ρ s d) (e1 : ck κ' = upd (ck κ) s x) (e2 : cm κ' = upd (cm κ) s me) (e3 : cr κ' = upd (cr κ) s r) (e4 : cn κ' = upd (cn κ) s n) (hrp : ∀ j, j < 4 * s → rp ρ' j = rp ρ j) (hE : ER κ' ρ' s) (hW : EW κ' s) (hl : (stk (ck κ') (s + 1)).length = d' ∧ d' ≤ 4) (ho : ∀ i, i < d' → ∃ o, (stk (ck κ') (s + 1))[d' - 1 - i]? = some o ∧ co κ' i = nI o ∧ ro ρ' i = nI o) : ST κ' ρ' (s + 1) d' := by
  refine ⟨fun k hk => ?_, hl, ho⟩
  by_cases hks : k = s
  · subst hks
    exact ⟨hE, hW⟩
  · have hlt : k < s := by omega
    obtain ⟨a, b⟩ := h.1 k hlt
    have c1 : ck κ' k = ck κ k := by rw [e1, upd_ne _ _ hks]
    have c2 : cm κ' k = cm κ k := by rw [e2, upd_ne _ _ hks]
    have c3 : cr κ' k = cr κ k := by rw [e3, upd_ne _ _ hks]
    have c4 : cn κ' k = cn κ k := by rw [e4, upd_ne _ _ hks]
    have c5 : stk (ck κ') k = stk (ck κ) k := by rw [e1, stk_upd _ _ (by omega)]
    refine ⟨?_, ?_⟩
    · rw [ER, c1, c2, c3, c4, hrp _ (by omega), hrp _ (by omega), hrp _ (by omega), hrp _ (by omega)]
      exact a
    · rw [EW, c1, c4, c5]
      exact b
theorem isC_no {x : Int32} (h : isC x) : ¬ x = 40 ∧ ¬ x = 41 ∧ ¬ (48 ≤ x ∧ x ≤ 57) := by
  rcases h with rfl | rfl | rfl | rfl | rfl <;> decide
theorem ST.call {κ κ' : sc_T} {ρ ρ' : md_T} {s d : Nat} {x me r n : Int32} (h : ST κ ρ s d) (hx : isC x) (e1 : ck κ' = upd (ck κ) s x) (e2 : cm κ' = upd (cm κ) s me) (e3 : cr κ' = upd (cr κ) s r) (e4 : cn κ' = upd (cn κ) s n) (e5 : co κ' = co κ) (e6 : ro ρ' = ro ρ) (hrp : ∀ j, j < 4 * s → rp ρ' j = rp ρ j) (h0 : rp ρ' (4 * s) = x) (h1 : ¬ x = 116 → rp ρ' (4 * s + 1) = me) (h2 : x = 114 → rp ρ' (4 * s + 2) = r) (h3 : x = 114 ∨ x = 116 → rp ρ' (4 * s + 3) = n) : ST κ' ρ' (s + 1) d := by
  obtain ⟨n1, n2, -⟩ := isC_no hx
  have c1 : ck κ' s = x := by rw [e1, upd_same]
  have c5 : stk (ck κ') s = stk (ck κ) s := by rw [e1, stk_upd _ _ (Nat.le_refl _)]
  have c6 : stk (ck κ') (s + 1) = stk (ck κ) s := by rw [stk, c1, if_neg n1, if_neg n2, c5]
  refine h.add e1 e2 e3 e4 hrp ?_ ?_ (by rw [c6]; exact h.2.1) (by rw [c6, e5, e6]; exact h.2.2)
  · rw [ER, c1, e2, e3, e4, upd_same, upd_same, upd_same]
    exact ⟨h0, Or.inl ⟨hx, h1, h2, h3⟩⟩
  · rw [EW, c1, c5]
    exact ⟨fun z => absurd z n2, fun z => absurd z n1, by rw [h.2.1.1]; exact h.2.1.2⟩
theorem ST.opn {κ κ' : sc_T} {ρ ρ' : md_T} {s d q : Nat} {me r n : Int32} (h : ST κ ρ s d) (hd : d < 4) (hn : n = nI q) (hq : 1 ≤ q ∧ q ≤ 50) (e1 : ck κ' = upd (ck κ) s 40) (e2 : cm κ' = upd (cm κ) s me) (e3 : cr κ' = upd (cr κ) s r) (e4 : cn κ' = upd (cn κ) s n) (e5 : co κ' = upd (co κ) d (nI s)) (e6 : ro ρ' = upd (ro ρ) d (nI s)) (hrp : ∀ j, j < 4 * s → rp ρ' j = rp ρ j) (h0 : rp ρ' (4 * s) = 40) (h1 : rp ρ' (4 * s + 1) = n) : ST κ' ρ' (s + 1) (d + 1) := by
  have c1 : ck κ' s = 40 := by rw [e1, upd_same]
  have c5 : stk (ck κ') s = stk (ck κ) s := by rw [e1, stk_upd _ _ (Nat.le_refl _)]
  have c6 : stk (ck κ') (s + 1) = s :: stk (ck κ) s := by rw [stk, c1, if_pos rfl, c5]
  refine h.add e1 e2 e3 e4 hrp ?_ ?_ ?_ ?_
  · rw [ER, c1, e4, upd_same]
    exact ⟨h0, Or.inr ⟨Or.inl rfl, h1⟩⟩
  · rw [EW, c1, c5, e4, upd_same]
    exact ⟨fun z => absurd z (by decide), fun _ => ⟨q, hq.1, hq.2, hn⟩, by rw [h.2.1.1]; exact h.2.1.2⟩
  · rw [c6, List.length_cons, h.2.1.1]
    exact ⟨rfl, by omega⟩
  · intro i hi
    rw [c6, e5, e6]
    by_cases hid : i = d
    · subst hid
      rw [upd_same, upd_same, show i + 1 - 1 - i = 0 by omega]
      exact ⟨s, rfl, rfl, rfl⟩
    · rw [upd_ne _ _ hid, upd_ne _ _ hid, show d + 1 - 1 - i = (d - 1 - i) + 1 by omega, List.getElem?_cons_succ]
      exact h.2.2 i (by omega)
theorem ST.cls {κ κ' : sc_T} {ρ ρ' : md_T} {s d : Nat} {me r : Int32} (h : ST κ ρ s d) (hd : 0 < d) (e1 : ck κ' = upd (ck κ) s 41) (e2 : cm κ' = upd (cm κ) s me) (e3 : cr κ' = upd (cr κ) s r) (e4 : cn κ' = upd (cn κ) s (co κ (d - 1))) (e5 : co κ' = co κ) (e6 : ro ρ' = ro ρ) (hrp : ∀ j, j < 4 * s → rp ρ' j = rp ρ j) (h0 : rp ρ' (4 * s) = 41) (h1 : rp ρ' (4 * s + 1) = ro ρ (d - 1)) : ST κ' ρ' (s + 1) (d - 1) := by
  have c1 : ck κ' s = 41 := by rw [e1, upd_same]
  have c5 : stk (ck κ') s = stk (ck κ) s := by rw [e1, stk_upd _ _ (Nat.le_refl _)]
  have c6 : stk (ck κ') (s + 1) = (stk (ck κ) s).tail := by rw [stk, c1, if_neg (by decide), if_pos rfl, c5]
  obtain ⟨o, o1, o2, o3⟩ := h.2.2 (d - 1) (by omega)
  rw [show d - 1 - (d - 1) = 0 by omega] at o1
  obtain ⟨hs1, hs2⟩ := h.2.1
  have hop := h.2.2
  cases hst : stk (ck κ) s with
  | nil => rw [hst] at o1; cases o1
  | cons y ys =>
    rw [hst] at o1 hs1 c6 c5 hop
    cases o1
    have hl : ys.length = d - 1 := by
      rw [List.length_cons] at hs1
      omega
    refine h.add e1 e2 e3 e4 hrp ?_ ?_ ?_ ?_
    · rw [ER, c1, e4, upd_same, h1, o2, o3]
      exact ⟨h0, Or.inr ⟨Or.inr rfl, rfl⟩⟩
    · rw [EW, c1, c5, e4, upd_same]
      exact ⟨fun _ => ⟨_, _, rfl, o2⟩, fun z => absurd z (by decide), by rw [hs1]; exact hs2⟩
    · rw [c6, List.tail_cons]
      exact ⟨hl, by omega⟩
    · intro i hi
      rw [c6, List.tail_cons, e5, e6]
      have h2 := hop i (by omega)
      rw [show d - 1 - i = (d - 1 - 1 - i) + 1 by omega, List.getElem?_cons_succ] at h2
      exact h2
def PR (κ : sc_T) (ρ : md_T) (s d a : Nat) : Prop := MD κ ρ a ∧ skp (cb κ) (cL κ) a = a ∧ (cf κ 6 = nI s ∧ rf ρ 9 = nI s ∧ s ≤ a) ∧ (cf κ 9 = nI d ∧ rf ρ 11 = nI d) ∧ ST κ ρ s d
theorem PR.cS {κ : sc_T} {ρ : md_T} {s d a : Nat} (h : PR κ ρ s d a) : cS κ = s ∧ mS ρ = s ∧ cD κ = d ∧ mD ρ = d ∧ s ≤ 100 ∧ d ≤ 4 := by
  have h1 := h.1.le
  have h2 := h.1.2.1.2.2
  have h3 := h.2.2.1.2.2
  have h4 := h.2.2.2.2.2.1.2
  refine ⟨?_, ?_, ?_, ?_, by omega, h4⟩
  · show (cf κ 6).toNatClampNeg = s
    rw [h.2.2.1.1, nI_clamp (by omega)]
  · rw [mS, h.2.2.1.2.1, nI_clamp (by omega)]
  · rw [cD, h.2.2.2.1.1, nI_clamp (by omega)]
  · rw [mD, h.2.2.2.1.2, nI_clamp (by omega)]

