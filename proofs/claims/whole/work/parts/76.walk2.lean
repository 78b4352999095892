/-! ===== both walk alike ===== -/
theorem stk_at (K : Nat → Int32) : ∀ (k i o : Nat), (stk K k)[i]? = some o → o < k ∧ stk K (o + 1) = (stk K k).drop i
  | 0, i, o, h => by simp [stk] at h
  | k + 1, i, o, h => by
    by_cases h40 : K k = 40
    · have e : stk K (k + 1) = k :: stk K k := by rw [stk, if_pos h40]
      rw [e] at h ⊢
      cases i with
      | zero =>
        rw [List.getElem?_cons_zero] at h
        cases h
        exact ⟨by omega, by rw [e]; rfl⟩
      | succ i =>
        rw [List.getElem?_cons_succ] at h
        obtain ⟨a, b⟩ := stk_at K k i o h
        exact ⟨by omega, by rw [b]; rfl⟩
    · by_cases h41 : K k = 41
      · have e : stk K (k + 1) = (stk K k).tail := by rw [stk, if_neg h40, if_pos h41]
        rw [e] at h ⊢
        have h2 : (stk K k)[i + 1]? = some o := by
          cases hs : stk K k with
          | nil => rw [hs] at h; simp at h
          | cons y ys => rw [hs] at h; rw [List.getElem?_cons_succ]; exact h
        obtain ⟨a, b⟩ := stk_at K k (i + 1) o h2
        refine ⟨by omega, ?_⟩
        rw [b]
        cases hs : stk K k with
        | nil => simp
        | cons y ys => rfl
      · have e : stk K (k + 1) = stk K k := by rw [stk, if_neg h40, if_neg h41]
        rw [e] at h ⊢
        obtain ⟨a, b⟩ := stk_at K k i o h
        exact ⟨by omega, b⟩
theorem stk_ne (K : Nat → Int32) {k i j a b : Nat} (hi : (stk K k)[i]? = some a) (hj : (stk K k)[j]? = some b) (h : i ≠ j) : a ≠ b := by
  intro e
  subst e
  have h1 := (stk_at K k i a hi).2
  have h2 := (stk_at K k j a hj).2
  have l1 := (List.getElem?_eq_some_iff.mp hi).1
  have l2 := (List.getElem?_eq_some_iff.mp hj).1
  have := congrArg List.length (h1.symm.trans h2)
  rw [List.length_drop, List.length_drop] at this
  omega
def KW (κ κ' : sc_T) : Prop := ck κ' = ck κ ∧ cm κ' = cm κ ∧ cr κ' = cr κ ∧ cn κ' = cn κ ∧ cb κ' = cb κ ∧ cf κ' 1 = cf κ 1 ∧ cf κ' 6 = cf κ 6
theorem KW.refl' (κ : sc_T) : KW κ κ := ⟨rfl, rfl, rfl, rfl, rfl, rfl, rfl⟩
theorem KW.trans {a b c : sc_T} (h : KW a b) (g : KW b c) : KW a c := ⟨g.1.trans h.1, g.2.1.trans h.2.1, g.2.2.1.trans h.2.2.1, g.2.2.2.1.trans h.2.2.2.1, g.2.2.2.2.1.trans h.2.2.2.2.1, g.2.2.2.2.2.1.trans h.2.2.2.2.2.1, g.2.2.2.2.2.2.trans h.2.2.2.2.2.2⟩
theorem KW.p11 (κ : sc_T) (x : Int32) : KW κ (pcf κ 11 x) := ⟨rfl, rfl, rfl, rfl, rfl, rfl, rfl⟩
theorem KW.p12 (κ : sc_T) (x : Int32) : KW κ (pcf κ 12 x) := ⟨rfl, rfl, rfl, rfl, rfl, rfl, rfl⟩
theorem KW.pt (κ : sc_T) (j : Nat) (x : Int32) : KW κ (pct κ j x) := ⟨rfl, rfl, rfl, rfl, rfl, rfl, rfl⟩
/-- what the steps are like -/
def SP (κ : sc_T) (P : Nat → Int32) (s : Nat) : Prop := s ≤ 100 ∧ (∀ j, j < s → P (4 * j) = ck κ j ∧ (isC (ck κ j) ∨ ((ck κ j = 40 ∨ ck κ j = 41) ∧ P (4 * j + 1) = cn κ j)) ∧ EW κ j) ∧ (stk (ck κ) s).length = 0
theorem SP.kw {κ κ' : sc_T} {P : Nat → Int32} {s : Nat} (h : SP κ P s) (hk : KW κ κ') : SP κ' P s := by
  refine ⟨h.1, fun j hj => ?_, ?_⟩
  · rw [EW, hk.1, hk.2.2.2.1]
    exact h.2.1 j hj
  · rw [hk.1]
    exact h.2.2
theorem SP.len {κ : sc_T} {P : Nat → Int32} {s k : Nat} (h : SP κ P s) (hk : k ≤ s) : (stk (ck κ) k).length ≤ 4 := by
  by_cases e : k = s
  · rw [e, h.2.2]
    omega
  · exact (h.2.1 k (by omega)).2.2.2.2
/-- where both stand -/
def RN (κ : sc_T) (s : Nat) (L : Nat → Int32) (l k u : Nat) : Prop := (cf κ 11 = nI k ∧ k ≤ s) ∧ cf κ 6 = nI s ∧ (cf κ 12 = nI u ∧ u ≤ 200) ∧ (stk (ck κ) k).length = l ∧ ∀ i, i < l → ∃ o n, (stk (ck κ) k)[l - 1 - i]? = some o ∧ ct κ o = nI n ∧ L i = nI n ∧ 1 ≤ n ∧ n ≤ 50
theorem RN.ni {κ : sc_T} {P : Nat → Int32} {s l k u : Nat} {L : Nat → Int32} (h : RN κ s L l k u) (hp : SP κ P s) : NI κ ∧ cX κ = k ∧ cS κ = s ∧ cU κ = u := by
  have hs := hp.1
  have e1 : cX κ = k := by rw [cX, h.1.1, nI_clamp (by have := h.1.2; omega)]
  have e2 : cS κ = s := by rw [cS, h.2.1, nI_clamp (by omega)]
  have e3 : cU κ = u := by rw [cU, h.2.2.1.1, nI_clamp (by have := h.2.2.1.2; omega)]
  refine ⟨⟨⟨by rw [e1]; exact h.1.1, by rw [e1]; have := h.1.2; omega⟩, ⟨by rw [e2]; exact h.2.1, by rw [e2]; exact hs⟩, ⟨by rw [e3]; exact h.2.2.1.1, by rw [e3]; exact h.2.2.1.2⟩, fun j hj h41 => ?_⟩, e1, e2, e3⟩
  rw [e2] at hj
  obtain ⟨o, r, ho, hc⟩ := (hp.2.1 j hj).2.2.1 h41
  have := (stk_at (ck κ) j 0 o (by rw [ho]; rfl)).1
  exact ⟨o, by omega, hc⟩
abbrev rQ : Type := (Nat → Int32) × Nat × Nat × Nat
/-- one round of the reference that calls nothing -/
def rIt (P : Nat → Int32) (s : Nat) (q : rQ) : rQ :=
  if (¬ P (4 * q.2.2.1) = 41 ∨ 1 < q.1 (q.2.1 - 1)) ∧ q.2.2.2 = 200 then (q.1, q.2.1, s, q.2.2.2)
  else if P (4 * q.2.2.1) = 40 then (upd q.1 q.2.1 (P (4 * q.2.2.1 + 1)), q.2.1 + 1, q.2.2.1 + 1, q.2.2.2 + 1)
  else if 1 < q.1 (q.2.1 - 1) then (upd q.1 (q.2.1 - 1) (q.1 (q.2.1 - 1) - 1), q.2.1, (P (4 * q.2.2.1 + 1)).toNatClampNeg + 1, q.2.2.2 + 1)
  else (q.1, q.2.1 - 1, q.2.2.1 + 1, q.2.2.2)
def RP (P : Nat → Int32) (s : Nat) (q : rQ) : Prop := q.2.2.1 < s ∧ s ≤ 100 ∧ q.2.2.2 ≤ 200 ∧ q.2.1 ≤ 4 ∧ (P (4 * q.2.2.1) = 41 → 1 ≤ q.2.1 ∧ ∃ o, o < 100 ∧ P (4 * q.2.2.1 + 1) = nI o) ∧ (P (4 * q.2.2.1) = 40 ∨ P (4 * q.2.2.1) = 41 ∨ q.2.2.2 = 200)
def Rch (P : Nat → Int32) (s : Nat) : Nat → rQ → rQ → Prop
  | 0, q, q' => q' = q
  | n + 1, q, q' => RP P s q ∧ Rch P s n (rIt P s q) q'
theorem uU_lt {κ : sc_T} {u : Nat} (h : cU κ = u) (hu : u < 200) : uU κ = (pcf κ 12 (nI (u + 1)), true) := by rw [uU, h, if_pos hu]
theorem uU_ge {κ : sc_T} {u s : Nat} (h : cU κ = u) (hu : ¬ u < 200) (hs : cS κ = s) : uU κ = (pcf κ 11 (nI s), false) := by rw [uU, h, if_neg hu, hs]
def nEnd (P : Nat → Int32) (s : Nat) (κ : sc_T) (q : rQ) (p : sc_T × Int32) : Prop := ∃ n L' l' u', Rch P s n q (L', l', s, u') ∧ p.2 = -1 ∧ cf p.1 12 = nI u' ∧ u' ≤ 200 ∧ q.2.2.2 ≤ u' ∧ KW κ p.1
def nCall (P : Nat → Int32) (s : Nat) (κ : sc_T) (q : rQ) (p : sc_T × Int32) : Prop := ∃ n L' l' k' u', Rch P s n q (L', l', k', u') ∧ k' < s ∧ isC (ck κ k') ∧ u' < 200 ∧ q.2.2.2 ≤ u' ∧ l' ≤ 4 ∧ p.2 = nI k' ∧ RN p.1 s L' l' (k' + 1) (u' + 1) ∧ KW κ p.1
theorem nEnd.pre {P : Nat → Int32} {s : Nat} {κ κ1 : sc_T} {q : rQ} {p : sc_T × Int32} (hr : RP P s q) (hk : KW κ κ1) (hu : q.2.2.2 ≤ (rIt P s q).2.2.2) (h : nEnd P s κ1 (rIt P s q) p) : nEnd P s κ q p := by
  obtain ⟨n, L', l', u', a, b, c, d, e, f⟩ := h
  exact ⟨n + 1, L', l', u', ⟨hr, a⟩, b, c, d, by omega, hk.trans f⟩
theorem nCall.pre {P : Nat → Int32} {s : Nat} {κ κ1 : sc_T} {q : rQ} {p : sc_T × Int32} (hr : RP P s q) (hk : KW κ κ1) (hu : q.2.2.2 ≤ (rIt P s q).2.2.2) (h : nCall P s κ1 (rIt P s q) p) : nCall P s κ q p := by
  obtain ⟨n, L', l', k', u', a, b, c, d, e, f, g, i, j⟩ := h
  exact ⟨n + 1, L', l', k', u', ⟨hr, a⟩, b, by rw [← hk.1]; exact c, d, by omega, f, g, i, hk.trans j⟩
theorem nC_stop {κ : sc_T} (h : ¬ cX κ < cS κ) : ∀ i, nC i κ = (κ, -1)
  | 0 => rfl
  | i + 1 => by rw [nC, if_neg h]
theorem nC_sim {P : Nat → Int32} {s : Nat} : ∀ (fuel : Nat) {κ : sc_T} {L : Nat → Int32} {l k u : Nat}, 2 * (200 - u) + l < fuel → SP κ P s → RN κ s L l k u → nEnd P s κ (L, l, k, u) (nC fuel κ) ∨ nCall P s κ (L, l, k, u) (nC fuel κ)
  | 0, κ, L, l, k, u, hf, _, _ => by omega
  | fuel + 1, κ, L, l, k, u, hf, hp, h => by
    obtain ⟨hni, eX, eS, eU⟩ := h.ni hp
    have hs := hp.1
    have hu2 := h.2.2.1.2
    by_cases hk : k < s
    · obtain ⟨p0, p1, p2⟩ := hp.2.1 k hk
      have hl4 := hp.len (k := k) (by omega)
      rw [h.2.2.2.1] at hl4
      have eU1 : cU (pcf κ 11 (nI (k + 1))) = u := eU
      have eS1 : cS (pcf κ 11 (nI (k + 1))) = s := eS
      have hk1 : KW κ (pcf κ 11 (nI (k + 1))) := KW.p11 κ _
      rw [nC, eX, eS, if_pos hk]
      by_cases k41 : ck κ k = 41
      · -- the end of a repetition
        rw [if_pos k41]
        obtain ⟨o, r, ho, hcn⟩ := p2.1 k41
        have hP1 : P (4 * k + 1) = nI o := by
          rcases p1 with z | z
          · exact absurd k41 (isC_no z).2.1
          · rw [z.2]; exact hcn
        have hP0 : P (4 * k) = 41 := p0.trans k41
        have hok := (stk_at (ck κ) k 0 o (by rw [ho]; rfl)).1
        have hdr := (stk_at (ck κ) k 0 o (by rw [ho]; rfl)).2
        have hl : r.length + 1 = l := by
          have := h.2.2.2.1
          rw [ho, List.length_cons] at this
          exact this
        obtain ⟨o', n, a1, a2, a3, a4, a5⟩ := h.2.2.2.2 (l - 1) (by omega)
        rw [show l - 1 - (l - 1) = 0 by omega, ho] at a1
        cases a1
        have hRP : RP P s (L, l, k, u) := ⟨hk, hs, hu2, hl4, fun _ => ⟨by show 1 ≤ l; omega, o, by omega, hP1⟩, Or.inr (Or.inl hP0)⟩
        rw [hcn, nI_clamp (by omega)]
        have hct : ct (pcf κ 11 (nI (k + 1))) o = nI n := a2
        have ht : nI n - 1 = nI (n - 1) := nI_sb (a := n) (b := 1) (by omega)
        have hct' : nI n - 1 = nI (n - 1) := ht
        by_cases hn1 : n = 1
        · -- it is over
          have hnot : ¬ 0 < nI (n - 1) := by
            rw [hn1]
            decide
          have hL1 : ¬ 1 < L (l - 1) := by
            rw [a3, hn1]
            decide
          have eE : eR (pcf κ 11 (nI (k + 1))) o = pct (pcf κ 11 (nI (k + 1))) o (nI (n - 1)) := by
            rw [eR, hct, ht, if_neg hnot]
          have eI : rIt P s (L, l, k, u) = (L, l - 1, k + 1, u) := by
            rw [rIt]
            show (if (¬ P (4 * k) = 41 ∨ 1 < L (l - 1)) ∧ u = 200 then (L, l, s, u) else if P (4 * k) = 40 then (upd L l (P (4 * k + 1)), l + 1, k + 1, u + 1) else if 1 < L (l - 1) then (upd L (l - 1) (L (l - 1) - 1), l, (P (4 * k + 1)).toNatClampNeg + 1, u + 1) else (L, l - 1, k + 1, u)) = _
            rw [if_neg (fun z => z.1.elim (fun w => w hP0) hL1), if_neg (by rw [hP0]; decide), if_neg hL1]
          rw [eE]
          have hkw : KW κ (pct (pcf κ 11 (nI (k + 1))) o (nI (n - 1))) := hk1.trans (KW.pt _ _ _)
          have hst : stk (ck κ) (k + 1) = r := by rw [stk, if_neg (by rw [k41]; decide), if_pos k41, ho]; rfl
          have hRN : RN (pct (pcf κ 11 (nI (k + 1))) o (nI (n - 1))) s L (l - 1) (k + 1) u := by
            refine ⟨⟨rfl, by omega⟩, h.2.1, h.2.2.1, ?_, fun i hi => ?_⟩
            · show (stk (ck κ) (k + 1)).length = l - 1
              rw [hst]
              omega
            · obtain ⟨o2, n2, b1, b2, b3, b4⟩ := h.2.2.2.2 i (by omega)
              refine ⟨o2, n2, ?_, ?_, b3, b4⟩
              · show (stk (ck κ) (k + 1))[l - 1 - 1 - i]? = some o2
                rw [hst]
                rw [ho, show l - 1 - i = (l - 1 - 1 - i) + 1 by omega, List.getElem?_cons_succ] at b1
                exact b1
              · have hne : o2 ≠ o := stk_ne (ck κ) b1 (show (stk (ck κ) k)[0]? = some o by rw [ho]; rfl) (by omega)
                show upd (ct κ) o (nI (n - 1)) o2 = nI n2
                rw [upd_ne _ _ hne]
                exact b2
          have hpp := hp.kw hkw
          rcases nC_sim fuel (by omega) hpp hRN with z | z
          · left
            exact nEnd.pre hRP hkw (by rw [eI]; exact Nat.le_refl _) (by rw [eI]; exact z)
          · right
            exact nCall.pre hRP hkw (by rw [eI]; exact Nat.le_refl _) (by rw [eI]; exact z)
        · have hpos : 0 < nI (n - 1) := nI_lt (a := 0) (by omega) (by omega)
          have hL1 : 1 < L (l - 1) := by
            rw [a3]
            exact nI_lt (a := 1) (by omega) (by omega)
          have eUt : cU (pct (pcf κ 11 (nI (k + 1))) o (nI (n - 1))) = u := eU
          have eSt : cS (pct (pcf κ 11 (nI (k + 1))) o (nI (n - 1))) = s := eS
          by_cases hu : u < 200
          · -- once more
            have eE : eR (pcf κ 11 (nI (k + 1))) o = pcf (pcf (pct (pcf κ 11 (nI (k + 1))) o (nI (n - 1))) 12 (nI (u + 1))) 11 (nI (o + 1)) := by
              rw [eR, hct, ht, if_pos hpos, uU_lt eUt hu, if_pos rfl]
            have eI : rIt P s (L, l, k, u) = (upd L (l - 1) (nI (n - 1)), l, o + 1, u + 1) := by
              rw [rIt]
              show (if (¬ P (4 * k) = 41 ∨ 1 < L (l - 1)) ∧ u = 200 then (L, l, s, u) else if P (4 * k) = 40 then (upd L l (P (4 * k + 1)), l + 1, k + 1, u + 1) else if 1 < L (l - 1) then (upd L (l - 1) (L (l - 1) - 1), l, (P (4 * k + 1)).toNatClampNeg + 1, u + 1) else (L, l - 1, k + 1, u)) = _
              rw [if_neg (fun z => by have := z.2; omega), if_neg (by rw [hP0]; decide), if_pos hL1, hP1, nI_clamp (by omega), a3, ht]
            rw [eE]
            have hkw : KW κ (pcf (pcf (pct (pcf κ 11 (nI (k + 1))) o (nI (n - 1))) 12 (nI (u + 1))) 11 (nI (o + 1))) := ((hk1.trans (KW.pt _ _ _)).trans (KW.p12 _ _)).trans (KW.p11 _ _)
            have hRN : RN (pcf (pcf (pct (pcf κ 11 (nI (k + 1))) o (nI (n - 1))) 12 (nI (u + 1))) 11 (nI (o + 1))) s (upd L (l - 1) (nI (n - 1))) l (o + 1) (u + 1) := by
              refine ⟨⟨rfl, by omega⟩, h.2.1, ⟨rfl, by omega⟩, ?_, fun i hi => ?_⟩
              · show (stk (ck κ) (o + 1)).length = l
                rw [hdr]
                exact h.2.2.2.1
              · show ∃ o2 n2, (stk (ck κ) (o + 1))[l - 1 - i]? = some o2 ∧ upd (ct κ) o (nI (n - 1)) o2 = nI n2 ∧ upd L (l - 1) (nI (n - 1)) i = nI n2 ∧ _
                rw [hdr, List.drop_zero]
                by_cases hil : i = l - 1
                · subst hil
                  refine ⟨o, n - 1, ?_, by rw [upd_same], by rw [upd_same], by omega, by omega⟩
                  rw [show l - 1 - (l - 1) = 0 by omega, ho]
                  rfl
                · obtain ⟨o2, n2, b1, b2, b3, b4⟩ := h.2.2.2.2 i hi
                  have hne : o2 ≠ o := stk_ne (ck κ) b1 (show (stk (ck κ) k)[0]? = some o by rw [ho]; rfl) (by omega)
                  exact ⟨o2, n2, b1, by rw [upd_ne _ _ hne]; exact b2, by rw [upd_ne _ _ hil]; exact b3, b4⟩
            have hpp := hp.kw hkw
            rcases nC_sim fuel (by omega) hpp hRN with z | z
            · left
              exact nEnd.pre hRP hkw (by rw [eI]; show u ≤ u + 1; omega) (by rw [eI]; exact z)
            · right
              exact nCall.pre hRP hkw (by rw [eI]; show u ≤ u + 1; omega) (by rw [eI]; exact z)
          · -- no unit is left
            have hu200 : u = 200 := by omega
            have eE : eR (pcf κ 11 (nI (k + 1))) o = pcf (pct (pcf κ 11 (nI (k + 1))) o (nI (n - 1))) 11 (nI s) := by
              rw [eR, hct, ht, if_pos hpos, uU_ge eUt hu eSt, if_neg (fun z => Bool.noConfusion z)]
            have eI : rIt P s (L, l, k, u) = (L, l, s, u) := by
              rw [rIt, if_pos ⟨Or.inr hL1, hu200⟩]
            rw [eE]
            have hkw : KW κ (pcf (pct (pcf κ 11 (nI (k + 1))) o (nI (n - 1))) 11 (nI s)) := (hk1.trans (KW.pt _ _ _)).trans (KW.p11 _ _)
            have hst : ¬ cX (pcf (pct (pcf κ 11 (nI (k + 1))) o (nI (n - 1))) 11 (nI s)) < cS (pcf (pct (pcf κ 11 (nI (k + 1))) o (nI (n - 1))) 11 (nI s)) := by
              have e1 : cX (pcf (pct (pcf κ 11 (nI (k + 1))) o (nI (n - 1))) 11 (nI s)) = s := nI_clamp (by omega)
              have e2 : cS (pcf (pct (pcf κ 11 (nI (k + 1))) o (nI (n - 1))) 11 (nI s)) = s := eS
              omega
            rw [nC_stop hst]
            left
            exact ⟨1, L, l, u, ⟨hRP, by rw [eI]; rfl⟩, rfl, h.2.2.1.1, hu2, Nat.le_refl _, hkw⟩
      · rw [if_neg k41]
        have hP41 : ¬ P (4 * k) = 41 := by rw [p0]; exact k41
        by_cases hu : u < 200
        · rw [uU_lt eU1 hu, if_neg (fun z => Bool.noConfusion z)]
          by_cases k40 : ck κ k = 40
          · -- a repetition begins
            rw [if_pos k40]
            obtain ⟨n, n1, n2, n3⟩ := p2.2.1 k40
            have hP1 : P (4 * k + 1) = nI n := by
              rcases p1 with z | z
              · exact absurd k40 (isC_no z).1
              · rw [z.2]; exact n3
            have hP0 : P (4 * k) = 40 := p0.trans k40
            have hRP : RP P s (L, l, k, u) := ⟨hk, hs, hu2, hl4, fun z => absurd z hP41, Or.inl hP0⟩
            have eI : rIt P s (L, l, k, u) = (upd L l (nI n), l + 1, k + 1, u + 1) := by
              rw [rIt]
              show (if (¬ P (4 * k) = 41 ∨ 1 < L (l - 1)) ∧ u = 200 then (L, l, s, u) else if P (4 * k) = 40 then (upd L l (P (4 * k + 1)), l + 1, k + 1, u + 1) else if 1 < L (l - 1) then (upd L (l - 1) (L (l - 1) - 1), l, (P (4 * k + 1)).toNatClampNeg + 1, u + 1) else (L, l - 1, k + 1, u)) = _
              rw [if_neg (fun z => by have := z.2; omega), if_pos hP0, hP1]
            rw [n3]
            have hkw : KW κ (pct (pcf (pcf κ 11 (nI (k + 1))) 12 (nI (u + 1))) k (nI n)) := (hk1.trans (KW.p12 _ _)).trans (KW.pt _ _ _)
            have hst : stk (ck κ) (k + 1) = k :: stk (ck κ) k := by rw [stk, if_pos k40]
            have hRN : RN (pct (pcf (pcf κ 11 (nI (k + 1))) 12 (nI (u + 1))) k (nI n)) s (upd L l (nI n)) (l + 1) (k + 1) (u + 1) := by
              refine ⟨⟨rfl, by omega⟩, h.2.1, ⟨rfl, by omega⟩, ?_, fun i hi => ?_⟩
              · show (stk (ck κ) (k + 1)).length = l + 1
                rw [hst, List.length_cons, h.2.2.2.1]
              · show ∃ o2 n2, (stk (ck κ) (k + 1))[l + 1 - 1 - i]? = some o2 ∧ upd (ct κ) k (nI n) o2 = nI n2 ∧ upd L l (nI n) i = nI n2 ∧ _
                rw [hst]
                by_cases hil : i = l
                · subst hil
                  refine ⟨k, n, ?_, by rw [upd_same], by rw [upd_same], n1, n2⟩
                  rw [show i + 1 - 1 - i = 0 by omega]
                  rfl
                · obtain ⟨o2, m2, b1, b2, b3, b4⟩ := h.2.2.2.2 i (by omega)
                  have hne := (stk_at (ck κ) k _ o2 b1).1
                  refine ⟨o2, m2, ?_, by rw [upd_ne _ _ (by omega)]; exact b2, by rw [upd_ne _ _ hil]; exact b3, b4⟩
                  rw [show l + 1 - 1 - i = (l - 1 - i) + 1 by omega, List.getElem?_cons_succ]
                  exact b1
            have hpp := hp.kw hkw
            rcases nC_sim fuel (by omega) hpp hRN with z | z
            · left
              exact nEnd.pre hRP hkw (by rw [eI]; show u ≤ u + 1; omega) (by rw [eI]; exact z)
            · right
              exact nCall.pre hRP hkw (by rw [eI]; show u ≤ u + 1; omega) (by rw [eI]; exact z)
          · -- a call
            rw [if_neg k40]
            have hC : isC (ck κ k) := by
              rcases p1 with z | z
              · exact z
              · exact absurd z.1 (fun w => w.elim k40 k41)
            have hkw : KW κ (pcf (pcf κ 11 (nI (k + 1))) 12 (nI (u + 1))) := hk1.trans (KW.p12 _ _)
            have hst : stk (ck κ) (k + 1) = stk (ck κ) k := by rw [stk, if_neg k40, if_neg k41]
            right
            refine ⟨0, L, l, k, u, rfl, hk, hC, hu, Nat.le_refl _, hl4, rfl, ⟨⟨rfl, by omega⟩, h.2.1, ⟨rfl, by omega⟩, ?_, ?_⟩, hkw⟩
            · show (stk (ck κ) (k + 1)).length = l
              rw [hst]
              exact h.2.2.2.1
            · show ∀ i, i < l → ∃ o n, (stk (ck κ) (k + 1))[l - 1 - i]? = some o ∧ ct κ o = nI n ∧ L i = nI n ∧ 1 ≤ n ∧ n ≤ 50
              rw [hst]
              exact h.2.2.2.2
        · -- no unit is left
          have hu200 : u = 200 := by omega
          rw [uU_ge eU1 hu eS1, if_pos rfl]
          have hRP : RP P s (L, l, k, u) := ⟨hk, hs, hu2, hl4, fun z => absurd z hP41, Or.inr (Or.inr hu200)⟩
          have eI : rIt P s (L, l, k, u) = (L, l, s, u) := by
            rw [rIt, if_pos ⟨Or.inl hP41, hu200⟩]
          left
          exact ⟨1, L, l, u, ⟨hRP, by rw [eI]; rfl⟩, rfl, h.2.2.1.1, hu2, Nat.le_refl _, hk1.trans (KW.p11 _ _)⟩
    · have hks : k = s := by
        have := h.1.2
        omega
      rw [nC_stop (by rw [eX, eS]; exact hk)]
      subst hks
      left
      exact ⟨0, L, l, u, rfl, rfl, h.2.2.1.1, hu2, Nat.le_refl _, KW.refl' κ⟩

