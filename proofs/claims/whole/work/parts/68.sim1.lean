/-! ===== both read alike: tokens ===== -/
def MD (κ : sc_T) (ρ : md_T) (x : Nat) : Prop := (cf κ 8 = -1 ∧ rf ρ 7 = -1) ∧ (cA κ = x ∧ mA ρ = skp (cb κ) (cL κ) x ∧ x ≤ cL κ) ∧ (SI κ ∧ TI ρ) ∧ mL ρ = cL κ ∧ ∀ i, i < cL κ → rt ρ i = cb κ i
def FA (κ : sc_T) (ρ : md_T) : Prop := ∃ f, f ≤ 100 ∧ cf κ 8 = nI f ∧ rf ρ 7 = nI f
theorem FA.no {κ : sc_T} {ρ : md_T} (h : FA κ ρ) : ¬ cf κ 8 = -1 ∧ ¬ rf ρ 7 = -1 := by
  obtain ⟨f, h1, h2, h3⟩ := h
  rw [h2, h3]
  exact ⟨nI_ne_m1 (by omega), nI_ne_m1 (by omega)⟩
theorem rN_fault {κ : sc_T} {most : Int32} (h : ¬ cf κ 8 = -1) : rN κ most = (κ, 0) := by rw [rN, if_neg h]
theorem aS_fault {κ : sc_T} {k me r n : Int32} (h : ¬ cf κ 8 = -1) : aS κ k me r n = κ := by rw [aS, if_neg (fun z => h z.1)]
theorem mFl_fault {ρ : md_T} {w : Int32} (h : ¬ rf ρ 7 = -1) : mFl ρ w = ρ := by rw [mFl, if_neg h, prf_id]
theorem mTk_fault {ρ : md_T} {sg : Int32} (h : ¬ rf ρ 7 = -1) : mTk ρ sg = ρ := by rw [mTk, if_neg (fun z => h z.1), mFl_fault h]
theorem mOn_fault {ρ : md_T} {lo hi : Int32} (h : ¬ rf ρ 7 = -1) : mOn ρ lo hi = (ρ, 0) := by rw [mOn, if_neg (fun z => h z.1), mFl_fault h]
theorem FA.rB {κ : sc_T} {ρ : md_T} (h : FA κ ρ) (lo hi : Int32) : FA (rB κ lo hi).1 ρ := by rw [rB_fault h.no.1]; exact h
theorem FA.rN {κ : sc_T} {ρ : md_T} (h : FA κ ρ) (most : Int32) : FA (rN κ most).1 ρ := by rw [rN_fault h.no.1]; exact h
theorem FA.aS {κ : sc_T} {ρ : md_T} (h : FA κ ρ) (k me r n : Int32) : FA (aS κ k me r n) ρ := by rw [aS_fault h.no.1]; exact h
theorem FA.mTk {κ : sc_T} {ρ : md_T} (h : FA κ ρ) (sg : Int32) : FA κ (mTk ρ sg) := by rw [mTk_fault h.no.2]; exact h
theorem FA.mOn {κ : sc_T} {ρ : md_T} (h : FA κ ρ) (lo hi : Int32) : FA κ (mOn ρ lo hi).1 := by rw [mOn_fault h.no.2]; exact h
theorem FA.kprp {κ : sc_T} {ρ : md_T} (h : FA κ ρ) (j : Nat) (x : Int32) : FA κ (prp ρ j x) := h
theorem FA.sB {κ : sc_T} {ρ : md_T} (h : FA κ ρ) : FA (sB κ) ρ := h
theorem MD.nx {κ : sc_T} {ρ : md_T} {x : Nat} (h : MD κ ρ x) : nxt ρ = if skp (cb κ) (cL κ) x < cL κ then cb κ (skp (cb κ) (cL κ) x) else -1 := by
  rw [nxt, h.2.1.2.1, h.2.2.2.1]
  by_cases hb : skp (cb κ) (cL κ) x < cL κ
  · rw [if_pos hb, if_pos hb, h.2.2.2.2 _ hb]
  · rw [if_neg hb, if_neg hb]
theorem MD.le {κ : sc_T} {ρ : md_T} {x : Nat} (h : MD κ ρ x) : x ≤ skp (cb κ) (cL κ) x ∧ skp (cb κ) (cL κ) x ≤ cL κ ∧ cL κ ≤ 100 := ⟨skp_ge h.2.1.2.2, skp_le h.2.1.2.2, h.2.2.1.1.1.2⟩
theorem MD.skpR {κ : sc_T} {ρ : md_T} {x : Nat} (h : MD κ ρ x) (y : Nat) : skp (rt ρ) (mL ρ) y = skp (cb κ) (cL κ) y := by
  rw [h.2.2.2.1]
  exact skp_cong h.2.2.2.2 _ y (Nat.le_refl _)
/-- both go on behind place y -/
theorem MD.go {κ : sc_T} {ρ : md_T} {x y : Nat} (h : MD κ ρ x) (hy : y ≤ cL κ) : MD (pcf κ 7 (nI y)) (prf ρ 6 (nI (skp (cb κ) (cL κ) y))) y := by
  have hl := h.2.2.1.1.1.2
  have h1 := skp_le (tx := cb κ) hy
  refine ⟨h.1, ⟨cA_put κ (by omega), nI_clamp (by omega), hy⟩, ⟨h.2.2.1.1.at hy, h.2.2.1.2.at (by rw [h.2.2.2.1]; exact h1)⟩, h.2.2.2.1, h.2.2.2.2⟩
theorem MD.up {κ : sc_T} {ρ : md_T} {x : Nat} (h : MD κ ρ x) (hb : skp (cb κ) (cL κ) x < cL κ) : mUp ρ = prf ρ 6 (nI (skp (cb κ) (cL κ) (skp (cb κ) (cL κ) x + 1))) := by
  have hl := h.2.2.1.1.1.2
  have e : mA (prf ρ 6 (nI (mA ρ + 1))) = mA ρ + 1 := nI_clamp (by rw [h.2.1.2.1]; omega)
  rw [mUp, mSk, e, prf_prf]
  show prf ρ 6 (nI (skp (rt ρ) (mL ρ) (mA ρ + 1))) = _
  rw [h.skpR, h.2.1.2.1]
theorem sB_at {κ : sc_T} {x : Nat} (h : cA κ = x) : sB κ = pcf κ 7 (nI (skp (cb κ) (cL κ) x)) := by rw [sB, h]
theorem MD.rB_ok {κ : sc_T} {ρ : md_T} {x : Nat} (h : MD κ ρ x) {lo hi : Int32} (hb : skp (cb κ) (cL κ) x < cL κ) (hin : lo ≤ cb κ (skp (cb κ) (cL κ) x) ∧ cb κ (skp (cb κ) (cL κ) x) ≤ hi) : rB κ lo hi = (pcf κ 7 (nI (skp (cb κ) (cL κ) x + 1)), cb κ (skp (cb κ) (cL κ) x)) := by
  have hl := h.2.2.1.1.1.2
  have e : cA (sB κ) = skp (cb κ) (cL κ) x := by rw [sB_at h.2.1.1]; exact cA_put κ (by omega)
  rw [rB, if_pos h.1.1, e, if_pos ⟨hb, hin⟩, sB, pcf_pcf]
theorem MD.rB_no {κ : sc_T} {ρ : md_T} {x : Nat} (h : MD κ ρ x) {lo hi : Int32} (hno : ¬ (skp (cb κ) (cL κ) x < cL κ ∧ (lo ≤ cb κ (skp (cb κ) (cL κ) x) ∧ cb κ (skp (cb κ) (cL κ) x) ≤ hi))) : cf (rB κ lo hi).1 8 = nI (skp (cb κ) (cL κ) x) := by
  have hl := h.2.2.1.1.1.2
  have hle := h.le
  have e : cA (sB κ) = skp (cb κ) (cL κ) x := by rw [sB_at h.2.1.1]; exact cA_put κ (by omega)
  rw [rB, if_pos h.1.1, e, if_neg hno]
  show cf (sB κ) 7 = _
  rw [sB_at h.2.1.1]
  rfl
theorem MD.fl {κ : sc_T} {ρ : md_T} {x : Nat} (h : MD κ ρ x) : rf (mFl ρ (rf ρ 6)) 7 = nI (skp (cb κ) (cL κ) x) := by
  show (if rf ρ 7 = -1 then rf ρ 6 else rf ρ 7) = _
  rw [if_pos h.1.2, h.2.2.1.2.2.1, h.2.1.2.1]
theorem MD.tk {κ : sc_T} {ρ : md_T} {x : Nat} (h : MD κ ρ x) {sg : Int32} (hsg : ¬ sg = -1) : (skp (cb κ) (cL κ) x < cL κ ∧ rB κ sg sg = (pcf κ 7 (nI (skp (cb κ) (cL κ) x + 1)), sg) ∧ mTk ρ sg = prf ρ 6 (nI (skp (cb κ) (cL κ) (skp (cb κ) (cL κ) x + 1))) ∧ cb κ (skp (cb κ) (cL κ) x) = sg) ∨ (FA (rB κ sg sg).1 (mTk ρ sg)) := by
  have hle := h.le
  by_cases hok : skp (cb κ) (cL κ) x < cL κ ∧ cb κ (skp (cb κ) (cL κ) x) = sg
  · left
    have e1 := h.rB_ok (lo := sg) (hi := sg) hok.1 (by rw [hok.2]; exact ⟨Int32.le_refl _, Int32.le_refl _⟩)
    rw [hok.2] at e1
    refine ⟨hok.1, e1, ?_, hok.2⟩
    rw [mTk, if_pos ⟨h.1.2, by rw [h.nx, if_pos hok.1]; exact hok.2⟩, h.up hok.1]
  · right
    refine ⟨skp (cb κ) (cL κ) x, by omega, h.rB_no (fun z => hok ⟨z.1, Int32.le_antisymm z.2.2 z.2.1⟩), ?_⟩
    rw [mTk, if_neg, h.fl]
    intro z
    rw [h.nx] at z
    by_cases hb : skp (cb κ) (cL κ) x < cL κ
    · rw [if_pos hb] at z
      exact hok ⟨hb, z.2⟩
    · rw [if_neg hb] at z
      exact hsg z.2.symm
theorem MD.on {κ : sc_T} {ρ : md_T} {x : Nat} (h : MD κ ρ x) {lo hi : Int32} (hlo : ¬ lo ≤ -1) : (skp (cb κ) (cL κ) x < cL κ ∧ rB κ lo hi = (pcf κ 7 (nI (skp (cb κ) (cL κ) x + 1)), cb κ (skp (cb κ) (cL κ) x)) ∧ mOn ρ lo hi = (prf ρ 6 (nI (skp (cb κ) (cL κ) (skp (cb κ) (cL κ) x + 1))), cb κ (skp (cb κ) (cL κ) x) - lo)) ∨ (FA (rB κ lo hi).1 (mOn ρ lo hi).1) := by
  have hle := h.le
  by_cases hok : skp (cb κ) (cL κ) x < cL κ ∧ (lo ≤ cb κ (skp (cb κ) (cL κ) x) ∧ cb κ (skp (cb κ) (cL κ) x) ≤ hi)
  · left
    have hn : nxt ρ = cb κ (skp (cb κ) (cL κ) x) := by rw [h.nx, if_pos hok.1]
    refine ⟨hok.1, h.rB_ok hok.1 hok.2, ?_⟩
    rw [mOn, hn, if_pos ⟨h.1.2, hok.2⟩, h.up hok.1]
  · right
    refine ⟨skp (cb κ) (cL κ) x, by omega, h.rB_no hok, ?_⟩
    rw [mOn, if_neg, h.fl]
    intro z
    rw [h.nx] at z
    by_cases hb : skp (cb κ) (cL κ) x < cL κ
    · rw [if_pos hb] at z
      exact hok ⟨hb, z.2⟩
    · rw [if_neg hb] at z
      exact hlo z.2.1
/-- a number, and the sign behind it -/
theorem MD.num {κ : sc_T} {ρ : md_T} {x : Nat} (h : MD κ ρ x) (most : Int32) : (FA (rN κ most).1 (mNm ρ most).1) ∨ ∃ e v, e ≤ cL κ ∧ x ≤ e ∧ (1 ≤ v ∧ v ≤ most) ∧ rN κ most = (pcf κ 7 (nI e), v) ∧ (mNm ρ most).2 = v ∧ ((e < cL κ ∧ (48 ≤ cb κ e ∧ cb κ e ≤ 57) ∧ rf (mNm ρ most).1 7 = nI e) ∨ (mNm ρ most).1 = prf ρ 6 (nI (skp (cb κ) (cL κ) e))) := by
  have hle := h.le
  have hl := h.2.2.1.1.1.2
  have e0 : cA (sB κ) = skp (cb κ) (cL κ) x := by rw [sB_at h.2.1.1]; exact cA_put κ (by omega)
  have eR : nmr (rt ρ) (mL ρ) 3 (mA ρ) 0 = nmr (cb κ) (cL κ) 3 (skp (cb κ) (cL κ) x) 0 := by
    rw [h.2.2.2.1, h.2.1.2.1]
    exact nmr_cong h.2.2.2.2 _ _ _
  have hnl := nmr_le (tx := cb κ) (len := cL κ) 3 (skp (cb κ) (cL κ) x) 0 hle.2.1
  rw [rN, if_pos h.1.1, e0, mNm, eR]
  have hn1 : mN1 ρ = prf ρ 6 (nI (nmr (cb κ) (cL κ) 3 (skp (cb κ) (cL κ) x) 0).1) := by rw [mN1, eR]
  rw [hn1]
  revert hnl
  generalize nmr (cb κ) (cL κ) 3 (skp (cb κ) (cL κ) x) 0 = R
  intro hnl
  have hA1 : mA (prf ρ 6 (nI R.1)) = R.1 := nI_clamp (by omega)
  have hnx : nxt (prf ρ 6 (nI R.1)) = if R.1 < cL κ then cb κ R.1 else -1 := by
    rw [nxt, hA1]
    show (if R.1 < mL ρ then rt ρ R.1 else -1) = _
    rw [h.2.2.2.1]
    by_cases hb : R.1 < cL κ
    · rw [if_pos hb, if_pos hb, h.2.2.2.2 _ hb]
    · rw [if_neg hb, if_neg hb]
  by_cases hv : 1 ≤ R.2 ∧ R.2 ≤ most
  · right
    refine ⟨R.1, R.2, hnl.2.1, by omega, hv, ?_, rfl, ?_⟩
    · rw [if_pos hv, sB, pcf_pcf]
    · rw [mN2, if_pos hv, mN3, hnx]
      by_cases hd : R.1 < cL κ ∧ (48 ≤ cb κ R.1 ∧ cb κ R.1 ≤ 57)
      · left
        refine ⟨hd.1, hd.2, ?_⟩
        rw [if_pos hd.1, if_pos hd.2]
        show (if rf ρ 7 = -1 then nI R.1 else rf ρ 7) = nI R.1
        rw [if_pos h.1.2]
      · right
        rw [if_neg, mSk, hA1, prf_prf]
        · show prf ρ 6 (nI (skp (rt ρ) (mL ρ) R.1)) = _
          rw [h.skpR]
        · intro z
          by_cases hb : R.1 < cL κ
          · rw [if_pos hb] at z
            exact hd ⟨hb, z⟩
          · rw [if_neg hb] at z
            exact absurd z.1 (by decide)
  · left
    refine ⟨skp (cb κ) (cL κ) x, by omega, ?_, ?_⟩
    · rw [if_neg hv]
      show cf (sB κ) 7 = _
      rw [sB_at h.2.1.1]
      rfl
    · have e1 : rf (mN2 ρ (prf ρ 6 (nI R.1)) R.2 most) 7 = nI (skp (cb κ) (cL κ) x) := by
        rw [mN2, if_neg hv]
        show (if rf ρ 7 = -1 then rf ρ 6 else rf ρ 7) = _
        rw [if_pos h.1.2, h.2.2.1.2.2.1, h.2.1.2.1]
      have e2 : ∀ ρ2 : md_T, rf ρ2 7 = nI (skp (cb κ) (cL κ) x) → rf (mSk (mN3 ρ2)) 7 = nI (skp (cb κ) (cL κ) x) := by
        intro ρ2 h2
        rw [mN3]
        split
        · rw [mFl_fault (by rw [h2]; exact nI_ne_m1 (by omega))]
          exact h2
        · exact h2
      exact e2 _ e1
/-- a digit where a sign is wanted: the class notices it there -/
theorem MD.dig {κ : sc_T} {ρ : md_T} {e : Nat} {sg : Int32} (h8 : cf κ 8 = -1) (hs : SI κ) (hA : cA κ = e) (he : e < cL κ) (hd : 48 ≤ cb κ e ∧ cb κ e ≤ 57) (hsg : ¬ (48 ≤ sg ∧ sg ≤ 57)) (h7 : rf ρ 7 = nI e) : FA (rB κ sg sg).1 ρ := by
  have hl := hs.1.2
  have hk : skp (cb κ) (cL κ) e = e := skp_no (fun z => absurd hd.1 (by rw [z.2]; decide))
  have e0 : cA (sB κ) = e := by rw [sB_at hA, hk]; exact cA_put κ (by omega)
  refine ⟨e, by omega, ?_, h7⟩
  rw [rB, if_pos h8, e0, if_neg]
  · show cf (sB κ) 7 = _
    rw [sB_at hA, hk]
    rfl
  · intro z
    have : cb κ e = sg := Int32.le_antisymm z.2.2 z.2.1
    rw [this] at hd
    exact hsg hd

