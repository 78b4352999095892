/-! ===== the reference reads a text ===== -/
theorem prf_prf (ρ : md_T) (j : Nat) (x y : Int32) : prf (prf ρ j x) j y = prf ρ j y := by
  refine Prod.ext ?_ rfl
  funext i
  show (if i = j then y else if i = j then x else rf ρ i) = if i = j then y else rf ρ i
  by_cases h : i = j
  · rw [if_pos h, if_pos h]
  · rw [if_neg h, if_neg h, if_neg h]
theorem prf_id (ρ : md_T) (j : Nat) : prf ρ j (rf ρ j) = ρ := by
  refine Prod.ext ?_ rfl
  funext i
  show (if i = j then rf ρ j else rf ρ i) = rf ρ i
  by_cases h : i = j
  · rw [if_pos h, h]
  · rw [if_neg h]
theorem nmr_same {tx : Nat → Int32} {len : Nat} : ∀ (d a : Nat) (v : Int32), a ≤ len → (nmr tx len d a v).1 = a → (nmr tx len d a v).2 = v
  | 0, a, v, _, h => rfl
  | d + 1, a, v, hl, h => by
    rw [nmr] at h ⊢
    by_cases hz : a < len ∧ (48 ≤ tx a ∧ tx a ≤ 57)
    · rw [if_pos hz] at h
      have := (nmr_le (tx := tx) (len := len) d (a + 1) (v * 10 + tx a - 48) (by omega)).1
      omega
    · rw [if_neg hz]
def mL (ρ : md_T) : Nat := (rf ρ 5).toNatClampNeg
def mA (ρ : md_T) : Nat := (rf ρ 6).toNatClampNeg
def mS (ρ : md_T) : Nat := (rf ρ 9).toNatClampNeg
def mD (ρ : md_T) : Nat := (rf ρ 11).toNatClampNeg
def TI (ρ : md_T) : Prop := (rf ρ 5 = nI (mL ρ) ∧ mL ρ ≤ 100) ∧ (rf ρ 6 = nI (mA ρ) ∧ mA ρ ≤ mL ρ)
/-- all but place and fault is the same -/
def MK (ρ ρ' : md_T) : Prop := rf ρ' 5 = rf ρ 5 ∧ rf ρ' 9 = rf ρ 9 ∧ rf ρ' 11 = rf ρ 11 ∧ ρ'.2 = ρ.2
theorem MK.rfl' (ρ : md_T) : MK ρ ρ := ⟨rfl, rfl, rfl, rfl⟩
theorem MK.trans {a b c : md_T} (h : MK a b) (h2 : MK b c) : MK a c := ⟨h2.1.trans h.1, h2.2.1.trans h.2.1, h2.2.2.1.trans h.2.2.1, h2.2.2.2.trans h.2.2.2⟩
theorem MK.a6 (ρ : md_T) (x : Int32) : MK ρ (prf ρ 6 x) := ⟨rfl, rfl, rfl, rfl⟩
theorem MK.a7 (ρ : md_T) (x : Int32) : MK ρ (prf ρ 7 x) := ⟨rfl, rfl, rfl, rfl⟩
theorem TI.at {ρ : md_T} (h : TI ρ) {a : Nat} (ha : a ≤ mL ρ) : TI (prf ρ 6 (nI a)) := by
  have h1 := h.1.2
  have e : mA (prf ρ 6 (nI a)) = a := nI_clamp (by omega)
  refine ⟨h.1, ?_, ?_⟩
  · rw [e]; rfl
  · rw [e]; exact ha
def nxt (ρ : md_T) : Int32 := if mA ρ < mL ρ then rt ρ (mA ρ) else -1
def mSk (ρ : md_T) : md_T := prf ρ 6 (nI (skp (rt ρ) (mL ρ) (mA ρ)))
def mFl (ρ : md_T) (w : Int32) : md_T := prf ρ 7 (if rf ρ 7 = -1 then w else rf ρ 7)
def mUp (ρ : md_T) : md_T := mSk (prf ρ 6 (nI (mA ρ + 1)))
def mTk (ρ : md_T) (sg : Int32) : md_T := if rf ρ 7 = -1 ∧ nxt ρ = sg then mUp ρ else mFl ρ (rf ρ 6)
def mOn (ρ : md_T) (lo hi : Int32) : md_T × Int32 := if rf ρ 7 = -1 ∧ (lo ≤ nxt ρ ∧ nxt ρ ≤ hi) then (mUp ρ, nxt ρ - lo) else (mFl ρ (rf ρ 6), 0)
def mN1 (ρ : md_T) : md_T := prf ρ 6 (nI (nmr (rt ρ) (mL ρ) 3 (mA ρ) 0).1)
def mN2 (ρ ρ1 : md_T) (v most : Int32) : md_T := if 1 ≤ v ∧ v ≤ most then ρ1 else mFl ρ1 (rf ρ 6)
def mN3 (ρ : md_T) : md_T := if 48 ≤ nxt ρ ∧ nxt ρ ≤ 57 then mFl ρ (rf ρ 6) else ρ
def mNm (ρ : md_T) (most : Int32) : md_T × Int32 := (mSk (mN3 (mN2 ρ (mN1 ρ) (nmr (rt ρ) (mL ρ) 3 (mA ρ) 0).2 most)), (nmr (rt ρ) (mL ρ) 3 (mA ρ) 0).2)
theorem TI.kSk {ρ : md_T} (h : TI ρ) : TI (mSk ρ) := h.at (skp_le h.2.2)
theorem TI.kUp {ρ : md_T} (h : TI ρ) (ha : mA ρ < mL ρ) : TI (mUp ρ) := TI.kSk (h.at (by omega))
theorem nxt_lt {ρ : md_T} (h : ¬ nxt ρ = -1) : mA ρ < mL ρ := by
  rw [nxt] at h
  split at h
  · assumption
  · exact absurd rfl h
theorem TI.kTk {ρ : md_T} (h : TI ρ) {sg : Int32} (hsg : ¬ sg = -1) : TI (mTk ρ sg) := by
  rw [mTk]
  split
  · rename_i h1
    exact h.kUp (nxt_lt (by rw [h1.2]; exact hsg))
  · exact h
theorem TI.kOn {ρ : md_T} (h : TI ρ) {lo hi : Int32} (hlo : ¬ lo ≤ -1) : TI (mOn ρ lo hi).1 := by
  rw [mOn]
  split
  · rename_i h1
    exact h.kUp (nxt_lt (fun z => hlo (by rw [← z]; exact h1.2.1)))
  · exact h
theorem TI.kN1 {ρ : md_T} (h : TI ρ) : TI (mN1 ρ) := h.at (nmr_le 3 (mA ρ) 0 h.2.2).2.1
theorem TI.kN2 {ρ ρ1 : md_T} (h : TI ρ1) (v most : Int32) : TI (mN2 ρ ρ1 v most) := by
  rw [mN2]
  split
  · exact h
  · exact h
theorem TI.kN3 {ρ : md_T} (h : TI ρ) : TI (mN3 ρ) := by
  rw [mN3]
  split
  · exact h
  · exact h
theorem TI.kNm {ρ : md_T} (h : TI ρ) (most : Int32) : TI (mNm ρ most).1 := ((h.kN1.kN2 _ _).kN3).kSk
theorem MK.kTk (ρ : md_T) (sg : Int32) : MK ρ (mTk ρ sg) := by
  rw [mTk]
  split
  · exact ⟨rfl, rfl, rfl, rfl⟩
  · exact ⟨rfl, rfl, rfl, rfl⟩
theorem MK.kOn (ρ : md_T) (lo hi : Int32) : MK ρ (mOn ρ lo hi).1 := by
  rw [mOn]
  split
  · exact ⟨rfl, rfl, rfl, rfl⟩
  · exact ⟨rfl, rfl, rfl, rfl⟩
theorem MK.kSk (ρ : md_T) : MK ρ (mSk ρ) := MK.a6 ρ _
theorem MK.kFl (ρ : md_T) (w : Int32) : MK ρ (mFl ρ w) := MK.a7 ρ _
theorem MK.kN3 (ρ : md_T) : MK ρ (mN3 ρ) := by
  rw [mN3]
  split
  · exact MK.kFl _ _
  · exact MK.rfl' _
theorem MK.kN2 (ρ ρ1 : md_T) (v most : Int32) : MK ρ1 (mN2 ρ ρ1 v most) := by
  rw [mN2]
  split
  · exact MK.rfl' _
  · exact MK.kFl _ _
theorem MK.kNm (ρ : md_T) (most : Int32) : MK ρ (mNm ρ most).1 := by
  rw [mNm]
  have h1 : MK ρ (mN1 ρ) := MK.a6 ρ _
  exact ((h1.trans (MK.kN2 _ _ _ _)).trans (MK.kN3 _)).trans (MK.kSk _)
section C66
variable {S : List aiS} {M : Nat → Nat → Int32} {J : Nat → Int64} {ρ : md_T} {b : Nat}
theorem c_X7_next (hB : MS S b) (hs : TI ρ) : AM G_X7_next [.ref b] S (md_put b ρ M) J (some (.int (nxt ρ)), S, md_put b ρ M, J) := by
  have hl := hs.1.2
  have ha := hs.2.2
  refine AM_gen (fun out ho => ?_)
  refine AM_of [.ref b] (by decide) rfl (fun B => (Nat.le_of_ble_eq_true rfl)) ?_
  refine e_aload_n dX7_next_0 rfl rfl ?_
  refine rf_get hB dX7_next_1 fl_7_113 (by decide) ?_
  refine e_aload_n dX7_next_4 rfl rfl ?_
  refine rf_get hB dX7_next_5 fl_7_109 (by decide) ?_
  by_cases h1 : mA ρ < mL ρ
  · have h100 : mA ρ < 100 := by omega
    refine e_ge_f (i := mA ρ) (N := mL ρ) 23 dX7_next_8 (by decide) hs.2.1 hs.1.1 (by omega) (by omega) ?_
    refine e_aload_n dX7_next_11 rfl rfl ?_
    refine e_getr dX7_next_12 fl_7_23 hB.a0 rfl ?_
    refine e_aload_n dX7_next_15 rfl rfl ?_
    refine rf_get hB dX7_next_16 fl_7_113 (by decide) ?_
    refine rt_ld (mA ρ) hB dX7_next_19 hs.2.1 h100 ?_
    refine e_goto 24 dX7_next_20 (by decide) ?_
    exact e_iret dX7_next_24 rfl (ho.trans (by rw [nxt, if_pos h1])) (Nat.le_of_ble_eq_true rfl) (Nat.le_of_ble_eq_true rfl)
  · refine e_ge_t (i := mA ρ) (N := mL ρ) 23 dX7_next_8 (by decide) hs.2.1 hs.1.1 (by omega) (by omega) ?_
    refine e_iconst (v := (-1)) dX7_next_23 (by decide) ?_
    exact e_iret dX7_next_24 rfl (ho.trans (by rw [nxt, if_neg h1])) (Nat.le_of_ble_eq_true rfl) (Nat.le_of_ble_eq_true rfl)
theorem mSk_stay {ρ : md_T} (hs : TI ρ) (h : ¬ nxt ρ = 32) : mSk ρ = ρ := by
  have h2 : ¬ (mA ρ < mL ρ ∧ rt ρ (mA ρ) = 32) := fun z => h (by rw [nxt, if_pos z.1]; exact z.2)
  rw [mSk, skp_no h2, ← hs.2.1, prf_id]
theorem mSk_go {ρ : md_T} (hs : TI ρ) (h : nxt ρ = 32) : mSk ρ = mSk (prf ρ 6 (nI (mA ρ + 1))) := by
  have h1 : mA ρ < mL ρ := nxt_lt (by rw [h]; decide)
  have h2 : rt ρ (mA ρ) = 32 := by
    rw [nxt, if_pos h1] at h
    exact h
  have hl := hs.1.2
  have e1 : mA (prf ρ 6 (nI (mA ρ + 1))) = mA ρ + 1 := nI_clamp (by omega)
  rw [mSk, mSk, e1, prf_prf]
  show _ = prf ρ 6 (nI (skp (rt ρ) (mL ρ) (mA ρ + 1)))
  rw [skp_yes h1 h2]
theorem c_X7_skips (hB : MS S b) (hs : TI ρ) : AM G_X7_skips [.ref b] S (md_put b ρ M) J (none, S, md_put b (mSk ρ) M, J) := by
  refine AM_gen (fun out ho => ?_)
  refine AM_of [.ref b] (by decide) rfl (fun B => (Nat.le_of_ble_eq_true rfl)) ?_
  have key : ∀ (d : Nat) (ρ : md_T), mL ρ - mA ρ ≤ d → TI ρ → out = (none, S, md_put b (mSk ρ) M, J) → AW G_X7_skips out 0 0 0 [.ref b] [] S (md_put b ρ M) J := by
    intro d
    induction d with
    | zero =>
      intro ρ hd hs ho
      have hn : ¬ nxt ρ = 32 := by
        rw [nxt, if_neg (by omega)]
        decide
      rw [mSk_stay hs hn] at ho
      refine e_aload_n dX7_skips_0 rfl rfl ?_
      refine e_cV1 dX7_skips_1 ml_7_116 (c_X7_next hB hs) hB.a0 rfl rfl (by decide) (Nat.le_of_ble_eq_true rfl) ⟨rfl, rfl⟩ (Nat.le_of_ble_eq_true rfl) (Nat.le_of_ble_eq_true rfl) ?_
      refine e_bipush (v := 32) dX7_skips_4 (by decide) ?_
      refine e_icmp_ne 22 dX7_skips_6 (by decide) (fun h6 => ?_) (fun h6 => ?_)
      · exact e_vret dX7_skips_22 rfl ho (Nat.le_of_ble_eq_true rfl) (Nat.le_of_ble_eq_true rfl)
      · exact absurd h6 hn
    | succ d ih =>
      intro ρ hd hs ho
      refine e_aload_n dX7_skips_0 rfl rfl ?_
      refine e_cV1 dX7_skips_1 ml_7_116 (c_X7_next hB hs) hB.a0 rfl rfl (by decide) (Nat.le_of_ble_eq_true rfl) ⟨rfl, rfl⟩ (Nat.le_of_ble_eq_true rfl) (Nat.le_of_ble_eq_true rfl) ?_
      refine e_bipush (v := 32) dX7_skips_4 (by decide) ?_
      refine e_icmp_ne 22 dX7_skips_6 (by decide) (fun h6 => ?_) (fun h6 => ?_)
      · rw [mSk_stay hs h6] at ho
        exact e_vret dX7_skips_22 rfl ho (Nat.le_of_ble_eq_true rfl) (Nat.le_of_ble_eq_true rfl)
      · have h1 : mA ρ < mL ρ := nxt_lt (by rw [h6]; decide)
        have hl := hs.1.2
        have e1 : mA (prf ρ 6 (nI (mA ρ + 1))) = mA ρ + 1 := nI_clamp (by omega)
        rw [mSk_go hs h6] at ho
        have hinc : rf ρ 6 + 1 = nI (mA ρ + 1) := by rw [hs.2.1, nI_1]
        refine e_aload_n dX7_skips_9 rfl rfl ?_
        refine e_dup dX7_skips_10 rfl ?_
        refine rf_get hB dX7_skips_11 fl_7_113 (by decide) ?_
        refine e_iconst (v := 1) dX7_skips_14 (by decide) ?_
        refine e_iadd dX7_skips_15 ?_
        refine rf_put hB dX7_skips_16 fl_7_113 ?_
        refine e_goto 0 dX7_skips_19 (by decide) ?_
        rw [hinc]
        refine ih _ ?_ (hs.at (by omega)) ho
        rw [e1]
        show mL ρ - (mA ρ + 1) ≤ d
        omega
  exact key _ ρ (Nat.le_refl _) hs ho
theorem c_X7_fails (hB : MS S b) (w : Int32) : AM G_X7_fails [.ref b, .int w] S (md_put b ρ M) J (none, S, md_put b (mFl ρ w) M, J) := by
  refine AM_gen (fun out ho => ?_)
  refine AM_of [.ref b, .int w] (by decide) rfl (fun B => (Nat.le_of_ble_eq_true rfl)) ?_
  refine e_aload_n dX7_fails_0 rfl rfl ?_
  refine e_aload_n dX7_fails_1 rfl rfl ?_
  refine rf_get hB dX7_fails_2 fl_7_119 (by decide) ?_
  refine e_iconst (v := (-1)) dX7_fails_5 (by decide) ?_
  refine e_icmp_ne 13 dX7_fails_6 (by decide) (fun h6 => ?_) (fun h6 => ?_)
  · refine e_aload_n dX7_fails_13 rfl rfl ?_
    refine rf_get hB dX7_fails_14 fl_7_119 (by decide) ?_
    refine rf_put hB dX7_fails_17 fl_7_119 ?_
    exact e_vret dX7_fails_20 rfl (ho.trans (by rw [mFl, if_neg h6])) (Nat.le_of_ble_eq_true rfl) (Nat.le_of_ble_eq_true rfl)
  · refine e_iload_n dX7_fails_9 rfl rfl ?_
    refine e_goto 17 dX7_fails_10 (by decide) ?_
    refine rf_put hB dX7_fails_17 fl_7_119 ?_
    exact e_vret dX7_fails_20 rfl (ho.trans (by rw [mFl, if_pos h6])) (Nat.le_of_ble_eq_true rfl) (Nat.le_of_ble_eq_true rfl)
theorem c_X7_takes (hB : MS S b) (hs : TI ρ) {sg : Int32} (hsg : ¬ sg = -1) : AM G_X7_takes [.ref b, .int sg] S (md_put b ρ M) J (none, S, md_put b (mTk ρ sg) M, J) := by
  have hinc : rf ρ 6 + 1 = nI (mA ρ + 1) := by rw [hs.2.1, nI_1]
  refine AM_gen (fun out ho => ?_)
  refine AM_of [.ref b, .int sg] (by decide) rfl (fun B => (Nat.le_of_ble_eq_true rfl)) ?_
  have hfail : ¬ (rf ρ 7 = -1 ∧ nxt ρ = sg) → AW G_X7_takes out 0 0 33 [.ref b, .int sg] [] S (md_put b ρ M) J := by
    intro hno
    rw [mTk, if_neg hno] at ho
    refine e_aload_n dX7_takes_33 rfl rfl ?_
    refine e_aload_n dX7_takes_34 rfl rfl ?_
    refine rf_get hB dX7_takes_35 fl_7_113 (by decide) ?_
    refine e_cV0 dX7_takes_38 ml_7_125 (c_X7_fails hB _) hB.a0 rfl rfl (by decide) (Nat.le_of_ble_eq_true rfl) ⟨rfl, rfl⟩ (Nat.le_of_ble_eq_true rfl) (Nat.le_of_ble_eq_true rfl) ?_
    exact e_vret dX7_takes_41 rfl ho (Nat.le_of_ble_eq_true rfl) (Nat.le_of_ble_eq_true rfl)
  refine e_aload_n dX7_takes_0 rfl rfl ?_
  refine rf_get hB dX7_takes_1 fl_7_119 (by decide) ?_
  refine e_iconst (v := (-1)) dX7_takes_4 (by decide) ?_
  refine e_icmp_ne 33 dX7_takes_5 (by decide) (fun h5 => ?_) (fun h5 => ?_)
  · exact hfail (fun z => h5 z.1)
  · refine e_aload_n dX7_takes_8 rfl rfl ?_
    refine e_cV1 dX7_takes_9 ml_7_116 (c_X7_next hB hs) hB.a0 rfl rfl (by decide) (Nat.le_of_ble_eq_true rfl) ⟨rfl, rfl⟩ (Nat.le_of_ble_eq_true rfl) (Nat.le_of_ble_eq_true rfl) ?_
    refine e_iload_n dX7_takes_12 rfl rfl ?_
    refine e_icmp_ne 33 dX7_takes_13 (by decide) (fun h13 => ?_) (fun h13 => ?_)
    · exact hfail (fun z => h13 z.2)
    · have h1 : mA ρ < mL ρ := nxt_lt (by rw [h13]; exact hsg)
      rw [mTk, if_pos ⟨h5, h13⟩] at ho
      refine e_aload_n dX7_takes_16 rfl rfl ?_
      refine e_dup dX7_takes_17 rfl ?_
      refine rf_get hB dX7_takes_18 fl_7_113 (by decide) ?_
      refine e_iconst (v := 1) dX7_takes_21 (by decide) ?_
      refine e_iadd dX7_takes_22 ?_
      refine rf_put hB dX7_takes_23 fl_7_113 ?_
      rw [hinc]
      refine e_aload_n dX7_takes_26 rfl rfl ?_
      refine e_cV0 dX7_takes_27 ml_7_122 (c_X7_skips hB (hs.at (by omega))) hB.a0 rfl rfl (by decide) (Nat.le_of_ble_eq_true rfl) ⟨rfl, rfl⟩ (Nat.le_of_ble_eq_true rfl) (Nat.le_of_ble_eq_true rfl) ?_
      refine e_goto 41 dX7_takes_30 (by decide) ?_
      exact e_vret dX7_takes_41 rfl ho (Nat.le_of_ble_eq_true rfl) (Nat.le_of_ble_eq_true rfl)
theorem c_X7_readsOne (hB : MS S b) (hs : TI ρ) {lo hi : Int32} (hlo : ¬ lo ≤ -1) : AM G_X7_readsOne [.ref b, .int lo, .int hi] S (md_put b ρ M) J (some (.int (mOn ρ lo hi).2), S, md_put b (mOn ρ lo hi).1 M, J) := by
  have hinc : rf ρ 6 + 1 = nI (mA ρ + 1) := by rw [hs.2.1, nI_1]
  refine AM_gen (fun out ho => ?_)
  refine AM_of [.ref b, .int lo, .int hi, .retAddr 0] (by decide) rfl (fun B => (Nat.le_of_ble_eq_true rfl)) ?_
  have hfail : ¬ (rf ρ 7 = -1 ∧ (lo ≤ nxt ρ ∧ nxt ρ ≤ hi)) → AW G_X7_readsOne out 0 0 22 [.ref b, .int lo, .int hi, .int (nxt ρ)] [] S (md_put b ρ M) J := by
    intro hno
    rw [mOn, if_neg hno] at ho
    refine e_aload_n dX7_readsOne_22 rfl rfl ?_
    refine e_aload_n dX7_readsOne_23 rfl rfl ?_
    refine rf_get hB dX7_readsOne_24 fl_7_113 (by decide) ?_
    refine e_cV0 dX7_readsOne_27 ml_7_125 (c_X7_fails hB _) hB.a0 rfl rfl (by decide) (Nat.le_of_ble_eq_true rfl) ⟨rfl, rfl⟩ (Nat.le_of_ble_eq_true rfl) (Nat.le_of_ble_eq_true rfl) ?_
    refine e_iconst (v := 0) dX7_readsOne_30 (by decide) ?_
    exact e_iret dX7_readsOne_31 rfl ho (Nat.le_of_ble_eq_true rfl) (Nat.le_of_ble_eq_true rfl)
  refine e_aload_n dX7_readsOne_0 rfl rfl ?_
  refine e_cV1 dX7_readsOne_1 ml_7_116 (c_X7_next hB hs) hB.a0 rfl rfl (by decide) (Nat.le_of_ble_eq_true rfl) ⟨rfl, rfl⟩ (Nat.le_of_ble_eq_true rfl) (Nat.le_of_ble_eq_true rfl) ?_
  refine e_istore_n dX7_readsOne_4 rfl (by decide) rfl ?_
  refine e_aload_n dX7_readsOne_5 rfl rfl ?_
  refine rf_get hB dX7_readsOne_6 fl_7_119 (by decide) ?_
  refine e_iconst (v := (-1)) dX7_readsOne_9 (by decide) ?_
  refine e_icmp_ne 22 dX7_readsOne_10 (by decide) (fun h10 => ?_) (fun h10 => ?_)
  · exact hfail (fun z => h10 z.1)
  · refine e_iload_n dX7_readsOne_13 rfl rfl ?_
    refine e_iload_n dX7_readsOne_14 rfl rfl ?_
    refine e_iload_n dX7_readsOne_15 rfl rfl ?_
    refine e_cS1 dX7_readsOne_16 ml_7_39 (c_X7_in _ _ _) rfl rfl (by decide) (Nat.le_of_ble_eq_true rfl) ⟨rfl, rfl⟩ (Nat.le_of_ble_eq_true rfl) (Nat.le_of_ble_eq_true rfl) ?_
    refine e_if_ne 32 dX7_readsOne_19 (by decide) (fun h19 => ?_) (fun h19 => ?_)
    · have hin := z1 h19
      have h1 : mA ρ < mL ρ := nxt_lt (fun z => hlo (by rw [← z]; exact hin.1))
      rw [mOn, if_pos ⟨h10, hin⟩] at ho
      refine e_aload_n dX7_readsOne_32 rfl rfl ?_
      refine e_dup dX7_readsOne_33 rfl ?_
      refine rf_get hB dX7_readsOne_34 fl_7_113 (by decide) ?_
      refine e_iconst (v := 1) dX7_readsOne_37 (by decide) ?_
      refine e_iadd dX7_readsOne_38 ?_
      refine rf_put hB dX7_readsOne_39 fl_7_113 ?_
      rw [hinc]
      refine e_aload_n dX7_readsOne_42 rfl rfl ?_
      refine e_cV0 dX7_readsOne_43 ml_7_122 (c_X7_skips hB (hs.at (by omega))) hB.a0 rfl rfl (by decide) (Nat.le_of_ble_eq_true rfl) ⟨rfl, rfl⟩ (Nat.le_of_ble_eq_true rfl) (Nat.le_of_ble_eq_true rfl) ?_
      refine e_iload_n dX7_readsOne_46 rfl rfl ?_
      refine e_iload_n dX7_readsOne_47 rfl rfl ?_
      refine e_isub dX7_readsOne_48 ?_
      exact e_iret dX7_readsOne_49 rfl ho (Nat.le_of_ble_eq_true rfl) (Nat.le_of_ble_eq_true rfl)
    · exact hfail (fun z => z0 h19 z.2)
theorem c_X7_readsNumber (hB : MS S b) (hs : TI ρ) {most : Int32} : AM G_X7_readsNumber [.ref b, .int most] S (md_put b ρ M) J (some (.int (mNm ρ most).2), S, md_put b (mNm ρ most).1 M, J) := by
  have hl := hs.1.2
  have ha := hs.2.2
  have hA := hs.2.1
  refine AM_gen (fun out ho => ?_)
  refine AM_of [.ref b, .int most, .retAddr 0, .retAddr 0] (by decide) rfl (fun B => (Nat.le_of_ble_eq_true rfl)) ?_
  rw [mNm] at ho
  have hn1 := hs.kN1
  have hsame := nmr_same (tx := rt ρ) (len := mL ρ) 3 (mA ρ) 0 ha
  have hRle := nmr_le (tx := rt ρ) (len := mL ρ) 3 (mA ρ) 0 ha
  rw [mN1] at ho hn1
  revert ho hn1 hsame hRle
  generalize hR : nmr (rt ρ) (mL ρ) 3 (mA ρ) 0 = R
  intro ho hn1 hsame hRle
  have hexit : AW G_X7_readsNumber out 0 0 57 [.ref b, .int most, .int (rf ρ 6), .int R.2] [] S (md_put b (prf ρ 6 (nI R.1)) M) J := by
    have h2 : TI (mN2 ρ (prf ρ 6 (nI R.1)) R.2 most) := hn1.kN2 _ _
    have t2 : AW G_X7_readsNumber out 0 0 79 [.ref b, .int most, .int (rf ρ 6), .int R.2] [] S (md_put b (mN2 ρ (prf ρ 6 (nI R.1)) R.2 most) M) J := by
      revert ho h2
      generalize mN2 ρ (prf ρ 6 (nI R.1)) R.2 most = ρ2
      intro ho h2
      have h3 := h2.kN3
      have t3 : AW G_X7_readsNumber out 0 0 101 [.ref b, .int most, .int (rf ρ 6), .int R.2] [] S (md_put b (mN3 ρ2) M) J := by
        refine e_aload_n dX7_readsNumber_101 rfl rfl ?_
        refine e_cV0 dX7_readsNumber_102 ml_7_122 (c_X7_skips hB h3) hB.a0 rfl rfl (by decide) (Nat.le_of_ble_eq_true rfl) ⟨rfl, rfl⟩ (Nat.le_of_ble_eq_true rfl) (Nat.le_of_ble_eq_true rfl) ?_
        refine e_iload_n dX7_readsNumber_105 rfl rfl ?_
        exact e_iret dX7_readsNumber_106 rfl ho (Nat.le_of_ble_eq_true rfl) (Nat.le_of_ble_eq_true rfl)
      refine e_aload_n dX7_readsNumber_79 rfl rfl ?_
      refine e_cV1 dX7_readsNumber_80 ml_7_116 (c_X7_next hB h2) hB.a0 rfl rfl (by decide) (Nat.le_of_ble_eq_true rfl) ⟨rfl, rfl⟩ (Nat.le_of_ble_eq_true rfl) (Nat.le_of_ble_eq_true rfl) ?_
      refine e_bipush (v := 48) dX7_readsNumber_83 (by decide) ?_
      refine e_bipush (v := 57) dX7_readsNumber_85 (by decide) ?_
      refine e_cS1 dX7_readsNumber_87 ml_7_39 (c_X7_in _ _ _) rfl rfl (by decide) (Nat.le_of_ble_eq_true rfl) ⟨rfl, rfl⟩ (Nat.le_of_ble_eq_true rfl) (Nat.le_of_ble_eq_true rfl) ?_
      refine e_if_eq 101 dX7_readsNumber_90 (by decide) (fun h90 => ?_) (fun h90 => ?_)
      · rw [mN3, if_neg (z0 h90)] at t3
        exact t3
      · rw [mN3, if_pos (z1 h90)] at t3
        refine e_aload_n dX7_readsNumber_93 rfl rfl ?_
        refine e_aload_n dX7_readsNumber_94 rfl rfl ?_
        refine rf_get hB dX7_readsNumber_95 fl_7_113 (by decide) ?_
        refine e_cV0 dX7_readsNumber_98 ml_7_125 (c_X7_fails hB _) hB.a0 rfl rfl (by decide) (Nat.le_of_ble_eq_true rfl) ⟨rfl, rfl⟩ (Nat.le_of_ble_eq_true rfl) (Nat.le_of_ble_eq_true rfl) ?_
        exact t3
    have hfail : ¬ (1 ≤ R.2 ∧ R.2 ≤ most) → AW G_X7_readsNumber out 0 0 74 [.ref b, .int most, .int (rf ρ 6), .int R.2] [] S (md_put b (prf ρ 6 (nI R.1)) M) J := by
      intro hno
      rw [mN2, if_neg hno] at t2
      refine e_aload_n dX7_readsNumber_74 rfl rfl ?_
      refine e_iload_n dX7_readsNumber_75 rfl rfl ?_
      refine e_cV0 dX7_readsNumber_76 ml_7_125 (c_X7_fails hB _) hB.a0 rfl rfl (by decide) (Nat.le_of_ble_eq_true rfl) ⟨rfl, rfl⟩ (Nat.le_of_ble_eq_true rfl) (Nat.le_of_ble_eq_true rfl) ?_
      exact t2
    refine e_aload_n dX7_readsNumber_57 rfl rfl ?_
    refine rf_get hB dX7_readsNumber_58 fl_7_113 (by decide) ?_
    refine e_iload_n dX7_readsNumber_61 rfl rfl ?_
    refine e_icmp_eq 74 dX7_readsNumber_62 (by decide) (fun h62 => ?_) (fun h62 => ?_)
    · have e1 : R.1 = mA ρ := by
        have h62' : nI R.1 = rf ρ 6 := h62
        rw [hA] at h62'
        exact (nI_eq (by omega) (by omega)).mp h62'
      exact hfail (fun z => absurd z.1 (by rw [hsame e1]; decide))
    · refine e_iload_n dX7_readsNumber_65 rfl rfl ?_
      refine e_iconst (v := 1) dX7_readsNumber_66 (by decide) ?_
      refine e_iload_n dX7_readsNumber_67 rfl rfl ?_
      refine e_cS1 dX7_readsNumber_68 ml_7_39 (c_X7_in _ _ _) rfl rfl (by decide) (Nat.le_of_ble_eq_true rfl) ⟨rfl, rfl⟩ (Nat.le_of_ble_eq_true rfl) (Nat.le_of_ble_eq_true rfl) ?_
      refine e_if_ne 79 dX7_readsNumber_71 (by decide) (fun h71 => ?_) (fun h71 => ?_)
      · rw [mN2, if_pos (z1 h71)] at t2
        exact t2
      · exact hfail (z0 h71)
  have key : ∀ (d a : Nat) (v : Int32), a + d = mA ρ + 3 → mA ρ ≤ a → a ≤ mL ρ → nmr (rt ρ) (mL ρ) d a v = R → AW G_X7_readsNumber out 0 0 7 [.ref b, .int most, .int (rf ρ 6), .int v] [] S (md_put b (prf ρ 6 (nI a)) M) J := by
    intro d
    induction d with
    | zero =>
      intro a v hi ha1 ha2 hr
      rw [← hr] at hexit
      refine e_aload_n dX7_readsNumber_7 rfl rfl ?_
      refine rf_get hB dX7_readsNumber_8 fl_7_113 (by decide) ?_
      refine e_iload_n dX7_readsNumber_11 rfl rfl ?_
      refine e_iconst (v := 3) dX7_readsNumber_12 (by decide) ?_
      refine e_iadd dX7_readsNumber_13 ?_
      refine e_ge_t (i := a) (N := mA ρ + 3) 57 dX7_readsNumber_14 (by decide) rfl (ai_add hA rfl) (by omega) (by omega) ?_
      exact hexit
    | succ d ih =>
      intro a v hi ha1 ha2 hr
      have hta : TI (prf ρ 6 (nI a)) := hs.at ha2
      have e1 : mA (prf ρ 6 (nI a)) = a := nI_clamp (by omega)
      have hnx := c_X7_next (M := M) (J := J) hB hta
      have hnx2 : nxt (prf ρ 6 (nI a)) = if a < mL ρ then rt ρ a else -1 := by
        rw [nxt, e1]
        rfl
      have hno : ¬ (a < mL ρ ∧ (48 ≤ rt ρ a ∧ rt ρ a ≤ 57)) → AW G_X7_readsNumber out 0 0 57 [.ref b, .int most, .int (rf ρ 6), .int v] [] S (md_put b (prf ρ 6 (nI a)) M) J := by
        intro hz
        rw [nmr, if_neg hz] at hr
        rw [← hr] at hexit
        exact hexit
      refine e_aload_n dX7_readsNumber_7 rfl rfl ?_
      refine rf_get hB dX7_readsNumber_8 fl_7_113 (by decide) ?_
      refine e_iload_n dX7_readsNumber_11 rfl rfl ?_
      refine e_iconst (v := 3) dX7_readsNumber_12 (by decide) ?_
      refine e_iadd dX7_readsNumber_13 ?_
      refine e_ge_f (i := a) (N := mA ρ + 3) 57 dX7_readsNumber_14 (by decide) rfl (ai_add hA rfl) (by omega) (by omega) ?_
      refine e_aload_n dX7_readsNumber_17 rfl rfl ?_
      refine e_cV1 dX7_readsNumber_18 ml_7_116 hnx hB.a0 rfl rfl (by decide) (Nat.le_of_ble_eq_true rfl) ⟨rfl, rfl⟩ (Nat.le_of_ble_eq_true rfl) (Nat.le_of_ble_eq_true rfl) ?_
      refine e_bipush (v := 48) dX7_readsNumber_21 (by decide) ?_
      refine e_bipush (v := 57) dX7_readsNumber_23 (by decide) ?_
      refine e_cS1 dX7_readsNumber_25 ml_7_39 (c_X7_in _ _ _) rfl rfl (by decide) (Nat.le_of_ble_eq_true rfl) ⟨rfl, rfl⟩ (Nat.le_of_ble_eq_true rfl) (Nat.le_of_ble_eq_true rfl) ?_
      refine e_if_eq 57 dX7_readsNumber_28 (by decide) (fun h28 => ?_) (fun h28 => ?_)
      · refine hno (fun z => z0 h28 ?_)
        rw [hnx2, if_pos z.1]
        exact z.2
      · have hin := z1 h28
        have h1 : a < mL ρ := by
          rcases Nat.lt_or_ge a (mL ρ) with z | z
          · exact z
          · rw [hnx2, if_neg (by omega)] at hin
            exact absurd hin.1 (by decide)
        rw [hnx2, if_pos h1] at hin hnx
        rw [nmr, if_pos ⟨h1, hin⟩, Int32.mul_comm v 10] at hr
        refine e_bipush (v := 10) dX7_readsNumber_31 (by decide) ?_
        refine e_iload_n dX7_readsNumber_33 rfl rfl ?_
        refine e_imul dX7_readsNumber_34 ?_
        refine e_aload_n dX7_readsNumber_35 rfl rfl ?_
        refine e_cV1 dX7_readsNumber_36 ml_7_116 hnx hB.a0 rfl rfl (by decide) (Nat.le_of_ble_eq_true rfl) ⟨rfl, rfl⟩ (Nat.le_of_ble_eq_true rfl) (Nat.le_of_ble_eq_true rfl) ?_
        refine e_iadd dX7_readsNumber_39 ?_
        refine e_bipush (v := 48) dX7_readsNumber_40 (by decide) ?_
        refine e_isub dX7_readsNumber_42 ?_
        refine e_istore_n dX7_readsNumber_43 rfl (by decide) rfl ?_
        refine e_aload_n dX7_readsNumber_44 rfl rfl ?_
        refine e_dup dX7_readsNumber_45 rfl ?_
        refine rf_get hB dX7_readsNumber_46 fl_7_113 (by decide) ?_
        refine e_iconst (v := 1) dX7_readsNumber_49 (by decide) ?_
        refine e_iadd dX7_readsNumber_50 ?_
        refine rf_put hB dX7_readsNumber_51 fl_7_113 ?_
        rw [show rf (prf ρ 6 (nI a)) 6 + 1 = nI (a + 1) from nI_1 a, prf_prf]
        refine e_goto 7 dX7_readsNumber_54 (by decide) ?_
        exact ih (a + 1) _ (by omega) (by omega) (by omega) hr
  have h0 := key 3 (mA ρ) 0 rfl (Nat.le_refl _) ha hR
  rw [← hA, prf_id] at h0
  refine e_aload_n dX7_readsNumber_0 rfl rfl ?_
  refine rf_get hB dX7_readsNumber_1 fl_7_113 (by decide) ?_
  refine e_istore_n dX7_readsNumber_4 rfl (by decide) rfl ?_
  refine e_iconst (v := 0) dX7_readsNumber_5 (by decide) ?_
  refine e_istore_n dX7_readsNumber_6 rfl (by decide) rfl ?_
  exact h0
end C66

