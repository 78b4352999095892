/-! ===== the reference reads a text: steps ===== -/
theorem TI.kp {ρ : md_T} (h : TI ρ) (j : Nat) (x : Int32) : TI (prp ρ j x) := h
theorem rf_prp (ρ : md_T) (j : Nat) (x : Int32) : rf (prp ρ j x) = rf ρ := rfl
def mC3 (ρ : md_T) (c : Int32) : md_T × Int32 := if c = 116 then (ρ, 0) else mOn ρ 97 108
def mC4 (ρ : md_T) (s : Nat) (c : Int32) : md_T := prp (mC3 (prp ρ (4 * s) c) c).1 (4 * s + 1) (mC3 (prp ρ (4 * s) c) c).2
def mC5 (ρ : md_T) (s : Nat) (c : Int32) : md_T := if c = 114 then mTk (prp (mOn ρ 48 52).1 (4 * s + 2) (mOn ρ 48 52).2) 44 else ρ
def mC6 (ρ : md_T) (s : Nat) (c : Int32) : md_T := if rf ρ 7 = -1 ∧ (c = 114 ∨ c = 116) then prp (mNm ρ 999).1 (4 * s + 3) (mNm ρ 999).2 else ρ
def mC7 (ρ : md_T) (s : Nat) : md_T := prf (mTk ρ 59) 9 (nI (s + 1))
def mCl (ρ : md_T) (c : Int32) : md_T := mC7 (mC6 (mC5 (mC4 (mUp ρ) (mS ρ) c) (mS ρ) c) (mS ρ) c) (mS ρ)
theorem mC3_9 (ρ : md_T) (c : Int32) : rf (mC3 ρ c).1 9 = rf ρ 9 := by
  rw [mC3]
  split
  · rfl
  · exact (MK.kOn ρ 97 108).2.1
theorem TI.kC3 {ρ : md_T} (h : TI ρ) (c : Int32) : TI (mC3 ρ c).1 := by
  rw [mC3]
  split
  · exact h
  · exact h.kOn (by decide)
theorem mC4_9 (ρ : md_T) (s : Nat) (c : Int32) : rf (mC4 ρ s c) 9 = rf ρ 9 := by
  rw [mC4, rf_prp]
  exact mC3_9 (prp ρ (4 * s) c) c
theorem TI.kC4 {ρ : md_T} (h : TI ρ) (s : Nat) (c : Int32) : TI (mC4 ρ s c) := by
  rw [mC4]
  exact ((h.kp (4 * s) c).kC3 c).kp _ _
theorem mC5_9 (ρ : md_T) (s : Nat) (c : Int32) : rf (mC5 ρ s c) 9 = rf ρ 9 := by
  rw [mC5]
  split
  · rw [(MK.kTk _ _).2.1, rf_prp]
    exact (MK.kOn ρ 48 52).2.1
  · rfl
theorem TI.kC5 {ρ : md_T} (h : TI ρ) (s : Nat) (c : Int32) : TI (mC5 ρ s c) := by
  rw [mC5]
  split
  · exact ((h.kOn (hi := 52) (lo := 48) (by decide)).kp _ _).kTk (by decide)
  · exact h
theorem mC6_9 (ρ : md_T) (s : Nat) (c : Int32) : rf (mC6 ρ s c) 9 = rf ρ 9 := by
  rw [mC6]
  split
  · rw [rf_prp]
    exact (MK.kNm ρ 999).2.1
  · rfl
theorem TI.kC6 {ρ : md_T} (h : TI ρ) (s : Nat) (c : Int32) : TI (mC6 ρ s c) := by
  rw [mC6]
  split
  · exact (h.kNm 999).kp _ _
  · exact h
def mP1 (ρ : md_T) (s : Nat) : md_T := prp (mNm (prp ρ (4 * s) 40) 50).1 (4 * s + 1) (mNm (prp ρ (4 * s) 40) 50).2
def mP2 (ρ : md_T) : md_T := if rf ρ 11 = 4 then mFl ρ (rf ρ 6) else ρ
def mP3 (ρ : md_T) (s d : Nat) : md_T := if rf ρ 7 = -1 then prf (prf (pro ρ d (nI s)) 11 (nI (d + 1))) 9 (nI (s + 1)) else ρ
def mOpn (ρ : md_T) : md_T := mP3 (mTk (mP2 (mP1 ρ (mS ρ))) 40) (mS ρ) (mD ρ)
def mCls (ρ : md_T) : md_T := mSk (prf (prf (prp (prp (prf ρ 11 (nI (mD ρ - 1))) (4 * mS ρ) 41) (4 * mS ρ + 1) (ro ρ (mD ρ - 1))) 9 (nI (mS ρ + 1))) 6 (nI (mA ρ + 1)))
def isC (c : Int32) : Prop := c = 114 ∨ c = 119 ∨ c = 108 ∨ c = 99 ∨ c = 116
theorem TI.kP1 {ρ : md_T} (h : TI ρ) (s : Nat) : TI (mP1 ρ s) := by
  rw [mP1]
  exact ((h.kp (4 * s) 40).kNm 50).kp _ _
theorem mP1_f (ρ : md_T) (s : Nat) : rf (mP1 ρ s) 9 = rf ρ 9 ∧ rf (mP1 ρ s) 11 = rf ρ 11 := by
  have h := MK.kNm (prp ρ (4 * s) 40) 50
  rw [mP1, rf_prp]
  exact ⟨h.2.1, h.2.2.1⟩
theorem TI.kP2 {ρ : md_T} (h : TI ρ) : TI (mP2 ρ) := by
  rw [mP2]
  split
  · exact h
  · exact h
theorem mP2_f (ρ : md_T) : rf (mP2 ρ) 9 = rf ρ 9 ∧ rf (mP2 ρ) 11 = rf ρ 11 := by
  rw [mP2]
  split
  · exact ⟨rfl, rfl⟩
  · exact ⟨rfl, rfl⟩
section C67
variable {S : List aiS} {M : Nat → Nat → Int32} {J : Nat → Int64} {ρ : md_T} {b : Nat}
theorem c_X7_readsCall (hB : MS S b) (hs : TI ρ) (h1 : mA ρ < mL ρ) (h9 : rf ρ 9 = nI (mS ρ)) (hs9 : mS ρ ≤ 99) (c : Int32) : AM G_X7_readsCall [.ref b, .int c] S (md_put b ρ M) J (none, S, md_put b (mCl ρ c) M, J) := by
  have hinc : rf ρ 6 + 1 = nI (mA ρ + 1) := by rw [hs.2.1, nI_1]
  have hU := hs.kUp h1
  have hU9 : rf (mUp ρ) 9 = nI (mS ρ) := h9
  have hsk := c_X7_skips (M := M) (J := J) hB (hs.at (a := mA ρ + 1) (by omega))
  refine AM_gen (fun out ho => ?_)
  refine AM_of [.ref b, .int c] (by decide) rfl (fun B => (Nat.le_of_ble_eq_true rfl)) ?_
  rw [mCl] at ho
  revert ho hU9 hs9
  generalize hse : mS ρ = s
  intro hs9 hU9 ho
  have t130 : ∀ ρ6 : md_T, TI ρ6 → rf ρ6 9 = nI s → out = (none, S, md_put b (mC7 ρ6 s) M, J) → AW G_X7_readsCall out 0 0 130 [.ref b, .int c] [] S (md_put b ρ6 M) J := by
    intro ρ6 h6 h69 ho
    have e9 : rf (mTk ρ6 59) 9 + 1 = nI (s + 1) := by rw [(MK.kTk ρ6 59).2.1, h69, nI_1]
    refine e_aload_n dX7_readsCall_130 rfl rfl ?_
    refine e_bipush (v := 59) dX7_readsCall_131 (by decide) ?_
    refine e_cV0 dX7_readsCall_133 ml_7_134 (c_X7_takes hB h6 (by decide)) hB.a0 rfl rfl (by decide) (Nat.le_of_ble_eq_true rfl) ⟨rfl, rfl⟩ (Nat.le_of_ble_eq_true rfl) (Nat.le_of_ble_eq_true rfl) ?_
    refine e_aload_n dX7_readsCall_136 rfl rfl ?_
    refine e_dup dX7_readsCall_137 rfl ?_
    refine rf_get hB dX7_readsCall_138 fl_7_128 (by decide) ?_
    refine e_iconst (v := 1) dX7_readsCall_141 (by decide) ?_
    refine e_iadd dX7_readsCall_142 ?_
    refine rf_put hB dX7_readsCall_143 fl_7_128 ?_
    rw [e9]
    exact e_vret dX7_readsCall_146 rfl ho (Nat.le_of_ble_eq_true rfl) (Nat.le_of_ble_eq_true rfl)
  have t90 : ∀ ρ5 : md_T, TI ρ5 → rf ρ5 9 = nI s → out = (none, S, md_put b (mC7 (mC6 ρ5 s c) s) M, J) → AW G_X7_readsCall out 0 0 90 [.ref b, .int c] [] S (md_put b ρ5 M) J := by
    intro ρ5 h5 h59 ho
    have i3 : 4 * rf ρ5 9 + 3 = nI (4 * s + 3) := ai_add (ai_mul (ai_lit 4) h59) (ai_lit 3)
    have hbd : 4 * s + 3 < 400 := by omega
    have tnum : rf ρ5 7 = -1 → (c = 114 ∨ c = 116) → AW G_X7_readsCall out 0 0 110 [.ref b, .int c] [] S (md_put b ρ5 M) J := by
      intro g7 gc
      have h6 := h5.kC6 s c
      have h69 := (mC6_9 ρ5 s c).trans h59
      have hq := t130 _ h6 h69 ho
      rw [mC6, if_pos ⟨g7, gc⟩] at hq
      refine e_aload_n dX7_readsCall_110 rfl rfl ?_
      refine e_getr dX7_readsCall_111 fl_7_26 hB.a0 rfl ?_
      refine e_iconst (v := 4) dX7_readsCall_114 (by decide) ?_
      refine e_aload_n dX7_readsCall_115 rfl rfl ?_
      refine rf_get hB dX7_readsCall_116 fl_7_128 (by decide) ?_
      refine e_imul dX7_readsCall_119 ?_
      refine e_iconst (v := 3) dX7_readsCall_120 (by decide) ?_
      refine e_iadd dX7_readsCall_121 ?_
      refine e_as (nI ((4 * s + 3))) i3 ?_
      refine e_aload_n dX7_readsCall_122 rfl rfl ?_
      refine e_sipush (v := 999) dX7_readsCall_123 (by decide) ?_
      refine e_cV1 dX7_readsCall_126 ml_7_137 (c_X7_readsNumber hB h5) hB.a0 rfl rfl (by decide) (Nat.le_of_ble_eq_true rfl) ⟨rfl, rfl⟩ (Nat.le_of_ble_eq_true rfl) (Nat.le_of_ble_eq_true rfl) ?_
      refine rp_st ((4 * s + 3)) hB dX7_readsCall_129 rfl (by first | assumption | omega) ?_
      exact hq
    have tno : ¬ (rf ρ5 7 = -1 ∧ (c = 114 ∨ c = 116)) → AW G_X7_readsCall out 0 0 130 [.ref b, .int c] [] S (md_put b ρ5 M) J := by
      intro g
      rw [mC6, if_neg g] at ho
      exact t130 ρ5 h5 h59 ho
    refine e_aload_n dX7_readsCall_90 rfl rfl ?_
    refine rf_get hB dX7_readsCall_91 fl_7_119 (by decide) ?_
    refine e_iconst (v := (-1)) dX7_readsCall_94 (by decide) ?_
    refine e_icmp_ne 130 dX7_readsCall_95 (by decide) (fun h95 => ?_) (fun h95 => ?_)
    · exact tno (fun z => h95 z.1)
    · refine e_iload_n dX7_readsCall_98 rfl rfl ?_
      refine e_bipush (v := 114) dX7_readsCall_99 (by decide) ?_
      refine e_icmp_eq 110 dX7_readsCall_101 (by decide) (fun h101 => ?_) (fun h101 => ?_)
      · exact tnum h95 (Or.inl h101)
      · refine e_iload_n dX7_readsCall_104 rfl rfl ?_
        refine e_bipush (v := 116) dX7_readsCall_105 (by decide) ?_
        refine e_icmp_ne 130 dX7_readsCall_107 (by decide) (fun h107 => ?_) (fun h107 => ?_)
        · exact tno (fun z => z.2.elim h101 h107)
        · exact tnum h95 (Or.inr h107)
  have t57 : ∀ ρ4 : md_T, TI ρ4 → rf ρ4 9 = nI s → out = (none, S, md_put b (mC7 (mC6 (mC5 ρ4 s c) s c) s) M, J) → AW G_X7_readsCall out 0 0 57 [.ref b, .int c] [] S (md_put b ρ4 M) J := by
    intro ρ4 h4 h49 ho
    have i2 : 4 * rf ρ4 9 + 2 = nI (4 * s + 2) := ai_add (ai_mul (ai_lit 4) h49) (ai_lit 2)
    have hbd : 4 * s + 2 < 400 := by omega
    have h5 := h4.kC5 s c
    have h59 := (mC5_9 ρ4 s c).trans h49
    have hq := t90 _ h5 h59 ho
    by_cases c114 : c = 114
    · rw [mC5, if_pos c114] at hq
      have h1 : TI (prp (mOn ρ4 48 52).1 (4 * s + 2) (mOn ρ4 48 52).2) := (h4.kOn (by decide)).kp _ _
      refine e_iload_n dX7_readsCall_57 rfl rfl ?_
      refine e_bipush (v := 114) dX7_readsCall_58 (by decide) ?_
      refine e_icmp_ne 90 dX7_readsCall_60 (by decide) (fun h60 => ?_) (fun h60 => ?_)
      · exact absurd c114 h60
      · refine e_aload_n dX7_readsCall_63 rfl rfl ?_
        refine e_getr dX7_readsCall_64 fl_7_26 hB.a0 rfl ?_
        refine e_iconst (v := 4) dX7_readsCall_67 (by decide) ?_
        refine e_aload_n dX7_readsCall_68 rfl rfl ?_
        refine rf_get hB dX7_readsCall_69 fl_7_128 (by decide) ?_
        refine e_imul dX7_readsCall_72 ?_
        refine e_iconst (v := 2) dX7_readsCall_73 (by decide) ?_
        refine e_iadd dX7_readsCall_74 ?_
        refine e_as (nI ((4 * s + 2))) i2 ?_
        refine e_aload_n dX7_readsCall_75 rfl rfl ?_
        refine e_bipush (v := 48) dX7_readsCall_76 (by decide) ?_
        refine e_bipush (v := 52) dX7_readsCall_78 (by decide) ?_
        refine e_cV1 dX7_readsCall_80 ml_7_131 (c_X7_readsOne hB h4 (by decide)) hB.a0 rfl rfl (by decide) (Nat.le_of_ble_eq_true rfl) ⟨rfl, rfl⟩ (Nat.le_of_ble_eq_true rfl) (Nat.le_of_ble_eq_true rfl) ?_
        refine rp_st ((4 * s + 2)) hB dX7_readsCall_83 rfl (by first | assumption | omega) ?_
        refine e_aload_n dX7_readsCall_84 rfl rfl ?_
        refine e_bipush (v := 44) dX7_readsCall_85 (by decide) ?_
        refine e_cV0 dX7_readsCall_87 ml_7_134 (c_X7_takes hB h1 (by decide)) hB.a0 rfl rfl (by decide) (Nat.le_of_ble_eq_true rfl) ⟨rfl, rfl⟩ (Nat.le_of_ble_eq_true rfl) (Nat.le_of_ble_eq_true rfl) ?_
        exact hq
    · rw [mC5, if_neg c114] at hq
      refine e_iload_n dX7_readsCall_57 rfl rfl ?_
      refine e_bipush (v := 114) dX7_readsCall_58 (by decide) ?_
      refine e_icmp_ne 90 dX7_readsCall_60 (by decide) (fun h60 => ?_) (fun h60 => ?_)
      · exact hq
      · exact absurd h60 c114
  have h4 := hU.kC4 s c
  have h49 := (mC4_9 (mUp ρ) s c).trans hU9
  have hq := t57 _ h4 h49 ho
  rw [mUp] at hq hU hU9
  revert hq hU hU9
  have i0 : ∀ ρ1 : md_T, rf ρ1 9 = nI s → 4 * rf ρ1 9 = nI (4 * s) := fun ρ1 h => ai_mul (ai_lit 4) h
  have hb0 : 4 * s < 400 := by omega
  have hb1 : 4 * s + 1 < 400 := by omega
  intro hU hU9 hq
  have i1 : 4 * rf (prp (mSk (prf ρ 6 (nI (mA ρ + 1)))) (4 * s) c) 9 + 1 = nI (4 * s + 1) := ai_add (ai_mul (ai_lit 4) hU9) (ai_lit 1)
  refine e_aload_n dX7_readsCall_0 rfl rfl ?_
  refine e_dup dX7_readsCall_1 rfl ?_
  refine rf_get hB dX7_readsCall_2 fl_7_113 (by decide) ?_
  refine e_iconst (v := 1) dX7_readsCall_5 (by decide) ?_
  refine e_iadd dX7_readsCall_6 ?_
  refine rf_put hB dX7_readsCall_7 fl_7_113 ?_
  rw [hinc]
  refine e_aload_n dX7_readsCall_10 rfl rfl ?_
  refine e_cV0 dX7_readsCall_11 ml_7_122 hsk hB.a0 rfl rfl (by decide) (Nat.le_of_ble_eq_true rfl) ⟨rfl, rfl⟩ (Nat.le_of_ble_eq_true rfl) (Nat.le_of_ble_eq_true rfl) ?_
  refine e_aload_n dX7_readsCall_14 rfl rfl ?_
  refine e_getr dX7_readsCall_15 fl_7_26 hB.a0 rfl ?_
  refine e_iconst (v := 4) dX7_readsCall_18 (by decide) ?_
  refine e_aload_n dX7_readsCall_19 rfl rfl ?_
  refine rf_get hB dX7_readsCall_20 fl_7_128 (by decide) ?_
  refine e_imul dX7_readsCall_23 ?_
  refine e_as (nI ((4 * s))) (i0 _ hU9) ?_
  refine e_iload_n dX7_readsCall_24 rfl rfl ?_
  refine rp_st ((4 * s)) hB dX7_readsCall_25 rfl (by first | assumption | omega) ?_
  refine e_aload_n dX7_readsCall_26 rfl rfl ?_
  refine e_getr dX7_readsCall_27 fl_7_26 hB.a0 rfl ?_
  refine e_iconst (v := 4) dX7_readsCall_30 (by decide) ?_
  refine e_aload_n dX7_readsCall_31 rfl rfl ?_
  refine rf_get hB dX7_readsCall_32 fl_7_128 (by decide) ?_
  refine e_imul dX7_readsCall_35 ?_
  refine e_iconst (v := 1) dX7_readsCall_36 (by decide) ?_
  refine e_iadd dX7_readsCall_37 ?_
  refine e_as (nI ((4 * s + 1))) i1 ?_
  refine e_iload_n dX7_readsCall_38 rfl rfl ?_
  refine e_bipush (v := 116) dX7_readsCall_39 (by decide) ?_
  by_cases c116 : c = 116
  · rw [mC4, mC3, if_pos c116] at hq
    refine e_icmp_ne 48 dX7_readsCall_41 (by decide) (fun h41 => ?_) (fun h41 => ?_)
    · exact absurd c116 h41
    · refine e_iconst (v := 0) dX7_readsCall_44 (by decide) ?_
      refine e_goto 56 dX7_readsCall_45 (by decide) ?_
      refine rp_st ((4 * s + 1)) hB dX7_readsCall_56 rfl (by first | assumption | omega) ?_
      exact hq
  · rw [mC4, mC3, if_neg c116] at hq
    refine e_icmp_ne 48 dX7_readsCall_41 (by decide) (fun h41 => ?_) (fun h41 => ?_)
    · refine e_aload_n dX7_readsCall_48 rfl rfl ?_
      refine e_bipush (v := 97) dX7_readsCall_49 (by decide) ?_
      refine e_bipush (v := 108) dX7_readsCall_51 (by decide) ?_
      refine e_cV1 dX7_readsCall_53 ml_7_131 (c_X7_readsOne (ρ := prp (mSk (prf ρ 6 (nI (mA ρ + 1)))) (4 * s) c) hB hU (by decide)) hB.a0 rfl rfl (by decide) (Nat.le_of_ble_eq_true rfl) ⟨rfl, rfl⟩ (Nat.le_of_ble_eq_true rfl) (Nat.le_of_ble_eq_true rfl) ?_
      refine rp_st ((4 * s + 1)) hB dX7_readsCall_56 rfl (by first | assumption | omega) ?_
      exact hq
    · exact absurd h41 c116
/-- what a step asks of the state -/
def PM (ρ : md_T) : Prop := TI ρ ∧ rf ρ 9 = nI (mS ρ) ∧ mS ρ ≤ 99 ∧ rf ρ 11 = nI (mD ρ) ∧ mD ρ ≤ 4
def mSt (ρ : md_T) : md_T := if nxt ρ = 114 ∨ nxt ρ = 119 ∨ nxt ρ = 108 ∨ nxt ρ = 99 ∨ nxt ρ = 116 then mCl ρ (nxt ρ) else if nxt ρ = 41 ∧ 0 < mD ρ then mCls ρ else mOpn ρ
theorem c_X7_readsStep (hB : MS S b) (hp : PM ρ) (h1 : mA ρ < mL ρ) : AM G_X7_readsStep [.ref b] S (md_put b ρ M) J (none, S, md_put b (mSt ρ) M, J) := by
  obtain ⟨hs, h9, hs9, h11, hd4⟩ := hp
  have hinc6 : rf ρ 6 + 1 = nI (mA ρ + 1) := by rw [hs.2.1, nI_1]
  have hcall := c_X7_readsCall (M := M) (J := J) hB hs h1 h9 hs9 (nxt ρ)
  refine AM_gen (fun out ho => ?_)
  refine AM_of [.ref b, .retAddr 0] (by decide) rfl (fun B => (Nat.le_of_ble_eq_true rfl)) ?_
  have tc : (nxt ρ = 114 ∨ nxt ρ = 119 ∨ nxt ρ = 108 ∨ nxt ρ = 99 ∨ nxt ρ = 116) → AW G_X7_readsStep out 0 0 35 [.ref b, .int (nxt ρ)] [] S (md_put b ρ M) J := by
    intro hc
    rw [mSt, if_pos hc] at ho
    refine e_aload_n dX7_readsStep_35 rfl rfl ?_
    refine e_iload_n dX7_readsStep_36 rfl rfl ?_
    refine e_cV0 dX7_readsStep_37 ml_7_140 hcall hB.a0 rfl rfl (by decide) (Nat.le_of_ble_eq_true rfl) ⟨rfl, rfl⟩ (Nat.le_of_ble_eq_true rfl) (Nat.le_of_ble_eq_true rfl) ?_
    refine e_goto 223 dX7_readsStep_40 (by decide) ?_
    exact e_vret dX7_readsStep_223 rfl ho (Nat.le_of_ble_eq_true rfl) (Nat.le_of_ble_eq_true rfl)
  have to : ¬ (nxt ρ = 114 ∨ nxt ρ = 119 ∨ nxt ρ = 108 ∨ nxt ρ = 99 ∨ nxt ρ = 116) → ¬ (nxt ρ = 41 ∧ 0 < mD ρ) → AW G_X7_readsStep out 0 0 128 [.ref b, .int (nxt ρ)] [] S (md_put b ρ M) J := by
    intro hc hq
    rw [mSt, if_neg hc, if_neg hq, mOpn] at ho
    revert ho
    generalize hse : mS ρ = s
    generalize hde : mD ρ = d
    intro ho
    rw [hse] at h9 hs9
    rw [hde] at h11 hd4
    have i0 : 4 * rf ρ 9 = nI (4 * s) := ai_mul (ai_lit 4) h9
    have i1 : 4 * rf (prp ρ (4 * s) 40) 9 + 1 = nI (4 * s + 1) := ai_add (ai_mul (ai_lit 4) h9) (ai_lit 1)
    have hb0 : 4 * s < 400 := by omega
    have hb1 : 4 * s + 1 < 400 := by omega
    have h40 : TI (prp ρ (4 * s) 40) := hs
    have f1 := mP1_f ρ s
    have g1 := hs.kP1 s
    have t160 : AW G_X7_readsStep out 0 0 160 [.ref b, .int (nxt ρ)] [] S (md_put b (mP1 ρ s) M) J := by
      have f2 := mP2_f (mP1 ρ s)
      have g2 := g1.kP2
      rw [f1.1] at f2
      rw [f1.2] at f2
      have t176 : AW G_X7_readsStep out 0 0 176 [.ref b, .int (nxt ρ)] [] S (md_put b (mP2 (mP1 ρ s)) M) J := by
        revert ho f2 g2
        generalize mP2 (mP1 ρ s) = ρ4
        intro ho f2 g2
        have f3 := MK.kTk ρ4 40
        have htk := c_X7_takes (M := M) (J := J) hB g2 (sg := 40) (by decide)
        refine e_aload_n dX7_readsStep_176 rfl rfl ?_
        refine e_bipush (v := 40) dX7_readsStep_177 (by decide) ?_
        refine e_cV0 dX7_readsStep_179 ml_7_134 htk hB.a0 rfl rfl (by decide) (Nat.le_of_ble_eq_true rfl) ⟨rfl, rfl⟩ (Nat.le_of_ble_eq_true rfl) (Nat.le_of_ble_eq_true rfl) ?_
        revert ho f3
        generalize mTk ρ4 40 = ρ5
        intro ho f3
        have e9 : rf ρ5 9 = nI s := by rw [f3.2.1, f2.1, h9]
        have e11 : rf ρ5 11 = nI d := by rw [f3.2.2.1, f2.2, h11]
        refine e_aload_n dX7_readsStep_182 rfl rfl ?_
        refine rf_get hB dX7_readsStep_183 fl_7_119 (by decide) ?_
        refine e_iconst (v := (-1)) dX7_readsStep_186 (by decide) ?_
        by_cases h7 : rf ρ5 7 = -1
        · rw [mP3, if_pos h7] at ho
          refine e_icmp_ne 223 dX7_readsStep_187 (by decide) (fun h187 => ?_) (fun h187 => ?_)
          · exact absurd h7 h187
          · have hd5 : d < 5 := by omega
            refine e_aload_n dX7_readsStep_190 rfl rfl ?_
            refine e_getr dX7_readsStep_191 fl_7_29 hB.a0 rfl ?_
            refine e_aload_n dX7_readsStep_194 rfl rfl ?_
            refine rf_get hB dX7_readsStep_195 fl_7_143 (by decide) ?_
            refine e_aload_n dX7_readsStep_198 rfl rfl ?_
            refine rf_get hB dX7_readsStep_199 fl_7_128 (by decide) ?_
            refine ro_st d hB dX7_readsStep_202 e11 hd5 ?_
            rw [e9]
            refine e_aload_n dX7_readsStep_203 rfl rfl ?_
            refine e_dup dX7_readsStep_204 rfl ?_
            refine rf_get hB dX7_readsStep_205 fl_7_143 (by decide) ?_
            refine e_iconst (v := 1) dX7_readsStep_208 (by decide) ?_
            refine e_iadd dX7_readsStep_209 ?_
            refine rf_put hB dX7_readsStep_210 fl_7_143 ?_
            rw [show rf (pro ρ5 d (nI s)) 11 + 1 = nI (d + 1) by show rf ρ5 11 + 1 = _; rw [e11, nI_1]]
            refine e_aload_n dX7_readsStep_213 rfl rfl ?_
            refine e_dup dX7_readsStep_214 rfl ?_
            refine rf_get hB dX7_readsStep_215 fl_7_128 (by decide) ?_
            refine e_iconst (v := 1) dX7_readsStep_218 (by decide) ?_
            refine e_iadd dX7_readsStep_219 ?_
            refine rf_put hB dX7_readsStep_220 fl_7_128 ?_
            rw [show rf (prf (pro ρ5 d (nI s)) 11 (nI (d + 1))) 9 + 1 = nI (s + 1) by show rf ρ5 9 + 1 = _; rw [e9, nI_1]]
            exact e_vret dX7_readsStep_223 rfl ho (Nat.le_of_ble_eq_true rfl) (Nat.le_of_ble_eq_true rfl)
        · rw [mP3, if_neg h7] at ho
          refine e_icmp_ne 223 dX7_readsStep_187 (by decide) (fun h187 => ?_) (fun h187 => ?_)
          · exact e_vret dX7_readsStep_223 rfl ho (Nat.le_of_ble_eq_true rfl) (Nat.le_of_ble_eq_true rfl)
          · exact absurd h187 h7
      refine e_aload_n dX7_readsStep_160 rfl rfl ?_
      refine rf_get hB dX7_readsStep_161 fl_7_143 (by decide) ?_
      refine e_iconst (v := 4) dX7_readsStep_164 (by decide) ?_
      by_cases hd : rf (mP1 ρ s) 11 = 4
      · rw [mP2, if_pos hd] at t176
        refine e_icmp_ne 176 dX7_readsStep_165 (by decide) (fun h165 => ?_) (fun h165 => ?_)
        · exact absurd hd h165
        · refine e_aload_n dX7_readsStep_168 rfl rfl ?_
          refine e_aload_n dX7_readsStep_169 rfl rfl ?_
          refine rf_get hB dX7_readsStep_170 fl_7_113 (by decide) ?_
          refine e_cV0 dX7_readsStep_173 ml_7_125 (c_X7_fails hB _) hB.a0 rfl rfl (by decide) (Nat.le_of_ble_eq_true rfl) ⟨rfl, rfl⟩ (Nat.le_of_ble_eq_true rfl) (Nat.le_of_ble_eq_true rfl) ?_
          exact t176
      · rw [mP2, if_neg hd] at t176
        refine e_icmp_ne 176 dX7_readsStep_165 (by decide) (fun h165 => ?_) (fun h165 => ?_)
        · exact t176
        · exact absurd h165 hd
    refine e_aload_n dX7_readsStep_128 rfl rfl ?_
    refine e_getr dX7_readsStep_129 fl_7_26 hB.a0 rfl ?_
    refine e_iconst (v := 4) dX7_readsStep_132 (by decide) ?_
    refine e_aload_n dX7_readsStep_133 rfl rfl ?_
    refine rf_get hB dX7_readsStep_134 fl_7_128 (by decide) ?_
    refine e_imul dX7_readsStep_137 ?_
    refine e_as (nI ((4 * s))) i0 ?_
    refine e_bipush (v := 40) dX7_readsStep_138 (by decide) ?_
    refine rp_st ((4 * s)) hB dX7_readsStep_140 rfl (by first | assumption | omega) ?_
    refine e_aload_n dX7_readsStep_141 rfl rfl ?_
    refine e_getr dX7_readsStep_142 fl_7_26 hB.a0 rfl ?_
    refine e_iconst (v := 4) dX7_readsStep_145 (by decide) ?_
    refine e_aload_n dX7_readsStep_146 rfl rfl ?_
    refine rf_get hB dX7_readsStep_147 fl_7_128 (by decide) ?_
    refine e_imul dX7_readsStep_150 ?_
    refine e_iconst (v := 1) dX7_readsStep_151 (by decide) ?_
    refine e_iadd dX7_readsStep_152 ?_
    refine e_as (nI ((4 * s + 1))) i1 ?_
    refine e_aload_n dX7_readsStep_153 rfl rfl ?_
    refine e_bipush (v := 50) dX7_readsStep_154 (by decide) ?_
    refine e_cV1 dX7_readsStep_156 ml_7_137 (c_X7_readsNumber hB h40) hB.a0 rfl rfl (by decide) (Nat.le_of_ble_eq_true rfl) ⟨rfl, rfl⟩ (Nat.le_of_ble_eq_true rfl) (Nat.le_of_ble_eq_true rfl) ?_
    refine rp_st ((4 * s + 1)) hB dX7_readsStep_159 rfl (by first | assumption | omega) ?_
    exact t160
  have tcl : ¬ (nxt ρ = 114 ∨ nxt ρ = 119 ∨ nxt ρ = 108 ∨ nxt ρ = 99 ∨ nxt ρ = 116) → nxt ρ = 41 → 0 < mD ρ → AW G_X7_readsStep out 0 0 56 [.ref b, .int (nxt ρ)] [] S (md_put b ρ M) J := by
    intro hc hq h0
    rw [mSt, if_neg hc, if_pos ⟨hq, h0⟩, mCls] at ho
    revert ho
    generalize hse : mS ρ = s
    generalize hde : mD ρ = d
    intro ho
    rw [hse] at h9 hs9
    rw [hde] at h11 hd4 h0
    have hb0 : 4 * s < 400 := by omega
    have hb1 : 4 * s + 1 < 400 := by omega
    have hdd : d - 1 < 5 := by omega
    have hdec : rf ρ 11 - 1 = nI (d - 1) := by rw [h11]; exact nI_sb (a := d) (b := 1) (by omega)
    have i0 : 4 * rf (prf ρ 11 (nI (d - 1))) 9 = nI (4 * s) := ai_mul (ai_lit 4) h9
    have i1 : 4 * rf (prp (prf ρ 11 (nI (d - 1))) (4 * s) 41) 9 + 1 = nI (4 * s + 1) := ai_add (ai_mul (ai_lit 4) h9) (ai_lit 1)
    have hz : TI (prf (prp (prp (prf ρ 11 (nI (d - 1))) (4 * s) 41) (4 * s + 1) (ro ρ (d - 1))) 9 (nI (s + 1))) := hs
    have hsk := c_X7_skips (M := M) (J := J) hB (hz.at (a := mA ρ + 1) (by show _ ≤ mL ρ; omega))
    refine e_aload_n dX7_readsStep_56 rfl rfl ?_
    refine e_dup dX7_readsStep_57 rfl ?_
    refine rf_get hB dX7_readsStep_58 fl_7_143 (by decide) ?_
    refine e_iconst (v := 1) dX7_readsStep_61 (by decide) ?_
    refine e_isub dX7_readsStep_62 ?_
    refine rf_put hB dX7_readsStep_63 fl_7_143 ?_
    rw [hdec]
    refine e_aload_n dX7_readsStep_66 rfl rfl ?_
    refine e_getr dX7_readsStep_67 fl_7_26 hB.a0 rfl ?_
    refine e_iconst (v := 4) dX7_readsStep_70 (by decide) ?_
    refine e_aload_n dX7_readsStep_71 rfl rfl ?_
    refine rf_get hB dX7_readsStep_72 fl_7_128 (by decide) ?_
    refine e_imul dX7_readsStep_75 ?_
    refine e_as (nI ((4 * s))) i0 ?_
    refine e_bipush (v := 41) dX7_readsStep_76 (by decide) ?_
    refine rp_st ((4 * s)) hB dX7_readsStep_78 rfl (by first | assumption | omega) ?_
    refine e_aload_n dX7_readsStep_79 rfl rfl ?_
    refine e_getr dX7_readsStep_80 fl_7_26 hB.a0 rfl ?_
    refine e_iconst (v := 4) dX7_readsStep_83 (by decide) ?_
    refine e_aload_n dX7_readsStep_84 rfl rfl ?_
    refine rf_get hB dX7_readsStep_85 fl_7_128 (by decide) ?_
    refine e_imul dX7_readsStep_88 ?_
    refine e_iconst (v := 1) dX7_readsStep_89 (by decide) ?_
    refine e_iadd dX7_readsStep_90 ?_
    refine e_as (nI ((4 * s + 1))) i1 ?_
    refine e_aload_n dX7_readsStep_91 rfl rfl ?_
    refine e_getr dX7_readsStep_92 fl_7_29 hB.a0 rfl ?_
    refine e_aload_n dX7_readsStep_95 rfl rfl ?_
    refine rf_get hB dX7_readsStep_96 fl_7_143 (by decide) ?_
    refine ro_ld ((d - 1)) hB dX7_readsStep_99 rfl hdd ?_
    refine rp_st ((4 * s + 1)) hB dX7_readsStep_100 rfl (by first | assumption | omega) ?_
    refine e_aload_n dX7_readsStep_101 rfl rfl ?_
    refine e_dup dX7_readsStep_102 rfl ?_
    refine rf_get hB dX7_readsStep_103 fl_7_128 (by decide) ?_
    refine e_iconst (v := 1) dX7_readsStep_106 (by decide) ?_
    refine e_iadd dX7_readsStep_107 ?_
    refine rf_put hB dX7_readsStep_108 fl_7_128 ?_
    rw [show rf (prp (prp (prf ρ 11 (nI (d - 1))) (4 * s) 41) (4 * s + 1) (ro (prp (prf ρ 11 (nI (d - 1))) (4 * s) 41) (d - 1))) 9 + 1 = nI (s + 1) by show rf ρ 9 + 1 = _; rw [h9, nI_1]]
    refine e_aload_n dX7_readsStep_111 rfl rfl ?_
    refine e_dup dX7_readsStep_112 rfl ?_
    refine rf_get hB dX7_readsStep_113 fl_7_113 (by decide) ?_
    refine e_iconst (v := 1) dX7_readsStep_116 (by decide) ?_
    refine e_iadd dX7_readsStep_117 ?_
    refine rf_put hB dX7_readsStep_118 fl_7_113 ?_
    rw [show rf (prf (prp (prp (prf ρ 11 (nI (d - 1))) (4 * s) 41) (4 * s + 1) (ro (prp (prf ρ 11 (nI (d - 1))) (4 * s) 41) (d - 1))) 9 (nI (s + 1))) 6 + 1 = nI (mA ρ + 1) from hinc6]
    refine e_aload_n dX7_readsStep_121 rfl rfl ?_
    refine e_cV0 dX7_readsStep_122 ml_7_122 hsk hB.a0 rfl rfl (by decide) (Nat.le_of_ble_eq_true rfl) ⟨rfl, rfl⟩ (Nat.le_of_ble_eq_true rfl) (Nat.le_of_ble_eq_true rfl) ?_
    refine e_goto 223 dX7_readsStep_125 (by decide) ?_
    exact e_vret dX7_readsStep_223 rfl ho (Nat.le_of_ble_eq_true rfl) (Nat.le_of_ble_eq_true rfl)
  refine e_aload_n dX7_readsStep_0 rfl rfl ?_
  refine e_cV1 dX7_readsStep_1 ml_7_116 (c_X7_next hB hs) hB.a0 rfl rfl (by decide) (Nat.le_of_ble_eq_true rfl) ⟨rfl, rfl⟩ (Nat.le_of_ble_eq_true rfl) (Nat.le_of_ble_eq_true rfl) ?_
  refine e_istore_n dX7_readsStep_4 rfl (by decide) rfl ?_
  refine e_iload_n dX7_readsStep_5 rfl rfl ?_
  refine e_bipush (v := 114) dX7_readsStep_6 (by decide) ?_
  refine e_icmp_eq 35 dX7_readsStep_8 (by decide) (fun h8 => ?_) (fun h8 => ?_)
  · exact tc (Or.inl h8)
  · refine e_iload_n dX7_readsStep_11 rfl rfl ?_
    refine e_bipush (v := 119) dX7_readsStep_12 (by decide) ?_
    refine e_icmp_eq 35 dX7_readsStep_14 (by decide) (fun h14 => ?_) (fun h14 => ?_)
    · exact tc (Or.inr (Or.inl h14))
    · refine e_iload_n dX7_readsStep_17 rfl rfl ?_
      refine e_bipush (v := 108) dX7_readsStep_18 (by decide) ?_
      refine e_icmp_eq 35 dX7_readsStep_20 (by decide) (fun h20 => ?_) (fun h20 => ?_)
      · exact tc (Or.inr (Or.inr (Or.inl h20)))
      · refine e_iload_n dX7_readsStep_23 rfl rfl ?_
        refine e_bipush (v := 99) dX7_readsStep_24 (by decide) ?_
        refine e_icmp_eq 35 dX7_readsStep_26 (by decide) (fun h26 => ?_) (fun h26 => ?_)
        · exact tc (Or.inr (Or.inr (Or.inr (Or.inl h26))))
        · refine e_iload_n dX7_readsStep_29 rfl rfl ?_
          refine e_bipush (v := 116) dX7_readsStep_30 (by decide) ?_
          refine e_icmp_ne 43 dX7_readsStep_32 (by decide) (fun h32 => ?_) (fun h32 => ?_)
          · have hc : ¬ (nxt ρ = 114 ∨ nxt ρ = 119 ∨ nxt ρ = 108 ∨ nxt ρ = 99 ∨ nxt ρ = 116) := by
              rintro (z | z | z | z | z)
              · exact h8 z
              · exact h14 z
              · exact h20 z
              · exact h26 z
              · exact h32 z
            refine e_iload_n dX7_readsStep_43 rfl rfl ?_
            refine e_bipush (v := 41) dX7_readsStep_44 (by decide) ?_
            refine e_icmp_ne 128 dX7_readsStep_46 (by decide) (fun h46 => ?_) (fun h46 => ?_)
            · exact to hc (fun z => h46 z.1)
            · refine e_aload_n dX7_readsStep_49 rfl rfl ?_
              refine rf_get hB dX7_readsStep_50 fl_7_143 (by decide) ?_
              by_cases h0 : 0 < mD ρ
              · refine e_if_le 128 dX7_readsStep_53 (by decide) (fun h53 => ?_) (fun h53 => ?_)
                · rw [h11] at h53
                  exact absurd h53 (nI_nle h0 (by omega))
                · exact tcl hc h46 h0
              · refine e_if_le 128 dX7_readsStep_53 (by decide) (fun h53 => ?_) (fun h53 => ?_)
                · exact to hc (fun z => h0 z.2)
                · rw [h11, show mD ρ = 0 by omega] at h53
                  exact absurd (by decide) h53
          · exact tc (Or.inr (Or.inr (Or.inr (Or.inr h32))))
def mLoop : Nat → md_T → md_T → Prop
  | 0, _, _ => False
  | n + 1, ρ, ρ' => TI ρ ∧ (mA ρ < mL ρ ∧ rf ρ 7 = -1 → PM ρ ∧ mLoop n (mSt ρ) ρ') ∧ (¬ (mA ρ < mL ρ ∧ rf ρ 7 = -1) → ρ' = ρ)
def mBegin (ρ : md_T) : md_T := prf (prf (prf (prf ρ 6 0) 7 (-1)) 9 0) 11 0
def mEnd (ρ : md_T) : md_T := if 0 < rf ρ 11 then mFl ρ (rf ρ 5) else ρ
theorem c_X7_reads (hB : MS S b) (hl : rf ρ 5 = nI (mL ρ)) (hl4 : mL ρ ≤ 100) {n : Nat} {ρ' : md_T} (hlp : mLoop n (mSk (mBegin ρ)) ρ') : AM G_X7_reads [.ref b] S (md_put b ρ M) J (none, S, md_put b (mEnd ρ') M, J) := by
  have h0 : TI (mBegin ρ) := ⟨⟨hl, hl4⟩, rfl, Nat.zero_le _⟩
  refine AM_gen (fun out ho => ?_)
  refine AM_of [.ref b] (by decide) rfl (fun B => (Nat.le_of_ble_eq_true rfl)) ?_
  have hend : AW G_X7_reads out 0 0 50 [.ref b] [] S (md_put b ρ' M) J := by
    refine e_aload_n dX7_reads_50 rfl rfl ?_
    refine rf_get hB dX7_reads_51 fl_7_143 (by decide) ?_
    refine e_if_le 65 dX7_reads_54 (by decide) (fun h54 => ?_) (fun h54 => ?_)
    · rw [mEnd, if_neg (Int32.not_lt.mpr h54)] at ho
      exact e_vret dX7_reads_65 rfl ho (Nat.le_of_ble_eq_true rfl) (Nat.le_of_ble_eq_true rfl)
    · rw [mEnd, if_pos (Int32.not_le.mp h54)] at ho
      refine e_aload_n dX7_reads_57 rfl rfl ?_
      refine e_aload_n dX7_reads_58 rfl rfl ?_
      refine rf_get hB dX7_reads_59 fl_7_109 (by decide) ?_
      refine e_cV0 dX7_reads_62 ml_7_125 (c_X7_fails hB _) hB.a0 rfl rfl (by decide) (Nat.le_of_ble_eq_true rfl) ⟨rfl, rfl⟩ (Nat.le_of_ble_eq_true rfl) (Nat.le_of_ble_eq_true rfl) ?_
      exact e_vret dX7_reads_65 rfl ho (Nat.le_of_ble_eq_true rfl) (Nat.le_of_ble_eq_true rfl)
  have key : ∀ (n : Nat) (ρ1 : md_T), mLoop n ρ1 ρ' → AW G_X7_reads out 0 0 24 [.ref b] [] S (md_put b ρ1 M) J := by
    intro n
    induction n with
    | zero =>
      intro ρ1 h
      exact absurd h (by simp [mLoop])
    | succ n ih =>
      intro ρ1 h
      obtain ⟨hs, hgo, hst⟩ := h
      have hl1 := hs.1.2
      have ha1 := hs.2.2
      refine e_aload_n dX7_reads_24 rfl rfl ?_
      refine rf_get hB dX7_reads_25 fl_7_113 (by decide) ?_
      refine e_aload_n dX7_reads_28 rfl rfl ?_
      refine rf_get hB dX7_reads_29 fl_7_109 (by decide) ?_
      by_cases hal : mA ρ1 < mL ρ1
      · refine e_ge_f (i := mA ρ1) (N := mL ρ1) 50 dX7_reads_32 (by decide) hs.2.1 hs.1.1 (by omega) (by omega) ?_
        refine e_aload_n dX7_reads_35 rfl rfl ?_
        refine rf_get hB dX7_reads_36 fl_7_119 (by decide) ?_
        refine e_iconst (v := (-1)) dX7_reads_39 (by decide) ?_
        by_cases h7 : rf ρ1 7 = -1
        · obtain ⟨hp, hn⟩ := hgo ⟨hal, h7⟩
          refine e_icmp_ne 50 dX7_reads_40 (by decide) (fun h40 => ?_) (fun h40 => ?_)
          · exact absurd h7 h40
          · refine e_aload_n dX7_reads_43 rfl rfl ?_
            refine e_cV0 dX7_reads_44 ml_7_146 (c_X7_readsStep hB hp hal) hB.a0 rfl rfl (by decide) (Nat.le_of_ble_eq_true rfl) ⟨rfl, rfl⟩ (Nat.le_of_ble_eq_true rfl) (Nat.le_of_ble_eq_true rfl) ?_
            refine e_goto 24 dX7_reads_47 (by decide) ?_
            exact ih _ hn
        · have he := hst (fun z => h7 z.2)
          subst he
          refine e_icmp_ne 50 dX7_reads_40 (by decide) (fun h40 => ?_) (fun h40 => ?_)
          · exact hend
          · exact absurd h40 h7
      · have he := hst (fun z => hal z.1)
        subst he
        refine e_ge_t (i := mA ρ') (N := mL ρ') 50 dX7_reads_32 (by decide) hs.2.1 hs.1.1 (by omega) (by omega) ?_
        exact hend
  refine e_aload_n dX7_reads_0 rfl rfl ?_
  refine e_iconst (v := 0) dX7_reads_1 (by decide) ?_
  refine rf_put hB dX7_reads_2 fl_7_113 ?_
  refine e_aload_n dX7_reads_5 rfl rfl ?_
  refine e_iconst (v := (-1)) dX7_reads_6 (by decide) ?_
  refine rf_put hB dX7_reads_7 fl_7_119 ?_
  refine e_aload_n dX7_reads_10 rfl rfl ?_
  refine e_iconst (v := 0) dX7_reads_11 (by decide) ?_
  refine rf_put hB dX7_reads_12 fl_7_128 ?_
  refine e_aload_n dX7_reads_15 rfl rfl ?_
  refine e_iconst (v := 0) dX7_reads_16 (by decide) ?_
  refine rf_put hB dX7_reads_17 fl_7_143 ?_
  refine e_aload_n dX7_reads_20 rfl rfl ?_
  refine e_cV0 dX7_reads_21 ml_7_122 (c_X7_skips hB h0) hB.a0 rfl rfl (by decide) (Nat.le_of_ble_eq_true rfl) ⟨rfl, rfl⟩ (Nat.le_of_ble_eq_true rfl) (Nat.le_of_ble_eq_true rfl) ?_
  exact key n _ hlp
end C67

