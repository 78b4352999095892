/-! ===== constructors: the reference; the first state ===== -/
def mLv : Nat → (Nat → Int32)
  | 0 => fun _ => 0
  | i + 1 => rLeaves (mLv i) i
def mCs : Nat → (Nat → Int32)
  | 0 => mLv 12
  | i + 1 => upd (upd (mCs i) (60 + i) 3) (65 + i) 1
def m0 : Nat → Int32 := upd (upd (upd (mCs 5) 100 20) 101 5) 102 10
theorem mLv_at : ∀ (i : Nat), i ≤ 12 → ∀ j, mLv i j = if (12 ≤ j ∧ j < 12 + i) ∨ (24 ≤ j ∧ j < 24 + i) then -1 else 0
  | 0, _, j => by rw [if_neg (by omega)]; rfl
  | i + 1, hi, j => by
    have ih := mLv_at i (by omega)
    rw [mLv, rLeaves]
    by_cases h1 : j = 36 + i
    · rw [h1, upd_same, if_neg (by omega)]
    · rw [upd_ne _ _ h1]
      by_cases h2 : j = 24 + i
      · rw [h2, upd_same, if_pos (Or.inr ⟨by omega, by omega⟩)]
      · rw [upd_ne _ _ h2]
        by_cases h3 : j = 12 + i
        · rw [h3, upd_same, if_pos (Or.inl ⟨by omega, by omega⟩)]
        · rw [upd_ne _ _ h3]
          by_cases h4 : j = i
          · rw [h4, upd_same, if_neg (by omega)]
          · rw [upd_ne _ _ h4, ih]
            by_cases h5 : (12 ≤ j ∧ j < 12 + i) ∨ (24 ≤ j ∧ j < 24 + i)
            · rw [if_pos h5, if_pos (by omega)]
            · rw [if_neg h5, if_neg (by omega)]
theorem mCs_at : ∀ (i : Nat), i ≤ 5 → ∀ j, mCs i j = if 60 ≤ j ∧ j < 60 + i then 3 else if 65 ≤ j ∧ j < 65 + i then 1 else if 12 ≤ j ∧ j < 36 then -1 else 0
  | 0, _, j => by
    rw [if_neg (by omega), if_neg (by omega), mCs, mLv_at 12 (Nat.le_refl _)]
    by_cases h : 12 ≤ j ∧ j < 36
    · rw [if_pos h, if_pos (by omega)]
    · rw [if_neg h, if_neg (by omega)]
  | i + 1, hi, j => by
    have ih := mCs_at i (by omega)
    rw [mCs]
    by_cases h1 : j = 65 + i
    · rw [h1, upd_same, if_neg (by omega), if_pos ⟨by omega, by omega⟩]
    · rw [upd_ne _ _ h1]
      by_cases h2 : j = 60 + i
      · rw [h2, upd_same, if_pos ⟨by omega, by omega⟩]
      · rw [upd_ne _ _ h2, ih]
        by_cases h3 : 60 ≤ j ∧ j < 60 + i
        · rw [if_pos h3, if_pos ⟨h3.1, by omega⟩]
        · rw [if_neg h3, if_neg (show ¬ (60 ≤ j ∧ j < 60 + (i + 1)) by omega)]
          by_cases h4 : 65 ≤ j ∧ j < 65 + i
          · rw [if_pos h4, if_pos ⟨h4.1, by omega⟩]
          · rw [if_neg h4, if_neg (show ¬ (65 ≤ j ∧ j < 65 + (i + 1)) by omega)]
theorem m0_at (j : Nat) : m0 j = if j = 102 then 10 else if j = 101 then 5 else if j = 100 then 20 else if 60 ≤ j ∧ j < 65 then 3 else if 65 ≤ j ∧ j < 70 then 1 else if 12 ≤ j ∧ j < 36 then -1 else 0 := by
  rw [m0]
  by_cases h1 : j = 102
  · rw [h1, upd_same, if_pos rfl]
  · rw [upd_ne _ _ h1, if_neg h1]
    by_cases h2 : j = 101
    · rw [h2, upd_same, if_pos rfl]
    · rw [upd_ne _ _ h2, if_neg h2]
      by_cases h3 : j = 100
      · rw [h3, upd_same, if_pos rfl]
      · rw [upd_ne _ _ h3, if_neg h3, mCs_at 5 (Nat.le_refl _)]
theorem m0_0 {j : Nat} (h : j < 12 ∨ 36 ≤ j ∧ j < 60 ∨ 70 ≤ j ∧ j < 100 ∨ 103 ≤ j) : m0 j = 0 := by
  rw [m0_at, if_neg (by omega), if_neg (by omega), if_neg (by omega), if_neg (by omega), if_neg (by omega), if_neg (by omega)]
theorem m0_1 {j : Nat} (h : 12 ≤ j ∧ j < 36) : m0 j = -1 := by
  rw [m0_at, if_neg (by omega), if_neg (by omega), if_neg (by omega), if_neg (by omega), if_neg (by omega), if_pos h]
theorem m0_60 {r : Nat} (h : r < 5) : m0 (60 + r) = 3 := by
  rw [m0_at, if_neg (by omega), if_neg (by omega), if_neg (by omega), if_pos ⟨by omega, by omega⟩]
theorem m0_65 {r : Nat} (h : r < 5) : m0 (65 + r) = 1 := by
  rw [m0_at, if_neg (by omega), if_neg (by omega), if_neg (by omega), if_neg (by omega), if_pos ⟨by omega, by omega⟩]
theorem rel0 : Rel 0 0 0 σ0 m0 := by
  have hno : ∀ k, k < 12 → ¬ 1 < m0 k := fun k hk => by rw [m0_0 (by omega)]; decide
  have hu : rInUse m0 = -1 := rInUse_no hno
  have hins : ∀ r : Int32, rIns m0 r = 0 := fun r => fb_ct_zero.mpr (fun k hk => by rw [m0_0 (show k < 12 ∨ _ by omega)]; rfl)
  have h100 : m0 100 = 20 := by rw [m0_at, if_neg (by omega), if_neg (by omega), if_pos rfl]
  have h101 : m0 101 = 5 := by rw [m0_at, if_neg (by omega), if_pos rfl]
  have h102 : m0 102 = 10 := by rw [m0_at, if_pos rfl]
  refine ⟨⟨fun k hk => Or.inl (m0_0 (by omega)), ⟨0, by omega, m0_0 (by omega)⟩, fun r hr => by rw [m0_65 hr]; decide, fun j hj => m0_0 (by omega)⟩, 0, 0, ⟨rfl, m0_0 (by omega), by omega, rfl, m0_0 (by omega), by omega, by omega, m0_0 (by omega), by omega, by omega⟩, fun k hk => ⟨⟨?_, ?_, ?_, ?_⟩, Or.inl (m0_0 (by omega)), fun z => absurd (m0_0 (by omega)) z, fun z => ?_, fun z => ?_⟩, fun r hr => ⟨?_, ?_, ?_, ?_, ?_, ?_, ?_, ?_, ?_, ?_, ?_⟩, ⟨?_, ?_, ?_, ?_, ?_, ⟨20, by omega, by omega, h100⟩, ⟨10, by omega, by omega, h102⟩⟩, ⟨?_, fun k hk z => absurd z (hno k hk), ?_, ?_, Or.inl (m0_0 (by omega))⟩, ⟨Nat.zero_le _, rfl, fun i hi => absurd hi (Nat.not_lt_zero _), fun k hk z => ?_, fun i j hij hj => absurd hj (Nat.not_lt_zero _)⟩, m0_0 (by omega), fun i w hi => absurd hi (Nat.not_lt_zero _)⟩
  · rw [m0_0 (by omega)]; rfl
  · rw [m0_1 (by omega)]; rfl
  · rw [m0_1 (by omega)]; rfl
  · rw [m0_0 (by omega)]; rfl
  · rw [m0_0 (by omega)] at z; exact absurd z (by decide)
  · rw [m0_0 (by omega)] at z; exact absurd z (by decide)
  · rw [m0_60 hr]; rfl
  · rw [m0_65 hr]; rfl
  · rw [m0_0 (by omega)]; rfl
  · rw [hins]; rfl
  · rw [m0_0 (by omega)]; rfl
  · rw [m0_0 (by omega)]; rfl
  · rw [m0_0 (by omega)]; rfl
  · rw [m0_0 (by omega)]; rfl
  · rw [m0_0 (by omega)]; rfl
  · rw [m0_60 hr]; decide
  · rw [m0_65 hr]; decide
  · rw [h100]; rfl
  · rw [h101]; rfl
  · rw [h102]; rfl
  · rw [m0_0 (by omega)]; rfl
  · rw [m0_0 (by omega)]; rfl
  · rw [hu]; rfl
  · rw [if_pos hu]; rfl
  · rw [if_pos hu]; rfl
  · rw [m0_0 (by omega)] at z; exact absurd z (by decide)
abbrev ρz : md_T := (fun _ => 0, fun _ => 0, fun _ => 0, fun _ => 0, fun _ => 0, fun _ => 0, fun _ => 0, fun _ => 0, fun _ => 0)
section C85
variable {b : Nat} {S0 : List aiS} {M : Nat → Nat → Int32}
theorem MS.app (hh : S0.length = b) : MS (S0 ++ md_S b) b := fun o ho => app_get hh
theorem c_X7_init (hh : S0.length = b) (hz : ∀ a, b ≤ a → M a = fun _ => 0) : AM G_X7_init [.ref b] (S0 ++ [(7, 0, List.replicate 14 .null)]) M ZJ (none, S0 ++ md_S b, md_put b (Rm ρz m0) M, ZJ) := by
  have hB : MS (S0 ++ md_S b) b := MS.app hh
  have e0 : M = bput b 9 (fun _ _ => 0) M := (bput_same hz).symm
  have e1 : bput b 9 (fun _ _ => 0) M = md_put b (Rm ρz (mLv 0)) M := by
    refine bput_cong M (fun o ho => ?_)
    rcases (show o = 0 ∨ o = 1 ∨ o = 2 ∨ o = 3 ∨ o = 4 ∨ o = 5 ∨ o = 6 ∨ o = 7 ∨ o = 8 by omega) with rfl | rfl | rfl | rfl | rfl | rfl | rfl | rfl | rfl <;> rfl
  refine AM_gen (fun out ho => ?_)
  refine AM_of [.ref b, .retAddr 0] (by decide) rfl (fun B => (Nat.le_of_ble_eq_true rfl)) ?_
  have key2 : ∀ (d i : Nat), i + d = 5 → AW G_X7_init out 8 1596 90 [.ref b, .int (nI i)] [] (S0 ++ md_S b) (md_put b (Rm ρz (mCs i)) M) ZJ := by
    intro d
    induction d with
    | zero =>
      intro i hi
      have hi2 : i = 5 := by omega
      subst hi2
      refine e_iload_n dX7_init_90 rfl rfl ?_
      refine e_iconst (v := 5) dX7_init_91 (by decide) ?_
      refine e_ge_t (i := 5) (N := 5) 121 dX7_init_92 (by decide) rfl rfl (by omega) (by omega) ?_
      refine e_aload_n dX7_init_121 rfl rfl ?_
      refine e_getr dX7_init_122 fl_7_7 hB.a0 rfl ?_
      refine e_bipush (v := 100) dX7_init_125 (by decide) ?_
      refine e_bipush (v := 20) dX7_init_127 (by decide) ?_
      refine mm_st 100 hB dX7_init_129 (ai_lit 100) (by decide) ?_
      refine e_aload_n dX7_init_130 rfl rfl ?_
      refine e_getr dX7_init_131 fl_7_7 hB.a0 rfl ?_
      refine e_bipush (v := 101) dX7_init_134 (by decide) ?_
      refine e_iconst (v := 5) dX7_init_136 (by decide) ?_
      refine mm_st 101 hB dX7_init_137 (ai_lit 101) (by decide) ?_
      refine e_aload_n dX7_init_138 rfl rfl ?_
      refine e_getr dX7_init_139 fl_7_7 hB.a0 rfl ?_
      refine e_bipush (v := 102) dX7_init_142 (by decide) ?_
      refine e_bipush (v := 10) dX7_init_144 (by decide) ?_
      refine mm_st 102 hB dX7_init_146 (ai_lit 102) (by decide) ?_
      exact e_vret dX7_init_147 rfl ho (Nat.le_of_ble_eq_true rfl) (Nat.le_of_ble_eq_true rfl)
    | succ d ih =>
      intro i hi
      have hi5 : i < 5 := by omega
      refine e_iload_n dX7_init_90 rfl rfl ?_
      refine e_iconst (v := 5) dX7_init_91 (by decide) ?_
      refine e_ge_f (i := i) (N := 5) 121 dX7_init_92 (by decide) rfl rfl (by omega) (by omega) ?_
      refine e_aload_n dX7_init_95 rfl rfl ?_
      refine e_getr dX7_init_96 fl_7_7 hB.a0 rfl ?_
      refine e_bipush (v := 60) dX7_init_99 (by decide) ?_
      refine e_iload_n dX7_init_101 rfl rfl ?_
      refine e_iadd dX7_init_102 ?_
      refine e_iconst (v := 3) dX7_init_103 (by decide) ?_
      refine mm_st (60 + i) hB dX7_init_104 (ai_add (ai_lit 60) rfl) (by first | assumption | omega) ?_
      refine e_aload_n dX7_init_105 rfl rfl ?_
      refine e_getr dX7_init_106 fl_7_7 hB.a0 rfl ?_
      refine e_bipush (v := 65) dX7_init_109 (by decide) ?_
      refine e_iload_n dX7_init_111 rfl rfl ?_
      refine e_iadd dX7_init_112 ?_
      refine e_iconst (v := 1) dX7_init_113 (by decide) ?_
      refine mm_st (65 + i) hB dX7_init_114 (ai_add (ai_lit 65) rfl) (by first | assumption | omega) ?_
      refine e_iinc dX7_init_115 rfl (ai_inc _) (by decide) rfl ?_
      refine e_goto 90 dX7_init_118 (by decide) ?_
      exact ih (i + 1) (by omega)
  have key1 : ∀ (d i : Nat), i + d = 12 → AW G_X7_init out 8 1596 71 [.ref b, .int (nI i)] [] (S0 ++ md_S b) (md_put b (Rm ρz (mLv i)) M) ZJ := by
    intro d
    induction d with
    | zero =>
      intro i hi
      have hi2 : i = 12 := by omega
      subst hi2
      refine e_iload_n dX7_init_71 rfl rfl ?_
      refine e_bipush (v := 12) dX7_init_72 (by decide) ?_
      refine e_ge_t (i := 12) (N := 12) 88 dX7_init_74 (by decide) rfl rfl (by omega) (by omega) ?_
      refine e_iconst (v := 0) dX7_init_88 (by decide) ?_
      refine e_istore_n dX7_init_89 rfl (by decide) rfl ?_
      exact key2 5 0 rfl
    | succ d ih =>
      intro i hi
      have hi12 : i < 12 := by omega
      refine e_iload_n dX7_init_71 rfl rfl ?_
      refine e_bipush (v := 12) dX7_init_72 (by decide) ?_
      refine e_ge_f (i := i) (N := 12) 88 dX7_init_74 (by decide) rfl rfl (by omega) (by omega) ?_
      refine e_aload_n dX7_init_77 rfl rfl ?_
      refine e_iload_n dX7_init_78 rfl rfl ?_
      refine e_cV0 dX7_init_79 ml_7_35 (c_X7_leaves hB hi12) hB.a0 rfl rfl (by decide) (Nat.le_of_ble_eq_true rfl) ⟨rfl, rfl⟩ (Nat.le_of_ble_eq_true rfl) (Nat.le_of_ble_eq_true rfl) ?_
      refine e_iinc dX7_init_82 rfl (ai_inc _) (by decide) rfl ?_
      refine e_goto 71 dX7_init_85 (by decide) ?_
      exact ih (i + 1) (by omega)
  have h0 := key1 12 0 rfl
  rw [← e1] at h0
  rw [e0]
  refine e_aload_n dX7_init_0 rfl rfl ?_
  refine e_obj dX7_init_1 ml_7_1 (by decide) (Nat.le_of_ble_eq_true rfl) (Nat.le_of_ble_eq_true rfl) (Nat.le_of_ble_eq_true rfl) ?_
  refine e_aload_n dX7_init_4 rfl rfl ?_
  refine e_sipush (v := 271) dX7_init_5 (by decide) ?_
  refine k_newarr (l := 1) dX7_init_8 (Or.inl ⟨rfl, rfl⟩) aw_int (ai_lit 271) (by decide) (Nat.le_of_ble_eq_true rfl) (Nat.le_of_ble_eq_true rfl) hh rfl (by decide) rfl ?_
  refine k_putF (i := 0) dX7_init_10 fl_7_7 rfl ⟨_, rfl, rfl⟩ hh rfl (Nat.le_of_ble_eq_true rfl) ?_
  refine e_aload_n dX7_init_13 rfl rfl ?_
  refine e_sipush (v := 271) dX7_init_14 (by decide) ?_
  refine k_newarr (l := 2) dX7_init_17 (Or.inl ⟨rfl, rfl⟩) aw_int (ai_lit 271) (by decide) (Nat.le_of_ble_eq_true rfl) (Nat.le_of_ble_eq_true rfl) hh rfl (by decide) rfl ?_
  refine k_putF (i := 0) dX7_init_19 fl_7_13 rfl ⟨_, rfl, rfl⟩ hh rfl (Nat.le_of_ble_eq_true rfl) ?_
  refine e_aload_n dX7_init_22 rfl rfl ?_
  refine e_sipush (v := 542) dX7_init_23 (by decide) ?_
  refine k_newarr (l := 3) dX7_init_26 (Or.inl ⟨rfl, rfl⟩) aw_int (ai_lit 542) (by decide) (Nat.le_of_ble_eq_true rfl) (Nat.le_of_ble_eq_true rfl) hh rfl (by decide) rfl ?_
  refine k_putF (i := 0) dX7_init_28 fl_7_16 rfl ⟨_, rfl, rfl⟩ hh rfl (Nat.le_of_ble_eq_true rfl) ?_
  refine e_aload_n dX7_init_31 rfl rfl ?_
  refine e_iconst (v := 2) dX7_init_32 (by decide) ?_
  refine k_newarr (l := 4) dX7_init_33 (Or.inr ⟨rfl, rfl⟩) aw_boolean (ai_lit 2) (by decide) (Nat.le_of_ble_eq_true rfl) (Nat.le_of_ble_eq_true rfl) hh rfl (by decide) rfl ?_
  refine k_putF (i := 0) dX7_init_35 fl_7_19 rfl ⟨_, rfl, rfl⟩ hh rfl (Nat.le_of_ble_eq_true rfl) ?_
  refine e_aload_n dX7_init_38 rfl rfl ?_
  refine e_bipush (v := 100) dX7_init_39 (by decide) ?_
  refine k_newarr (l := 5) dX7_init_41 (Or.inl ⟨rfl, rfl⟩) aw_int (ai_lit 100) (by decide) (Nat.le_of_ble_eq_true rfl) (Nat.le_of_ble_eq_true rfl) hh rfl (by decide) rfl ?_
  refine k_putF (i := 0) dX7_init_43 fl_7_23 rfl ⟨_, rfl, rfl⟩ hh rfl (Nat.le_of_ble_eq_true rfl) ?_
  refine e_aload_n dX7_init_46 rfl rfl ?_
  refine e_sipush (v := 400) dX7_init_47 (by decide) ?_
  refine k_newarr (l := 6) dX7_init_50 (Or.inl ⟨rfl, rfl⟩) aw_int (ai_lit 400) (by decide) (Nat.le_of_ble_eq_true rfl) (Nat.le_of_ble_eq_true rfl) hh rfl (by decide) rfl ?_
  refine k_putF (i := 0) dX7_init_52 fl_7_26 rfl ⟨_, rfl, rfl⟩ hh rfl (Nat.le_of_ble_eq_true rfl) ?_
  refine e_aload_n dX7_init_55 rfl rfl ?_
  refine e_iconst (v := 5) dX7_init_56 (by decide) ?_
  refine k_newarr (l := 7) dX7_init_57 (Or.inl ⟨rfl, rfl⟩) aw_int (ai_lit 5) (by decide) (Nat.le_of_ble_eq_true rfl) (Nat.le_of_ble_eq_true rfl) hh rfl (by decide) rfl ?_
  refine k_putF (i := 0) dX7_init_59 fl_7_29 rfl ⟨_, rfl, rfl⟩ hh rfl (Nat.le_of_ble_eq_true rfl) ?_
  refine e_aload_n dX7_init_62 rfl rfl ?_
  refine e_iconst (v := 5) dX7_init_63 (by decide) ?_
  refine k_newarr (l := 8) dX7_init_64 (Or.inl ⟨rfl, rfl⟩) aw_int (ai_lit 5) (by decide) (Nat.le_of_ble_eq_true rfl) (Nat.le_of_ble_eq_true rfl) hh rfl (by decide) rfl ?_
  refine k_putF (i := 0) dX7_init_66 fl_7_32 rfl ⟨_, rfl, rfl⟩ hh rfl (Nat.le_of_ble_eq_true rfl) ?_
  refine e_iconst (v := 0) dX7_init_69 (by decide) ?_
  refine e_istore_n dX7_init_70 rfl (by decide) rfl ?_
  exact h0
end C85
abbrev SF : List aiS := SK ++ md_S 111
theorem SF_ms : MS SF 111 := MS.app rfl
theorem hs_in (A B : List aiS) (h : Nat) (hA : A.length = h) : HS ((A ++ hs_S h) ++ B) h := by
  intro o ho
  rw [List.append_assoc, app_get hA, List.getElem?_append_left (by rw [hs_len]; exact ho)]
theorem SF_ks : KS SF := by
  refine ⟨rfl, ?_, ?_, rfl, ?_, ?_, rfl, ?_⟩
  · exact hs_in [sK (.ref 1) (.ref 26) (.ref 51) (.ref 102) (.ref 103)] (hs_S 26 ++ [(10, 2, [.ref 52, .ref 77])] ++ hs_S 52 ++ hs_S 77 ++ [(9, 2, [])] ++ sc_S 103 ++ md_S 111) 1 rfl
  · exact hs_in ([sK (.ref 1) (.ref 26) (.ref 51) (.ref 102) (.ref 103)] ++ hs_S 1) ([(10, 2, [.ref 52, .ref 77])] ++ hs_S 52 ++ hs_S 77 ++ [(9, 2, [])] ++ sc_S 103 ++ md_S 111) 26 rfl
  · exact hs_in (S3 (.ref 52) (.ref 77) (.ref 102) (.ref 103)) (hs_S 77 ++ [(9, 2, [])] ++ sc_S 103 ++ md_S 111) 52 rfl
  · exact hs_in (S3 (.ref 52) (.ref 77) (.ref 102) (.ref 103) ++ hs_S 52) ([(9, 2, [])] ++ sc_S 103 ++ md_S 111) 77 rfl
  · intro o ho
    rcases (show o = 0 ∨ o = 1 ∨ o = 2 ∨ o = 3 ∨ o = 4 ∨ o = 5 ∨ o = 6 ∨ o = 7 by omega) with rfl | rfl | rfl | rfl | rfl | rfl | rfl | rfl <;> rfl
theorem world0 : md_put 111 (Rm ρz m0) M5 = wM σ0 σ0 σ0 σ0 κ0 (md_put 111 (Rm ρz m0) MZ) := by
  rw [wM_md, M5, M4, M3, M2, M1, wM_sc1, hs_comm (h := 77) (g := 52) (Or.inr (by decide)), hs_comm (h := 77) (g := 26) (Or.inr (by decide)), hs_comm (h := 77) (g := 1) (Or.inr (by decide)), hs_comm (h := 52) (g := 26) (Or.inr (by decide)), hs_comm (h := 52) (g := 1) (Or.inr (by decide)), hs_comm (h := 26) (g := 1) (Or.inr (by decide))]
theorem wi0 : WI 0 0 σ0 σ0 σ0 κ0 ρz m0 MZ := ⟨⟨0, by omega, rel0⟩, ⟨rfl, Nat.zero_le _, rfl, fun i hi => absurd hi (Nat.not_lt_zero _)⟩, fun s hs => rfl, fun z => absurd rfl z, fun z => absurd rfl z⟩

