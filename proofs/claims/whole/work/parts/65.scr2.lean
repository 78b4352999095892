/-! ===== the class reads a text: its methods ===== -/
theorem i32_ne {k n : Int32} {z : Int} (h : ¬ k = n) (hn : n.toInt = z) : ¬ z = k.toInt := fun e => h (Int32.toInt_inj.mp (by rw [hn, e]))
theorem rB_dep (κ : sc_T) (lo hi : Int32) : cD (rB κ lo hi).1 = cD κ := by
  rw [rB]
  split
  · split
    · rfl
    · rfl
  · rfl
theorem rB_fault {κ : sc_T} {lo hi : Int32} (h : ¬ cf κ 8 = -1) : rB κ lo hi = (κ, lo) := by rw [rB, if_neg h]
theorem rOp1_dep {κ : sc_T} (h : SI κ) (h8 : cf (rB (rOp1 κ) 40 40).1 8 = -1) : cD (rB (rOp1 κ) 40 40).1 < 4 := by
  rw [rB_dep]
  by_cases h1 : cf κ 8 = -1 ∧ 4 ≤ cD κ
  · have e : cf (rOp1 κ) 8 = nI (cA (sB κ)) := by
      rw [rOp1, if_pos h1]
      show cf (sB κ) 7 = _
      exact h.kB.2.1.1
    have hl := h.kB.1.2
    have ha := h.kB.2.1.2
    have hne : ¬ cf (rOp1 κ) 8 = -1 := by rw [e]; exact nI_ne_m1 (by omega)
    rw [rB_fault hne] at h8
    exact absurd h8 hne
  · rw [rOp1, if_neg h1] at h8 ⊢
    by_cases h2 : cf κ 8 = -1
    · have h3 : ¬ 4 ≤ cD κ := fun z => h1 ⟨h2, z⟩
      omega
    · rw [rB_fault h2] at h8
      exact absurd h8 h2
section C65
variable {S : List aiS} {M : Nat → Nat → Int32} {J : Nat → Int64} {κ : sc_T} {c : Nat}
theorem c_X5_isDigit (v : Int32) : AM G_X5_isDigit [.int v] S M J (some (.int (if 48 ≤ v ∧ v ≤ 57 then 1 else 0)), S, M, J) := by
  refine AM_gen (fun out ho => ?_)
  refine AM_of [.int v] (by decide) rfl (fun B => (Nat.le_of_ble_eq_true rfl)) ?_
  refine e_iload_n dX5_isDigit_0 rfl rfl ?_
  refine e_bipush (v := 48) dX5_isDigit_1 (by decide) ?_
  refine e_icmp_lt 16 dX5_isDigit_3 (by decide) (fun h3 => ?_) (fun h3 => ?_)
  · refine e_iconst (v := 0) dX5_isDigit_16 (by decide) ?_
    exact e_zret dX5_isDigit_17 rfl (by decide) (ho.trans (by rw [wi_no1 h3])) (Nat.le_of_ble_eq_true rfl) (Nat.le_of_ble_eq_true rfl)
  · refine e_iload_n dX5_isDigit_6 rfl rfl ?_
    refine e_bipush (v := 57) dX5_isDigit_7 (by decide) ?_
    refine e_icmp_gt 16 dX5_isDigit_9 (by decide) (fun h9 => ?_) (fun h9 => ?_)
    · refine e_iconst (v := 0) dX5_isDigit_16 (by decide) ?_
      exact e_zret dX5_isDigit_17 rfl (by decide) (ho.trans (by rw [wi_no2 h9])) (Nat.le_of_ble_eq_true rfl) (Nat.le_of_ble_eq_true rfl)
    · refine e_iconst (v := 1) dX5_isDigit_12 (by decide) ?_
      refine e_goto 17 dX5_isDigit_13 (by decide) ?_
      exact e_zret dX5_isDigit_17 rfl (by decide) (ho.trans (by rw [wi_yes h3 h9])) (Nat.le_of_ble_eq_true rfl) (Nat.le_of_ble_eq_true rfl)
theorem sB_stay {κ : sc_T} (hs : SI κ) (h : ¬ (cA κ < cL κ ∧ cb κ (cA κ) = 32)) : sB κ = κ := by
  rw [sB, skp_no h, ← hs.2.1.1, pcf_id]
theorem c_X5_skipBlanks (hC : SS S c) (hs : SI κ) : AM G_X5_skipBlanks [.ref c] S (sc_put c κ M) J (none, S, sc_put c (sB κ) M, J) := by
  refine AM_gen (fun out ho => ?_)
  refine AM_of [.ref c] (by decide) rfl (fun B => (Nat.le_of_ble_eq_true rfl)) ?_
  have key : ∀ (d : Nat) (κ : sc_T), cL κ - cA κ ≤ d → SI κ → out = (none, S, sc_put c (sB κ) M, J) → AW G_X5_skipBlanks out 0 0 0 [.ref c] [] S (sc_put c κ M) J := by
    have hend : ∀ (κ : sc_T), SI κ → ¬ cA κ < cL κ → out = (none, S, sc_put c (sB κ) M, J) → AW G_X5_skipBlanks out 0 0 0 [.ref c] [] S (sc_put c κ M) J := by
      intro κ hs h1 ho
      have hl := hs.1.2
      have ha := hs.2.1.2
      rw [sB_stay hs (fun z => h1 z.1)] at ho
      refine e_aload_n dX5_skipBlanks_0 rfl rfl ?_
      refine cf_get hC dX5_skipBlanks_1 fl_5_34 (by decide) ?_
      refine e_aload_n dX5_skipBlanks_4 rfl rfl ?_
      refine cf_get hC dX5_skipBlanks_5 fl_5_15 (by decide) ?_
      refine e_ge_t (i := cA κ) (N := cL κ) 38 dX5_skipBlanks_8 (by decide) hs.2.1.1 hs.1.1 (by omega) (by omega) ?_
      exact e_vret dX5_skipBlanks_38 rfl ho (Nat.le_of_ble_eq_true rfl) (Nat.le_of_ble_eq_true rfl)
    intro d
    induction d with
    | zero =>
      intro κ hd hs ho
      exact hend κ hs (by omega) ho
    | succ d ih =>
      intro κ hd hs ho
      by_cases h1 : cA κ < cL κ
      · have hl := hs.1.2
        have h100 : cA κ < 100 := by omega
        have hinc : cf κ 7 + 1 = nI (cA κ + 1) := by rw [hs.2.1.1, nI_1]
        have e1 : cA (pcf κ 7 (nI (cA κ + 1))) = cA κ + 1 := cA_put κ (by omega)
        refine e_aload_n dX5_skipBlanks_0 rfl rfl ?_
        refine cf_get hC dX5_skipBlanks_1 fl_5_34 (by decide) ?_
        refine e_aload_n dX5_skipBlanks_4 rfl rfl ?_
        refine cf_get hC dX5_skipBlanks_5 fl_5_15 (by decide) ?_
        refine e_ge_f (i := cA κ) (N := cL κ) 38 dX5_skipBlanks_8 (by decide) hs.2.1.1 hs.1.1 (by omega) (by omega) ?_
        refine e_aload_n dX5_skipBlanks_11 rfl rfl ?_
        refine e_getr dX5_skipBlanks_12 fl_5_11 hC.a0 rfl ?_
        refine e_aload_n dX5_skipBlanks_15 rfl rfl ?_
        refine cf_get hC dX5_skipBlanks_16 fl_5_34 (by decide) ?_
        refine cb_ld (cA κ) hC dX5_skipBlanks_19 hs.2.1.1 h100 ?_
        refine e_bipush (v := 32) dX5_skipBlanks_20 (by decide) ?_
        refine e_icmp_ne 38 dX5_skipBlanks_22 (by decide) (fun h22 => ?_) (fun h22 => ?_)
        · rw [sB_stay hs (fun z => h22 z.2)] at ho
          exact e_vret dX5_skipBlanks_38 rfl ho (Nat.le_of_ble_eq_true rfl) (Nat.le_of_ble_eq_true rfl)
        · refine e_aload_n dX5_skipBlanks_25 rfl rfl ?_
          refine e_dup dX5_skipBlanks_26 rfl ?_
          refine cf_get hC dX5_skipBlanks_27 fl_5_34 (by decide) ?_
          refine e_iconst (v := 1) dX5_skipBlanks_30 (by decide) ?_
          refine e_iadd dX5_skipBlanks_31 ?_
          refine cf_put hC dX5_skipBlanks_32 fl_5_34 ?_
          refine e_goto 0 dX5_skipBlanks_35 (by decide) ?_
          rw [hinc]
          refine ih _ ?_ (hs.at (by omega)) ?_
          · rw [e1]; show cL κ - (cA κ + 1) ≤ d; omega
          · rw [ho, sB, sB, e1, pcf_pcf]
            show _ = (none, S, sc_put c (pcf κ 7 (nI (skp (cb κ) (cL κ) (cA κ + 1)))) M, J)
            rw [skp_yes h1 h22]
      · exact hend κ hs h1 ho
  exact key _ κ (Nat.le_refl _) hs ho
theorem c_X5_readByte (hC : SS S c) (hs : SI κ) (lo hi : Int32) : AM G_X5_readByte [.ref c, .int lo, .int hi] S (sc_put c κ M) J (some (.int (rB κ lo hi).2), S, sc_put c (rB κ lo hi).1 M, J) := by
  by_cases h8 : cf κ 8 = -1
  · have hk := c_X5_skipBlanks (M := M) (J := J) hC hs
    have hs1 := hs.kB
    have hA : cf (sB κ) 7 = nI (cA (sB κ)) := hs1.2.1.1
    have hL : cf (sB κ) 1 = nI (cL κ) := hs1.1.1
    have hl := hs.1.2
    have hal : cA (sB κ) ≤ cL κ := hs1.2.1.2
    have hinc : cf (sB κ) 7 + 1 = nI (cA (sB κ) + 1) := by rw [hA, nI_1]
    rw [rB, if_pos h8]
    refine AM_gen (fun out ho => ?_)
    refine AM_of [.ref c, .int lo, .int hi] (by decide) rfl (fun B => (Nat.le_of_ble_eq_true rfl)) ?_
    have hfail : ¬ (cA (sB κ) < cL κ ∧ (lo ≤ cb κ (cA (sB κ)) ∧ cb κ (cA (sB κ)) ≤ hi)) → AW G_X5_readByte out 0 0 51 [.ref c, .int lo, .int hi] [] S (sc_put c (sB κ) M) J := by
      intro hno
      rw [if_neg hno] at ho
      refine e_aload_n dX5_readByte_51 rfl rfl ?_
      refine e_aload_n dX5_readByte_52 rfl rfl ?_
      refine cf_get hC dX5_readByte_53 fl_5_34 (by decide) ?_
      refine cf_put hC dX5_readByte_56 fl_5_37 ?_
      refine e_iload_n dX5_readByte_59 rfl rfl ?_
      exact e_iret dX5_readByte_60 rfl ho (Nat.le_of_ble_eq_true rfl) (Nat.le_of_ble_eq_true rfl)
    refine e_aload_n dX5_readByte_0 rfl rfl ?_
    refine cf_get hC dX5_readByte_1 fl_5_37 (by decide) ?_
    refine e_iconst (v := (-1)) dX5_readByte_4 (by decide) ?_
    refine e_icmp_eq 10 dX5_readByte_5 (by decide) (fun h5 => ?_) (fun h5 => ?_)
    · refine e_aload_n dX5_readByte_10 rfl rfl ?_
      refine e_cV0 dX5_readByte_11 ml_5_55 hk hC.a0 rfl rfl (by decide) (Nat.le_of_ble_eq_true rfl) ⟨rfl, rfl⟩ (Nat.le_of_ble_eq_true rfl) (Nat.le_of_ble_eq_true rfl) ?_
      refine e_aload_n dX5_readByte_14 rfl rfl ?_
      refine cf_get hC dX5_readByte_15 fl_5_34 (by decide) ?_
      refine e_aload_n dX5_readByte_18 rfl rfl ?_
      refine cf_get hC dX5_readByte_19 fl_5_15 (by decide) ?_
      by_cases h1 : cA (sB κ) < cL κ
      · have h100 : cA (sB κ) < 100 := by omega
        refine e_ge_f (i := cA (sB κ)) (N := cL κ) 51 dX5_readByte_22 (by decide) hA hL (by omega) (by omega) ?_
        refine e_aload_n dX5_readByte_25 rfl rfl ?_
        refine e_getr dX5_readByte_26 fl_5_11 hC.a0 rfl ?_
        refine e_aload_n dX5_readByte_29 rfl rfl ?_
        refine cf_get hC dX5_readByte_30 fl_5_34 (by decide) ?_
        refine cb_ld (cA (sB κ)) hC dX5_readByte_33 hA h100 ?_
        refine e_iload_n dX5_readByte_34 rfl rfl ?_
        refine e_icmp_lt 51 dX5_readByte_35 (by decide) (fun h35 => ?_) (fun h35 => ?_)
        · exact hfail (fun z => absurd z.2.1 (Int32.not_le.mpr h35))
        · refine e_aload_n dX5_readByte_38 rfl rfl ?_
          refine e_getr dX5_readByte_39 fl_5_11 hC.a0 rfl ?_
          refine e_aload_n dX5_readByte_42 rfl rfl ?_
          refine cf_get hC dX5_readByte_43 fl_5_34 (by decide) ?_
          refine cb_ld (cA (sB κ)) hC dX5_readByte_46 hA h100 ?_
          refine e_iload_n dX5_readByte_47 rfl rfl ?_
          refine e_icmp_le 61 dX5_readByte_48 (by decide) (fun h48 => ?_) (fun h48 => ?_)
          · rw [if_pos ⟨h1, Int32.not_lt.mp h35, h48⟩] at ho
            refine e_aload_n dX5_readByte_61 rfl rfl ?_
            refine e_dup dX5_readByte_62 rfl ?_
            refine cf_get hC dX5_readByte_63 fl_5_34 (by decide) ?_
            refine e_iconst (v := 1) dX5_readByte_66 (by decide) ?_
            refine e_iadd dX5_readByte_67 ?_
            refine cf_put hC dX5_readByte_68 fl_5_34 ?_
            rw [hinc]
            refine e_aload_n dX5_readByte_71 rfl rfl ?_
            refine e_getr dX5_readByte_72 fl_5_11 hC.a0 rfl ?_
            refine e_aload_n dX5_readByte_75 rfl rfl ?_
            refine cf_get hC dX5_readByte_76 fl_5_34 (by decide) ?_
            refine e_iconst (v := 1) dX5_readByte_79 (by decide) ?_
            refine e_isub dX5_readByte_80 ?_
            refine cb_ld (cA (sB κ)) hC dX5_readByte_81 (nI_pred (cA (sB κ))) h100 ?_
            exact e_iret dX5_readByte_82 rfl ho (Nat.le_of_ble_eq_true rfl) (Nat.le_of_ble_eq_true rfl)
          · exact hfail (fun z => h48 z.2.2)
      · refine e_ge_t (i := cA (sB κ)) (N := cL κ) 51 dX5_readByte_22 (by decide) hA hL (by omega) (by omega) ?_
        exact hfail (fun z => h1 z.1)
    · exact absurd h8 h5
  · rw [rB, if_neg h8]
    refine AM_gen (fun out ho => ?_)
    refine AM_of [.ref c, .int lo, .int hi] (by decide) rfl (fun B => (Nat.le_of_ble_eq_true rfl)) ?_
    refine e_aload_n dX5_readByte_0 rfl rfl ?_
    refine cf_get hC dX5_readByte_1 fl_5_37 (by decide) ?_
    refine e_iconst (v := (-1)) dX5_readByte_4 (by decide) ?_
    refine e_icmp_eq 10 dX5_readByte_5 (by decide) (fun h5 => ?_) (fun h5 => ?_)
    · exact absurd h5 h8
    · refine e_iload_n dX5_readByte_8 rfl rfl ?_
      exact e_iret dX5_readByte_9 rfl ho (Nat.le_of_ble_eq_true rfl) (Nat.le_of_ble_eq_true rfl)
theorem c_X5_readNumber (hC : SS S c) (hs : SI κ) (most : Int32) : AM G_X5_readNumber [.ref c, .int most] S (sc_put c κ M) J (some (.int (rN κ most).2), S, sc_put c (rN κ most).1 M, J) := by
  by_cases h8 : cf κ 8 = -1
  · have hk := c_X5_skipBlanks (M := M) (J := J) hC hs
    have hs1 := hs.kB
    have hA : cf (sB κ) 7 = nI (cA (sB κ)) := hs1.2.1.1
    have hl := hs.1.2
    have hal : cA (sB κ) ≤ cL κ := hs1.2.1.2
    rw [rN, if_pos h8]
    generalize hR : nmr (cb κ) (cL κ) 3 (cA (sB κ)) 0 = R
    refine AM_gen (fun out ho => ?_)
    refine AM_of [.ref c, .int most, .retAddr 0, .retAddr 0, .retAddr 0] (by decide) rfl (fun B => (Nat.le_of_ble_eq_true rfl)) ?_
    have hexit : ∀ (x4 : Int32), AW G_X5_readNumber out 0 0 90 [.ref c, .int most, .int (cf (sB κ) 7), .int R.2, .int x4] [] S (sc_put c (pcf (sB κ) 7 (nI R.1)) M) J := by
      intro x4
      have hfail : ¬ (1 ≤ R.2 ∧ R.2 ≤ most) → AW G_X5_readNumber out 0 0 100 [.ref c, .int most, .int (cf (sB κ) 7), .int R.2, .int x4] [] S (sc_put c (pcf (sB κ) 7 (nI R.1)) M) J := by
        intro hno
        rw [if_neg hno] at ho
        refine e_aload_n dX5_readNumber_100 rfl rfl ?_
        refine e_iload_n dX5_readNumber_101 rfl rfl ?_
        refine cf_put hC dX5_readNumber_102 fl_5_37 ?_
        refine e_iload_n dX5_readNumber_105 rfl rfl ?_
        exact e_iret dX5_readNumber_106 rfl ho (Nat.le_of_ble_eq_true rfl) (Nat.le_of_ble_eq_true rfl)
      refine e_iload_n dX5_readNumber_90 rfl rfl ?_
      refine e_iconst (v := 1) dX5_readNumber_91 (by decide) ?_
      refine e_icmp_lt 100 dX5_readNumber_92 (by decide) (fun h92 => ?_) (fun h92 => ?_)
      · exact hfail (fun z => absurd z.1 (Int32.not_le.mpr h92))
      · refine e_iload_n dX5_readNumber_95 rfl rfl ?_
        refine e_iload_n dX5_readNumber_96 rfl rfl ?_
        refine e_icmp_le 105 dX5_readNumber_97 (by decide) (fun h97 => ?_) (fun h97 => ?_)
        · rw [if_pos ⟨Int32.not_lt.mp h92, h97⟩] at ho
          refine e_iload_n dX5_readNumber_105 rfl rfl ?_
          exact e_iret dX5_readNumber_106 rfl ho (Nat.le_of_ble_eq_true rfl) (Nat.le_of_ble_eq_true rfl)
        · exact hfail (fun z => h97 z.2)
    have key : ∀ (d i a : Nat) (v : Int32), i + d = 3 → a ≤ cL κ → nmr (cb κ) (cL κ) d a v = R → AW G_X5_readNumber out 0 0 24 [.ref c, .int most, .int (cf (sB κ) 7), .int v, .int (nI i)] [] S (sc_put c (pcf (sB κ) 7 (nI a)) M) J := by
      intro d
      induction d with
      | zero =>
        intro i a v hi ha hr
        have hi2 : i = 3 := by omega
        subst hi2
        have hx := hexit (nI 3)
        rw [← hr] at hx
        refine e_iload dX5_readNumber_24 rfl ?_
        refine e_iconst (v := 3) dX5_readNumber_26 (by decide) ?_
        refine e_ge_t (i := 3) (N := 3) 90 dX5_readNumber_27 (by decide) rfl rfl (by omega) (by omega) ?_
        exact hx
      | succ d ih =>
        intro i a v hi ha hr
        have hno : ¬ (a < cL κ ∧ (48 ≤ cb κ a ∧ cb κ a ≤ 57)) → AW G_X5_readNumber out 0 0 90 [.ref c, .int most, .int (cf (sB κ) 7), .int v, .int (nI i)] [] S (sc_put c (pcf (sB κ) 7 (nI a)) M) J := by
          intro hz
          rw [nmr, if_neg hz] at hr
          have hx := hexit (nI i)
          rw [← hr] at hx
          exact hx
        refine e_iload dX5_readNumber_24 rfl ?_
        refine e_iconst (v := 3) dX5_readNumber_26 (by decide) ?_
        refine e_ge_f (i := i) (N := 3) 90 dX5_readNumber_27 (by decide) rfl rfl (by omega) (by omega) ?_
        refine e_aload_n dX5_readNumber_30 rfl rfl ?_
        refine cf_get hC dX5_readNumber_31 fl_5_34 (by decide) ?_
        refine e_aload_n dX5_readNumber_34 rfl rfl ?_
        refine cf_get hC dX5_readNumber_35 fl_5_15 (by decide) ?_
        by_cases h1 : a < cL κ
        · have h100 : a < 100 := by omega
          refine e_ge_f (i := a) (N := cL κ) 90 dX5_readNumber_38 (by decide) rfl hs1.1.1 (by omega) (by omega) ?_
          refine e_aload_n dX5_readNumber_41 rfl rfl ?_
          refine e_getr dX5_readNumber_42 fl_5_11 hC.a0 rfl ?_
          refine e_aload_n dX5_readNumber_45 rfl rfl ?_
          refine cf_get hC dX5_readNumber_46 fl_5_34 (by decide) ?_
          refine cb_ld a hC dX5_readNumber_49 rfl h100 ?_
          refine e_cS1 dX5_readNumber_50 ml_5_61 (c_X5_isDigit _) rfl rfl (by decide) (Nat.le_of_ble_eq_true rfl) ⟨rfl, rfl⟩ (Nat.le_of_ble_eq_true rfl) (Nat.le_of_ble_eq_true rfl) ?_
          refine e_if_eq 90 dX5_readNumber_53 (by decide) (fun h53 => ?_) (fun h53 => ?_)
          · exact hno (fun z => z0 h53 z.2)
          · refine e_iload_n dX5_readNumber_56 rfl rfl ?_
            refine e_bipush (v := 10) dX5_readNumber_57 (by decide) ?_
            refine e_imul dX5_readNumber_59 ?_
            refine e_aload_n dX5_readNumber_60 rfl rfl ?_
            refine e_getr dX5_readNumber_61 fl_5_11 hC.a0 rfl ?_
            refine e_aload_n dX5_readNumber_64 rfl rfl ?_
            refine cf_get hC dX5_readNumber_65 fl_5_34 (by decide) ?_
            refine cb_ld a hC dX5_readNumber_68 rfl h100 ?_
            refine e_iadd dX5_readNumber_69 ?_
            refine e_bipush (v := 48) dX5_readNumber_70 (by decide) ?_
            refine e_isub dX5_readNumber_72 ?_
            refine e_istore_n dX5_readNumber_73 rfl (by decide) rfl ?_
            refine e_aload_n dX5_readNumber_74 rfl rfl ?_
            refine e_dup dX5_readNumber_75 rfl ?_
            refine cf_get hC dX5_readNumber_76 fl_5_34 (by decide) ?_
            refine e_iconst (v := 1) dX5_readNumber_79 (by decide) ?_
            refine e_iadd dX5_readNumber_80 ?_
            refine cf_put hC dX5_readNumber_81 fl_5_34 ?_
            rw [show cf (pcf (sB κ) 7 (nI a)) 7 + 1 = nI (a + 1) from nI_1 a, pcf_pcf]
            rw [nmr, if_pos ⟨h1, z1 h53⟩] at hr
            refine e_iinc dX5_readNumber_84 rfl (ai_inc _) (by decide) rfl ?_
            refine e_goto 24 dX5_readNumber_87 (by decide) ?_
            exact ih (i + 1) (a + 1) _ (by omega) (by omega) hr
        · refine e_ge_t (i := a) (N := cL κ) 90 dX5_readNumber_38 (by decide) rfl hs1.1.1 (by omega) (by omega) ?_
          exact hno (fun z => h1 z.1)
    have h0 := key 3 0 (cA (sB κ)) 0 rfl hal hR
    rw [← hA, pcf_id] at h0
    refine e_aload_n dX5_readNumber_0 rfl rfl ?_
    refine cf_get hC dX5_readNumber_1 fl_5_37 (by decide) ?_
    refine e_iconst (v := (-1)) dX5_readNumber_4 (by decide) ?_
    refine e_icmp_eq 10 dX5_readNumber_5 (by decide) (fun h5 => ?_) (fun h5 => ?_)
    · refine e_aload_n dX5_readNumber_10 rfl rfl ?_
      refine e_cV0 dX5_readNumber_11 ml_5_55 hk hC.a0 rfl rfl (by decide) (Nat.le_of_ble_eq_true rfl) ⟨rfl, rfl⟩ (Nat.le_of_ble_eq_true rfl) (Nat.le_of_ble_eq_true rfl) ?_
      refine e_aload_n dX5_readNumber_14 rfl rfl ?_
      refine cf_get hC dX5_readNumber_15 fl_5_34 (by decide) ?_
      refine e_istore_n dX5_readNumber_18 rfl (by decide) rfl ?_
      refine e_iconst (v := 0) dX5_readNumber_19 (by decide) ?_
      refine e_istore_n dX5_readNumber_20 rfl (by decide) rfl ?_
      refine e_iconst (v := 0) dX5_readNumber_21 (by decide) ?_
      refine e_istore dX5_readNumber_22 (by decide) rfl ?_
      exact h0
    · exact absurd h8 h5
  · rw [rN, if_neg h8]
    refine AM_gen (fun out ho => ?_)
    refine AM_of [.ref c, .int most, .retAddr 0, .retAddr 0, .retAddr 0] (by decide) rfl (fun B => (Nat.le_of_ble_eq_true rfl)) ?_
    refine e_aload_n dX5_readNumber_0 rfl rfl ?_
    refine cf_get hC dX5_readNumber_1 fl_5_37 (by decide) ?_
    refine e_iconst (v := (-1)) dX5_readNumber_4 (by decide) ?_
    refine e_icmp_eq 10 dX5_readNumber_5 (by decide) (fun h5 => ?_) (fun h5 => ?_)
    · exact absurd h5 h8
    · refine e_iconst (v := 0) dX5_readNumber_8 (by decide) ?_
      exact e_iret dX5_readNumber_9 rfl ho (Nat.le_of_ble_eq_true rfl) (Nat.le_of_ble_eq_true rfl)
theorem c_X5_addStep (hC : SS S c) (hs : SI κ) (k me r n : Int32) : AM G_X5_addStep [.ref c, .int k, .int me, .int r, .int n] S (sc_put c κ M) J (none, S, sc_put c (aS κ k me r n) M, J) := by
  have hl := hs.2.2.1.2
  have hx := hs.2.2.1.1
  have hinc : cf κ 6 + 1 = nI (cS κ + 1) := by rw [hx, nI_1]
  refine AM_gen (fun out ho => ?_)
  refine AM_of [.ref c, .int k, .int me, .int r, .int n] (by decide) rfl (fun B => (Nat.le_of_ble_eq_true rfl)) ?_
  refine e_aload_n dX5_addStep_0 rfl rfl ?_
  refine cf_get hC dX5_addStep_1 fl_5_37 (by decide) ?_
  refine e_iconst (v := (-1)) dX5_addStep_4 (by decide) ?_
  refine e_icmp_ne 68 dX5_addStep_5 (by decide) (fun h5 => ?_) (fun h5 => ?_)
  · rw [aS, if_neg (fun z => h5 z.1)] at ho
    exact e_vret dX5_addStep_68 rfl ho (Nat.le_of_ble_eq_true rfl) (Nat.le_of_ble_eq_true rfl)
  · refine e_aload_n dX5_addStep_8 rfl rfl ?_
    refine cf_get hC dX5_addStep_9 fl_5_31 (by decide) ?_
    refine e_bipush (v := 100) dX5_addStep_12 (by decide) ?_
    by_cases h1 : cS κ < 100
    · rw [aS, if_pos ⟨h5, h1⟩, ← hinc] at ho
      refine e_ge_f (i := cS κ) (N := 100) 68 dX5_addStep_14 (by decide) hx rfl (by omega) (by omega) ?_
      refine e_aload_n dX5_addStep_17 rfl rfl ?_
      refine e_getr dX5_addStep_18 fl_5_19 hC.a0 rfl ?_
      refine e_aload_n dX5_addStep_21 rfl rfl ?_
      refine cf_get hC dX5_addStep_22 fl_5_31 (by decide) ?_
      refine e_iload_n dX5_addStep_25 rfl rfl ?_
      refine ck_st (cS κ) hC dX5_addStep_26 hx h1 ?_
      refine e_aload_n dX5_addStep_27 rfl rfl ?_
      refine e_getr dX5_addStep_28 fl_5_22 hC.a0 rfl ?_
      refine e_aload_n dX5_addStep_31 rfl rfl ?_
      refine cf_get hC dX5_addStep_32 fl_5_31 (by decide) ?_
      refine e_iload_n dX5_addStep_35 rfl rfl ?_
      refine cm_st (cS κ) hC dX5_addStep_36 hx h1 ?_
      refine e_aload_n dX5_addStep_37 rfl rfl ?_
      refine e_getr dX5_addStep_38 fl_5_25 hC.a0 rfl ?_
      refine e_aload_n dX5_addStep_41 rfl rfl ?_
      refine cf_get hC dX5_addStep_42 fl_5_31 (by decide) ?_
      refine e_iload_n dX5_addStep_45 rfl rfl ?_
      refine cr_st (cS κ) hC dX5_addStep_46 hx h1 ?_
      refine e_aload_n dX5_addStep_47 rfl rfl ?_
      refine e_getr dX5_addStep_48 fl_5_28 hC.a0 rfl ?_
      refine e_aload_n dX5_addStep_51 rfl rfl ?_
      refine cf_get hC dX5_addStep_52 fl_5_31 (by decide) ?_
      refine e_iload dX5_addStep_55 rfl ?_
      refine cn_st (cS κ) hC dX5_addStep_57 hx h1 ?_
      refine e_aload_n dX5_addStep_58 rfl rfl ?_
      refine e_dup dX5_addStep_59 rfl ?_
      refine cf_get hC dX5_addStep_60 fl_5_31 (by decide) ?_
      refine e_iconst (v := 1) dX5_addStep_63 (by decide) ?_
      refine e_iadd dX5_addStep_64 ?_
      refine cf_put hC dX5_addStep_65 fl_5_31 ?_
      exact e_vret dX5_addStep_68 rfl ho (Nat.le_of_ble_eq_true rfl) (Nat.le_of_ble_eq_true rfl)
    · rw [aS, if_neg (fun z => h1 z.2)] at ho
      refine e_ge_t (i := cS κ) (N := 100) 68 dX5_addStep_14 (by decide) hx rfl (by omega) (by omega) ?_
      exact e_vret dX5_addStep_68 rfl ho (Nat.le_of_ble_eq_true rfl) (Nat.le_of_ble_eq_true rfl)
theorem c_X5_readRequest (hC : SS S c) (hs : SI κ) : AM G_X5_readRequest [.ref c] S (sc_put c κ M) J (none, S, sc_put c (rRq κ) M, J) := by
  have h1 := hs.kRB 97 108
  have h2 := h1.kRB 48 52
  have h3 := h2.kRB 44 44
  have h4 := h3.kRN 999
  refine AM_gen (fun out ho => ?_)
  refine AM_of [.ref c, .retAddr 0, .retAddr 0] (by decide) rfl (fun B => (Nat.le_of_ble_eq_true rfl)) ?_
  refine e_aload_n dX5_readRequest_0 rfl rfl ?_
  refine e_bipush (v := 97) dX5_readRequest_1 (by decide) ?_
  refine e_bipush (v := 108) dX5_readRequest_3 (by decide) ?_
  refine e_cV1 dX5_readRequest_5 ml_5_74 (c_X5_readByte hC hs _ _) hC.a0 rfl rfl (by decide) (Nat.le_of_ble_eq_true rfl) ⟨rfl, rfl⟩ (Nat.le_of_ble_eq_true rfl) (Nat.le_of_ble_eq_true rfl) ?_
  refine e_bipush (v := 97) dX5_readRequest_8 (by decide) ?_
  refine e_isub dX5_readRequest_10 ?_
  refine e_istore_n dX5_readRequest_11 rfl (by decide) rfl ?_
  refine e_aload_n dX5_readRequest_12 rfl rfl ?_
  refine e_bipush (v := 48) dX5_readRequest_13 (by decide) ?_
  refine e_bipush (v := 52) dX5_readRequest_15 (by decide) ?_
  refine e_cV1 dX5_readRequest_17 ml_5_74 (c_X5_readByte hC h1 _ _) hC.a0 rfl rfl (by decide) (Nat.le_of_ble_eq_true rfl) ⟨rfl, rfl⟩ (Nat.le_of_ble_eq_true rfl) (Nat.le_of_ble_eq_true rfl) ?_
  refine e_bipush (v := 48) dX5_readRequest_20 (by decide) ?_
  refine e_isub dX5_readRequest_22 ?_
  refine e_istore_n dX5_readRequest_23 rfl (by decide) rfl ?_
  refine e_aload_n dX5_readRequest_24 rfl rfl ?_
  refine e_bipush (v := 44) dX5_readRequest_25 (by decide) ?_
  refine e_bipush (v := 44) dX5_readRequest_27 (by decide) ?_
  refine e_cV1 dX5_readRequest_29 ml_5_74 (c_X5_readByte hC h2 _ _) hC.a0 rfl rfl (by decide) (Nat.le_of_ble_eq_true rfl) ⟨rfl, rfl⟩ (Nat.le_of_ble_eq_true rfl) (Nat.le_of_ble_eq_true rfl) ?_
  refine e_pop dX5_readRequest_32 rfl ?_
  refine e_aload_n dX5_readRequest_33 rfl rfl ?_
  refine e_bipush (v := 114) dX5_readRequest_34 (by decide) ?_
  refine e_iload_n dX5_readRequest_36 rfl rfl ?_
  refine e_iload_n dX5_readRequest_37 rfl rfl ?_
  refine e_aload_n dX5_readRequest_38 rfl rfl ?_
  refine e_sipush (v := 999) dX5_readRequest_39 (by decide) ?_
  refine e_cV1 dX5_readRequest_42 ml_5_82 (c_X5_readNumber hC h3 _) hC.a0 rfl rfl (by decide) (Nat.le_of_ble_eq_true rfl) ⟨rfl, rfl⟩ (Nat.le_of_ble_eq_true rfl) (Nat.le_of_ble_eq_true rfl) ?_
  refine e_cV0 dX5_readRequest_45 ml_5_78 (c_X5_addStep hC h4 _ _ _ _) hC.a0 rfl rfl (by decide) (Nat.le_of_ble_eq_true rfl) ⟨rfl, rfl⟩ (Nat.le_of_ble_eq_true rfl) (Nat.le_of_ble_eq_true rfl) ?_
  refine e_aload_n dX5_readRequest_48 rfl rfl ?_
  refine e_bipush (v := 59) dX5_readRequest_49 (by decide) ?_
  refine e_bipush (v := 59) dX5_readRequest_51 (by decide) ?_
  refine e_cV1 dX5_readRequest_53 ml_5_74 (c_X5_readByte hC (h4.kAS _ _ _ _) _ _) hC.a0 rfl rfl (by decide) (Nat.le_of_ble_eq_true rfl) ⟨rfl, rfl⟩ (Nat.le_of_ble_eq_true rfl) (Nat.le_of_ble_eq_true rfl) ?_
  refine e_pop dX5_readRequest_56 rfl ?_
  exact e_vret dX5_readRequest_57 rfl ho (Nat.le_of_ble_eq_true rfl) (Nat.le_of_ble_eq_true rfl)
theorem c_X5_readOpening (hC : SS S c) (hs : SI κ) : AM G_X5_readOpening [.ref c] S (sc_put c κ M) J (none, S, sc_put c (rOp κ) M, J) := by
  have h1 := hs.kRN 50
  have hrn := c_X5_readNumber (M := M) (J := J) hC hs 50
  refine AM_gen (fun out ho => ?_)
  refine AM_of [.ref c, .retAddr 0] (by decide) rfl (fun B => (Nat.le_of_ble_eq_true rfl)) ?_
  rw [rOp] at ho
  revert ho h1 hrn
  generalize (rN κ 50).2 = v
  generalize (rN κ 50).1 = κ1
  intro h1 hrn ho
  have hd := h1.2.2.2.2
  have h2 := h1.kO1
  have h3 := h2.kRB 40 40
  have hrb := c_X5_readByte (M := M) (J := J) hC h2 40 40
  have hd4' := rOp1_dep h1
  have tail : AW G_X5_readOpening out 0 0 35 [.ref c, .int v] [] S (sc_put c (rOp1 κ1) M) J := by
    revert ho h3 hrb hd4'
    generalize (rB (rOp1 κ1) 40 40).2 = v2
    generalize (rB (rOp1 κ1) 40 40).1 = κ2
    intro ho h3 hrb hd4'
    have hd3 := h3.2.2.2.2
    have hinc : cf κ2 9 + 1 = nI (cD κ2 + 1) := by rw [h3.2.2.2.1, nI_1]
    refine e_aload_n dX5_readOpening_35 rfl rfl ?_
    refine e_bipush (v := 40) dX5_readOpening_36 (by decide) ?_
    refine e_bipush (v := 40) dX5_readOpening_38 (by decide) ?_
    refine e_cV1 dX5_readOpening_40 ml_5_74 hrb hC.a0 rfl rfl (by decide) (Nat.le_of_ble_eq_true rfl) ⟨rfl, rfl⟩ (Nat.le_of_ble_eq_true rfl) (Nat.le_of_ble_eq_true rfl) ?_
    refine e_pop dX5_readOpening_43 rfl ?_
    refine e_aload_n dX5_readOpening_44 rfl rfl ?_
    refine cf_get hC dX5_readOpening_45 fl_5_37 (by decide) ?_
    refine e_iconst (v := (-1)) dX5_readOpening_48 (by decide) ?_
    by_cases h8 : cf κ2 8 = -1
    · refine e_icmp_ne 84 dX5_readOpening_49 (by decide) (fun h49 => ?_) (fun h49 => ?_)
      · exact absurd h8 h49
      · have hd4 : cD κ2 < 4 := hd4' h8
        rw [rOp2, if_pos ⟨h8, hd4⟩] at ho
        have h5 : SI (pcf (pco κ2 (cD κ2) (cf κ2 6)) 9 (nI (cD κ2 + 1))) := SI.dep (κ := pco κ2 (cD κ2) (cf κ2 6)) h3 (by omega)
        refine e_aload_n dX5_readOpening_52 rfl rfl ?_
        refine e_getr dX5_readOpening_53 fl_5_43 hC.a0 rfl ?_
        refine e_aload_n dX5_readOpening_56 rfl rfl ?_
        refine cf_get hC dX5_readOpening_57 fl_5_40 (by decide) ?_
        refine e_aload_n dX5_readOpening_60 rfl rfl ?_
        refine cf_get hC dX5_readOpening_61 fl_5_31 (by decide) ?_
        refine co_st (cD κ2) hC dX5_readOpening_64 h3.2.2.2.1 hd4 ?_
        refine e_aload_n dX5_readOpening_65 rfl rfl ?_
        refine e_dup dX5_readOpening_66 rfl ?_
        refine cf_get hC dX5_readOpening_67 fl_5_40 (by decide) ?_
        refine e_iconst (v := 1) dX5_readOpening_70 (by decide) ?_
        refine e_iadd dX5_readOpening_71 ?_
        refine cf_put hC dX5_readOpening_72 fl_5_40 ?_
        rw [show cf (pco κ2 (cD κ2) (cf κ2 6)) 9 + 1 = nI (cD κ2 + 1) from hinc]
        refine e_aload_n dX5_readOpening_75 rfl rfl ?_
        refine e_bipush (v := 40) dX5_readOpening_76 (by decide) ?_
        refine e_iconst (v := 0) dX5_readOpening_78 (by decide) ?_
        refine e_iconst (v := 0) dX5_readOpening_79 (by decide) ?_
        refine e_iload_n dX5_readOpening_80 rfl rfl ?_
        refine e_cV0 dX5_readOpening_81 ml_5_78 (c_X5_addStep hC h5 _ _ _ _) hC.a0 rfl rfl (by decide) (Nat.le_of_ble_eq_true rfl) ⟨rfl, rfl⟩ (Nat.le_of_ble_eq_true rfl) (Nat.le_of_ble_eq_true rfl) ?_
        exact e_vret dX5_readOpening_84 rfl ho (Nat.le_of_ble_eq_true rfl) (Nat.le_of_ble_eq_true rfl)
    · rw [rOp2, if_neg (fun z => h8 z.1)] at ho
      refine e_icmp_ne 84 dX5_readOpening_49 (by decide) (fun h49 => ?_) (fun h49 => ?_)
      · exact e_vret dX5_readOpening_84 rfl ho (Nat.le_of_ble_eq_true rfl) (Nat.le_of_ble_eq_true rfl)
      · exact absurd h49 h8
  refine e_aload_n dX5_readOpening_0 rfl rfl ?_
  refine e_bipush (v := 50) dX5_readOpening_1 (by decide) ?_
  refine e_cV1 dX5_readOpening_3 ml_5_82 hrn hC.a0 rfl rfl (by decide) (Nat.le_of_ble_eq_true rfl) ⟨rfl, rfl⟩ (Nat.le_of_ble_eq_true rfl) (Nat.le_of_ble_eq_true rfl) ?_
  refine e_istore_n dX5_readOpening_6 rfl (by decide) rfl ?_
  refine e_aload_n dX5_readOpening_7 rfl rfl ?_
  refine cf_get hC dX5_readOpening_8 fl_5_37 (by decide) ?_
  refine e_iconst (v := (-1)) dX5_readOpening_11 (by decide) ?_
  by_cases h8 : cf κ1 8 = -1
  · refine e_icmp_ne 35 dX5_readOpening_12 (by decide) (fun h12 => ?_) (fun h12 => ?_)
    · exact absurd h8 h12
    · refine e_aload_n dX5_readOpening_15 rfl rfl ?_
      refine cf_get hC dX5_readOpening_16 fl_5_40 (by decide) ?_
      refine e_iconst (v := 4) dX5_readOpening_19 (by decide) ?_
      by_cases hd4 : 4 ≤ cD κ1
      · rw [rOp1, if_pos ⟨h8, hd4⟩] at tail
        refine e_icmp_lt 35 dX5_readOpening_20 (by decide) (fun h20 => ?_) (fun h20 => ?_)
        · rw [h1.2.2.2.1] at h20
          exact absurd h20 (nI_nlt (b := 4) hd4 (by omega))
        · refine e_aload_n dX5_readOpening_23 rfl rfl ?_
          refine e_cV0 dX5_readOpening_24 ml_5_55 (c_X5_skipBlanks hC h1) hC.a0 rfl rfl (by decide) (Nat.le_of_ble_eq_true rfl) ⟨rfl, rfl⟩ (Nat.le_of_ble_eq_true rfl) (Nat.le_of_ble_eq_true rfl) ?_
          refine e_aload_n dX5_readOpening_27 rfl rfl ?_
          refine e_aload_n dX5_readOpening_28 rfl rfl ?_
          refine cf_get hC dX5_readOpening_29 fl_5_34 (by decide) ?_
          refine cf_put hC dX5_readOpening_32 fl_5_37 ?_
          exact tail
      · rw [rOp1, if_neg (fun z => hd4 z.2)] at tail
        refine e_icmp_lt 35 dX5_readOpening_20 (by decide) (fun h20 => ?_) (fun h20 => ?_)
        · exact tail
        · rw [h1.2.2.2.1] at h20
          exact absurd (nI_lt (b := 4) (by omega) (by decide)) h20
  · rw [rOp1, if_neg (fun z => h8 z.1)] at tail
    refine e_icmp_ne 35 dX5_readOpening_12 (by decide) (fun h12 => ?_) (fun h12 => ?_)
    · exact tail
    · exact absurd h12 h8
theorem c_X5_readClosing (hC : SS S c) (hs : SI κ) : AM G_X5_readClosing [.ref c] S (sc_put c κ M) J (none, S, sc_put c (rCs κ) M, J) := by
  have hd := hs.2.2.2.2
  have hx := hs.2.2.2.1
  refine AM_gen (fun out ho => ?_)
  refine AM_of [.ref c] (by decide) rfl (fun B => (Nat.le_of_ble_eq_true rfl)) ?_
  by_cases h0 : cD κ = 0
  · rw [rCs, if_pos h0] at ho
    refine e_aload_n dX5_readClosing_0 rfl rfl ?_
    refine cf_get hC dX5_readClosing_1 fl_5_40 (by decide) ?_
    refine e_if_ne 18 dX5_readClosing_4 (by decide) (fun h4 => ?_) (fun h4 => ?_)
    · rw [hx, h0] at h4
      exact absurd rfl h4
    · refine e_aload_n dX5_readClosing_7 rfl rfl ?_
      refine e_aload_n dX5_readClosing_8 rfl rfl ?_
      refine cf_get hC dX5_readClosing_9 fl_5_34 (by decide) ?_
      refine e_iconst (v := 1) dX5_readClosing_12 (by decide) ?_
      refine e_isub dX5_readClosing_13 ?_
      refine cf_put hC dX5_readClosing_14 fl_5_37 ?_
      exact e_vret dX5_readClosing_17 rfl ho (Nat.le_of_ble_eq_true rfl) (Nat.le_of_ble_eq_true rfl)
  · rw [rCs, if_neg h0] at ho
    have hdec : cf κ 9 - 1 = nI (cD κ - 1) := by rw [hx]; exact nI_sb (a := cD κ) (b := 1) (by omega)
    have h5 : SI (pcf κ 9 (nI (cD κ - 1))) := hs.dep (by omega)
    have hi4 : cD κ - 1 < 4 := by omega
    refine e_aload_n dX5_readClosing_0 rfl rfl ?_
    refine cf_get hC dX5_readClosing_1 fl_5_40 (by decide) ?_
    refine e_if_ne 18 dX5_readClosing_4 (by decide) (fun h4 => ?_) (fun h4 => ?_)
    · refine e_aload_n dX5_readClosing_18 rfl rfl ?_
      refine e_dup dX5_readClosing_19 rfl ?_
      refine cf_get hC dX5_readClosing_20 fl_5_40 (by decide) ?_
      refine e_iconst (v := 1) dX5_readClosing_23 (by decide) ?_
      refine e_isub dX5_readClosing_24 ?_
      refine cf_put hC dX5_readClosing_25 fl_5_40 ?_
      rw [hdec]
      refine e_aload_n dX5_readClosing_28 rfl rfl ?_
      refine e_bipush (v := 41) dX5_readClosing_29 (by decide) ?_
      refine e_iconst (v := 0) dX5_readClosing_31 (by decide) ?_
      refine e_iconst (v := 0) dX5_readClosing_32 (by decide) ?_
      refine e_aload_n dX5_readClosing_33 rfl rfl ?_
      refine e_getr dX5_readClosing_34 fl_5_43 hC.a0 rfl ?_
      refine e_aload_n dX5_readClosing_37 rfl rfl ?_
      refine cf_get hC dX5_readClosing_38 fl_5_40 (by decide) ?_
      refine co_ld ((cD κ - 1)) hC dX5_readClosing_41 rfl hi4 ?_
      refine e_cV0 dX5_readClosing_42 ml_5_78 (c_X5_addStep hC h5 _ _ _ _) hC.a0 rfl rfl (by decide) (Nat.le_of_ble_eq_true rfl) ⟨rfl, rfl⟩ (Nat.le_of_ble_eq_true rfl) (Nat.le_of_ble_eq_true rfl) ?_
      exact e_vret dX5_readClosing_45 rfl ho (Nat.le_of_ble_eq_true rfl) (Nat.le_of_ble_eq_true rfl)
    · rw [hx] at h4
      exact absurd h4 (nI_ne0 (by omega) (by omega))
theorem c_X5_readStep (hC : SS S c) (hs : SI κ) (ha : cA κ < cL κ) : AM G_X5_readStep [.ref c] S (sc_put c κ M) J (none, S, sc_put c (rSt κ) M, J) := by
  have hl := hs.1.2
  have hx := hs.2.1.1
  have h100 : cA κ < 100 := by omega
  have hinc : cf κ 7 + 1 = nI (cA κ + 1) := by rw [hx, nI_1]
  refine AM_gen (fun out ho => ?_)
  refine AM_of [.ref c, .retAddr 0] (by decide) rfl (fun B => (Nat.le_of_ble_eq_true rfl)) ?_
  rw [rSt] at ho
  revert ho
  generalize hk : cb κ (cA κ) = k
  intro ho
  have h1 : SI (pcf κ 7 (nI (cA κ + 1))) := hs.at (by omega)
  have tail : ¬ (48 ≤ k ∧ k ≤ 57) → AW G_X5_readStep out 0 0 33 [.ref c, .int k] [.int k] S (sc_put c (pcf κ 7 (nI (cA κ + 1))) M) J := by
    intro hno
    rw [if_neg hno] at ho
    revert ho h1
    generalize pcf κ 7 (nI (cA κ + 1)) = κ1
    intro ho h1
    by_cases k41 : k = 41
    · subst k41
      rw [rSt2, if_pos rfl] at ho
      refine e_lookup 92 dX5_readStep_33 (by decide) rfl (by decide) ?_
      refine e_aload_n dX5_readStep_92 rfl rfl ?_
      refine e_cV0 dX5_readStep_93 ml_5_68 (c_X5_readClosing hC h1) hC.a0 rfl rfl (by decide) (Nat.le_of_ble_eq_true rfl) ⟨rfl, rfl⟩ (Nat.le_of_ble_eq_true rfl) (Nat.le_of_ble_eq_true rfl) ?_
      refine e_goto 172 dX5_readStep_96 (by decide) ?_
      exact e_vret dX5_readStep_172 rfl ho (Nat.le_of_ble_eq_true rfl) (Nat.le_of_ble_eq_true rfl)
    · by_cases k114 : k = 114
      · subst k114
        rw [rSt2, if_neg k41, if_pos rfl] at ho
        refine e_lookup 99 dX5_readStep_33 (by decide) rfl (by decide) ?_
        refine e_aload_n dX5_readStep_99 rfl rfl ?_
        refine e_cV0 dX5_readStep_100 ml_5_71 (c_X5_readRequest hC h1) hC.a0 rfl rfl (by decide) (Nat.le_of_ble_eq_true rfl) ⟨rfl, rfl⟩ (Nat.le_of_ble_eq_true rfl) (Nat.le_of_ble_eq_true rfl) ?_
        refine e_goto 172 dX5_readStep_103 (by decide) ?_
        exact e_vret dX5_readStep_172 rfl ho (Nat.le_of_ble_eq_true rfl) (Nat.le_of_ble_eq_true rfl)
      · by_cases kw : k = 119 ∨ k = 108 ∨ k = 99
        · rw [rSt2, if_neg k41, if_neg k114, if_pos kw] at ho
          have h2 := h1.kRB 97 108
          have t2 : AW G_X5_readStep out 0 0 106 [.ref c, .int k] [] S (sc_put c κ1 M) J := by
            refine e_aload_n dX5_readStep_106 rfl rfl ?_
            refine e_iload_n dX5_readStep_107 rfl rfl ?_
            refine e_aload_n dX5_readStep_108 rfl rfl ?_
            refine e_bipush (v := 97) dX5_readStep_109 (by decide) ?_
            refine e_bipush (v := 108) dX5_readStep_111 (by decide) ?_
            refine e_cV1 dX5_readStep_113 ml_5_74 (c_X5_readByte hC h1 _ _) hC.a0 rfl rfl (by decide) (Nat.le_of_ble_eq_true rfl) ⟨rfl, rfl⟩ (Nat.le_of_ble_eq_true rfl) (Nat.le_of_ble_eq_true rfl) ?_
            refine e_bipush (v := 97) dX5_readStep_116 (by decide) ?_
            refine e_isub dX5_readStep_118 ?_
            refine e_iconst (v := 0) dX5_readStep_119 (by decide) ?_
            refine e_iconst (v := 0) dX5_readStep_120 (by decide) ?_
            refine e_cV0 dX5_readStep_121 ml_5_78 (c_X5_addStep hC h2 _ _ _ _) hC.a0 rfl rfl (by decide) (Nat.le_of_ble_eq_true rfl) ⟨rfl, rfl⟩ (Nat.le_of_ble_eq_true rfl) (Nat.le_of_ble_eq_true rfl) ?_
            refine e_aload_n dX5_readStep_124 rfl rfl ?_
            refine e_bipush (v := 59) dX5_readStep_125 (by decide) ?_
            refine e_bipush (v := 59) dX5_readStep_127 (by decide) ?_
            refine e_cV1 dX5_readStep_129 ml_5_74 (c_X5_readByte hC (h2.kAS _ _ _ _) _ _) hC.a0 rfl rfl (by decide) (Nat.le_of_ble_eq_true rfl) ⟨rfl, rfl⟩ (Nat.le_of_ble_eq_true rfl) (Nat.le_of_ble_eq_true rfl) ?_
            refine e_pop dX5_readStep_132 rfl ?_
            refine e_goto 172 dX5_readStep_133 (by decide) ?_
            exact e_vret dX5_readStep_172 rfl ho (Nat.le_of_ble_eq_true rfl) (Nat.le_of_ble_eq_true rfl)
          rcases kw with rfl | rfl | rfl
          · refine e_lookup 106 dX5_readStep_33 (by decide) rfl (by decide) ?_
            exact t2
          · refine e_lookup 106 dX5_readStep_33 (by decide) rfl (by decide) ?_
            exact t2
          · refine e_lookup 106 dX5_readStep_33 (by decide) rfl (by decide) ?_
            exact t2
        · by_cases k116 : k = 116
          · subst k116
            rw [rSt2, if_neg k41, if_neg k114, if_neg kw, if_pos rfl] at ho
            have h2 := h1.kRN 999
            refine e_lookup 136 dX5_readStep_33 (by decide) rfl (by decide) ?_
            refine e_aload_n dX5_readStep_136 rfl rfl ?_
            refine e_iload_n dX5_readStep_137 rfl rfl ?_
            refine e_iconst (v := 0) dX5_readStep_138 (by decide) ?_
            refine e_iconst (v := 0) dX5_readStep_139 (by decide) ?_
            refine e_aload_n dX5_readStep_140 rfl rfl ?_
            refine e_sipush (v := 999) dX5_readStep_141 (by decide) ?_
            refine e_cV1 dX5_readStep_144 ml_5_82 (c_X5_readNumber hC h1 _) hC.a0 rfl rfl (by decide) (Nat.le_of_ble_eq_true rfl) ⟨rfl, rfl⟩ (Nat.le_of_ble_eq_true rfl) (Nat.le_of_ble_eq_true rfl) ?_
            refine e_cV0 dX5_readStep_147 ml_5_78 (c_X5_addStep hC h2 _ _ _ _) hC.a0 rfl rfl (by decide) (Nat.le_of_ble_eq_true rfl) ⟨rfl, rfl⟩ (Nat.le_of_ble_eq_true rfl) (Nat.le_of_ble_eq_true rfl) ?_
            refine e_aload_n dX5_readStep_150 rfl rfl ?_
            refine e_bipush (v := 59) dX5_readStep_151 (by decide) ?_
            refine e_bipush (v := 59) dX5_readStep_153 (by decide) ?_
            refine e_cV1 dX5_readStep_155 ml_5_74 (c_X5_readByte hC (h2.kAS _ _ _ _) _ _) hC.a0 rfl rfl (by decide) (Nat.le_of_ble_eq_true rfl) ⟨rfl, rfl⟩ (Nat.le_of_ble_eq_true rfl) (Nat.le_of_ble_eq_true rfl) ?_
            refine e_pop dX5_readStep_158 rfl ?_
            refine e_goto 172 dX5_readStep_159 (by decide) ?_
            exact e_vret dX5_readStep_172 rfl ho (Nat.le_of_ble_eq_true rfl) (Nat.le_of_ble_eq_true rfl)
          · rw [rSt2, if_neg k41, if_neg k114, if_neg kw, if_neg k116] at ho
            refine e_lookup 162 dX5_readStep_33 (by decide) (off := 129) ?_ (by decide) ?_
            · show (if (41 : Int) = k.toInt then (59 : Int) else if (99 : Int) = k.toInt then 73 else if (108 : Int) = k.toInt then 73 else if (114 : Int) = k.toInt then 66 else if (116 : Int) = k.toInt then 103 else if (119 : Int) = k.toInt then 73 else 129) = 129
              rw [if_neg (i32_ne (z := 41) k41 rfl), if_neg (i32_ne (n := 99) (z := 99) (fun z => kw (Or.inr (Or.inr z))) rfl), if_neg (i32_ne (n := 108) (z := 108) (fun z => kw (Or.inr (Or.inl z))) rfl), if_neg (i32_ne (z := 114) k114 rfl), if_neg (i32_ne (z := 116) k116 rfl), if_neg (i32_ne (n := 119) (z := 119) (fun z => kw (Or.inl z)) rfl)]
            · refine e_aload_n dX5_readStep_162 rfl rfl ?_
              refine e_aload_n dX5_readStep_163 rfl rfl ?_
              refine cf_get hC dX5_readStep_164 fl_5_34 (by decide) ?_
              refine e_iconst (v := 1) dX5_readStep_167 (by decide) ?_
              refine e_isub dX5_readStep_168 ?_
              refine cf_put hC dX5_readStep_169 fl_5_37 ?_
              exact e_vret dX5_readStep_172 rfl ho (Nat.le_of_ble_eq_true rfl) (Nat.le_of_ble_eq_true rfl)
  refine e_aload_n dX5_readStep_0 rfl rfl ?_
  refine e_getr dX5_readStep_1 fl_5_11 hC.a0 rfl ?_
  refine e_aload_n dX5_readStep_4 rfl rfl ?_
  refine cf_get hC dX5_readStep_5 fl_5_34 (by decide) ?_
  refine cb_ld (cA κ) hC dX5_readStep_8 hx h100 ?_
  rw [hk]
  refine e_istore_n dX5_readStep_9 rfl (by decide) rfl ?_
  refine e_iload_n dX5_readStep_10 rfl rfl ?_
  refine e_cS1 dX5_readStep_11 ml_5_61 (c_X5_isDigit _) rfl rfl (by decide) (Nat.le_of_ble_eq_true rfl) ⟨rfl, rfl⟩ (Nat.le_of_ble_eq_true rfl) (Nat.le_of_ble_eq_true rfl) ?_
  refine e_if_eq 22 dX5_readStep_14 (by decide) (fun h14 => ?_) (fun h14 => ?_)
  · have t2 := tail (z0 h14)
    refine e_aload_n dX5_readStep_22 rfl rfl ?_
    refine e_dup dX5_readStep_23 rfl ?_
    refine cf_get hC dX5_readStep_24 fl_5_34 (by decide) ?_
    refine e_iconst (v := 1) dX5_readStep_27 (by decide) ?_
    refine e_iadd dX5_readStep_28 ?_
    refine cf_put hC dX5_readStep_29 fl_5_34 ?_
    rw [hinc]
    refine e_iload_n dX5_readStep_32 rfl rfl ?_
    exact t2
  · rw [if_pos (z1 h14)] at ho
    refine e_aload_n dX5_readStep_17 rfl rfl ?_
    refine e_cV0 dX5_readStep_18 ml_5_65 (c_X5_readOpening hC hs) hC.a0 rfl rfl (by decide) (Nat.le_of_ble_eq_true rfl) ⟨rfl, rfl⟩ (Nat.le_of_ble_eq_true rfl) (Nat.le_of_ble_eq_true rfl) ?_
    exact e_vret dX5_readStep_21 rfl ho (Nat.le_of_ble_eq_true rfl) (Nat.le_of_ble_eq_true rfl)
theorem c_X5_read (hC : SS S c) (hl : cf κ 1 = nI (cL κ)) (hl4 : cL κ ≤ 100) : AM G_X5_read [.ref c] S (sc_put c κ M) J (some (.int (cf (rRead κ) 8)), S, sc_put c (rRead κ) M, J) := by
  have h0 : SI (rBegin κ) := ⟨⟨hl, hl4⟩, ⟨rfl, Nat.zero_le _⟩, ⟨rfl, Nat.zero_le _⟩, ⟨rfl, Nat.zero_le _⟩⟩
  refine AM_gen (fun out ho => ?_)
  refine AM_of [.ref c, .retAddr 0] (by decide) rfl (fun B => (Nat.le_of_ble_eq_true rfl)) ?_
  have hend : ∀ (κ1 : sc_T) (x1 : Value), SI κ1 → rEnd κ1 = rRead κ → AW G_X5_read out 0 0 65 [.ref c, x1] [] S (sc_put c κ1 M) J := by
    intro κ1 x1 h1 he
    rw [← he] at ho
    have hd := h1.2.2.2.2
    by_cases h8 : cf κ1 8 = -1
    · by_cases hd0 : 0 < cD κ1
      · rw [rEnd, if_pos ⟨h8, hd0⟩] at ho
        refine e_aload_n dX5_read_65 rfl rfl ?_
        refine cf_get hC dX5_read_66 fl_5_37 (by decide) ?_
        refine e_iconst (v := (-1)) dX5_read_69 (by decide) ?_
        refine e_icmp_ne 88 dX5_read_70 (by decide) (fun h70 => ?_) (fun h70 => ?_)
        · exact absurd h8 h70
        · refine e_aload_n dX5_read_73 rfl rfl ?_
          refine cf_get hC dX5_read_74 fl_5_40 (by decide) ?_
          refine e_if_le 88 dX5_read_77 (by decide) (fun h77 => ?_) (fun h77 => ?_)
          · rw [h1.2.2.2.1] at h77
            exact absurd h77 (nI_nle hd0 (by omega))
          · refine e_aload_n dX5_read_80 rfl rfl ?_
            refine e_aload_n dX5_read_81 rfl rfl ?_
            refine cf_get hC dX5_read_82 fl_5_15 (by decide) ?_
            refine cf_put hC dX5_read_85 fl_5_37 ?_
            refine e_aload_n dX5_read_88 rfl rfl ?_
            refine cf_get hC dX5_read_89 fl_5_37 (by decide) ?_
            exact e_iret dX5_read_92 rfl ho (Nat.le_of_ble_eq_true rfl) (Nat.le_of_ble_eq_true rfl)
      · rw [rEnd, if_neg (fun z => hd0 z.2)] at ho
        have hd9 : cf κ1 9 = 0 := by rw [h1.2.2.2.1, show cD κ1 = 0 by omega]; rfl
        refine e_aload_n dX5_read_65 rfl rfl ?_
        refine cf_get hC dX5_read_66 fl_5_37 (by decide) ?_
        refine e_iconst (v := (-1)) dX5_read_69 (by decide) ?_
        refine e_icmp_ne 88 dX5_read_70 (by decide) (fun h70 => ?_) (fun h70 => ?_)
        · exact absurd h8 h70
        · refine e_aload_n dX5_read_73 rfl rfl ?_
          refine cf_get hC dX5_read_74 fl_5_40 (by decide) ?_
          refine e_if_le 88 dX5_read_77 (by decide) (fun h77 => ?_) (fun h77 => ?_)
          · refine e_aload_n dX5_read_88 rfl rfl ?_
            refine cf_get hC dX5_read_89 fl_5_37 (by decide) ?_
            exact e_iret dX5_read_92 rfl ho (Nat.le_of_ble_eq_true rfl) (Nat.le_of_ble_eq_true rfl)
          · rw [hd9] at h77
            exact absurd (by decide) h77
    · rw [rEnd, if_neg (fun z => h8 z.1)] at ho
      refine e_aload_n dX5_read_65 rfl rfl ?_
      refine cf_get hC dX5_read_66 fl_5_37 (by decide) ?_
      refine e_iconst (v := (-1)) dX5_read_69 (by decide) ?_
      refine e_icmp_ne 88 dX5_read_70 (by decide) (fun h70 => ?_) (fun h70 => ?_)
      · refine e_aload_n dX5_read_88 rfl rfl ?_
        refine cf_get hC dX5_read_89 fl_5_37 (by decide) ?_
        exact e_iret dX5_read_92 rfl ho (Nat.le_of_ble_eq_true rfl) (Nat.le_of_ble_eq_true rfl)
      · exact absurd h70 h8
  have key : ∀ (d i : Nat) (κ1 : sc_T), i + d = 100 → SI κ1 → rEnd (rLoop d κ1) = rRead κ → AW G_X5_read out 0 0 26 [.ref c, .int (nI i)] [] S (sc_put c κ1 M) J := by
    intro d
    induction d with
    | zero =>
      intro i κ1 hi h1 he
      have hi2 : i = 100 := by omega
      subst hi2
      refine e_iload_n dX5_read_26 rfl rfl ?_
      refine e_bipush (v := 100) dX5_read_27 (by decide) ?_
      refine e_ge_t (i := 100) (N := 100) 65 dX5_read_29 (by decide) rfl rfl (by omega) (by omega) ?_
      exact hend κ1 _ h1 he
    | succ d ih =>
      intro i κ1 hi h1 he
      have hl1 := h1.1.2
      have ha1 := h1.2.1.2
      refine e_iload_n dX5_read_26 rfl rfl ?_
      refine e_bipush (v := 100) dX5_read_27 (by decide) ?_
      refine e_ge_f (i := i) (N := 100) 65 dX5_read_29 (by decide) rfl rfl (by omega) (by omega) ?_
      refine e_aload_n dX5_read_32 rfl rfl ?_
      refine cf_get hC dX5_read_33 fl_5_34 (by decide) ?_
      refine e_aload_n dX5_read_36 rfl rfl ?_
      refine cf_get hC dX5_read_37 fl_5_15 (by decide) ?_
      by_cases hal : cA κ1 < cL κ1
      · refine e_ge_f (i := cA κ1) (N := cL κ1) 65 dX5_read_40 (by decide) h1.2.1.1 h1.1.1 (by omega) (by omega) ?_
        refine e_aload_n dX5_read_43 rfl rfl ?_
        refine cf_get hC dX5_read_44 fl_5_37 (by decide) ?_
        refine e_iconst (v := (-1)) dX5_read_47 (by decide) ?_
        by_cases h8 : cf κ1 8 = -1
        · rw [rLoop, if_pos ⟨hal, h8⟩] at he
          refine e_icmp_ne 65 dX5_read_48 (by decide) (fun h48 => ?_) (fun h48 => ?_)
          · exact absurd h8 h48
          · refine e_aload_n dX5_read_51 rfl rfl ?_
            refine e_cV0 dX5_read_52 ml_5_58 (c_X5_readStep hC h1 hal) hC.a0 rfl rfl (by decide) (Nat.le_of_ble_eq_true rfl) ⟨rfl, rfl⟩ (Nat.le_of_ble_eq_true rfl) (Nat.le_of_ble_eq_true rfl) ?_
            refine e_aload_n dX5_read_55 rfl rfl ?_
            refine e_cV0 dX5_read_56 ml_5_55 (c_X5_skipBlanks hC (h1.kSt hal)) hC.a0 rfl rfl (by decide) (Nat.le_of_ble_eq_true rfl) ⟨rfl, rfl⟩ (Nat.le_of_ble_eq_true rfl) (Nat.le_of_ble_eq_true rfl) ?_
            refine e_iinc dX5_read_59 rfl (ai_inc _) (by decide) rfl ?_
            refine e_goto 26 dX5_read_62 (by decide) ?_
            exact ih (i + 1) _ (by omega) (h1.kSt hal).kB he
        · rw [rLoop, if_neg (fun z => h8 z.2)] at he
          refine e_icmp_ne 65 dX5_read_48 (by decide) (fun h48 => ?_) (fun h48 => ?_)
          · exact hend κ1 _ h1 he
          · exact absurd h48 h8
      · rw [rLoop, if_neg (fun z => hal z.1)] at he
        refine e_ge_t (i := cA κ1) (N := cL κ1) 65 dX5_read_40 (by decide) h1.2.1.1 h1.1.1 (by omega) (by omega) ?_
        exact hend κ1 _ h1 he
  have hk := key 100 0 _ rfl h0.kB rfl
  refine e_aload_n dX5_read_0 rfl rfl ?_
  refine e_iconst (v := 0) dX5_read_1 (by decide) ?_
  refine cf_put hC dX5_read_2 fl_5_34 ?_
  refine e_aload_n dX5_read_5 rfl rfl ?_
  refine e_iconst (v := (-1)) dX5_read_6 (by decide) ?_
  refine cf_put hC dX5_read_7 fl_5_37 ?_
  refine e_aload_n dX5_read_10 rfl rfl ?_
  refine e_iconst (v := 0) dX5_read_11 (by decide) ?_
  refine cf_put hC dX5_read_12 fl_5_40 ?_
  refine e_aload_n dX5_read_15 rfl rfl ?_
  refine e_iconst (v := 0) dX5_read_16 (by decide) ?_
  refine cf_put hC dX5_read_17 fl_5_31 ?_
  refine e_aload_n dX5_read_20 rfl rfl ?_
  refine e_cV0 dX5_read_21 ml_5_55 (c_X5_skipBlanks hC h0) hC.a0 rfl rfl (by decide) (Nat.le_of_ble_eq_true rfl) ⟨rfl, rfl⟩ (Nat.le_of_ble_eq_true rfl) (Nat.le_of_ble_eq_true rfl) ?_
  refine e_iconst (v := 0) dX5_read_24 (by decide) ?_
  refine e_istore_n dX5_read_25 rfl (by decide) rfl ?_
  exact hk
end C65

