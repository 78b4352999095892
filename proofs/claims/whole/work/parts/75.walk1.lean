/-! ===== the class walks through the steps ===== -/
def cX (κ : sc_T) : Nat := (cf κ 11).toNatClampNeg
def cU (κ : sc_T) : Nat := (cf κ 12).toNatClampNeg
def NI (κ : sc_T) : Prop := (cf κ 11 = nI (cX κ) ∧ cX κ ≤ 100) ∧ (cf κ 6 = nI (cS κ) ∧ cS κ ≤ 100) ∧ (cf κ 12 = nI (cU κ) ∧ cU κ ≤ 200) ∧ ∀ k, k < cS κ → ck κ k = 41 → ∃ o, o < 100 ∧ cn κ k = nI o
theorem NI.nx {κ : sc_T} (h : NI κ) {a : Nat} (ha : a ≤ 100) : NI (pcf κ 11 (nI a)) := by
  have e : cX (pcf κ 11 (nI a)) = a := nI_clamp (by omega)
  refine ⟨⟨?_, ?_⟩, h.2⟩
  · rw [e]; rfl
  · rw [e]; exact ha
theorem NI.un {κ : sc_T} (h : NI κ) {a : Nat} (ha : a ≤ 200) : NI (pcf κ 12 (nI a)) := by
  have e : cU (pcf κ 12 (nI a)) = a := nI_clamp (by omega)
  refine ⟨h.1, h.2.1, ⟨?_, ?_⟩, h.2.2.2⟩
  · rw [e]; rfl
  · rw [e]; exact ha
theorem NI.tl {κ : sc_T} (h : NI κ) (j : Nat) (x : Int32) : NI (pct κ j x) := h
def uU (κ : sc_T) : sc_T × Bool := if cU κ < 200 then (pcf κ 12 (nI (cU κ + 1)), true) else (pcf κ 11 (nI (cS κ)), false)
theorem NI.xU {κ : sc_T} (h : NI κ) : NI (uU κ).1 := by
  rw [uU]
  split
  · exact h.un (by omega)
  · exact h.nx h.2.1.2
def eR (κ : sc_T) (o : Nat) : sc_T := if 0 < ct κ o - 1 then (if (uU (pct κ o (ct κ o - 1))).2 = true then pcf (uU (pct κ o (ct κ o - 1))).1 11 (nI (o + 1)) else (uU (pct κ o (ct κ o - 1))).1) else pct κ o (ct κ o - 1)
theorem NI.xE {κ : sc_T} (h : NI κ) {o : Nat} (ho : o < 100) : NI (eR κ o) := by
  have h1 := (h.tl o (ct κ o - 1)).xU
  rw [eR]
  split
  · split
    · exact h1.nx (by omega)
    · exact h1
  · exact h
def nC : Nat → sc_T → sc_T × Int32
  | 0, κ => (κ, -1)
  | i + 1, κ => if cX κ < cS κ then
      (if ck κ (cX κ) = 41 then nC i (eR (pcf κ 11 (nI (cX κ + 1))) (cn κ (cX κ)).toNatClampNeg)
       else if (uU (pcf κ 11 (nI (cX κ + 1)))).2 = false then ((uU (pcf κ 11 (nI (cX κ + 1)))).1, -1)
       else if ck κ (cX κ) = 40 then nC i (pct (uU (pcf κ 11 (nI (cX κ + 1)))).1 (cX κ) (cn κ (cX κ)))
       else ((uU (pcf κ 11 (nI (cX κ + 1)))).1, nI (cX κ)))
    else (κ, -1)
section C75
variable {S : List aiS} {M : Nat → Nat → Int32} {J : Nat → Int64} {κ : sc_T} {c : Nat}
theorem c_X5_begin (hC : SS S c) : AM G_X5_begin [.ref c] S (sc_put c κ M) J (none, S, sc_put c (pcf (pcf κ 11 0) 12 0) M, J) := by
  refine AM_gen (fun out ho => ?_)
  refine AM_of [.ref c] (by decide) rfl (fun B => (Nat.le_of_ble_eq_true rfl)) ?_
  refine e_aload_n dX5_begin_0 rfl rfl ?_
  refine e_iconst (v := 0) dX5_begin_1 (by decide) ?_
  refine cf_put hC dX5_begin_2 fl_5_46 ?_
  refine e_aload_n dX5_begin_5 rfl rfl ?_
  refine e_iconst (v := 0) dX5_begin_6 (by decide) ?_
  refine cf_put hC dX5_begin_7 fl_5_49 ?_
  exact e_vret dX5_begin_10 rfl ho (Nat.le_of_ble_eq_true rfl) (Nat.le_of_ble_eq_true rfl)
theorem c_X5_useUnit (hC : SS S c) (h : NI κ) : AM G_X5_useUnit [.ref c] S (sc_put c κ M) J (some (.int (bI (uU κ).2)), S, sc_put c (uU κ).1 M, J) := by
  have hu := h.2.2.1.2
  have hu1 := h.2.2.1.1
  have hinc : cf κ 12 + 1 = nI (cU κ + 1) := by rw [hu1, nI_1]
  refine AM_gen (fun out ho => ?_)
  refine AM_of [.ref c] (by decide) rfl (fun B => (Nat.le_of_ble_eq_true rfl)) ?_
  by_cases hlt : cU κ < 200
  · rw [uU, if_pos hlt] at ho
    refine e_aload_n dX5_useUnit_0 rfl rfl ?_
    refine cf_get hC dX5_useUnit_1 fl_5_49 (by decide) ?_
    refine e_sipush (v := 200) dX5_useUnit_4 (by decide) ?_
    refine e_icmp_lt 20 dX5_useUnit_7 (by decide) (fun h7 => ?_) (fun h7 => ?_)
    · refine e_aload_n dX5_useUnit_20 rfl rfl ?_
      refine e_dup dX5_useUnit_21 rfl ?_
      refine cf_get hC dX5_useUnit_22 fl_5_49 (by decide) ?_
      refine e_iconst (v := 1) dX5_useUnit_25 (by decide) ?_
      refine e_iadd dX5_useUnit_26 ?_
      refine cf_put hC dX5_useUnit_27 fl_5_49 ?_
      rw [hinc]
      refine e_iconst (v := 1) dX5_useUnit_30 (by decide) ?_
      exact e_zret dX5_useUnit_31 rfl (by decide) ho (Nat.le_of_ble_eq_true rfl) (Nat.le_of_ble_eq_true rfl)
    · rw [hu1] at h7
      exact absurd (nI_lt (b := 200) hlt (by decide)) h7
  · rw [uU, if_neg hlt] at ho
    refine e_aload_n dX5_useUnit_0 rfl rfl ?_
    refine cf_get hC dX5_useUnit_1 fl_5_49 (by decide) ?_
    refine e_sipush (v := 200) dX5_useUnit_4 (by decide) ?_
    refine e_icmp_lt 20 dX5_useUnit_7 (by decide) (fun h7 => ?_) (fun h7 => ?_)
    · rw [hu1] at h7
      exact absurd h7 (nI_nlt (b := 200) (by omega) (by omega))
    · refine e_aload_n dX5_useUnit_10 rfl rfl ?_
      refine e_aload_n dX5_useUnit_11 rfl rfl ?_
      refine cf_get hC dX5_useUnit_12 fl_5_31 (by decide) ?_
      refine cf_put hC dX5_useUnit_15 fl_5_46 ?_
      rw [h.2.1.1]
      refine e_iconst (v := 0) dX5_useUnit_18 (by decide) ?_
      exact e_zret dX5_useUnit_19 rfl (by decide) ho (Nat.le_of_ble_eq_true rfl) (Nat.le_of_ble_eq_true rfl)
theorem c_X5_endRepetition (hC : SS S c) (h : NI κ) {o : Nat} (ho5 : o < 100) : AM G_X5_endRepetition [.ref c, .int (nI o)] S (sc_put c κ M) J (none, S, sc_put c (eR κ o) M, J) := by
  have h1 : NI (pct κ o (ct κ o - 1)) := h.tl o _
  have e1 : ct (pct κ o (ct κ o - 1)) o = ct κ o - 1 := upd_same _ _ _
  have huu := c_X5_useUnit (M := M) (J := J) hC h1
  refine AM_gen (fun out ho => ?_)
  refine AM_of [.ref c, .int (nI o)] (by decide) rfl (fun B => (Nat.le_of_ble_eq_true rfl)) ?_
  rw [eR] at ho
  revert ho huu
  generalize uU (pct κ o (ct κ o - 1)) = U
  intro huu ho
  refine e_aload_n dX5_endRepetition_0 rfl rfl ?_
  refine e_getr dX5_endRepetition_1 fl_5_52 hC.a0 rfl ?_
  refine e_iload_n dX5_endRepetition_4 rfl rfl ?_
  refine e_dup2 dX5_endRepetition_5 rfl rfl ?_
  refine ct_ld o hC dX5_endRepetition_6 rfl (by first | assumption | omega) ?_
  refine e_iconst (v := 1) dX5_endRepetition_7 (by decide) ?_
  refine e_isub dX5_endRepetition_8 ?_
  refine ct_st o hC dX5_endRepetition_9 rfl (by first | assumption | omega) ?_
  refine e_aload_n dX5_endRepetition_10 rfl rfl ?_
  refine e_getr dX5_endRepetition_11 fl_5_52 hC.a0 rfl ?_
  refine e_iload_n dX5_endRepetition_14 rfl rfl ?_
  refine ct_ld o hC dX5_endRepetition_15 rfl (by first | assumption | omega) ?_
  rw [e1]
  refine e_if_le 33 dX5_endRepetition_16 (by decide) (fun h16 => ?_) (fun h16 => ?_)
  · rw [if_neg (Int32.not_lt.mpr h16)] at ho
    exact e_vret dX5_endRepetition_33 rfl ho (Nat.le_of_ble_eq_true rfl) (Nat.le_of_ble_eq_true rfl)
  · rw [if_pos (Int32.not_le.mp h16)] at ho
    refine e_aload_n dX5_endRepetition_19 rfl rfl ?_
    refine e_cV1 dX5_endRepetition_20 ml_5_90 huu hC.a0 rfl rfl (by decide) (Nat.le_of_ble_eq_true rfl) ⟨rfl, rfl⟩ (Nat.le_of_ble_eq_true rfl) (Nat.le_of_ble_eq_true rfl) ?_
    refine e_if_eq 33 dX5_endRepetition_23 (by decide) (fun h23 => ?_) (fun h23 => ?_)
    · have hb := bI0 h23
      rw [hb, if_neg (by decide)] at ho
      exact e_vret dX5_endRepetition_33 rfl ho (Nat.le_of_ble_eq_true rfl) (Nat.le_of_ble_eq_true rfl)
    · have hb := bI1 h23
      rw [hb, if_pos rfl] at ho
      refine e_aload_n dX5_endRepetition_26 rfl rfl ?_
      refine e_iload_n dX5_endRepetition_27 rfl rfl ?_
      refine e_iconst (v := 1) dX5_endRepetition_28 (by decide) ?_
      refine e_iadd dX5_endRepetition_29 ?_
      refine e_as (nI ((o + 1))) (ai_add rfl rfl) ?_
      refine cf_put hC dX5_endRepetition_30 fl_5_46 ?_
      exact e_vret dX5_endRepetition_33 rfl ho (Nat.le_of_ble_eq_true rfl) (Nat.le_of_ble_eq_true rfl)
theorem c_X5_nextCall (hC : SS S c) (h : NI κ) : AM G_X5_nextCall [.ref c] S (sc_put c κ M) J (some (.int (nC 1000 κ).2), S, sc_put c (nC 1000 κ).1 M, J) := by
  refine AM_gen (fun out ho => ?_)
  refine AM_of [.ref c, .retAddr 0, .retAddr 0] (by decide) rfl (fun B => (Nat.le_of_ble_eq_true rfl)) ?_
  have hend : ∀ (κ : sc_T) (x1 x2 : Value), out = (some (.int (-1)), S, sc_put c κ M, J) → AW G_X5_nextCall out 0 0 102 [.ref c, x1, x2] [] S (sc_put c κ M) J := by
    intro κ x1 x2 ho
    refine e_iconst (v := (-1)) dX5_nextCall_102 (by decide) ?_
    exact e_iret dX5_nextCall_103 rfl ho (Nat.le_of_ble_eq_true rfl) (Nat.le_of_ble_eq_true rfl)
  have key : ∀ (d i : Nat) (κ : sc_T) (x2 : Value), i + d = 1000 → NI κ → out = (some (.int (nC d κ).2), S, sc_put c (nC d κ).1 M, J) → AW G_X5_nextCall out 0 0 2 [.ref c, .int (nI i), x2] [] S (sc_put c κ M) J := by
    intro d
    induction d with
    | zero =>
      intro i κ x2 hi h ho
      have hi2 : i = 1000 := by omega
      subst hi2
      refine e_iload_n dX5_nextCall_2 rfl rfl ?_
      refine e_sipush (v := 1000) dX5_nextCall_3 (by decide) ?_
      refine e_ge_t (i := 1000) (N := 1000) 102 dX5_nextCall_6 (by decide) rfl rfl (by omega) (by omega) ?_
      exact hend κ _ _ ho
    | succ d ih =>
      intro i κ x2 hi h ho
      have hx := h.1.2
      have hs := h.2.1.2
      refine e_iload_n dX5_nextCall_2 rfl rfl ?_
      refine e_sipush (v := 1000) dX5_nextCall_3 (by decide) ?_
      refine e_ge_f (i := i) (N := 1000) 102 dX5_nextCall_6 (by decide) rfl rfl (by omega) (by omega) ?_
      refine e_aload_n dX5_nextCall_9 rfl rfl ?_
      refine cf_get hC dX5_nextCall_10 fl_5_46 (by decide) ?_
      refine e_aload_n dX5_nextCall_13 rfl rfl ?_
      refine cf_get hC dX5_nextCall_14 fl_5_31 (by decide) ?_
      by_cases hlt : cX κ < cS κ
      · refine e_ge_f (i := cX κ) (N := cS κ) 102 dX5_nextCall_17 (by decide) h.1.1 h.2.1.1 (by omega) (by omega) ?_
        rw [nC, if_pos hlt] at ho
        have hk41 := h.2.2.2 (cX κ) hlt
        have h1 : NI (pcf κ 11 (nI (cX κ + 1))) := h.nx (by omega)
        have h11 := h.1.1
        revert ho hk41 h1 h11 hlt hx
        generalize cX κ = k
        intro ho hx hlt hk41 h1 h11
        have hk100 : k < 100 := by omega
        have hinc : cf κ 11 + 1 = nI (k + 1) := by rw [h11, nI_1]
        refine e_aload_n dX5_nextCall_20 rfl rfl ?_
        refine cf_get hC dX5_nextCall_21 fl_5_46 (by decide) ?_
        refine e_as (nI k) h11 ?_
        refine e_istore_n dX5_nextCall_24 rfl (by decide) rfl ?_
        refine e_aload_n dX5_nextCall_25 rfl rfl ?_
        refine e_dup dX5_nextCall_26 rfl ?_
        refine cf_get hC dX5_nextCall_27 fl_5_46 (by decide) ?_
        refine e_iconst (v := 1) dX5_nextCall_30 (by decide) ?_
        refine e_iadd dX5_nextCall_31 ?_
        refine cf_put hC dX5_nextCall_32 fl_5_46 ?_
        rw [hinc]
        refine e_aload_n dX5_nextCall_35 rfl rfl ?_
        refine e_getr dX5_nextCall_36 fl_5_19 hC.a0 rfl ?_
        refine e_iload_n dX5_nextCall_39 rfl rfl ?_
        refine ck_ld k hC dX5_nextCall_40 rfl (by first | assumption | omega) ?_
        refine e_bipush (v := 41) dX5_nextCall_41 (by decide) ?_
        by_cases k41 : ck κ k = 41
        · rw [if_pos k41] at ho
          obtain ⟨o, ho1, ho2⟩ := hk41 k41
          rw [ho2, nI_clamp (by omega)] at ho
          refine e_icmp_ne 59 dX5_nextCall_43 (by decide) (fun h43 => ?_) (fun h43 => ?_)
          · exact absurd k41 h43
          · refine e_aload_n dX5_nextCall_46 rfl rfl ?_
            refine e_aload_n dX5_nextCall_47 rfl rfl ?_
            refine e_getr dX5_nextCall_48 fl_5_28 hC.a0 rfl ?_
            refine e_iload_n dX5_nextCall_51 rfl rfl ?_
            refine cn_ld k hC dX5_nextCall_52 rfl (by first | assumption | omega) ?_
            refine e_as (nI o) ho2 ?_
            refine e_cV0 dX5_nextCall_53 ml_5_86 (c_X5_endRepetition hC h1 ho1) hC.a0 rfl rfl (by decide) (Nat.le_of_ble_eq_true rfl) ⟨rfl, rfl⟩ (Nat.le_of_ble_eq_true rfl) (Nat.le_of_ble_eq_true rfl) ?_
            refine e_goto 96 dX5_nextCall_56 (by decide) ?_
            refine e_iinc dX5_nextCall_96 rfl (ai_inc _) (by decide) rfl ?_
            refine e_goto 2 dX5_nextCall_99 (by decide) ?_
            exact ih (i + 1) _ _ (by omega) (h1.xE ho1) ho
        · rw [if_neg k41] at ho
          refine e_icmp_ne 59 dX5_nextCall_43 (by decide) (fun h43 => ?_) (fun h43 => ?_)
          · have huu := c_X5_useUnit (M := M) (J := J) hC h1
            have hU := h1.xU
            have hcn : cn (uU (pcf κ 11 (nI (k + 1)))).1 = cn κ ∧ ck (uU (pcf κ 11 (nI (k + 1)))).1 = ck κ := by
              rw [uU]
              split
              · exact ⟨rfl, rfl⟩
              · exact ⟨rfl, rfl⟩
            revert ho huu hU hcn
            generalize uU (pcf κ 11 (nI (k + 1))) = U
            intro ho huu hU hcn
            refine e_aload_n dX5_nextCall_59 rfl rfl ?_
            refine e_cV1 dX5_nextCall_60 ml_5_90 huu hC.a0 rfl rfl (by decide) (Nat.le_of_ble_eq_true rfl) ⟨rfl, rfl⟩ (Nat.le_of_ble_eq_true rfl) (Nat.le_of_ble_eq_true rfl) ?_
            cases hb : U.2 with
            | false =>
              rw [hb, if_pos rfl] at ho
              refine e_if_ne 68 dX5_nextCall_63 (by decide) (fun h63 => ?_) (fun h63 => ?_)
              · exact absurd rfl h63
              · refine e_iconst (v := (-1)) dX5_nextCall_66 (by decide) ?_
                exact e_iret dX5_nextCall_67 rfl ho (Nat.le_of_ble_eq_true rfl) (Nat.le_of_ble_eq_true rfl)
            | true =>
              rw [hb, if_neg (by decide)] at ho
              refine e_if_ne 68 dX5_nextCall_63 (by decide) (fun h63 => ?_) (fun h63 => ?_)
              · refine e_aload_n dX5_nextCall_68 rfl rfl ?_
                refine e_getr dX5_nextCall_69 fl_5_19 hC.a0 rfl ?_
                refine e_iload_n dX5_nextCall_72 rfl rfl ?_
                refine ck_ld k hC dX5_nextCall_73 rfl (by first | assumption | omega) ?_
                refine e_bipush (v := 40) dX5_nextCall_74 (by decide) ?_
                by_cases k40 : ck κ k = 40
                · rw [if_pos k40] at ho
                  refine e_icmp_ne 94 dX5_nextCall_76 (by decide) (fun h76 => ?_) (fun h76 => ?_)
                  · rw [hcn.2] at h76
                    exact absurd k40 h76
                  · rw [← hcn.1] at ho
                    refine e_aload_n dX5_nextCall_79 rfl rfl ?_
                    refine e_getr dX5_nextCall_80 fl_5_52 hC.a0 rfl ?_
                    refine e_iload_n dX5_nextCall_83 rfl rfl ?_
                    refine e_aload_n dX5_nextCall_84 rfl rfl ?_
                    refine e_getr dX5_nextCall_85 fl_5_28 hC.a0 rfl ?_
                    refine e_iload_n dX5_nextCall_88 rfl rfl ?_
                    refine cn_ld k hC dX5_nextCall_89 rfl (by first | assumption | omega) ?_
                    refine ct_st k hC dX5_nextCall_90 rfl (by first | assumption | omega) ?_
                    refine e_goto 96 dX5_nextCall_91 (by decide) ?_
                    refine e_iinc dX5_nextCall_96 rfl (ai_inc _) (by decide) rfl ?_
                    refine e_goto 2 dX5_nextCall_99 (by decide) ?_
                    exact ih (i + 1) _ _ (by omega) (hU.tl _ _) ho
                · rw [if_neg k40] at ho
                  refine e_icmp_ne 94 dX5_nextCall_76 (by decide) (fun h76 => ?_) (fun h76 => ?_)
                  · refine e_iload_n dX5_nextCall_94 rfl rfl ?_
                    exact e_iret dX5_nextCall_95 rfl ho (Nat.le_of_ble_eq_true rfl) (Nat.le_of_ble_eq_true rfl)
                  · rw [hcn.2] at h76
                    exact absurd h76 k40
              · exact absurd h63 (by decide)
          · exact absurd h43 k41
      · refine e_ge_t (i := cX κ) (N := cS κ) 102 dX5_nextCall_17 (by decide) h.1.1 h.2.1.1 (by omega) (by omega) ?_
        rw [nC, if_neg hlt] at ho
        exact hend κ _ _ ho
  have h0 := key 1000 0 κ (.retAddr 0) rfl h ho
  refine e_iconst (v := 0) dX5_nextCall_0 (by decide) ?_
  refine e_istore_n dX5_nextCall_1 rfl (by decide) rfl ?_
  exact h0
end C75

