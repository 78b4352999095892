/-! ===== small methods ===== -/
section C10
variable {S : List aiS} {M : Nat → Nat → Int32} {J : Nat → Int64} {h : Nat} {σ : hs_T}
theorem c_X6_isWithin (v a b : Int32) : AM G_X6_isWithin [.int v, .int a, .int b] S M J (some (.int (if a ≤ v ∧ v ≤ b then 1 else 0)), S, M, J) := by
  refine AM_of [.int v, .int a, .int b] (by decide) rfl (fun B => (Nat.le_of_ble_eq_true rfl)) ?_
  refine e_iload_n dX6_isWithin_0 rfl rfl ?_
  refine e_iload_n dX6_isWithin_1 rfl rfl ?_
  refine e_icmp_lt 14 dX6_isWithin_2 (by decide) (fun h2 => ?_) (fun h2 => ?_)
  · refine e_iconst (v := 0) dX6_isWithin_14 (by decide) ?_
    exact e_zret dX6_isWithin_15 rfl (by decide) (by simp_all) (Nat.le_of_ble_eq_true rfl) (Nat.le_of_ble_eq_true rfl)
  · refine e_iload_n dX6_isWithin_5 rfl rfl ?_
    refine e_iload_n dX6_isWithin_6 rfl rfl ?_
    refine e_icmp_gt 14 dX6_isWithin_7 (by decide) (fun h7 => ?_) (fun h7 => ?_)
    · refine e_iconst (v := 0) dX6_isWithin_14 (by decide) ?_
      exact e_zret dX6_isWithin_15 rfl (by decide) (by simp_all) (Nat.le_of_ble_eq_true rfl) (Nat.le_of_ble_eq_true rfl)
    · refine e_iconst (v := 1) dX6_isWithin_10 (by decide) ?_
      refine e_goto 15 dX6_isWithin_11 (by decide) ?_
      exact e_zret dX6_isWithin_15 rfl (by decide) (by simp_all) (Nat.le_of_ble_eq_true rfl) (Nat.le_of_ble_eq_true rfl)
theorem c_X0_isImpatient (hS : HS S h) {q : Nat} (hq : q < 12) : AM G_X0_isImpatient [.ref h, .int (nI q)] S (hs_put h σ M) J (some (.int (if hu σ 0 ≤ hf σ 5 - hm σ q 2 then 1 else 0)), S, hs_put h σ M, J) := by
  refine AM_of [.ref h, .int (nI q)] (by decide) rfl (fun B => (Nat.le_of_ble_eq_true rfl)) ?_
  refine e_aload_n dX0_isImpatient_0 rfl rfl ?_
  refine hf_get hS dX0_isImpatient_1 fl_0_41 (by decide) ?_
  refine e_aload_n dX0_isImpatient_4 rfl rfl ?_
  refine e_getr dX0_isImpatient_5 fl_0_11 hS.a0 rfl ?_
  refine e_iload_n dX0_isImpatient_8 rfl rfl ?_
  refine h_mem q hS dX0_isImpatient_9 rfl (by first | assumption | omega) ?_
  refine hm_get hS (by first | assumption | omega) dX0_isImpatient_10 fl_0_102 (by decide) ?_
  refine e_isub dX0_isImpatient_13 ?_
  refine e_aload_n dX0_isImpatient_14 rfl rfl ?_
  refine e_getr dX0_isImpatient_15 fl_0_37 hS.a0 rfl ?_
  refine e_iconst (v := 0) dX0_isImpatient_18 (by decide) ?_
  refine hu_ld 0 hS dX0_isImpatient_19 (ai_lit 0) (by decide) ?_
  refine e_icmp_lt 27 dX0_isImpatient_20 (by decide) (fun h20 => ?_) (fun h20 => ?_)
  · refine e_iconst (v := 0) dX0_isImpatient_27 (by decide) ?_
    exact e_zret dX0_isImpatient_28 rfl (by decide) (by simp_all) (Nat.le_of_ble_eq_true rfl) (Nat.le_of_ble_eq_true rfl)
  · refine e_iconst (v := 1) dX0_isImpatient_23 (by decide) ?_
    refine e_goto 28 dX0_isImpatient_24 (by decide) ?_
    exact e_zret dX0_isImpatient_28 rfl (by decide) (by simp_all) (Nat.le_of_ble_eq_true rfl) (Nat.le_of_ble_eq_true rfl)
theorem c_X3_become (hS : HS S h) {q : Nat} (hq : q < 12) (s r t x : Int32) : AM G_X3_become [.ref (h + 8 + q), .int s, .int r, .int t, .int x] S (hs_put h σ M) J (none, S, hs_put h (phm (phm (phm (phm σ q 0 s) q 1 r) q 2 t) q 3 x) M, J) := by
  refine AM_of [.ref (h + 8 + q), .int s, .int r, .int t, .int x] (by decide) rfl (fun B => (Nat.le_of_ble_eq_true rfl)) ?_
  refine e_aload_n dX3_become_0 rfl rfl ?_
  refine e_iload_n dX3_become_1 rfl rfl ?_
  refine hm_put hS (by first | assumption | omega) dX3_become_2 fl_3_9 ?_
  refine e_aload_n dX3_become_5 rfl rfl ?_
  refine e_iload_n dX3_become_6 rfl rfl ?_
  refine hm_put hS (by first | assumption | omega) dX3_become_7 fl_3_15 ?_
  refine e_aload_n dX3_become_10 rfl rfl ?_
  refine e_iload_n dX3_become_11 rfl rfl ?_
  refine hm_put hS (by first | assumption | omega) dX3_become_12 fl_3_18 ?_
  refine e_aload_n dX3_become_15 rfl rfl ?_
  refine e_iload dX3_become_16 rfl ?_
  refine hm_put hS (by first | assumption | omega) dX3_become_18 fl_3_21 ?_
  exact e_vret dX3_become_21 rfl rfl (Nat.le_of_ble_eq_true rfl) (Nat.le_of_ble_eq_true rfl)
end C10

