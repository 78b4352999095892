/-! ===== small methods ===== -/
theorem wi_no1 {v a b : Int32} (h : v < a) : (if a ≤ v ∧ v ≤ b then (1 : Int32) else 0) = 0 := if_neg (fun q => absurd q.1 (Int32.not_le.mpr h))
theorem wi_no2 {v a b : Int32} (h : b < v) : (if a ≤ v ∧ v ≤ b then (1 : Int32) else 0) = 0 := if_neg (fun q => absurd q.2 (Int32.not_le.mpr h))
theorem wi_yes {v a b : Int32} (h : ¬ v < a) (h2 : ¬ b < v) : (if a ≤ v ∧ v ≤ b then (1 : Int32) else 0) = 1 := if_pos ⟨Int32.not_lt.mp h, Int32.not_lt.mp h2⟩
def hBe (σ : hs_T) (k : Nat) (s r t x : Int32) : hs_T := phm (phm (phm (phm σ k 0 s) k 1 r) k 2 t) k 3 x
section C10
variable {S : List aiS} {M : Nat → Nat → Int32} {J : Nat → Int64} {h : Nat} {σ : hs_T}
theorem c_X6_isWithin (v a b : Int32) : AM G_X6_isWithin [.int v, .int a, .int b] S M J (some (.int (if a ≤ v ∧ v ≤ b then 1 else 0)), S, M, J) := by
  refine AM_gen (fun out ho => ?_)
  refine AM_of [.int v, .int a, .int b] (by decide) rfl (fun B => (Nat.le_of_ble_eq_true rfl)) ?_
  refine e_iload_n dX6_isWithin_0 rfl rfl ?_
  refine e_iload_n dX6_isWithin_1 rfl rfl ?_
  refine e_icmp_lt 14 dX6_isWithin_2 (by decide) (fun h2 => ?_) (fun h2 => ?_)
  · refine e_iconst (v := 0) dX6_isWithin_14 (by decide) ?_
    exact e_zret dX6_isWithin_15 rfl (by decide) (ho.trans (by first | rw [wi_no1 h2] | rw [wi_no2 h7] | rw [wi_yes h2 h7])) (Nat.le_of_ble_eq_true rfl) (Nat.le_of_ble_eq_true rfl)
  · refine e_iload_n dX6_isWithin_5 rfl rfl ?_
    refine e_iload_n dX6_isWithin_6 rfl rfl ?_
    refine e_icmp_gt 14 dX6_isWithin_7 (by decide) (fun h7 => ?_) (fun h7 => ?_)
    · refine e_iconst (v := 0) dX6_isWithin_14 (by decide) ?_
      exact e_zret dX6_isWithin_15 rfl (by decide) (ho.trans (by first | rw [wi_no1 h2] | rw [wi_no2 h7] | rw [wi_yes h2 h7])) (Nat.le_of_ble_eq_true rfl) (Nat.le_of_ble_eq_true rfl)
    · refine e_iconst (v := 1) dX6_isWithin_10 (by decide) ?_
      refine e_goto 15 dX6_isWithin_11 (by decide) ?_
      exact e_zret dX6_isWithin_15 rfl (by decide) (ho.trans (by first | rw [wi_no1 h2] | rw [wi_no2 h7] | rw [wi_yes h2 h7])) (Nat.le_of_ble_eq_true rfl) (Nat.le_of_ble_eq_true rfl)
theorem c_X7_in (v a b : Int32) : AM G_X7_in [.int v, .int a, .int b] S M J (some (.int (if a ≤ v ∧ v ≤ b then 1 else 0)), S, M, J) := by
  refine AM_gen (fun out ho => ?_)
  refine AM_of [.int v, .int a, .int b] (by decide) rfl (fun B => (Nat.le_of_ble_eq_true rfl)) ?_
  refine e_iload_n dX7_in_0 rfl rfl ?_
  refine e_iload_n dX7_in_1 rfl rfl ?_
  refine e_icmp_lt 14 dX7_in_2 (by decide) (fun h2 => ?_) (fun h2 => ?_)
  · refine e_iconst (v := 0) dX7_in_14 (by decide) ?_
    exact e_zret dX7_in_15 rfl (by decide) (ho.trans (by first | rw [wi_no1 h2] | rw [wi_no2 h7] | rw [wi_yes h2 h7])) (Nat.le_of_ble_eq_true rfl) (Nat.le_of_ble_eq_true rfl)
  · refine e_iload_n dX7_in_5 rfl rfl ?_
    refine e_iload_n dX7_in_6 rfl rfl ?_
    refine e_icmp_gt 14 dX7_in_7 (by decide) (fun h7 => ?_) (fun h7 => ?_)
    · refine e_iconst (v := 0) dX7_in_14 (by decide) ?_
      exact e_zret dX7_in_15 rfl (by decide) (ho.trans (by first | rw [wi_no1 h2] | rw [wi_no2 h7] | rw [wi_yes h2 h7])) (Nat.le_of_ble_eq_true rfl) (Nat.le_of_ble_eq_true rfl)
    · refine e_iconst (v := 1) dX7_in_10 (by decide) ?_
      refine e_goto 15 dX7_in_11 (by decide) ?_
      exact e_zret dX7_in_15 rfl (by decide) (ho.trans (by first | rw [wi_no1 h2] | rw [wi_no2 h7] | rw [wi_yes h2 h7])) (Nat.le_of_ble_eq_true rfl) (Nat.le_of_ble_eq_true rfl)
theorem c_X6_isMember (v : Int32) : AM G_X6_isMember [.int v] S M J (some (.int (if 0 ≤ v ∧ v ≤ 11 then 1 else 0)), S, M, J) := by
  refine AM_gen (fun out ho => ?_)
  refine AM_of [.int v] (by decide) rfl (fun B => (Nat.le_of_ble_eq_true rfl)) ?_
  refine e_iload_n dX6_isMember_0 rfl rfl ?_
  refine e_iconst (v := 0) dX6_isMember_1 (by decide) ?_
  refine e_bipush (v := 11) dX6_isMember_2 (by decide) ?_
  refine e_cS1 dX6_isMember_4 ml_6_38 (c_X6_isWithin _ _ _) rfl rfl (by decide) (Nat.le_of_ble_eq_true rfl) ⟨rfl, rfl⟩ (Nat.le_of_ble_eq_true rfl) (Nat.le_of_ble_eq_true rfl) ?_
  exact e_zret dX6_isMember_7 rfl (by split <;> decide) ho (Nat.le_of_ble_eq_true rfl) (Nat.le_of_ble_eq_true rfl)
theorem c_X6_isRoom (v : Int32) : AM G_X6_isRoom [.int v] S M J (some (.int (if 0 ≤ v ∧ v ≤ 4 then 1 else 0)), S, M, J) := by
  refine AM_gen (fun out ho => ?_)
  refine AM_of [.int v] (by decide) rfl (fun B => (Nat.le_of_ble_eq_true rfl)) ?_
  refine e_iload_n dX6_isRoom_0 rfl rfl ?_
  refine e_iconst (v := 0) dX6_isRoom_1 (by decide) ?_
  refine e_iconst (v := 4) dX6_isRoom_2 (by decide) ?_
  refine e_cS1 dX6_isRoom_3 ml_6_38 (c_X6_isWithin _ _ _) rfl rfl (by decide) (Nat.le_of_ble_eq_true rfl) ⟨rfl, rfl⟩ (Nat.le_of_ble_eq_true rfl) (Nat.le_of_ble_eq_true rfl) ?_
  exact e_zret dX6_isRoom_6 rfl (by split <;> decide) ho (Nat.le_of_ble_eq_true rfl) (Nat.le_of_ble_eq_true rfl)
theorem c_X7_isMember (v : Int32) : AM G_X7_isMember [.int v] S M J (some (.int (if 0 ≤ v ∧ v ≤ 11 then 1 else 0)), S, M, J) := by
  refine AM_gen (fun out ho => ?_)
  refine AM_of [.int v] (by decide) rfl (fun B => (Nat.le_of_ble_eq_true rfl)) ?_
  refine e_iload_n dX7_isMember_0 rfl rfl ?_
  refine e_iconst (v := 0) dX7_isMember_1 (by decide) ?_
  refine e_bipush (v := 11) dX7_isMember_2 (by decide) ?_
  refine e_cS1 dX7_isMember_4 ml_7_39 (c_X7_in _ _ _) rfl rfl (by decide) (Nat.le_of_ble_eq_true rfl) ⟨rfl, rfl⟩ (Nat.le_of_ble_eq_true rfl) (Nat.le_of_ble_eq_true rfl) ?_
  exact e_zret dX7_isMember_7 rfl (by split <;> decide) ho (Nat.le_of_ble_eq_true rfl) (Nat.le_of_ble_eq_true rfl)
theorem c_X7_isRoom (v : Int32) : AM G_X7_isRoom [.int v] S M J (some (.int (if 0 ≤ v ∧ v ≤ 4 then 1 else 0)), S, M, J) := by
  refine AM_gen (fun out ho => ?_)
  refine AM_of [.int v] (by decide) rfl (fun B => (Nat.le_of_ble_eq_true rfl)) ?_
  refine e_iload_n dX7_isRoom_0 rfl rfl ?_
  refine e_iconst (v := 0) dX7_isRoom_1 (by decide) ?_
  refine e_iconst (v := 4) dX7_isRoom_2 (by decide) ?_
  refine e_cS1 dX7_isRoom_3 ml_7_39 (c_X7_in _ _ _) rfl rfl (by decide) (Nat.le_of_ble_eq_true rfl) ⟨rfl, rfl⟩ (Nat.le_of_ble_eq_true rfl) (Nat.le_of_ble_eq_true rfl) ?_
  exact e_zret dX7_isRoom_6 rfl (by split <;> decide) ho (Nat.le_of_ble_eq_true rfl) (Nat.le_of_ble_eq_true rfl)
theorem c_X0_isImpatient (hS : HS S h) {q : Nat} (hq : q < 12) : AM G_X0_isImpatient [.ref h, .int (nI q)] S (hs_put h σ M) J (some (.int (if hu σ 0 ≤ hf σ 5 - hm σ q 2 then 1 else 0)), S, hs_put h σ M, J) := by
  refine AM_gen (fun out ho => ?_)
  refine AM_of [.ref h, .int (nI q)] (by decide) rfl (fun B => (Nat.le_of_ble_eq_true rfl)) ?_
  refine e_aload_n dX0_isImpatient_0 rfl rfl ?_
  refine hf_get hS dX0_isImpatient_1 fl_0_41 (by decide) ?_
  refine e_aload_n dX0_isImpatient_4 rfl rfl ?_
  refine e_getr dX0_isImpatient_5 fl_0_11 hS.a0 rfl ?_
  refine e_iload_n dX0_isImpatient_8 rfl rfl ?_
  refine h_mem q hS dX0_isImpatient_9 rfl (by first | assumption | omega) ?_
  refine hm_get hS (by first | assumption | omega) dX0_isImpatient_10 fl_0_102 (by decide) ?_
  refine e_isub dX0_isImpatient_13 ?_
  refine e_aload_n dX0_isImpatient_14 rfl rfl ?_
  refine e_getr dX0_isImpatient_15 fl_0_37 hS.a0 rfl ?_
  refine e_iconst (v := 0) dX0_isImpatient_18 (by decide) ?_
  refine hu_ld 0 hS dX0_isImpatient_19 (ai_lit 0) (by decide) ?_
  refine e_icmp_lt 27 dX0_isImpatient_20 (by decide) (fun h20 => ?_) (fun h20 => ?_)
  · refine e_iconst (v := 0) dX0_isImpatient_27 (by decide) ?_
    exact e_zret dX0_isImpatient_28 rfl (by decide) (ho.trans (by simp_all)) (Nat.le_of_ble_eq_true rfl) (Nat.le_of_ble_eq_true rfl)
  · refine e_iconst (v := 1) dX0_isImpatient_23 (by decide) ?_
    refine e_goto 28 dX0_isImpatient_24 (by decide) ?_
    exact e_zret dX0_isImpatient_28 rfl (by decide) (ho.trans (by simp_all)) (Nat.le_of_ble_eq_true rfl) (Nat.le_of_ble_eq_true rfl)
theorem c_X3_become (hS : HS S h) {q : Nat} (hq : q < 12) (s r t x : Int32) : AM G_X3_become [.ref (h + 8 + q), .int s, .int r, .int t, .int x] S (hs_put h σ M) J (none, S, hs_put h (hBe σ q s r t x) M, J) := by
  refine AM_gen (fun out ho => ?_)
  refine AM_of [.ref (h + 8 + q), .int s, .int r, .int t, .int x] (by decide) rfl (fun B => (Nat.le_of_ble_eq_true rfl)) ?_
  refine e_aload_n dX3_become_0 rfl rfl ?_
  refine e_iload_n dX3_become_1 rfl rfl ?_
  refine hm_put hS (by first | assumption | omega) dX3_become_2 fl_3_9 ?_
  refine e_aload_n dX3_become_5 rfl rfl ?_
  refine e_iload_n dX3_become_6 rfl rfl ?_
  refine hm_put hS (by first | assumption | omega) dX3_become_7 fl_3_15 ?_
  refine e_aload_n dX3_become_10 rfl rfl ?_
  refine e_iload_n dX3_become_11 rfl rfl ?_
  refine hm_put hS (by first | assumption | omega) dX3_become_12 fl_3_18 ?_
  refine e_aload_n dX3_become_15 rfl rfl ?_
  refine e_iload dX3_become_16 rfl ?_
  refine hm_put hS (by first | assumption | omega) dX3_become_18 fl_3_21 ?_
  exact e_vret dX3_become_21 rfl ho (Nat.le_of_ble_eq_true rfl) (Nat.le_of_ble_eq_true rfl)
end C10

