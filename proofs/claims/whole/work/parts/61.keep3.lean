/-! ===== the keeper: settings, what members do ===== -/
section C61
variable {S : List aiS} {M : Nat → Nat → Int32} {J : Nat → Int64} {σ σ' : hs_T}
theorem c_X6_greatestOfRule (a : Int32) : AM G_X6_greatestOfRule [.int a] S M J (some (.int (rRule a)), S, M, J) := by
  refine AM_gen (fun out ho => ?_)
  refine AM_of [.int a] (by decide) rfl (fun B => (Nat.le_of_ble_eq_true rfl)) ?_
  refine e_iload_n dX6_greatestOfRule_0 rfl rfl ?_
  refine e_if_ne 7 dX6_greatestOfRule_1 (by decide) (fun h1 => ?_) (fun h1 => ?_)
  · refine e_iload_n dX6_greatestOfRule_7 rfl rfl ?_
    refine e_iconst (v := 1) dX6_greatestOfRule_8 (by decide) ?_
    refine e_icmp_ne 17 dX6_greatestOfRule_9 (by decide) (fun h9 => ?_) (fun h9 => ?_)
    · refine e_bipush (v := 50) dX6_greatestOfRule_17 (by decide) ?_
      exact e_iret dX6_greatestOfRule_19 rfl (ho.trans (by rw [rRule, if_neg h1, if_neg h9])) (Nat.le_of_ble_eq_true rfl) (Nat.le_of_ble_eq_true rfl)
    · refine e_bipush (v := 20) dX6_greatestOfRule_12 (by decide) ?_
      refine e_goto 19 dX6_greatestOfRule_14 (by decide) ?_
      exact e_iret dX6_greatestOfRule_19 rfl (ho.trans (by rw [rRule, if_neg h1, if_pos h9])) (Nat.le_of_ble_eq_true rfl) (Nat.le_of_ble_eq_true rfl)
  · refine e_bipush (v := 100) dX6_greatestOfRule_4 (by decide) ?_
    exact e_iret dX6_greatestOfRule_6 rfl (ho.trans (by rw [rRule, if_pos h1])) (Nat.le_of_ble_eq_true rfl) (Nat.le_of_ble_eq_true rfl)
theorem c_X6_setCapacity (hT : KS S) {a c v : Int32} (hbad : ¬ ((0 ≤ a ∧ a ≤ 4) ∧ (1 ≤ c ∧ c ≤ 8)) → v = -2 ∧ σ' = σ) (hok : ∀ r, r < 5 → a = nI r → 1 ≤ c ∧ c ≤ 8 → v = hr σ r 0 ∧ σ' = phr σ r 0 c) : AM G_X6_setCapacity [.ref 0, .int a, .int c] S (hs_put 1 σ M) J (some (.int v), S, hs_put 1 σ' M, J) := by
  have hS := hT.now
  refine AM_gen (fun out ho => ?_)
  refine AM_of [.ref 0, .int a, .int c, .retAddr 0] (by decide) rfl (fun B => (Nat.le_of_ble_eq_true rfl)) ?_
  refine e_iload_n dX6_setCapacity_0 rfl rfl ?_
  refine e_cS1 dX6_setCapacity_1 ml_6_34 (c_X6_isRoom _) rfl rfl (by decide) (Nat.le_of_ble_eq_true rfl) ⟨rfl, rfl⟩ (Nat.le_of_ble_eq_true rfl) (Nat.le_of_ble_eq_true rfl) ?_
  refine e_if_eq 17 dX6_setCapacity_4 (by decide) (fun h4 => ?_) (fun h4 => ?_)
  · obtain ⟨hv, hm⟩ := hbad (fun q => z0 h4 q.1)
    refine e_bipush (v := (-2)) dX6_setCapacity_17 (by decide) ?_
    exact e_iret dX6_setCapacity_19 rfl (ho.trans (by rw [hv, hm])) (Nat.le_of_ble_eq_true rfl) (Nat.le_of_ble_eq_true rfl)
  · refine e_iload_n dX6_setCapacity_7 rfl rfl ?_
    refine e_iconst (v := 1) dX6_setCapacity_8 (by decide) ?_
    refine e_bipush (v := 8) dX6_setCapacity_9 (by decide) ?_
    refine e_cS1 dX6_setCapacity_11 ml_6_38 (c_X6_isWithin _ _ _) rfl rfl (by decide) (Nat.le_of_ble_eq_true rfl) ⟨rfl, rfl⟩ (Nat.le_of_ble_eq_true rfl) (Nat.le_of_ble_eq_true rfl) ?_
    refine e_if_ne 20 dX6_setCapacity_14 (by decide) (fun h14 => ?_) (fun h14 => ?_)
    · obtain ⟨r, hr, rfl⟩ := wi_nI (n := 4) rfl (z1 h4)
      obtain ⟨hv, hm⟩ := hok r (by omega) rfl (z1 h14)
      refine e_aload_n dX6_setCapacity_20 rfl rfl ?_
      refine e_getr dX6_setCapacity_21 fl_6_10 hT.a0 rfl ?_
      refine e_getr dX6_setCapacity_24 fl_6_42 hS.a0 rfl ?_
      refine e_iload_n dX6_setCapacity_27 rfl rfl ?_
      refine h_rm r hS dX6_setCapacity_28 rfl (by first | assumption | omega) ?_
      refine hr_get hS (by first | assumption | omega) dX6_setCapacity_29 fl_6_46 (by decide) ?_
      refine e_istore_n dX6_setCapacity_32 rfl (by decide) rfl ?_
      refine e_aload_n dX6_setCapacity_33 rfl rfl ?_
      refine e_getr dX6_setCapacity_34 fl_6_10 hT.a0 rfl ?_
      refine e_getr dX6_setCapacity_37 fl_6_42 hS.a0 rfl ?_
      refine e_iload_n dX6_setCapacity_40 rfl rfl ?_
      refine h_rm r hS dX6_setCapacity_41 rfl (by first | assumption | omega) ?_
      refine e_iload_n dX6_setCapacity_42 rfl rfl ?_
      refine hr_put hS (by first | assumption | omega) dX6_setCapacity_43 fl_6_46 ?_
      refine e_iload_n dX6_setCapacity_46 rfl rfl ?_
      exact e_iret dX6_setCapacity_47 rfl (ho.trans (by rw [hv, hm])) (Nat.le_of_ble_eq_true rfl) (Nat.le_of_ble_eq_true rfl)
    · obtain ⟨hv, hm⟩ := hbad (fun q => z0 h14 q.2)
      refine e_bipush (v := (-2)) dX6_setCapacity_17 (by decide) ?_
      exact e_iret dX6_setCapacity_19 rfl (ho.trans (by rw [hv, hm])) (Nat.le_of_ble_eq_true rfl) (Nat.le_of_ble_eq_true rfl)
theorem c_X6_setShare (hT : KS S) {a c v : Int32} (hbad : ¬ ((0 ≤ a ∧ a ≤ 4) ∧ (1 ≤ c ∧ c ≤ 9)) → v = -2 ∧ σ' = σ) (hok : ∀ r, r < 5 → a = nI r → 1 ≤ c ∧ c ≤ 9 → v = hr σ r 1 ∧ σ' = phr σ r 1 c) : AM G_X6_setShare [.ref 0, .int a, .int c] S (hs_put 1 σ M) J (some (.int v), S, hs_put 1 σ' M, J) := by
  have hS := hT.now
  refine AM_gen (fun out ho => ?_)
  refine AM_of [.ref 0, .int a, .int c, .retAddr 0] (by decide) rfl (fun B => (Nat.le_of_ble_eq_true rfl)) ?_
  refine e_iload_n dX6_setShare_0 rfl rfl ?_
  refine e_cS1 dX6_setShare_1 ml_6_34 (c_X6_isRoom _) rfl rfl (by decide) (Nat.le_of_ble_eq_true rfl) ⟨rfl, rfl⟩ (Nat.le_of_ble_eq_true rfl) (Nat.le_of_ble_eq_true rfl) ?_
  refine e_if_eq 17 dX6_setShare_4 (by decide) (fun h4 => ?_) (fun h4 => ?_)
  · obtain ⟨hv, hm⟩ := hbad (fun q => z0 h4 q.1)
    refine e_bipush (v := (-2)) dX6_setShare_17 (by decide) ?_
    exact e_iret dX6_setShare_19 rfl (ho.trans (by rw [hv, hm])) (Nat.le_of_ble_eq_true rfl) (Nat.le_of_ble_eq_true rfl)
  · refine e_iload_n dX6_setShare_7 rfl rfl ?_
    refine e_iconst (v := 1) dX6_setShare_8 (by decide) ?_
    refine e_bipush (v := 9) dX6_setShare_9 (by decide) ?_
    refine e_cS1 dX6_setShare_11 ml_6_38 (c_X6_isWithin _ _ _) rfl rfl (by decide) (Nat.le_of_ble_eq_true rfl) ⟨rfl, rfl⟩ (Nat.le_of_ble_eq_true rfl) (Nat.le_of_ble_eq_true rfl) ?_
    refine e_if_ne 20 dX6_setShare_14 (by decide) (fun h14 => ?_) (fun h14 => ?_)
    · obtain ⟨r, hr, rfl⟩ := wi_nI (n := 4) rfl (z1 h4)
      obtain ⟨hv, hm⟩ := hok r (by omega) rfl (z1 h14)
      refine e_aload_n dX6_setShare_20 rfl rfl ?_
      refine e_getr dX6_setShare_21 fl_6_10 hT.a0 rfl ?_
      refine e_getr dX6_setShare_24 fl_6_42 hS.a0 rfl ?_
      refine e_iload_n dX6_setShare_27 rfl rfl ?_
      refine h_rm r hS dX6_setShare_28 rfl (by first | assumption | omega) ?_
      refine hr_get hS (by first | assumption | omega) dX6_setShare_29 fl_6_52 (by decide) ?_
      refine e_istore_n dX6_setShare_32 rfl (by decide) rfl ?_
      refine e_aload_n dX6_setShare_33 rfl rfl ?_
      refine e_getr dX6_setShare_34 fl_6_10 hT.a0 rfl ?_
      refine e_getr dX6_setShare_37 fl_6_42 hS.a0 rfl ?_
      refine e_iload_n dX6_setShare_40 rfl rfl ?_
      refine h_rm r hS dX6_setShare_41 rfl (by first | assumption | omega) ?_
      refine e_iload_n dX6_setShare_42 rfl rfl ?_
      refine hr_put hS (by first | assumption | omega) dX6_setShare_43 fl_6_52 ?_
      refine e_iload_n dX6_setShare_46 rfl rfl ?_
      exact e_iret dX6_setShare_47 rfl (ho.trans (by rw [hv, hm])) (Nat.le_of_ble_eq_true rfl) (Nat.le_of_ble_eq_true rfl)
    · obtain ⟨hv, hm⟩ := hbad (fun q => z0 h14 q.2)
      refine e_bipush (v := (-2)) dX6_setShare_17 (by decide) ?_
      exact e_iret dX6_setShare_19 rfl (ho.trans (by rw [hv, hm])) (Nat.le_of_ble_eq_true rfl) (Nat.le_of_ble_eq_true rfl)
theorem c_X6_setRule (hT : KS S) {a c v : Int32} (hbad : ¬ ((0 ≤ a ∧ a ≤ 2) ∧ (1 ≤ c ∧ c ≤ rRule a)) → v = -2 ∧ σ' = σ) (hok : ∀ r, r < 3 → a = nI r → 1 ≤ c ∧ c ≤ rRule a → v = hu σ r ∧ σ' = phu σ r c) : AM G_X6_setRule [.ref 0, .int a, .int c] S (hs_put 1 σ M) J (some (.int v), S, hs_put 1 σ' M, J) := by
  have hS := hT.now
  refine AM_gen (fun out ho => ?_)
  refine AM_of [.ref 0, .int a, .int c, .retAddr 0] (by decide) rfl (fun B => (Nat.le_of_ble_eq_true rfl)) ?_
  refine e_iload_n dX6_setRule_0 rfl rfl ?_
  refine e_iconst (v := 0) dX6_setRule_1 (by decide) ?_
  refine e_iconst (v := 2) dX6_setRule_2 (by decide) ?_
  refine e_cS1 dX6_setRule_3 ml_6_38 (c_X6_isWithin _ _ _) rfl rfl (by decide) (Nat.le_of_ble_eq_true rfl) ⟨rfl, rfl⟩ (Nat.le_of_ble_eq_true rfl) (Nat.le_of_ble_eq_true rfl) ?_
  refine e_if_eq 21 dX6_setRule_6 (by decide) (fun h6 => ?_) (fun h6 => ?_)
  · obtain ⟨hv, hm⟩ := hbad (fun q => z0 h6 q.1)
    refine e_bipush (v := (-2)) dX6_setRule_21 (by decide) ?_
    exact e_iret dX6_setRule_23 rfl (ho.trans (by rw [hv, hm])) (Nat.le_of_ble_eq_true rfl) (Nat.le_of_ble_eq_true rfl)
  · refine e_iload_n dX6_setRule_9 rfl rfl ?_
    refine e_iconst (v := 1) dX6_setRule_10 (by decide) ?_
    refine e_iload_n dX6_setRule_11 rfl rfl ?_
    refine e_cS1 dX6_setRule_12 ml_6_55 (c_X6_greatestOfRule _) rfl rfl (by decide) (Nat.le_of_ble_eq_true rfl) ⟨rfl, rfl⟩ (Nat.le_of_ble_eq_true rfl) (Nat.le_of_ble_eq_true rfl) ?_
    refine e_cS1 dX6_setRule_15 ml_6_38 (c_X6_isWithin _ _ _) rfl rfl (by decide) (Nat.le_of_ble_eq_true rfl) ⟨rfl, rfl⟩ (Nat.le_of_ble_eq_true rfl) (Nat.le_of_ble_eq_true rfl) ?_
    refine e_if_ne 24 dX6_setRule_18 (by decide) (fun h18 => ?_) (fun h18 => ?_)
    · obtain ⟨r, hr, rfl⟩ := wi_nI (n := 2) rfl (z1 h6)
      obtain ⟨hv, hm⟩ := hok r (by omega) rfl (z1 h18)
      refine e_aload_n dX6_setRule_24 rfl rfl ?_
      refine e_getr dX6_setRule_25 fl_6_10 hT.a0 rfl ?_
      refine e_getr dX6_setRule_28 fl_6_59 hS.a0 rfl ?_
      refine e_iload_n dX6_setRule_31 rfl rfl ?_
      refine hu_ld r hS dX6_setRule_32 rfl (by first | assumption | omega) ?_
      refine e_istore_n dX6_setRule_33 rfl (by decide) rfl ?_
      refine e_aload_n dX6_setRule_34 rfl rfl ?_
      refine e_getr dX6_setRule_35 fl_6_10 hT.a0 rfl ?_
      refine e_getr dX6_setRule_38 fl_6_59 hS.a0 rfl ?_
      refine e_iload_n dX6_setRule_41 rfl rfl ?_
      refine e_iload_n dX6_setRule_42 rfl rfl ?_
      refine hu_st r hS dX6_setRule_43 rfl (by first | assumption | omega) ?_
      refine e_iload_n dX6_setRule_44 rfl rfl ?_
      exact e_iret dX6_setRule_45 rfl (ho.trans (by rw [hv, hm])) (Nat.le_of_ble_eq_true rfl) (Nat.le_of_ble_eq_true rfl)
    · obtain ⟨hv, hm⟩ := hbad (fun q => z0 h18 q.2)
      refine e_bipush (v := (-2)) dX6_setRule_21 (by decide) ?_
      exact e_iret dX6_setRule_23 rfl (ho.trans (by rw [hv, hm])) (Nat.le_of_ble_eq_true rfl) (Nat.le_of_ble_eq_true rfl)
theorem c_X6_request (hT : KS S) {F E t : Nat} {mm : Nat → Int32} {a r x v : Int32} (hR0 : Rel F E t σ mm) (hbad : ¬ ((0 ≤ a ∧ a ≤ 11) ∧ (0 ≤ r ∧ r ≤ 4) ∧ (1 ≤ x ∧ x ≤ 999)) → v = -2 ∧ σ' = σ) (hok : ∀ k q, k < 12 → q < 5 → a = nI k → r = nI q → 1 ≤ x ∧ x ≤ 999 → (¬ hm σ k 0 = 0 → v = -3 ∧ σ' = σ) ∧ (hm σ k 0 = 0 → hLn σ < 12 ∧ (∃ F E t m2, Rel F E t (hQu σ k q x) m2 ∧ F + 30 ≤ 1000000000) ∧ σ' = hAct 12 (hQu σ k q x) ∧ v = hm σ' k 0)) : AM G_X6_request [.ref 0, .int a, .int r, .int x] S (hs_put 1 σ M) J (some (.int v), S, hs_put 1 σ' M, J) := by
  have hS := hT.now
  refine AM_gen (fun out ho => ?_)
  refine AM_of [.ref 0, .int a, .int r, .int x] (by decide) rfl (fun B => (Nat.le_of_ble_eq_true rfl)) ?_
  refine e_iload_n dX6_request_0 rfl rfl ?_
  refine e_cS1 dX6_request_1 ml_6_63 (c_X6_isMember _) rfl rfl (by decide) (Nat.le_of_ble_eq_true rfl) ⟨rfl, rfl⟩ (Nat.le_of_ble_eq_true rfl) (Nat.le_of_ble_eq_true rfl) ?_
  refine e_if_eq 25 dX6_request_4 (by decide) (fun h4 => ?_) (fun h4 => ?_)
  · obtain ⟨hv, hm⟩ := hbad (fun q => z0 h4 q.1)
    refine e_bipush (v := (-2)) dX6_request_25 (by decide) ?_
    exact e_iret dX6_request_27 rfl (ho.trans (by rw [hv, hm])) (Nat.le_of_ble_eq_true rfl) (Nat.le_of_ble_eq_true rfl)
  · refine e_iload_n dX6_request_7 rfl rfl ?_
    refine e_cS1 dX6_request_8 ml_6_34 (c_X6_isRoom _) rfl rfl (by decide) (Nat.le_of_ble_eq_true rfl) ⟨rfl, rfl⟩ (Nat.le_of_ble_eq_true rfl) (Nat.le_of_ble_eq_true rfl) ?_
    refine e_if_eq 25 dX6_request_11 (by decide) (fun h11 => ?_) (fun h11 => ?_)
    · obtain ⟨hv, hm⟩ := hbad (fun q => z0 h11 q.2.1)
      refine e_bipush (v := (-2)) dX6_request_25 (by decide) ?_
      exact e_iret dX6_request_27 rfl (ho.trans (by rw [hv, hm])) (Nat.le_of_ble_eq_true rfl) (Nat.le_of_ble_eq_true rfl)
    · refine e_iload_n dX6_request_14 rfl rfl ?_
      refine e_iconst (v := 1) dX6_request_15 (by decide) ?_
      refine e_sipush (v := 999) dX6_request_16 (by decide) ?_
      refine e_cS1 dX6_request_19 ml_6_38 (c_X6_isWithin _ _ _) rfl rfl (by decide) (Nat.le_of_ble_eq_true rfl) ⟨rfl, rfl⟩ (Nat.le_of_ble_eq_true rfl) (Nat.le_of_ble_eq_true rfl) ?_
      refine e_if_ne 28 dX6_request_22 (by decide) (fun h22 => ?_) (fun h22 => ?_)
      · obtain ⟨k, hk, rfl⟩ := wi_nI (n := 11) rfl (z1 h4)
        obtain ⟨q, hq, rfl⟩ := wi_nI (n := 4) rfl (z1 h11)
        obtain ⟨hst, hgo⟩ := hok k q (by omega) (by omega) rfl rfl (z1 h22)
        refine e_aload_n dX6_request_28 rfl rfl ?_
        refine e_getr dX6_request_29 fl_6_10 hT.a0 rfl ?_
        refine e_getr dX6_request_32 fl_6_66 hS.a0 rfl ?_
        refine e_iload_n dX6_request_35 rfl rfl ?_
        refine h_mem k hS dX6_request_36 rfl (by first | assumption | omega) ?_
        refine hm_get hS (by first | assumption | omega) dX6_request_37 fl_6_70 (by decide) ?_
        refine e_if_eq 46 dX6_request_40 (by decide) (fun h40 => ?_) (fun h40 => ?_)
        · obtain ⟨hl, ⟨F2, E2, t2, m2, hR2, hF2⟩, hs2, hv⟩ := hgo h40
          have hqu := c_X0_queueUp (M := M) (J := J) hS hR0.house.1 hl (k := k) (r := q) (by omega) (by omega) x
          have hact := c_X0_act (M := M) (J := J) hS hR2 hF2
          rw [← hs2] at hact
          refine e_aload_n dX6_request_46 rfl rfl ?_
          refine e_getr dX6_request_47 fl_6_10 hT.a0 rfl ?_
          refine e_iload_n dX6_request_50 rfl rfl ?_
          refine e_iload_n dX6_request_51 rfl rfl ?_
          refine e_iload_n dX6_request_52 rfl rfl ?_
          refine e_cV0 dX6_request_53 ml_6_75 hqu hS.a0 rfl rfl (by decide) (Nat.le_of_ble_eq_true rfl) ⟨rfl, rfl⟩ (Nat.le_of_ble_eq_true rfl) (Nat.le_of_ble_eq_true rfl) ?_
          refine e_aload_n dX6_request_56 rfl rfl ?_
          refine e_getr dX6_request_57 fl_6_10 hT.a0 rfl ?_
          refine e_cV0 dX6_request_60 ml_6_79 hact hS.a0 rfl rfl (by decide) (Nat.le_of_ble_eq_true rfl) ⟨rfl, rfl⟩ (Nat.le_of_ble_eq_true rfl) (Nat.le_of_ble_eq_true rfl) ?_
          refine e_aload_n dX6_request_63 rfl rfl ?_
          refine e_getr dX6_request_64 fl_6_10 hT.a0 rfl ?_
          refine e_getr dX6_request_67 fl_6_66 hS.a0 rfl ?_
          refine e_iload_n dX6_request_70 rfl rfl ?_
          refine h_mem k hS dX6_request_71 rfl (by first | assumption | omega) ?_
          refine hm_get hS (by first | assumption | omega) dX6_request_72 fl_6_70 (by decide) ?_
          exact e_iret dX6_request_75 rfl (ho.trans (by rw [hv])) (Nat.le_of_ble_eq_true rfl) (Nat.le_of_ble_eq_true rfl)
        · obtain ⟨hv, hm⟩ := hst h40
          refine e_bipush (v := (-3)) dX6_request_43 (by decide) ?_
          exact e_iret dX6_request_45 rfl (ho.trans (by rw [hv, hm])) (Nat.le_of_ble_eq_true rfl) (Nat.le_of_ble_eq_true rfl)
      · obtain ⟨hv, hm⟩ := hbad (fun q => z0 h22 q.2.2)
        refine e_bipush (v := (-2)) dX6_request_25 (by decide) ?_
        exact e_iret dX6_request_27 rfl (ho.trans (by rw [hv, hm])) (Nat.le_of_ble_eq_true rfl) (Nat.le_of_ble_eq_true rfl)
theorem c_X6_withdraw (hT : KS S) {F E t : Nat} {mm : Nat → Int32} {a v : Int32} (hR0 : Rel F E t σ mm) (hbad : ¬ (0 ≤ a ∧ a ≤ 11) → v = -2 ∧ σ' = σ) (hok : ∀ k, k < 12 → a = nI k → (¬ hm σ k 0 = 1 → v = -3 ∧ σ' = σ) ∧ (hm σ k 0 = 1 → (∃ F E t m2, Rel F E t (hGu σ k) m2 ∧ F + 30 ≤ 1000000000) ∧ σ' = hAct 12 (hGu σ k) ∧ v = hf σ 5 - hm σ k 2)) : AM G_X6_withdraw [.ref 0, .int a] S (hs_put 1 σ M) J (some (.int v), S, hs_put 1 σ' M, J) := by
  have hS := hT.now
  refine AM_gen (fun out ho => ?_)
  refine AM_of [.ref 0, .int a, .retAddr 0] (by decide) rfl (fun B => (Nat.le_of_ble_eq_true rfl)) ?_
  refine e_iload_n dX6_withdraw_0 rfl rfl ?_
  refine e_cS1 dX6_withdraw_1 ml_6_63 (c_X6_isMember _) rfl rfl (by decide) (Nat.le_of_ble_eq_true rfl) ⟨rfl, rfl⟩ (Nat.le_of_ble_eq_true rfl) (Nat.le_of_ble_eq_true rfl) ?_
  refine e_if_ne 10 dX6_withdraw_4 (by decide) (fun h4 => ?_) (fun h4 => ?_)
  · obtain ⟨k, hk, rfl⟩ := wi_nI (n := 11) rfl (z1 h4)
    obtain ⟨hst, hgo⟩ := hok k (by omega) rfl
    refine e_aload_n dX6_withdraw_10 rfl rfl ?_
    refine e_getr dX6_withdraw_11 fl_6_10 hT.a0 rfl ?_
    refine e_getr dX6_withdraw_14 fl_6_66 hS.a0 rfl ?_
    refine e_iload_n dX6_withdraw_17 rfl rfl ?_
    refine h_mem k hS dX6_withdraw_18 rfl (by first | assumption | omega) ?_
    refine hm_get hS (by first | assumption | omega) dX6_withdraw_19 fl_6_70 (by decide) ?_
    refine e_iconst (v := 1) dX6_withdraw_22 (by decide) ?_
    refine e_icmp_eq 29 dX6_withdraw_23 (by decide) (fun h23 => ?_) (fun h23 => ?_)
    · obtain ⟨⟨F2, E2, t2, m2, hR2, hF2⟩, hs2, hv⟩ := hgo h23
      have hgu := c_X0_giveUp (σ := σ) (M := M) (J := J) hS hR0.ln hR0.house.1.2.1 (k := k) (by omega)
      have hact := c_X0_act (M := M) (J := J) hS hR2 hF2
      rw [← hs2] at hact
      refine e_aload_n dX6_withdraw_29 rfl rfl ?_
      refine e_getr dX6_withdraw_30 fl_6_10 hT.a0 rfl ?_
      refine hf_get hS dX6_withdraw_33 fl_6_82 (by decide) ?_
      refine e_aload_n dX6_withdraw_36 rfl rfl ?_
      refine e_getr dX6_withdraw_37 fl_6_10 hT.a0 rfl ?_
      refine e_getr dX6_withdraw_40 fl_6_66 hS.a0 rfl ?_
      refine e_iload_n dX6_withdraw_43 rfl rfl ?_
      refine h_mem k hS dX6_withdraw_44 rfl (by first | assumption | omega) ?_
      refine hm_get hS (by first | assumption | omega) dX6_withdraw_45 fl_6_85 (by decide) ?_
      refine e_isub dX6_withdraw_48 ?_
      refine e_istore_n dX6_withdraw_49 rfl (by decide) rfl ?_
      refine e_aload_n dX6_withdraw_50 rfl rfl ?_
      refine e_getr dX6_withdraw_51 fl_6_10 hT.a0 rfl ?_
      refine e_iload_n dX6_withdraw_54 rfl rfl ?_
      refine e_cV0 dX6_withdraw_55 ml_6_88 hgu hS.a0 rfl rfl (by decide) (Nat.le_of_ble_eq_true rfl) ⟨rfl, rfl⟩ (Nat.le_of_ble_eq_true rfl) (Nat.le_of_ble_eq_true rfl) ?_
      refine e_aload_n dX6_withdraw_58 rfl rfl ?_
      refine e_getr dX6_withdraw_59 fl_6_10 hT.a0 rfl ?_
      refine e_cV0 dX6_withdraw_62 ml_6_79 hact hS.a0 rfl rfl (by decide) (Nat.le_of_ble_eq_true rfl) ⟨rfl, rfl⟩ (Nat.le_of_ble_eq_true rfl) (Nat.le_of_ble_eq_true rfl) ?_
      refine e_iload_n dX6_withdraw_65 rfl rfl ?_
      exact e_iret dX6_withdraw_66 rfl (ho.trans (by rw [hv])) (Nat.le_of_ble_eq_true rfl) (Nat.le_of_ble_eq_true rfl)
    · obtain ⟨hv, hm⟩ := hst h23
      refine e_bipush (v := (-3)) dX6_withdraw_26 (by decide) ?_
      exact e_iret dX6_withdraw_28 rfl (ho.trans (by rw [hv, hm])) (Nat.le_of_ble_eq_true rfl) (Nat.le_of_ble_eq_true rfl)
  · obtain ⟨hv, hm⟩ := hbad (z0 h4)
    refine e_bipush (v := (-2)) dX6_withdraw_7 (by decide) ?_
    exact e_iret dX6_withdraw_9 rfl (ho.trans (by rw [hv, hm])) (Nat.le_of_ble_eq_true rfl) (Nat.le_of_ble_eq_true rfl)
theorem c_X6_leave (hT : KS S) {F E t : Nat} {mm : Nat → Int32} {a v : Int32} (hR0 : Rel F E t σ mm) (hbad : ¬ (0 ≤ a ∧ a ≤ 11) → v = -2 ∧ σ' = σ) (hok : ∀ k, k < 12 → a = nI k → (¬ hm σ k 0 = 2 → v = -3 ∧ σ' = σ) ∧ (hm σ k 0 = 2 → (∃ F E t m2, Rel F E t (hOut σ k 2) m2 ∧ F + 30 ≤ 1000000000) ∧ σ' = hAct 12 (hOut σ k 2) ∧ v = hm σ k 3)) : AM G_X6_leave [.ref 0, .int a] S (hs_put 1 σ M) J (some (.int v), S, hs_put 1 σ' M, J) := by
  have hS := hT.now
  refine AM_gen (fun out ho => ?_)
  refine AM_of [.ref 0, .int a, .retAddr 0] (by decide) rfl (fun B => (Nat.le_of_ble_eq_true rfl)) ?_
  refine e_iload_n dX6_leave_0 rfl rfl ?_
  refine e_cS1 dX6_leave_1 ml_6_63 (c_X6_isMember _) rfl rfl (by decide) (Nat.le_of_ble_eq_true rfl) ⟨rfl, rfl⟩ (Nat.le_of_ble_eq_true rfl) (Nat.le_of_ble_eq_true rfl) ?_
  refine e_if_ne 10 dX6_leave_4 (by decide) (fun h4 => ?_) (fun h4 => ?_)
  · obtain ⟨k, hk, rfl⟩ := wi_nI (n := 11) rfl (z1 h4)
    obtain ⟨hst, hgo⟩ := hok k (by omega) rfl
    refine e_aload_n dX6_leave_10 rfl rfl ?_
    refine e_getr dX6_leave_11 fl_6_10 hT.a0 rfl ?_
    refine e_getr dX6_leave_14 fl_6_66 hS.a0 rfl ?_
    refine e_iload_n dX6_leave_17 rfl rfl ?_
    refine h_mem k hS dX6_leave_18 rfl (by first | assumption | omega) ?_
    refine hm_get hS (by first | assumption | omega) dX6_leave_19 fl_6_70 (by decide) ?_
    refine e_iconst (v := 2) dX6_leave_22 (by decide) ?_
    refine e_icmp_eq 29 dX6_leave_23 (by decide) (fun h23 => ?_) (fun h23 => ?_)
    · obtain ⟨⟨F2, E2, t2, m2, hR2, hF2⟩, hs2, hv⟩ := hgo h23
      obtain ⟨-, ⟨e, e1, e2, e3⟩, -, hmm⟩ := hR0.house
      obtain ⟨k0, k1⟩ := hmm k (by omega)
      obtain ⟨r, hr5, er⟩ := (hR0.1.1 k (by omega)).resolve_left (by rw [← k0, h23]; decide)
      have hou := c_X0_goOut (σ := σ) (M := M) (J := J) hS (k := k) (by omega) hr5 (k1.trans er) e3 (by omega) 2
      have hact := c_X0_act (M := M) (J := J) hS hR2 hF2
      rw [← hs2] at hact
      refine e_aload_n dX6_leave_29 rfl rfl ?_
      refine e_getr dX6_leave_30 fl_6_10 hT.a0 rfl ?_
      refine e_getr dX6_leave_33 fl_6_66 hS.a0 rfl ?_
      refine e_iload_n dX6_leave_36 rfl rfl ?_
      refine h_mem k hS dX6_leave_37 rfl (by first | assumption | omega) ?_
      refine hm_get hS (by first | assumption | omega) dX6_leave_38 fl_6_92 (by decide) ?_
      refine e_istore_n dX6_leave_41 rfl (by decide) rfl ?_
      refine e_aload_n dX6_leave_42 rfl rfl ?_
      refine e_getr dX6_leave_43 fl_6_10 hT.a0 rfl ?_
      refine e_iload_n dX6_leave_46 rfl rfl ?_
      refine e_iconst (v := 2) dX6_leave_47 (by decide) ?_
      refine e_cV0 dX6_leave_48 ml_6_97 hou hS.a0 rfl rfl (by decide) (Nat.le_of_ble_eq_true rfl) ⟨rfl, rfl⟩ (Nat.le_of_ble_eq_true rfl) (Nat.le_of_ble_eq_true rfl) ?_
      refine e_aload_n dX6_leave_51 rfl rfl ?_
      refine e_getr dX6_leave_52 fl_6_10 hT.a0 rfl ?_
      refine e_cV0 dX6_leave_55 ml_6_79 hact hS.a0 rfl rfl (by decide) (Nat.le_of_ble_eq_true rfl) ⟨rfl, rfl⟩ (Nat.le_of_ble_eq_true rfl) (Nat.le_of_ble_eq_true rfl) ?_
      refine e_iload_n dX6_leave_58 rfl rfl ?_
      exact e_iret dX6_leave_59 rfl (ho.trans (by rw [hv])) (Nat.le_of_ble_eq_true rfl) (Nat.le_of_ble_eq_true rfl)
    · obtain ⟨hv, hm⟩ := hst h23
      refine e_bipush (v := (-3)) dX6_leave_26 (by decide) ?_
      exact e_iret dX6_leave_28 rfl (ho.trans (by rw [hv, hm])) (Nat.le_of_ble_eq_true rfl) (Nat.le_of_ble_eq_true rfl)
  · obtain ⟨hv, hm⟩ := hbad (z0 h4)
    refine e_bipush (v := (-2)) dX6_leave_7 (by decide) ?_
    exact e_iret dX6_leave_9 rfl (ho.trans (by rw [hv, hm])) (Nat.le_of_ble_eq_true rfl) (Nat.le_of_ble_eq_true rfl)
theorem c_X6_collapse (hT : KS S) {a v : Int32} (hbad : ¬ (0 ≤ a ∧ a ≤ 11) → v = -2 ∧ σ' = σ) (hok : ∀ k, k < 12 → a = nI k → (¬ hm σ k 0 = 2 → v = -3 ∧ σ' = σ) ∧ (hm σ k 0 = 2 → σ' = hBe σ k 3 (hm σ k 1) (hf σ 5) 0 ∧ v = hm σ k 3)) : AM G_X6_collapse [.ref 0, .int a] S (hs_put 1 σ M) J (some (.int v), S, hs_put 1 σ' M, J) := by
  have hS := hT.now
  refine AM_gen (fun out ho => ?_)
  refine AM_of [.ref 0, .int a, .retAddr 0, .retAddr 0] (by decide) rfl (fun B => (Nat.le_of_ble_eq_true rfl)) ?_
  refine e_iload_n dX6_collapse_0 rfl rfl ?_
  refine e_cS1 dX6_collapse_1 ml_6_63 (c_X6_isMember _) rfl rfl (by decide) (Nat.le_of_ble_eq_true rfl) ⟨rfl, rfl⟩ (Nat.le_of_ble_eq_true rfl) (Nat.le_of_ble_eq_true rfl) ?_
  refine e_if_ne 10 dX6_collapse_4 (by decide) (fun h4 => ?_) (fun h4 => ?_)
  · obtain ⟨k, hk, rfl⟩ := wi_nI (n := 11) rfl (z1 h4)
    obtain ⟨hst, hgo⟩ := hok k (by omega) rfl
    refine e_aload_n dX6_collapse_10 rfl rfl ?_
    refine e_getr dX6_collapse_11 fl_6_10 hT.a0 rfl ?_
    refine e_getr dX6_collapse_14 fl_6_66 hS.a0 rfl ?_
    refine e_iload_n dX6_collapse_17 rfl rfl ?_
    refine h_mem k hS dX6_collapse_18 rfl (by first | assumption | omega) ?_
    refine hm_get hS (by first | assumption | omega) dX6_collapse_19 fl_6_70 (by decide) ?_
    refine e_iconst (v := 2) dX6_collapse_22 (by decide) ?_
    refine e_icmp_eq 29 dX6_collapse_23 (by decide) (fun h23 => ?_) (fun h23 => ?_)
    · obtain ⟨hs2, hv⟩ := hgo h23
      have hk12 : k < 12 := by omega
      have hbe := c_X3_become (σ := σ) (M := M) (J := J) hS hk12 3 (hm σ k 1) (hf σ 5) 0
      rw [← hs2] at hbe
      refine e_aload_n dX6_collapse_29 rfl rfl ?_
      refine e_getr dX6_collapse_30 fl_6_10 hT.a0 rfl ?_
      refine e_getr dX6_collapse_33 fl_6_66 hS.a0 rfl ?_
      refine e_iload_n dX6_collapse_36 rfl rfl ?_
      refine h_mem k hS dX6_collapse_37 rfl (by first | assumption | omega) ?_
      refine e_astore_n dX6_collapse_38 rfl (by decide) rfl ?_
      refine e_aload_n dX6_collapse_39 rfl rfl ?_
      refine hm_get hS (by first | assumption | omega) dX6_collapse_40 fl_6_92 (by decide) ?_
      refine e_istore_n dX6_collapse_43 rfl (by decide) rfl ?_
      refine e_aload_n dX6_collapse_44 rfl rfl ?_
      refine e_iconst (v := 3) dX6_collapse_45 (by decide) ?_
      refine e_aload_n dX6_collapse_46 rfl rfl ?_
      refine hm_get hS (by first | assumption | omega) dX6_collapse_47 fl_6_101 (by decide) ?_
      refine e_aload_n dX6_collapse_50 rfl rfl ?_
      refine e_getr dX6_collapse_51 fl_6_10 hT.a0 rfl ?_
      refine hf_get hS dX6_collapse_54 fl_6_82 (by decide) ?_
      refine e_iconst (v := 0) dX6_collapse_57 (by decide) ?_
      refine e_cV0 dX6_collapse_58 ml_6_104 hbe (hS.am (by first | assumption | omega)) rfl rfl (by decide) (Nat.le_of_ble_eq_true rfl) ⟨rfl, rfl⟩ (Nat.le_of_ble_eq_true rfl) (Nat.le_of_ble_eq_true rfl) ?_
      refine e_iload_n dX6_collapse_61 rfl rfl ?_
      exact e_iret dX6_collapse_62 rfl (ho.trans (by rw [hv])) (Nat.le_of_ble_eq_true rfl) (Nat.le_of_ble_eq_true rfl)
    · obtain ⟨hv, hm⟩ := hst h23
      refine e_bipush (v := (-3)) dX6_collapse_26 (by decide) ?_
      exact e_iret dX6_collapse_28 rfl (ho.trans (by rw [hv, hm])) (Nat.le_of_ble_eq_true rfl) (Nat.le_of_ble_eq_true rfl)
  · obtain ⟨hv, hm⟩ := hbad (z0 h4)
    refine e_bipush (v := (-2)) dX6_collapse_7 (by decide) ?_
    exact e_iret dX6_collapse_9 rfl (ho.trans (by rw [hv, hm])) (Nat.le_of_ble_eq_true rfl) (Nat.le_of_ble_eq_true rfl)
end C61

