/-! ===== the keeper: the text, slots, the hash ===== -/
theorem KS.sv {S : List aiS} (h : KS S) : S[102]? = some (9, 2, []) := h.2.2.2.2.2.2.1
theorem hs_uo {h a j : Nat} {x : Int32} (σ : hs_T) (M : Nat → Nat → Int32) (ha : a < h ∨ h + 25 ≤ a) : ai_u (hs_put h σ M) a j x = hs_put h σ (ai_u M a j x) := by
  funext q
  by_cases hq : q = a
  · subst hq
    rw [ai_u_at, hs_out _ _ ha, hs_out _ _ ha, ai_u_at]
  · rw [ai_u_ne _ _ _ hq]
    by_cases hb : h ≤ q ∧ q < h + 25
    · simp only [hs_put, bput, hb, and_self, if_true]
    · simp only [hs_put, bput, hb, if_false]
      rw [ai_u_ne _ _ _ hq]
section C63
variable {G : aiG} {out : aiR} {k n pc : Nat} {L st : List Value} {S : List aiS} {M : Nat → Nat → Int32} {J : Nat → Int64}
theorem h_slot0 {i : Int32} (hT : KS S) (hd : decode (gB G) pc = .ok (.aaload, 1)) (hi : i = nI 0) (h1 : AW G out k n (pc + 1) L (.ref 52 :: st) S M J) : AW G out k n pc L (.int i :: .ref 51 :: st) S M J :=
  e_aald 0 hd hT.2.2.2.1 (by decide) (by decide) hi (by decide) (by decide) rfl h1
theorem h_slot1 {i : Int32} (hT : KS S) (hd : decode (gB G) pc = .ok (.aaload, 1)) (hi : i = nI 1) (h1 : AW G out k n (pc + 1) L (.ref 77 :: st) S M J) : AW G out k n pc L (.int i :: .ref 51 :: st) S M J :=
  e_aald 1 hd hT.2.2.2.1 (by decide) (by decide) hi (by decide) (by decide) rfl h1
end C63
section C63b
variable {S : List aiS} {M : Nat → Nat → Int32} {J : Nat → Int64} {σ α : hs_T} {κ : sc_T} {m : Nat → Int32}
theorem c_X5_append {c : Nat} (hC : SS S c) {n : Nat} (hl : cf κ 1 = nI n) (hn : n < 100) (x : Int32) : AM G_X5_append [.ref c, .int x] S (sc_put c κ M) J (none, S, sc_put c (pcf (pcb κ n x) 1 (nI (n + 1))) M, J) := by
  have hl2 : cf (pcb κ n x) 1 + 1 = nI (n + 1) := by
    show cf κ 1 + 1 = nI (n + 1)
    rw [hl, nI_1]
  refine AM_gen (fun out ho => ?_)
  refine AM_of [.ref c, .int x] (by decide) rfl (fun B => (Nat.le_of_ble_eq_true rfl)) ?_
  refine e_aload_n dX5_append_0 rfl rfl ?_
  refine cf_get hC dX5_append_1 fl_5_15 (by decide) ?_
  refine e_bipush (v := 100) dX5_append_4 (by decide) ?_
  refine e_ge_f (i := n) (N := 100) 29 dX5_append_6 (by decide) hl rfl (by omega) (by omega) ?_
  refine e_aload_n dX5_append_9 rfl rfl ?_
  refine e_getr dX5_append_10 fl_5_11 hC.a0 rfl ?_
  refine e_aload_n dX5_append_13 rfl rfl ?_
  refine cf_get hC dX5_append_14 fl_5_15 (by decide) ?_
  refine e_iload_n dX5_append_17 rfl rfl ?_
  refine cb_st n hC dX5_append_18 hl hn ?_
  refine e_aload_n dX5_append_19 rfl rfl ?_
  refine e_dup dX5_append_20 rfl ?_
  refine cf_get hC dX5_append_21 fl_5_15 (by decide) ?_
  refine e_iconst (v := 1) dX5_append_24 (by decide) ?_
  refine e_iadd dX5_append_25 ?_
  refine cf_put hC dX5_append_26 fl_5_15 ?_
  rw [hl2]
  exact e_vret dX5_append_29 rfl ho (Nat.le_of_ble_eq_true rfl) (Nat.le_of_ble_eq_true rfl)
theorem c_X6_type (hT : KS S) {n : Nat} (hl : cf κ 1 = nI n) (hn : n ≤ 100) {a v : Int32} {κ' : sc_T} (hbad : ¬ (0 ≤ a ∧ a ≤ 127) → v = -2 ∧ κ' = κ) (hful : (0 ≤ a ∧ a ≤ 127) → n = 100 → v = -4 ∧ κ' = κ) (hok : (0 ≤ a ∧ a ≤ 127) → n < 100 → v = nI (n + 1) ∧ κ' = pcf (pcb κ n a) 1 (nI (n + 1))) : AM G_X6_type [.ref 0, .int a] S (sc_put 103 κ M) J (some (.int v), S, sc_put 103 κ' M, J) := by
  have hC := hT.script
  refine AM_gen (fun out ho => ?_)
  refine AM_of [.ref 0, .int a] (by decide) rfl (fun B => (Nat.le_of_ble_eq_true rfl)) ?_
  refine e_iload_n dX6_type_0 rfl rfl ?_
  refine e_iconst (v := 0) dX6_type_1 (by decide) ?_
  refine e_bipush (v := 127) dX6_type_2 (by decide) ?_
  refine e_cS1 dX6_type_4 ml_6_38 (c_X6_isWithin _ _ _) rfl rfl (by decide) (Nat.le_of_ble_eq_true rfl) ⟨rfl, rfl⟩ (Nat.le_of_ble_eq_true rfl) (Nat.le_of_ble_eq_true rfl) ?_
  refine e_if_ne 13 dX6_type_7 (by decide) (fun h7 => ?_) (fun h7 => ?_)
  · by_cases h1 : n = 100
    · obtain ⟨hv, hk⟩ := hful (z1 h7) h1
      refine e_aload_n dX6_type_13 rfl rfl ?_
      refine e_getr dX6_type_14 fl_6_30 hT.a0 rfl ?_
      refine cf_get hC dX6_type_17 fl_6_175 (by decide) ?_
      refine e_bipush (v := 100) dX6_type_20 (by decide) ?_
      refine e_icmp_lt 28 dX6_type_22 (by decide) (fun h22 => ?_) (fun h22 => ?_)
      · rw [hl, h1] at h22
        exact absurd h22 (by decide)
      · refine e_bipush (v := (-4)) dX6_type_25 (by decide) ?_
        exact e_iret dX6_type_27 rfl (ho.trans (by rw [hv, hk])) (Nat.le_of_ble_eq_true rfl) (Nat.le_of_ble_eq_true rfl)
    · obtain ⟨hv, hk⟩ := hok (z1 h7) (by omega)
      have hap := c_X5_append (M := M) (J := J) hC hl (show n < 100 by omega) a
      rw [← hk] at hap
      have hk1 : cf κ' 1 = v := by
        rw [hk, hv]
        show upd (cf κ) 1 (nI (n + 1)) 1 = nI (n + 1)
        exact upd_same _ _ _
      refine e_aload_n dX6_type_13 rfl rfl ?_
      refine e_getr dX6_type_14 fl_6_30 hT.a0 rfl ?_
      refine cf_get hC dX6_type_17 fl_6_175 (by decide) ?_
      refine e_bipush (v := 100) dX6_type_20 (by decide) ?_
      refine e_icmp_lt 28 dX6_type_22 (by decide) (fun h22 => ?_) (fun h22 => ?_)
      · refine e_aload_n dX6_type_28 rfl rfl ?_
        refine e_getr dX6_type_29 fl_6_30 hT.a0 rfl ?_
        refine e_iload_n dX6_type_32 rfl rfl ?_
        refine e_cV0 dX6_type_33 ml_6_178 hap hC.a0 rfl rfl (by decide) (Nat.le_of_ble_eq_true rfl) ⟨rfl, rfl⟩ (Nat.le_of_ble_eq_true rfl) (Nat.le_of_ble_eq_true rfl) ?_
        refine e_aload_n dX6_type_36 rfl rfl ?_
        refine e_getr dX6_type_37 fl_6_30 hT.a0 rfl ?_
        refine cf_get hC dX6_type_40 fl_6_175 (by decide) ?_
        exact e_iret dX6_type_43 rfl (ho.trans (by rw [hk1])) (Nat.le_of_ble_eq_true rfl) (Nat.le_of_ble_eq_true rfl)
      · rw [hl] at h22
        exact absurd (nI_lt (b := 100) (by omega) (by decide)) h22
  · obtain ⟨hv, hk⟩ := hbad (z0 h7)
    refine e_bipush (v := (-2)) dX6_type_10 (by decide) ?_
    exact e_iret dX6_type_12 rfl (ho.trans (by rw [hv, hk])) (Nat.le_of_ble_eq_true rfl) (Nat.le_of_ble_eq_true rfl)
theorem c_X6_clear (hT : KS S) : AM G_X6_clear [.ref 0] S (sc_put 103 κ M) J (some (.int (cf κ 1)), S, sc_put 103 (pcf κ 1 0) M, J) := by
  have hC := hT.script
  refine AM_gen (fun out ho => ?_)
  refine AM_of [.ref 0, .retAddr 0] (by decide) rfl (fun B => (Nat.le_of_ble_eq_true rfl)) ?_
  refine e_aload_n dX6_clear_0 rfl rfl ?_
  refine e_getr dX6_clear_1 fl_6_30 hT.a0 rfl ?_
  refine cf_get hC dX6_clear_4 fl_6_175 (by decide) ?_
  refine e_istore_n dX6_clear_7 rfl (by decide) rfl ?_
  refine e_aload_n dX6_clear_8 rfl rfl ?_
  refine e_getr dX6_clear_9 fl_6_30 hT.a0 rfl ?_
  refine e_iconst (v := 0) dX6_clear_12 (by decide) ?_
  refine cf_put hC dX6_clear_13 fl_6_175 ?_
  refine e_iload_n dX6_clear_16 rfl rfl ?_
  exact e_iret dX6_clear_17 rfl ho (Nat.le_of_ble_eq_true rfl) (Nat.le_of_ble_eq_true rfl)
theorem c_X6_save0 (hT : KS S) (h9 : hf σ 9 = 0 ∨ hf σ 9 = 1) : AM G_X6_save [.ref 0, .int (nI 0)] S (hs_put 52 α (hs_put 1 σ M)) J (some (.int (hf σ 5)), S, hs_put 52 (hCp α σ) (hs_put 1 σ (ai_u M 102 0 1)), J) := by
  have hS := hT.now
  have hG : HS S 52 := hT.2.2.2.2.1
  have hcp := c_X0_copyFrom (τ := α) (σ := σ) (M := M) (J := J) hG hS (Or.inr (by decide)) h9
  refine AM_gen (fun out ho => ?_)
  refine AM_of [.ref 0, .int (nI 0)] (by decide) rfl (fun B => (Nat.le_of_ble_eq_true rfl)) ?_
  refine e_iload_n dX6_save_0 rfl rfl ?_
  refine e_iconst (v := 0) dX6_save_1 (by decide) ?_
  refine e_iconst (v := 1) dX6_save_2 (by decide) ?_
  refine e_cS1 dX6_save_3 ml_6_38 (c_X6_isWithin _ _ _) rfl rfl (by decide) (Nat.le_of_ble_eq_true rfl) ⟨rfl, rfl⟩ (Nat.le_of_ble_eq_true rfl) (Nat.le_of_ble_eq_true rfl) ?_
  refine e_if_ne 12 dX6_save_6 (by decide) (fun h6 => ?_) (fun h6 => ?_)
  · refine e_aload_n dX6_save_12 rfl rfl ?_
    refine e_getr dX6_save_13 fl_6_19 hT.a0 rfl ?_
    refine e_iload_n dX6_save_16 rfl rfl ?_
    refine h_slot0 hT dX6_save_17 rfl ?_
    refine e_aload_n dX6_save_18 rfl rfl ?_
    refine e_getr dX6_save_19 fl_6_10 hT.a0 rfl ?_
    refine e_cV0 dX6_save_22 ml_6_171 hcp hG.a0 rfl rfl (by decide) (Nat.le_of_ble_eq_true rfl) ⟨rfl, rfl⟩ (Nat.le_of_ble_eq_true rfl) (Nat.le_of_ble_eq_true rfl) ?_
    refine e_aload_n dX6_save_25 rfl rfl ?_
    refine e_getr dX6_save_26 fl_6_23 hT.a0 rfl ?_
    refine e_iload_n dX6_save_29 rfl rfl ?_
    refine e_iconst (v := 1) dX6_save_30 (by decide) ?_
    refine e_zast 0 dX6_save_31 hT.sv (by decide) rfl (by decide) (by decide) ?_
    rw [hs_uo _ _ (Or.inr (by decide)), hs_uo _ _ (Or.inr (by decide)), hs_comm (Or.inr (by decide))]
    refine e_aload_n dX6_save_32 rfl rfl ?_
    refine e_getr dX6_save_33 fl_6_10 hT.a0 rfl ?_
    refine hf_get hS dX6_save_36 fl_6_82 (by decide) ?_
    exact e_iret dX6_save_39 rfl (ho.trans (by rw [hs_comm (h := 52) (g := 1) (Or.inr (by decide))])) (Nat.le_of_ble_eq_true rfl) (Nat.le_of_ble_eq_true rfl)
  · exact absurd (by decide) (z0 h6)
theorem c_X6_restore0 (hT : KS S) (h9 : hf α 9 = 0 ∨ hf α 9 = 1) (hsv : ¬ M 102 0 = 0) : AM G_X6_restore [.ref 0, .int (nI 0)] S (hs_put 1 σ (hs_put 52 α M)) J (some (.int (hf α 5)), S, hs_put 1 (hCp σ α) (hs_put 52 α M), J) := by
  have hS := hT.now
  have hG : HS S 52 := hT.2.2.2.2.1
  have hcp := c_X0_copyFrom (τ := σ) (σ := α) (M := M) (J := J) hS hG (Or.inl (by decide)) h9
  have h5 : hf (hCp σ α) 5 = hf α 5 := (hCp_eq σ α).2.2.1 5 (by omega) (by omega)
  have hM : hs_put 1 σ (hs_put 52 α M) 102 0 = M 102 0 := by rw [hs_out _ _ (Or.inr (by decide)), hs_out _ _ (Or.inr (by decide))]
  refine AM_gen (fun out ho => ?_)
  refine AM_of [.ref 0, .int (nI 0)] (by decide) rfl (fun B => (Nat.le_of_ble_eq_true rfl)) ?_
  refine e_iload_n dX6_restore_0 rfl rfl ?_
  refine e_iconst (v := 0) dX6_restore_1 (by decide) ?_
  refine e_iconst (v := 1) dX6_restore_2 (by decide) ?_
  refine e_cS1 dX6_restore_3 ml_6_38 (c_X6_isWithin _ _ _) rfl rfl (by decide) (Nat.le_of_ble_eq_true rfl) ⟨rfl, rfl⟩ (Nat.le_of_ble_eq_true rfl) (Nat.le_of_ble_eq_true rfl) ?_
  refine e_if_ne 12 dX6_restore_6 (by decide) (fun h6 => ?_) (fun h6 => ?_)
  · refine e_aload_n dX6_restore_12 rfl rfl ?_
    refine e_getr dX6_restore_13 fl_6_23 hT.a0 rfl ?_
    refine e_iload_n dX6_restore_16 rfl rfl ?_
    refine e_zald 0 dX6_restore_17 hT.sv rfl (by decide) (by decide) ?_
    refine e_if_ne 24 dX6_restore_18 (by decide) (fun h18 => ?_) (fun h18 => ?_)
    · refine e_aload_n dX6_restore_24 rfl rfl ?_
      refine e_getr dX6_restore_25 fl_6_10 hT.a0 rfl ?_
      refine e_aload_n dX6_restore_28 rfl rfl ?_
      refine e_getr dX6_restore_29 fl_6_19 hT.a0 rfl ?_
      refine e_iload_n dX6_restore_32 rfl rfl ?_
      refine h_slot0 hT dX6_restore_33 rfl ?_
      refine e_cV0 dX6_restore_34 ml_6_171 hcp hS.a0 rfl rfl (by decide) (Nat.le_of_ble_eq_true rfl) ⟨rfl, rfl⟩ (Nat.le_of_ble_eq_true rfl) (Nat.le_of_ble_eq_true rfl) ?_
      refine e_aload_n dX6_restore_37 rfl rfl ?_
      refine e_getr dX6_restore_38 fl_6_10 hT.a0 rfl ?_
      refine hf_get hS dX6_restore_41 fl_6_82 (by decide) ?_
      exact e_iret dX6_restore_44 rfl (ho.trans (by rw [h5])) (Nat.le_of_ble_eq_true rfl) (Nat.le_of_ble_eq_true rfl)
    · rw [hM] at h18
      exact absurd h18 hsv
  · exact absurd (by decide) (z0 h6)
theorem c_X6_save1 (hT : KS S) (h9 : hf σ 9 = 0 ∨ hf σ 9 = 1) : AM G_X6_save [.ref 0, .int (nI 1)] S (hs_put 77 α (hs_put 1 σ M)) J (some (.int (hf σ 5)), S, hs_put 77 (hCp α σ) (hs_put 1 σ (ai_u M 102 1 1)), J) := by
  have hS := hT.now
  have hG : HS S 77 := hT.2.2.2.2.2.1
  have hcp := c_X0_copyFrom (τ := α) (σ := σ) (M := M) (J := J) hG hS (Or.inr (by decide)) h9
  refine AM_gen (fun out ho => ?_)
  refine AM_of [.ref 0, .int (nI 1)] (by decide) rfl (fun B => (Nat.le_of_ble_eq_true rfl)) ?_
  refine e_iload_n dX6_save_0 rfl rfl ?_
  refine e_iconst (v := 0) dX6_save_1 (by decide) ?_
  refine e_iconst (v := 1) dX6_save_2 (by decide) ?_
  refine e_cS1 dX6_save_3 ml_6_38 (c_X6_isWithin _ _ _) rfl rfl (by decide) (Nat.le_of_ble_eq_true rfl) ⟨rfl, rfl⟩ (Nat.le_of_ble_eq_true rfl) (Nat.le_of_ble_eq_true rfl) ?_
  refine e_if_ne 12 dX6_save_6 (by decide) (fun h6 => ?_) (fun h6 => ?_)
  · refine e_aload_n dX6_save_12 rfl rfl ?_
    refine e_getr dX6_save_13 fl_6_19 hT.a0 rfl ?_
    refine e_iload_n dX6_save_16 rfl rfl ?_
    refine h_slot1 hT dX6_save_17 rfl ?_
    refine e_aload_n dX6_save_18 rfl rfl ?_
    refine e_getr dX6_save_19 fl_6_10 hT.a0 rfl ?_
    refine e_cV0 dX6_save_22 ml_6_171 hcp hG.a0 rfl rfl (by decide) (Nat.le_of_ble_eq_true rfl) ⟨rfl, rfl⟩ (Nat.le_of_ble_eq_true rfl) (Nat.le_of_ble_eq_true rfl) ?_
    refine e_aload_n dX6_save_25 rfl rfl ?_
    refine e_getr dX6_save_26 fl_6_23 hT.a0 rfl ?_
    refine e_iload_n dX6_save_29 rfl rfl ?_
    refine e_iconst (v := 1) dX6_save_30 (by decide) ?_
    refine e_zast 1 dX6_save_31 hT.sv (by decide) rfl (by decide) (by decide) ?_
    rw [hs_uo _ _ (Or.inr (by decide)), hs_uo _ _ (Or.inr (by decide)), hs_comm (Or.inr (by decide))]
    refine e_aload_n dX6_save_32 rfl rfl ?_
    refine e_getr dX6_save_33 fl_6_10 hT.a0 rfl ?_
    refine hf_get hS dX6_save_36 fl_6_82 (by decide) ?_
    exact e_iret dX6_save_39 rfl (ho.trans (by rw [hs_comm (h := 77) (g := 1) (Or.inr (by decide))])) (Nat.le_of_ble_eq_true rfl) (Nat.le_of_ble_eq_true rfl)
  · exact absurd (by decide) (z0 h6)
theorem c_X6_restore1 (hT : KS S) (h9 : hf α 9 = 0 ∨ hf α 9 = 1) (hsv : ¬ M 102 1 = 0) : AM G_X6_restore [.ref 0, .int (nI 1)] S (hs_put 1 σ (hs_put 77 α M)) J (some (.int (hf α 5)), S, hs_put 1 (hCp σ α) (hs_put 77 α M), J) := by
  have hS := hT.now
  have hG : HS S 77 := hT.2.2.2.2.2.1
  have hcp := c_X0_copyFrom (τ := σ) (σ := α) (M := M) (J := J) hS hG (Or.inl (by decide)) h9
  have h5 : hf (hCp σ α) 5 = hf α 5 := (hCp_eq σ α).2.2.1 5 (by omega) (by omega)
  have hM : hs_put 1 σ (hs_put 77 α M) 102 1 = M 102 1 := by rw [hs_out _ _ (Or.inr (by decide)), hs_out _ _ (Or.inr (by decide))]
  refine AM_gen (fun out ho => ?_)
  refine AM_of [.ref 0, .int (nI 1)] (by decide) rfl (fun B => (Nat.le_of_ble_eq_true rfl)) ?_
  refine e_iload_n dX6_restore_0 rfl rfl ?_
  refine e_iconst (v := 0) dX6_restore_1 (by decide) ?_
  refine e_iconst (v := 1) dX6_restore_2 (by decide) ?_
  refine e_cS1 dX6_restore_3 ml_6_38 (c_X6_isWithin _ _ _) rfl rfl (by decide) (Nat.le_of_ble_eq_true rfl) ⟨rfl, rfl⟩ (Nat.le_of_ble_eq_true rfl) (Nat.le_of_ble_eq_true rfl) ?_
  refine e_if_ne 12 dX6_restore_6 (by decide) (fun h6 => ?_) (fun h6 => ?_)
  · refine e_aload_n dX6_restore_12 rfl rfl ?_
    refine e_getr dX6_restore_13 fl_6_23 hT.a0 rfl ?_
    refine e_iload_n dX6_restore_16 rfl rfl ?_
    refine e_zald 1 dX6_restore_17 hT.sv rfl (by decide) (by decide) ?_
    refine e_if_ne 24 dX6_restore_18 (by decide) (fun h18 => ?_) (fun h18 => ?_)
    · refine e_aload_n dX6_restore_24 rfl rfl ?_
      refine e_getr dX6_restore_25 fl_6_10 hT.a0 rfl ?_
      refine e_aload_n dX6_restore_28 rfl rfl ?_
      refine e_getr dX6_restore_29 fl_6_19 hT.a0 rfl ?_
      refine e_iload_n dX6_restore_32 rfl rfl ?_
      refine h_slot1 hT dX6_restore_33 rfl ?_
      refine e_cV0 dX6_restore_34 ml_6_171 hcp hS.a0 rfl rfl (by decide) (Nat.le_of_ble_eq_true rfl) ⟨rfl, rfl⟩ (Nat.le_of_ble_eq_true rfl) (Nat.le_of_ble_eq_true rfl) ?_
      refine e_aload_n dX6_restore_37 rfl rfl ?_
      refine e_getr dX6_restore_38 fl_6_10 hT.a0 rfl ?_
      refine hf_get hS dX6_restore_41 fl_6_82 (by decide) ?_
      exact e_iret dX6_restore_44 rfl (ho.trans (by rw [h5])) (Nat.le_of_ble_eq_true rfl) (Nat.le_of_ble_eq_true rfl)
    · rw [hM] at h18
      exact absurd h18 hsv
  · exact absurd (by decide) (z0 h6)
theorem c_X6_save_no (hT : KS S) {a : Int32} (ha : ¬ (0 ≤ a ∧ a ≤ 1)) : AM G_X6_save [.ref 0, .int a] S M J (some (.int (-2)), S, M, J) := by
  refine AM_gen (fun out ho => ?_)
  refine AM_of [.ref 0, .int a] (by decide) rfl (fun B => (Nat.le_of_ble_eq_true rfl)) ?_
  refine e_iload_n dX6_save_0 rfl rfl ?_
  refine e_iconst (v := 0) dX6_save_1 (by decide) ?_
  refine e_iconst (v := 1) dX6_save_2 (by decide) ?_
  refine e_cS1 dX6_save_3 ml_6_38 (c_X6_isWithin _ _ _) rfl rfl (by decide) (Nat.le_of_ble_eq_true rfl) ⟨rfl, rfl⟩ (Nat.le_of_ble_eq_true rfl) (Nat.le_of_ble_eq_true rfl) ?_
  refine e_if_ne 12 dX6_save_6 (by decide) (fun h6 => ?_) (fun h6 => ?_)
  · exact absurd (z1 h6) ha
  · refine e_bipush (v := (-2)) dX6_save_9 (by decide) ?_
    exact e_iret dX6_save_11 rfl ho (Nat.le_of_ble_eq_true rfl) (Nat.le_of_ble_eq_true rfl)
theorem c_X6_restore_no (hT : KS S) {a v : Int32} (hbad : ¬ (0 ≤ a ∧ a ≤ 1) → v = -2) (hst : ∀ s, s < 2 → a = nI s → M 102 s = 0 ∧ v = -3) : AM G_X6_restore [.ref 0, .int a] S M J (some (.int v), S, M, J) := by
  refine AM_gen (fun out ho => ?_)
  refine AM_of [.ref 0, .int a] (by decide) rfl (fun B => (Nat.le_of_ble_eq_true rfl)) ?_
  refine e_iload_n dX6_restore_0 rfl rfl ?_
  refine e_iconst (v := 0) dX6_restore_1 (by decide) ?_
  refine e_iconst (v := 1) dX6_restore_2 (by decide) ?_
  refine e_cS1 dX6_restore_3 ml_6_38 (c_X6_isWithin _ _ _) rfl rfl (by decide) (Nat.le_of_ble_eq_true rfl) ⟨rfl, rfl⟩ (Nat.le_of_ble_eq_true rfl) (Nat.le_of_ble_eq_true rfl) ?_
  refine e_if_ne 12 dX6_restore_6 (by decide) (fun h6 => ?_) (fun h6 => ?_)
  · obtain ⟨s, hs, rfl⟩ := wi_nI (n := 1) rfl (z1 h6)
    obtain ⟨h1, h2⟩ := hst s (by omega) rfl
    have hs2 : s < 2 := by omega
    refine e_aload_n dX6_restore_12 rfl rfl ?_
    refine e_getr dX6_restore_13 fl_6_23 hT.a0 rfl ?_
    refine e_iload_n dX6_restore_16 rfl rfl ?_
    refine e_zald s dX6_restore_17 hT.sv rfl (by first | assumption | omega) (by decide) ?_
    refine e_if_ne 24 dX6_restore_18 (by decide) (fun h18 => ?_) (fun h18 => ?_)
    · exact absurd h1 h18
    · refine e_bipush (v := (-3)) dX6_restore_21 (by decide) ?_
      exact e_iret dX6_restore_23 rfl (ho.trans (by rw [h2])) (Nat.le_of_ble_eq_true rfl) (Nat.le_of_ble_eq_true rfl)
  · have hv := hbad (z0 h6)
    refine e_bipush (v := (-2)) dX6_restore_9 (by decide) ?_
    exact e_iret dX6_restore_11 rfl (ho.trans (by rw [hv])) (Nat.le_of_ble_eq_true rfl) (Nat.le_of_ble_eq_true rfl)
theorem c_X6_digest (hT : KS S) {F E t : Nat} (hR : Rel F E t σ m) (hF : F + 24000 ≤ 1000000000) (ht : t ≤ 20000) {tl p : Nat} (htl : cf κ 1 = nI tl) (ht4 : tl ≤ 100) (hp : m 108 = nI p) (hp4 : p ≤ 40) (τ : hs_T) : ∃ τ', ∀ M J, AM G_X6_digest [.ref 0] S (hs_put 1 σ (hs_put 26 τ (sc_put 103 κ M))) J (some (.long (rDig m tl (cb κ) p (oI (eM m 500)))), S, hs_put 1 σ (hs_put 26 τ' (sc_put 103 κ M)), J) := by
  have hS := hT.now
  have hC := hT.script
  obtain ⟨τ', hem⟩ := c_X6_empties hT hR hF ht τ
  refine ⟨τ', fun M J => ?_⟩
  have hem2 := hem (sc_put 103 κ M) J
  have hkept : AM G_X2_kept [.ref (1 + 5)] S (hs_put 1 σ (hs_put 26 τ (sc_put 103 κ M))) J (some (.int (nI p)), S, hs_put 1 σ (hs_put 26 τ (sc_put 103 κ M)), J) := by
    obtain ⟨hw, e, c, hN, hM, hRo, hSt, hU, hL, hG⟩ := hR
    have h1 := hN.2.2.2.2.2.1
    have h2 := hN.2.2.2.2.2.2.1
    have h3 := c_X2_kept (σ := σ) (M := hs_put 26 τ (sc_put 103 κ M)) (J := J) hS hN.2.2.2.1 (by omega)
    have h4 : p = min e 40 := (nI_eq (by omega) (by omega)).mp (hp.symm.trans hG.1)
    rw [← h4] at h3
    exact h3
  obtain ⟨H1, hH1⟩ : ∃ x, x = mixN 549 (rNum m (nI tl)) 15 := ⟨_, rfl⟩
  obtain ⟨H2, hH2⟩ : ∃ x, x = mixN H1 (fun k => rMemV m (k / 5) (k % 5)) 60 := ⟨_, rfl⟩
  obtain ⟨H3, hH3⟩ : ∃ x, x = mixN H2 (fun k => rRoomV m (k / 10) (k % 10)) 50 := ⟨_, rfl⟩
  obtain ⟨H4, hH4⟩ : ∃ x, x = mixN H3 (fun k => m (111 + k)) (4 * p) := ⟨_, rfl⟩
  obtain ⟨H5, hH5⟩ : ∃ x, x = mix (mix H4 ((rUnf m 5).2.2 - (rUnf m 5).2.1)) (oI (eM m 500)) := ⟨_, rfl⟩
  have hdig : rDig m tl (cb κ) p (oI (eM m 500)) = mixN H5 (cb κ) tl := by rw [rDig, hH5, hH4, hH3, hH2, hH1]
  rw [hdig]
  have hcm : ∀ τ1 : hs_T, hs_put 1 σ (hs_put 26 τ1 (sc_put 103 κ M)) = sc_put 103 κ (hs_put 1 σ (hs_put 26 τ1 M)) := fun τ1 => by
    rw [hs_sc (h := 26) (by decide), hs_sc (h := 1) (by decide)]
  have hcm2 : hs_put 1 σ (hs_put 26 τ (sc_put 103 κ M)) = hs_put 1 σ (sc_put 103 κ (hs_put 26 τ M)) := by rw [hs_sc (h := 26) (by decide)]
  refine AM_gen (fun out ho => ?_)
  refine AM_of [.ref 0, .retAddr 0, .retAddr 0, .retAddr 0, .retAddr 0] (by decide) rfl (fun B => (Nat.le_of_ble_eq_true rfl)) ?_
  have k5 : ∀ (d i : Nat) (x3 : Int32), i + d = tl → AW G_X6_digest out 0 0 172 [.ref 0, .long (mixN H5 (cb κ) i), .retAddr 0, .int x3, .int (nI i)] [] S (hs_put 1 σ (hs_put 26 τ' (sc_put 103 κ M))) J := by
    rw [hcm] at ho ⊢
    intro d
    induction d with
    | zero =>
      intro i x3 hi
      have hi2 : i = tl := by omega
      subst hi2
      refine e_iload dX6_digest_172 rfl ?_
      refine e_aload_n dX6_digest_174 rfl rfl ?_
      refine e_getr dX6_digest_175 fl_6_30 hT.a0 rfl ?_
      refine cf_get hC dX6_digest_178 fl_6_175 (by decide) ?_
      refine e_ge_t (i := i) (N := i) 208 dX6_digest_181 (by decide) rfl htl (by omega) (by omega) ?_
      refine e_lload_n dX6_digest_208 rfl rfl ?_
      exact e_lret dX6_digest_209 rfl ho (Nat.le_of_ble_eq_true rfl) (Nat.le_of_ble_eq_true rfl)
    | succ d ih =>
      intro i x3 hi
      refine e_iload dX6_digest_172 rfl ?_
      refine e_aload_n dX6_digest_174 rfl rfl ?_
      refine e_getr dX6_digest_175 fl_6_30 hT.a0 rfl ?_
      refine cf_get hC dX6_digest_178 fl_6_175 (by decide) ?_
      refine e_ge_f (i := i) (N := tl) 208 dX6_digest_181 (by decide) rfl htl (by omega) (by omega) ?_
      refine e_ldc2 dX6_digest_184 kc_6_230 ?_
      refine e_lload_n dX6_digest_187 rfl rfl ?_
      refine e_lmul dX6_digest_188 ?_
      refine e_aload_n dX6_digest_189 rfl rfl ?_
      refine e_getr dX6_digest_190 fl_6_30 hT.a0 rfl ?_
      refine e_getr dX6_digest_193 fl_6_249 hC.a0 rfl ?_
      refine e_iload dX6_digest_196 rfl ?_
      refine cb_ld i hC dX6_digest_198 rfl (by first | assumption | omega) ?_
      refine e_i2l dX6_digest_199 ?_
      refine e_ladd dX6_digest_200 ?_
      refine e_lstore_n dX6_digest_201 rfl (by decide) rfl ?_
      refine e_iinc dX6_digest_202 rfl (ai_inc _) (by decide) rfl ?_
      refine e_goto 172 dX6_digest_205 (by decide) ?_
      exact ih (i + 1) _ (by omega)
  have k4 : ∀ (d i : Nat), i + d = 4 * p → AW G_X6_digest out 0 0 113 [.ref 0, .long (mixN H3 (fun k => m (111 + k)) i), .retAddr 0, .int (nI (4 * p)), .int (nI i)] [] S (hs_put 1 σ (hs_put 26 τ (sc_put 103 κ M))) J := by
    intro d
    induction d with
    | zero =>
      intro i hi
      have hi2 : i = 4 * p := by omega
      subst hi2
      refine e_iload dX6_digest_113 rfl ?_
      refine e_iload_n dX6_digest_115 rfl rfl ?_
      refine e_ge_t (i := (4 * p)) (N := (4 * p)) 145 dX6_digest_116 (by decide) rfl rfl (by omega) (by omega) ?_
      have h0 := k5 tl 0 (nI (4 * p)) (by omega)
      rw [mixN_0, hH5, hH4] at h0
      refine e_ldc2 dX6_digest_145 kc_6_230 ?_
      refine e_lload_n dX6_digest_148 rfl rfl ?_
      refine e_lmul dX6_digest_149 ?_
      refine e_aload_n dX6_digest_150 rfl rfl ?_
      refine e_cV1 dX6_digest_151 ml_6_243 (c_X6_unfairness hT hR) hT.a0 rfl rfl (by decide) (Nat.le_of_ble_eq_true rfl) ⟨rfl, rfl⟩ (Nat.le_of_ble_eq_true rfl) (Nat.le_of_ble_eq_true rfl) ?_
      refine e_i2l dX6_digest_154 ?_
      refine e_ladd dX6_digest_155 ?_
      refine e_lstore_n dX6_digest_156 rfl (by decide) rfl ?_
      refine e_ldc2 dX6_digest_157 kc_6_230 ?_
      refine e_lload_n dX6_digest_160 rfl rfl ?_
      refine e_lmul dX6_digest_161 ?_
      refine e_aload_n dX6_digest_162 rfl rfl ?_
      refine e_cV1 dX6_digest_163 ml_6_246 hem2 hT.a0 rfl rfl (by decide) (Nat.le_of_ble_eq_true rfl) ⟨rfl, rfl⟩ (Nat.le_of_ble_eq_true rfl) (Nat.le_of_ble_eq_true rfl) ?_
      refine e_i2l dX6_digest_166 ?_
      refine e_ladd dX6_digest_167 ?_
      refine e_lstore_n dX6_digest_168 rfl (by decide) rfl ?_
      refine e_iconst (v := 0) dX6_digest_169 (by decide) ?_
      refine e_istore dX6_digest_170 (by decide) rfl ?_
      exact h0
    | succ d ih =>
      intro i hi
      have hev : rEvR m (nI (i / 4)) (nI (i % 4)) (m (111 + i)) := by
        refine ⟨fun z => absurd ⟨nI_pos' (by omega), nI_pos' (by omega), nI_le (b := 3) (by omega) (by decide)⟩ z, fun i2 q h1 h2 h3 h4 => ?_⟩
        have e1 := (nI_eq (by omega) h1).mp h3
        have e2 := (nI_eq (by omega) (by omega)).mp h4
        rw [hp, if_neg (nI_ge (by omega) (by omega)), show 111 + 4 * i2 + q = 111 + i by omega]
      refine e_iload dX6_digest_113 rfl ?_
      refine e_iload_n dX6_digest_115 rfl rfl ?_
      refine e_ge_f (i := i) (N := (4 * p)) 145 dX6_digest_116 (by decide) rfl rfl (by omega) (by omega) ?_
      refine e_ldc2 dX6_digest_119 kc_6_230 ?_
      refine e_lload_n dX6_digest_122 rfl rfl ?_
      refine e_lmul dX6_digest_123 ?_
      refine e_aload_n dX6_digest_124 rfl rfl ?_
      refine e_iload dX6_digest_125 rfl ?_
      refine e_iconst (v := 4) dX6_digest_127 (by decide) ?_
      refine e_idiv dX6_digest_128 (by decide) ?_
      refine e_as (nI ((i / 4))) (pk_div (a := i) (d := 4) (by omega) (by omega) (by omega)) ?_
      refine e_iload dX6_digest_129 rfl ?_
      refine e_iconst (v := 4) dX6_digest_131 (by decide) ?_
      refine e_irem dX6_digest_132 (by decide) ?_
      refine e_as (nI ((i % 4))) (pk_rem (a := i) (d := 4) (by omega) (by omega) (by omega)) ?_
      refine e_cV1 dX6_digest_133 ml_6_240 (c_X6_event hT hR hev) hT.a0 rfl rfl (by decide) (Nat.le_of_ble_eq_true rfl) ⟨rfl, rfl⟩ (Nat.le_of_ble_eq_true rfl) (Nat.le_of_ble_eq_true rfl) ?_
      refine e_i2l dX6_digest_136 ?_
      refine e_ladd dX6_digest_137 ?_
      refine e_lstore_n dX6_digest_138 rfl (by decide) rfl ?_
      refine e_iinc dX6_digest_139 rfl (ai_inc _) (by decide) rfl ?_
      refine e_goto 113 dX6_digest_142 (by decide) ?_
      exact ih (i + 1) (by omega)
  have k3 : ∀ (d i : Nat), i + d = 50 → AW G_X6_digest out 0 0 65 [.ref 0, .long (mixN H2 (fun k => rRoomV m (k / 10) (k % 10)) i), .retAddr 0, .int (nI i), .retAddr 0] [] S (hs_put 1 σ (hs_put 26 τ (sc_put 103 κ M))) J := by
    intro d
    induction d with
    | zero =>
      intro i hi
      have hi2 : i = 50 := by omega
      subst hi2
      have h0 := k4 (4 * p) 0 (by omega)
      rw [mixN_0, hH3] at h0
      refine e_iload_n dX6_digest_65 rfl rfl ?_
      refine e_bipush (v := 50) dX6_digest_66 (by decide) ?_
      refine e_ge_t (i := 50) (N := 50) 97 dX6_digest_68 (by decide) rfl rfl (by omega) (by omega) ?_
      refine e_aload_n dX6_digest_97 rfl rfl ?_
      refine e_getr dX6_digest_98 fl_6_10 hT.a0 rfl ?_
      refine e_getr dX6_digest_101 fl_6_145 hS.a0 rfl ?_
      refine e_cV1 dX6_digest_104 ml_6_222 hkept hS.a5 rfl rfl (by decide) (Nat.le_of_ble_eq_true rfl) ⟨rfl, rfl⟩ (Nat.le_of_ble_eq_true rfl) (Nat.le_of_ble_eq_true rfl) ?_
      refine e_iconst (v := 4) dX6_digest_107 (by decide) ?_
      refine e_imul dX6_digest_108 ?_
      refine e_as (nI ((4 * p))) ((ai_mul (a := p) (b := 4) rfl rfl).trans (by rw [Nat.mul_comm])) ?_
      refine e_istore_n dX6_digest_109 rfl (by decide) rfl ?_
      refine e_iconst (v := 0) dX6_digest_110 (by decide) ?_
      refine e_istore dX6_digest_111 (by decide) rfl ?_
      exact h0
    | succ d ih =>
      intro i hi
      refine e_iload_n dX6_digest_65 rfl rfl ?_
      refine e_bipush (v := 50) dX6_digest_66 (by decide) ?_
      refine e_ge_f (i := i) (N := 50) 97 dX6_digest_68 (by decide) rfl rfl (by omega) (by omega) ?_
      refine e_ldc2 dX6_digest_71 kc_6_230 ?_
      refine e_lload_n dX6_digest_74 rfl rfl ?_
      refine e_lmul dX6_digest_75 ?_
      refine e_aload_n dX6_digest_76 rfl rfl ?_
      refine e_iload_n dX6_digest_77 rfl rfl ?_
      refine e_bipush (v := 10) dX6_digest_78 (by decide) ?_
      refine e_idiv dX6_digest_80 (by decide) ?_
      refine e_as (nI ((i / 10))) (pk_div (a := i) (d := 10) (by omega) (by omega) (by omega)) ?_
      refine e_iload_n dX6_digest_81 rfl rfl ?_
      refine e_bipush (v := 10) dX6_digest_82 (by decide) ?_
      refine e_irem dX6_digest_84 (by decide) ?_
      refine e_as (nI ((i % 10))) (pk_rem (a := i) (d := 10) (by omega) (by omega) (by omega)) ?_
      refine e_cV1 dX6_digest_85 ml_6_238 (c_X6_room hT hR (rRoomR_ok (k := i / 10) (q := i % 10) (by omega) (by omega))) hT.a0 rfl rfl (by decide) (Nat.le_of_ble_eq_true rfl) ⟨rfl, rfl⟩ (Nat.le_of_ble_eq_true rfl) (Nat.le_of_ble_eq_true rfl) ?_
      refine e_i2l dX6_digest_88 ?_
      refine e_ladd dX6_digest_89 ?_
      refine e_lstore_n dX6_digest_90 rfl (by decide) rfl ?_
      refine e_iinc dX6_digest_91 rfl (ai_inc _) (by decide) rfl ?_
      refine e_goto 65 dX6_digest_94 (by decide) ?_
      exact ih (i + 1) (by omega)
  have k2 : ∀ (d i : Nat), i + d = 60 → AW G_X6_digest out 0 0 33 [.ref 0, .long (mixN H1 (fun k => rMemV m (k / 5) (k % 5)) i), .retAddr 0, .int (nI i), .retAddr 0] [] S (hs_put 1 σ (hs_put 26 τ (sc_put 103 κ M))) J := by
    intro d
    induction d with
    | zero =>
      intro i hi
      have hi2 : i = 60 := by omega
      subst hi2
      have h0 := k3 50 0 (by omega)
      rw [mixN_0, hH2] at h0
      refine e_iload_n dX6_digest_33 rfl rfl ?_
      refine e_bipush (v := 60) dX6_digest_34 (by decide) ?_
      refine e_ge_t (i := 60) (N := 60) 63 dX6_digest_36 (by decide) rfl rfl (by omega) (by omega) ?_
      refine e_iconst (v := 0) dX6_digest_63 (by decide) ?_
      refine e_istore_n dX6_digest_64 rfl (by decide) rfl ?_
      exact h0
    | succ d ih =>
      intro i hi
      refine e_iload_n dX6_digest_33 rfl rfl ?_
      refine e_bipush (v := 60) dX6_digest_34 (by decide) ?_
      refine e_ge_f (i := i) (N := 60) 63 dX6_digest_36 (by decide) rfl rfl (by omega) (by omega) ?_
      refine e_ldc2 dX6_digest_39 kc_6_230 ?_
      refine e_lload_n dX6_digest_42 rfl rfl ?_
      refine e_lmul dX6_digest_43 ?_
      refine e_aload_n dX6_digest_44 rfl rfl ?_
      refine e_iload_n dX6_digest_45 rfl rfl ?_
      refine e_iconst (v := 5) dX6_digest_46 (by decide) ?_
      refine e_idiv dX6_digest_47 (by decide) ?_
      refine e_as (nI ((i / 5))) (pk_div (a := i) (d := 5) (by omega) (by omega) (by omega)) ?_
      refine e_iload_n dX6_digest_48 rfl rfl ?_
      refine e_iconst (v := 5) dX6_digest_49 (by decide) ?_
      refine e_irem dX6_digest_50 (by decide) ?_
      refine e_as (nI ((i % 5))) (pk_rem (a := i) (d := 5) (by omega) (by omega) (by omega)) ?_
      refine e_cV1 dX6_digest_51 ml_6_235 (c_X6_member hT hR (rMemR_ok (k := i / 5) (q := i % 5) (by omega) (by omega))) hT.a0 rfl rfl (by decide) (Nat.le_of_ble_eq_true rfl) ⟨rfl, rfl⟩ (Nat.le_of_ble_eq_true rfl) (Nat.le_of_ble_eq_true rfl) ?_
      refine e_i2l dX6_digest_54 ?_
      refine e_ladd dX6_digest_55 ?_
      refine e_lstore_n dX6_digest_56 rfl (by decide) rfl ?_
      refine e_iinc dX6_digest_57 rfl (ai_inc _) (by decide) rfl ?_
      refine e_goto 33 dX6_digest_60 (by decide) ?_
      exact ih (i + 1) (by omega)
  have k1 : ∀ (d i : Nat), i + d = 15 → AW G_X6_digest out 0 0 6 [.ref 0, .long (mixN 549 (rNum m (nI tl)) i), .retAddr 0, .int (nI i), .retAddr 0] [] S (hs_put 1 σ (hs_put 26 τ (sc_put 103 κ M))) J := by
    intro d
    induction d with
    | zero =>
      intro i hi
      have hi2 : i = 15 := by omega
      subst hi2
      have h0 := k2 60 0 (by omega)
      rw [mixN_0, hH1] at h0
      refine e_iload_n dX6_digest_6 rfl rfl ?_
      refine e_bipush (v := 15) dX6_digest_7 (by decide) ?_
      refine e_ge_t (i := 15) (N := 15) 31 dX6_digest_9 (by decide) rfl rfl (by omega) (by omega) ?_
      refine e_iconst (v := 0) dX6_digest_31 (by decide) ?_
      refine e_istore_n dX6_digest_32 rfl (by decide) rfl ?_
      exact h0
    | succ d ih =>
      intro i hi
      have hcv : rCntR m (cf κ 1) (nI i) (rNum m (nI tl) i) := by
        rw [htl]
        refine ⟨fun z => absurd ⟨nI_pos' (by omega), nI_le (b := 14) (by omega) (by decide)⟩ z, fun w h1 h2 => ?_⟩
        rw [(nI_eq (by omega) (by omega)).mp h2]
      have hcn := c_X6_count (M := hs_put 26 τ M) (J := J) hT hR hcv
      rw [← hcm2] at hcn
      refine e_iload_n dX6_digest_6 rfl rfl ?_
      refine e_bipush (v := 15) dX6_digest_7 (by decide) ?_
      refine e_ge_f (i := i) (N := 15) 31 dX6_digest_9 (by decide) rfl rfl (by omega) (by omega) ?_
      refine e_ldc2 dX6_digest_12 kc_6_230 ?_
      refine e_lload_n dX6_digest_15 rfl rfl ?_
      refine e_lmul dX6_digest_16 ?_
      refine e_aload_n dX6_digest_17 rfl rfl ?_
      refine e_iload_n dX6_digest_18 rfl rfl ?_
      refine e_cV1 dX6_digest_19 ml_6_232 hcn hT.a0 rfl rfl (by decide) (Nat.le_of_ble_eq_true rfl) ⟨rfl, rfl⟩ (Nat.le_of_ble_eq_true rfl) (Nat.le_of_ble_eq_true rfl) ?_
      refine e_i2l dX6_digest_22 ?_
      refine e_ladd dX6_digest_23 ?_
      refine e_lstore_n dX6_digest_24 rfl (by decide) rfl ?_
      refine e_iinc dX6_digest_25 rfl (ai_inc _) (by decide) rfl ?_
      refine e_goto 6 dX6_digest_28 (by decide) ?_
      exact ih (i + 1) (by omega)
  have h0 := k1 15 0 (by omega)
  rw [mixN_0] at h0
  refine e_ldc2 dX6_digest_0 kc_6_228 ?_
  refine e_lstore_n dX6_digest_3 rfl (by decide) rfl ?_
  refine e_iconst (v := 0) dX6_digest_4 (by decide) ?_
  refine e_istore_n dX6_digest_5 rfl (by decide) rfl ?_
  exact h0
end C63b

