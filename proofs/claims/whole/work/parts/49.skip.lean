/-! ===== quiet ticks: the method ===== -/
section C49
variable {S : List aiS} {M : Nat → Nat → Int32} {J : Nat → Int64} {h : Nat}
theorem hSkL_st (σ : hs_T) (x : Int32) : ∀ (n : Nat) (k : Nat), hm (hSkL σ x n) k 0 = hm σ k 0 ∧ hm (hSkL σ x n) k 1 = hm σ k 1
  | 0, k => ⟨rfl, rfl⟩
  | n + 1, k => by
    obtain ⟨a, b⟩ := hSkL_st σ x n k
    rw [hSkL, hSkS]
    split
    · constructor
      · show hm (phm (hSkL σ x n) n 3 _) k 0 = _
        rw [phm_rd, if_neg (by omega)]
        exact a
      · show hm (phm (hSkL σ x n) n 3 _) k 1 = _
        rw [phm_rd, if_neg (by omega)]
        exact b
    · exact ⟨a, b⟩
theorem c_X0_skipQuietTicks (hS : HS S h) {F E t : Nat} {σ : hs_T} {m : Nat → Int32} (hR : Rel F E t σ m) {en most : Int32} (hmost : en - hf σ 5 = most) : AM G_X0_skipQuietTicks [.ref h, .int en] S (hs_put h σ M) J (none, S, hs_put h (hSkip σ most).1 M, J) := by
  obtain ⟨hw, e, c, hN, hM, hR, hSt, hU, hL, hG⟩ := hR
  have hst : ∀ k, k < 12 → hm σ k 0 = 0 ∨ hm σ k 0 = 1 ∨ hm σ k 0 = 2 ∨ hm σ k 0 = 3 := fun k hk => by
    obtain ⟨⟨q0, -⟩, b, -⟩ := hM k hk
    rw [q0]
    exact b
  have hrm : ∀ k, k < 12 → hm σ k 0 = 2 → ∃ r, r < 5 ∧ hm σ k 1 = nI r := fun k hk z => by
    obtain ⟨⟨q0, q1, -⟩, -⟩ := hM k hk
    rw [q0] at z
    obtain ⟨r, r1, r2⟩ := (hw.1 k hk).resolve_left (by rw [z]; decide)
    exact ⟨r, r1, by rw [q1]; exact r2⟩
  refine AM_gen (fun out ho => ?_)
  refine AM_of [.ref h, .int en, .retAddr 0, .retAddr 0] (by decide) rfl (fun B => (Nat.le_of_ble_eq_true rfl)) ?_
  generalize hx : hQt σ most 12 = x at *
  have key2 : 0 < x → ∀ (d i : Nat), i + d = 12 → AW G_X0_skipQuietTicks out 0 0 50 [.ref h, .int en, .int x, .int (nI i)] [] S (hs_put h (hSkL (phf σ 5 (hf σ 5 + x)) x i) M) J := by
    intro h0 d
    induction d with
    | zero =>
      intro i hi
      have hi2 : i = 12 := by omega
      subst hi2
      refine e_iload_n dX0_skipQuietTicks_50 rfl rfl ?_
      refine e_bipush (v := 12) dX0_skipQuietTicks_51 (by decide) ?_
      refine e_ge_t (i := 12) (N := 12) 113 dX0_skipQuietTicks_53 (by decide) rfl rfl (by omega) (by omega) ?_
      exact e_vret dX0_skipQuietTicks_113 rfl (ho.trans (by rw [hSkip, hx, if_pos h0])) (Nat.le_of_ble_eq_true rfl) (Nat.le_of_ble_eq_true rfl)
    | succ d ih =>
      intro i hi
      have ih' := ih (i + 1) (by omega)
      rw [hSkL] at ih'
      have hi12 : i < 12 := by omega
      obtain ⟨s0, s1⟩ := hSkL_st (phf σ 5 (hf σ 5 + x)) x i i
      revert ih' s0 s1
      generalize hSkL (phf σ 5 (hf σ 5 + x)) x i = τ
      intro ih' s0 s1
      have s0' : hm τ i 0 = hm σ i 0 := s0
      have s1' : hm τ i 1 = hm σ i 1 := s1
      refine e_iload_n dX0_skipQuietTicks_50 rfl rfl ?_
      refine e_bipush (v := 12) dX0_skipQuietTicks_51 (by decide) ?_
      refine e_ge_f (i := i) (N := 12) 113 dX0_skipQuietTicks_53 (by decide) rfl rfl (by omega) (by omega) ?_
      refine e_aload_n dX0_skipQuietTicks_56 rfl rfl ?_
      refine e_getr dX0_skipQuietTicks_57 fl_0_11 hS.a0 rfl ?_
      refine e_iload_n dX0_skipQuietTicks_60 rfl rfl ?_
      refine h_mem i hS dX0_skipQuietTicks_61 rfl (by first | assumption | omega) ?_
      refine hm_get hS (by first | assumption | omega) dX0_skipQuietTicks_62 fl_0_96 (by decide) ?_
      refine e_iconst (v := 2) dX0_skipQuietTicks_65 (by decide) ?_
      refine e_icmp_ne 107 dX0_skipQuietTicks_66 (by decide) (fun h2 => ?_) (fun h2 => ?_)
      · refine e_iinc dX0_skipQuietTicks_107 rfl (ai_inc _) (by decide) rfl ?_
        refine e_goto 50 dX0_skipQuietTicks_110 (by decide) ?_
        rw [hSkS, if_neg h2] at ih'
        exact ih'
      · obtain ⟨r, hr1, hr2⟩ := hrm i hi12 (by rw [← s0']; exact h2)
        have hr3 : hm τ i 1 = nI r := by rw [s1']; exact hr2
        have hr4 : hm (phm τ i 3 (hm τ i 3 - x)) i 1 = nI r := by rw [phm_rd, if_neg (by omega)]; exact hr3
        have hrn : hRn τ i = r := by rw [hRn, hr3, nI_clamp (by omega)]
        rw [hSkS, if_pos h2, hrn] at ih'
        refine e_aload_n dX0_skipQuietTicks_69 rfl rfl ?_
        refine e_getr dX0_skipQuietTicks_70 fl_0_11 hS.a0 rfl ?_
        refine e_iload_n dX0_skipQuietTicks_73 rfl rfl ?_
        refine h_mem i hS dX0_skipQuietTicks_74 rfl (by first | assumption | omega) ?_
        refine e_dup dX0_skipQuietTicks_75 rfl ?_
        refine hm_get hS (by first | assumption | omega) dX0_skipQuietTicks_76 fl_0_115 (by decide) ?_
        refine e_iload_n dX0_skipQuietTicks_79 rfl rfl ?_
        refine e_isub dX0_skipQuietTicks_80 ?_
        refine hm_put hS (by first | assumption | omega) dX0_skipQuietTicks_81 fl_0_115 ?_
        refine e_aload_n dX0_skipQuietTicks_84 rfl rfl ?_
        refine e_getr dX0_skipQuietTicks_85 fl_0_19 hS.a0 rfl ?_
        refine e_aload_n dX0_skipQuietTicks_88 rfl rfl ?_
        refine e_getr dX0_skipQuietTicks_89 fl_0_11 hS.a0 rfl ?_
        refine e_iload_n dX0_skipQuietTicks_92 rfl rfl ?_
        refine h_mem i hS dX0_skipQuietTicks_93 rfl (by first | assumption | omega) ?_
        refine hm_get hS (by first | assumption | omega) dX0_skipQuietTicks_94 fl_0_87 (by decide) ?_
        refine h_rm r hS dX0_skipQuietTicks_97 hr4 hr1 ?_
        refine e_dup dX0_skipQuietTicks_98 rfl ?_
        refine hr_get hS (by first | assumption | omega) dX0_skipQuietTicks_99 fl_0_112 (by decide) ?_
        refine e_iload_n dX0_skipQuietTicks_102 rfl rfl ?_
        refine e_iadd dX0_skipQuietTicks_103 ?_
        refine hr_put hS (by first | assumption | omega) dX0_skipQuietTicks_104 fl_0_112 ?_
        refine e_iinc dX0_skipQuietTicks_107 rfl (ai_inc _) (by decide) rfl ?_
        refine e_goto 50 dX0_skipQuietTicks_110 (by decide) ?_
        exact ih'
  have key : ∀ (d i : Nat), i + d = 12 → AW G_X0_skipQuietTicks out 0 0 9 [.ref h, .int en, .int (hQt σ most i), .int (nI i)] [] S (hs_put h σ M) J := by
    intro d
    induction d with
    | zero =>
      intro i hi
      have hi2 : i = 12 := by omega
      subst hi2
      rw [hx]
      refine e_iload_n dX0_skipQuietTicks_9 rfl rfl ?_
      refine e_bipush (v := 12) dX0_skipQuietTicks_10 (by decide) ?_
      refine e_ge_t (i := 12) (N := 12) 33 dX0_skipQuietTicks_12 (by decide) rfl rfl (by omega) (by omega) ?_
      refine e_iload_n dX0_skipQuietTicks_33 rfl rfl ?_
      refine e_if_gt 38 dX0_skipQuietTicks_34 (by decide) (fun h0 => ?_) (fun h0 => ?_)
      · refine e_aload_n dX0_skipQuietTicks_38 rfl rfl ?_
        refine e_dup dX0_skipQuietTicks_39 rfl ?_
        refine hf_get hS dX0_skipQuietTicks_40 fl_0_41 (by decide) ?_
        refine e_iload_n dX0_skipQuietTicks_43 rfl rfl ?_
        refine e_iadd dX0_skipQuietTicks_44 ?_
        refine hf_put hS dX0_skipQuietTicks_45 fl_0_41 ?_
        refine e_iconst (v := 0) dX0_skipQuietTicks_48 (by decide) ?_
        refine e_istore_n dX0_skipQuietTicks_49 rfl (by decide) rfl ?_
        exact key2 h0 12 0 rfl
      · exact e_vret dX0_skipQuietTicks_37 rfl (ho.trans (by rw [hSkip, hx, if_neg h0])) (Nat.le_of_ble_eq_true rfl) (Nat.le_of_ble_eq_true rfl)
    | succ d ih =>
      intro i hi
      have hi12 : i < 12 := by omega
      refine e_iload_n dX0_skipQuietTicks_9 rfl rfl ?_
      refine e_bipush (v := 12) dX0_skipQuietTicks_10 (by decide) ?_
      refine e_ge_f (i := i) (N := 12) 33 dX0_skipQuietTicks_12 (by decide) rfl rfl (by omega) (by omega) ?_
      refine e_iload_n dX0_skipQuietTicks_15 rfl rfl ?_
      refine e_aload_n dX0_skipQuietTicks_16 rfl rfl ?_
      refine e_iload_n dX0_skipQuietTicks_17 rfl rfl ?_
      refine e_cV1 dX0_skipQuietTicks_18 ml_0_118 (c_X0_ticksToChange hS hi12 (hst i hi12)) hS.a0 rfl rfl (by decide) (Nat.le_of_ble_eq_true rfl) ⟨rfl, rfl⟩ (Nat.le_of_ble_eq_true rfl) (Nat.le_of_ble_eq_true rfl) ?_
      refine e_iconst (v := 1) dX0_skipQuietTicks_21 (by decide) ?_
      refine e_isub dX0_skipQuietTicks_22 ?_
      refine e_min dX0_skipQuietTicks_23 ml_0_121 (by decide) (Nat.le_of_ble_eq_true rfl) (Nat.le_of_ble_eq_true rfl) (Nat.le_of_ble_eq_true rfl) ?_
      refine e_istore_n dX0_skipQuietTicks_26 rfl (by decide) rfl ?_
      refine e_iinc dX0_skipQuietTicks_27 rfl (ai_inc _) (by decide) rfl ?_
      refine e_goto 9 dX0_skipQuietTicks_30 (by decide) ?_
      exact ih (i + 1) (by omega)
  refine e_iload_n dX0_skipQuietTicks_0 rfl rfl ?_
  refine e_aload_n dX0_skipQuietTicks_1 rfl rfl ?_
  refine hf_get hS dX0_skipQuietTicks_2 fl_0_41 (by decide) ?_
  refine e_isub dX0_skipQuietTicks_5 ?_
  refine e_as most hmost ?_
  refine e_istore_n dX0_skipQuietTicks_6 rfl (by decide) rfl ?_
  refine e_iconst (v := 0) dX0_skipQuietTicks_7 (by decide) ?_
  refine e_istore_n dX0_skipQuietTicks_8 rfl (by decide) rfl ?_
  exact key 12 0 rfl
end C49

