/-! ===== the reference: its reads and its small writes ===== -/
section C21
variable {S : List aiS} {M : Nat → Nat → Int32} {J : Nat → Int64} {b : Nat} {ρ : md_T} {m : Nat → Int32}
theorem c_X7_leaves (hB : MS S b) {k : Nat} (hk : k < 12) : AM G_X7_leaves [.ref b, .int (nI k)] S (md_put b (Rm ρ m) M) J (none, S, md_put b (Rm ρ (rLeaves m k)) M, J) := by
  refine AM_gen (fun out ho => ?_)
  refine AM_of [.ref b, .int (nI k)] (by decide) rfl (fun B => (Nat.le_of_ble_eq_true rfl)) ?_
  refine e_aload_n dX7_leaves_0 rfl rfl ?_
  refine e_getr dX7_leaves_1 fl_7_7 hB.a0 rfl ?_
  refine e_iconst (v := 0) dX7_leaves_4 (by decide) ?_
  refine e_iload_n dX7_leaves_5 rfl rfl ?_
  refine e_iadd dX7_leaves_6 ?_
  refine e_iconst (v := 0) dX7_leaves_7 (by decide) ?_
  refine mm_st k hB dX7_leaves_8 (ai_zadd rfl) (by first | assumption | omega) ?_
  refine e_aload_n dX7_leaves_9 rfl rfl ?_
  refine e_getr dX7_leaves_10 fl_7_7 hB.a0 rfl ?_
  refine e_bipush (v := 12) dX7_leaves_13 (by decide) ?_
  refine e_iload_n dX7_leaves_15 rfl rfl ?_
  refine e_iadd dX7_leaves_16 ?_
  refine e_iconst (v := (-1)) dX7_leaves_17 (by decide) ?_
  refine mm_st (12 + k) hB dX7_leaves_18 (ai_add (ai_lit 12) rfl) (by first | assumption | omega) ?_
  refine e_aload_n dX7_leaves_19 rfl rfl ?_
  refine e_getr dX7_leaves_20 fl_7_7 hB.a0 rfl ?_
  refine e_bipush (v := 24) dX7_leaves_23 (by decide) ?_
  refine e_iload_n dX7_leaves_25 rfl rfl ?_
  refine e_iadd dX7_leaves_26 ?_
  refine e_iconst (v := (-1)) dX7_leaves_27 (by decide) ?_
  refine mm_st (24 + k) hB dX7_leaves_28 (ai_add (ai_lit 24) rfl) (by first | assumption | omega) ?_
  refine e_aload_n dX7_leaves_29 rfl rfl ?_
  refine e_getr dX7_leaves_30 fl_7_7 hB.a0 rfl ?_
  refine e_bipush (v := 36) dX7_leaves_33 (by decide) ?_
  refine e_iload_n dX7_leaves_35 rfl rfl ?_
  refine e_iadd dX7_leaves_36 ?_
  refine e_iconst (v := 0) dX7_leaves_37 (by decide) ?_
  refine mm_st (36 + k) hB dX7_leaves_38 (ai_add (ai_lit 36) rfl) (by first | assumption | omega) ?_
  exact e_vret dX7_leaves_39 rfl ho (Nat.le_of_ble_eq_true rfl) (Nat.le_of_ble_eq_true rfl)
theorem c_X7_logs (hB : MS S b) {p : Nat} (hp : m 108 = nI p) (hp4 : p ≤ 40) (kd me r : Int32) : AM G_X7_logs [.ref b, .int kd, .int me, .int r] S (md_put b (Rm ρ m) M) J (none, S, md_put b (Rm ρ (rLogs m kd me r)) M, J) := by
  refine AM_gen (fun out ho => ?_)
  refine AM_of [.ref b, .int kd, .int me, .int r, .retAddr 0] (by decide) rfl (fun B => (Nat.le_of_ble_eq_true rfl)) ?_
  have tail : ∀ (m1 : Nat → Int32) (q : Nat) (x4 : Value), q < 40 → m1 108 = nI q → rLogs m kd me r = rPush m1 q kd me r → AW G_X7_logs out 0 0 62 [.ref b, .int kd, .int me, .int r, x4] [] S (md_put b (Rm ρ m1) M) J := by
    intro m1 q x4 hq hm1 htg
    rw [htg] at ho
    refine e_bipush (v := 111) dX7_logs_62 (by decide) ?_
    refine e_iconst (v := 4) dX7_logs_64 (by decide) ?_
    refine e_aload_n dX7_logs_65 rfl rfl ?_
    refine e_getr dX7_logs_66 fl_7_7 hB.a0 rfl ?_
    refine e_bipush (v := 108) dX7_logs_69 (by decide) ?_
    refine mm_ld 108 hB dX7_logs_71 (ai_lit 108) (by decide) ?_
    refine e_imul dX7_logs_72 ?_
    refine e_iadd dX7_logs_73 ?_
    refine e_istoreE (nI (111 + (4 * q))) (ai_add (ai_lit 111) (ai_mul (ai_lit 4) hm1)) dX7_logs_74 (by decide) rfl ?_
    refine e_aload_n dX7_logs_76 rfl rfl ?_
    refine e_getr dX7_logs_77 fl_7_7 hB.a0 rfl ?_
    refine e_iload dX7_logs_80 rfl ?_
    refine e_aload_n dX7_logs_82 rfl rfl ?_
    refine e_getr dX7_logs_83 fl_7_7 hB.a0 rfl ?_
    refine e_bipush (v := 103) dX7_logs_86 (by decide) ?_
    refine mm_ld 103 hB dX7_logs_88 (ai_lit 103) (by decide) ?_
    refine mm_st (111 + (4 * q)) hB dX7_logs_89 rfl (by first | assumption | omega) ?_
    refine e_aload_n dX7_logs_90 rfl rfl ?_
    refine e_getr dX7_logs_91 fl_7_7 hB.a0 rfl ?_
    refine e_iload dX7_logs_94 rfl ?_
    refine e_iconst (v := 1) dX7_logs_96 (by decide) ?_
    refine e_iadd dX7_logs_97 ?_
    refine e_iload_n dX7_logs_98 rfl rfl ?_
    refine mm_st ((111 + (4 * q)) + 1) hB dX7_logs_99 (ai_add rfl (ai_lit 1)) (by first | assumption | omega) ?_
    refine e_aload_n dX7_logs_100 rfl rfl ?_
    refine e_getr dX7_logs_101 fl_7_7 hB.a0 rfl ?_
    refine e_iload dX7_logs_104 rfl ?_
    refine e_iconst (v := 2) dX7_logs_106 (by decide) ?_
    refine e_iadd dX7_logs_107 ?_
    refine e_iload_n dX7_logs_108 rfl rfl ?_
    refine mm_st ((111 + (4 * q)) + 2) hB dX7_logs_109 (ai_add rfl (ai_lit 2)) (by first | assumption | omega) ?_
    refine e_aload_n dX7_logs_110 rfl rfl ?_
    refine e_getr dX7_logs_111 fl_7_7 hB.a0 rfl ?_
    refine e_iload dX7_logs_114 rfl ?_
    refine e_iconst (v := 3) dX7_logs_116 (by decide) ?_
    refine e_iadd dX7_logs_117 ?_
    refine e_iload_n dX7_logs_118 rfl rfl ?_
    refine mm_st ((111 + (4 * q)) + 3) hB dX7_logs_119 (ai_add rfl (ai_lit 3)) (by first | assumption | omega) ?_
    refine e_aload_n dX7_logs_120 rfl rfl ?_
    refine e_getr dX7_logs_121 fl_7_7 hB.a0 rfl ?_
    refine e_bipush (v := 108) dX7_logs_124 (by decide) ?_
    refine e_dup2 dX7_logs_126 rfl rfl ?_
    refine mm_ld 108 hB dX7_logs_127 (ai_lit 108) (by decide) ?_
    refine e_iconst (v := 1) dX7_logs_128 (by decide) ?_
    refine e_iadd dX7_logs_129 ?_
    refine mm_st 108 hB dX7_logs_130 (ai_lit 108) (by decide) ?_
    refine e_aload_n dX7_logs_131 rfl rfl ?_
    refine e_getr dX7_logs_132 fl_7_7 hB.a0 rfl ?_
    refine e_bipush (v := 109) dX7_logs_135 (by decide) ?_
    refine e_dup2 dX7_logs_137 rfl rfl ?_
    refine mm_ld 109 hB dX7_logs_138 (ai_lit 109) (by decide) ?_
    refine e_iconst (v := 1) dX7_logs_139 (by decide) ?_
    refine e_iadd dX7_logs_140 ?_
    refine mm_st 109 hB dX7_logs_141 (ai_lit 109) (by decide) ?_
    exact e_vret dX7_logs_142 rfl ho (Nat.le_of_ble_eq_true rfl) (Nat.le_of_ble_eq_true rfl)
  refine e_aload_n dX7_logs_0 rfl rfl ?_
  refine e_getr dX7_logs_1 fl_7_7 hB.a0 rfl ?_
  refine e_bipush (v := 108) dX7_logs_4 (by decide) ?_
  refine mm_ld 108 hB dX7_logs_6 (ai_lit 108) (by decide) ?_
  refine e_bipush (v := 40) dX7_logs_7 (by decide) ?_
  refine e_icmp_ne 62 dX7_logs_9 (by decide) (fun h9 => ?_) (fun h9 => ?_)
  · have hpn : p ≠ 40 := fun e => h9 (by rw [hp, e]; rfl)
    refine tail m p _ (by omega) hp ?_
    rw [rLogs, if_neg h9, hp, nI_clamp (by omega)]
  · have key : ∀ (n i : Nat), i + n = 156 → AW G_X7_logs out 0 0 15 [.ref b, .int kd, .int me, .int r, .int (nI i)] [] S (md_put b (Rm ρ (rShift m i)) M) J := by
      intro n
      induction n with
      | zero =>
        intro i hi
        have hi2 : i = 156 := by omega
        subst hi2
        refine e_iload dX7_logs_15 rfl ?_
        refine e_sipush (v := 156) dX7_logs_17 (by decide) ?_
        refine e_ge_t (i := 156) (N := 156) 51 dX7_logs_20 (by decide) rfl rfl (by omega) (by omega) ?_
        refine e_aload_n dX7_logs_51 rfl rfl ?_
        refine e_getr dX7_logs_52 fl_7_7 hB.a0 rfl ?_
        refine e_bipush (v := 108) dX7_logs_55 (by decide) ?_
        refine e_dup2 dX7_logs_57 rfl rfl ?_
        refine mm_ld 108 hB dX7_logs_58 (ai_lit 108) (by decide) ?_
        refine e_iconst (v := 1) dX7_logs_59 (by decide) ?_
        refine e_isub dX7_logs_60 ?_
        refine mm_st 108 hB dX7_logs_61 (ai_lit 108) (by decide) ?_
        have e1 : rShift m 156 108 - 1 = 39 := by rw [rShift_lo m (by omega), h9]; rfl
        rw [e1]
        refine tail _ 39 _ (by omega) (upd_same _ _ _) ?_
        rw [rLogs, if_pos h9]
      | succ n ih =>
        intro i hi
        refine e_iload dX7_logs_15 rfl ?_
        refine e_sipush (v := 156) dX7_logs_17 (by decide) ?_
        refine e_ge_f (i := i) (N := 156) 51 dX7_logs_20 (by decide) rfl rfl (by omega) (by omega) ?_
        refine e_aload_n dX7_logs_23 rfl rfl ?_
        refine e_getr dX7_logs_24 fl_7_7 hB.a0 rfl ?_
        refine e_bipush (v := 111) dX7_logs_27 (by decide) ?_
        refine e_iload dX7_logs_29 rfl ?_
        refine e_iadd dX7_logs_31 ?_
        refine e_aload_n dX7_logs_32 rfl rfl ?_
        refine e_getr dX7_logs_33 fl_7_7 hB.a0 rfl ?_
        refine e_bipush (v := 111) dX7_logs_36 (by decide) ?_
        refine e_iload dX7_logs_38 rfl ?_
        refine e_iadd dX7_logs_40 ?_
        refine e_iconst (v := 4) dX7_logs_41 (by decide) ?_
        refine e_iadd dX7_logs_42 ?_
        refine mm_ld ((111 + i) + 4) hB dX7_logs_43 (ai_add (ai_add (ai_lit 111) rfl) (ai_lit 4)) (by first | assumption | omega) ?_
        refine mm_st (111 + i) hB dX7_logs_44 (ai_add (ai_lit 111) rfl) (by first | assumption | omega) ?_
        refine e_iinc dX7_logs_45 rfl (ai_inc _) (by decide) rfl ?_
        refine e_goto 15 dX7_logs_48 (by decide) ?_
        exact ih (i + 1) (by omega)
    refine e_iconst (v := 0) dX7_logs_12 (by decide) ?_
    refine e_istore dX7_logs_13 (by decide) rfl ?_
    exact key 156 0 rfl
theorem c_X7_inUse (hB : MS S b) : AM G_X7_inUse [.ref b] S (md_put b (Rm ρ m) M) J (some (.int (rInUse m)), S, md_put b (Rm ρ m) M, J) := by
  refine AM_gen (fun out ho => ?_)
  refine AM_of [.ref b, .retAddr 0] (by decide) rfl (fun B => (Nat.le_of_ble_eq_true rfl)) ?_
  have key : ∀ (n k : Nat), k + n = 12 → (∀ j, j < k → decide (1 < m j) = false) → AW G_X7_inUse out 0 0 2 [.ref b, .int (nI k)] [] S (md_put b (Rm ρ m) M) J := by
    intro n
    induction n with
    | zero =>
      intro k hk hno
      have hk2 : k = 12 := by omega
      subst hk2
      refine e_iload_n dX7_inUse_2 rfl rfl ?_
      refine e_bipush (v := 12) dX7_inUse_3 (by decide) ?_
      refine e_ge_t (i := 12) (N := 12) 36 dX7_inUse_5 (by decide) rfl rfl (by omega) (by omega) ?_
      refine e_iconst (v := (-1)) dX7_inUse_36 (by decide) ?_
      exact e_iret dX7_inUse_37 rfl (ho.trans (by rw [rInUse, ff_none hno]; rfl)) (Nat.le_of_ble_eq_true rfl) (Nat.le_of_ble_eq_true rfl)
    | succ n ih =>
      intro k hk hno
      refine e_iload_n dX7_inUse_2 rfl rfl ?_
      refine e_bipush (v := 12) dX7_inUse_3 (by decide) ?_
      refine e_ge_f (i := k) (N := 12) 36 dX7_inUse_5 (by decide) rfl rfl (by omega) (by omega) ?_
      refine e_aload_n dX7_inUse_8 rfl rfl ?_
      refine e_getr dX7_inUse_9 fl_7_7 hB.a0 rfl ?_
      refine e_iconst (v := 0) dX7_inUse_12 (by decide) ?_
      refine e_iload_n dX7_inUse_13 rfl rfl ?_
      refine e_iadd dX7_inUse_14 ?_
      refine mm_ld k hB dX7_inUse_15 (ai_zadd rfl) (by first | assumption | omega) ?_
      refine e_iconst (v := 1) dX7_inUse_16 (by decide) ?_
      refine e_icmp_le 30 dX7_inUse_17 (by decide) (fun h17 => ?_) (fun h17 => ?_)
      · refine e_iinc dX7_inUse_30 rfl (ai_inc _) (by decide) rfl ?_
        refine e_goto 2 dX7_inUse_33 (by decide) ?_
        exact ih (k + 1) (by omega) (lt_s hno (by simp [Int32.not_lt.mpr h17]))
      · refine e_aload_n dX7_inUse_20 rfl rfl ?_
        refine e_getr dX7_inUse_21 fl_7_7 hB.a0 rfl ?_
        refine e_bipush (v := 12) dX7_inUse_24 (by decide) ?_
        refine e_iload_n dX7_inUse_26 rfl rfl ?_
        refine e_iadd dX7_inUse_27 ?_
        refine mm_ld (12 + k) hB dX7_inUse_28 (ai_add (ai_lit 12) rfl) (by first | assumption | omega) ?_
        exact e_iret dX7_inUse_29 rfl (ho.trans (by rw [rInUse, ff_some (i := k) (by omega) (by simp [Int32.not_le.mp h17]) hno]; rfl)) (Nat.le_of_ble_eq_true rfl) (Nat.le_of_ble_eq_true rfl)
  refine e_iconst (v := 0) dX7_inUse_0 (by decide) ?_
  refine e_istore_n dX7_inUse_1 rfl (by decide) rfl ?_
  exact key 12 0 rfl (fun _ h => absurd h (by omega))
theorem c_X7_insideOf (hB : MS S b) (r : Int32) : AM G_X7_insideOf [.ref b, .int r] S (md_put b (Rm ρ m) M) J (some (.int (nI (rIns m r))), S, md_put b (Rm ρ m) M, J) := by
  refine AM_gen (fun out ho => ?_)
  refine AM_of [.ref b, .int r, .retAddr 0, .retAddr 0] (by decide) rfl (fun B => (Nat.le_of_ble_eq_true rfl)) ?_
  have key : ∀ (n k c : Nat), k + n = 12 → c = fb_ct (fun k => decide (1 < m k) && decide (m (12 + k) = r)) k → AW G_X7_insideOf out 0 0 4 [.ref b, .int r, .int (nI c), .int (nI k)] [] S (md_put b (Rm ρ m) M) J := by
    intro n
    induction n with
    | zero =>
      intro k c hk hc
      have hk2 : k = 12 := by omega
      subst hk2
      refine e_iload_n dX7_insideOf_4 rfl rfl ?_
      refine e_bipush (v := 12) dX7_insideOf_5 (by decide) ?_
      refine e_ge_t (i := 12) (N := 12) 49 dX7_insideOf_7 (by decide) rfl rfl (by omega) (by omega) ?_
      refine e_iload_n dX7_insideOf_49 rfl rfl ?_
      exact e_iret dX7_insideOf_50 rfl (ho.trans (by rw [rIns, ← hc])) (Nat.le_of_ble_eq_true rfl) (Nat.le_of_ble_eq_true rfl)
    | succ n ih =>
      intro k c hk hc
      refine e_iload_n dX7_insideOf_4 rfl rfl ?_
      refine e_bipush (v := 12) dX7_insideOf_5 (by decide) ?_
      refine e_ge_f (i := k) (N := 12) 49 dX7_insideOf_7 (by decide) rfl rfl (by omega) (by omega) ?_
      refine e_iload_n dX7_insideOf_10 rfl rfl ?_
      refine e_aload_n dX7_insideOf_11 rfl rfl ?_
      refine e_getr dX7_insideOf_12 fl_7_7 hB.a0 rfl ?_
      refine e_iconst (v := 0) dX7_insideOf_15 (by decide) ?_
      refine e_iload_n dX7_insideOf_16 rfl rfl ?_
      refine e_iadd dX7_insideOf_17 ?_
      refine mm_ld k hB dX7_insideOf_18 (ai_zadd rfl) (by first | assumption | omega) ?_
      refine e_iconst (v := 1) dX7_insideOf_19 (by decide) ?_
      refine e_icmp_le 40 dX7_insideOf_20 (by decide) (fun h20 => ?_) (fun h20 => ?_)
      · refine e_iconst (v := 0) dX7_insideOf_40 (by decide) ?_
        refine e_iadd dX7_insideOf_41 ?_
        refine e_istoreE_n (nI (c + 0)) (ai_add rfl (ai_lit 0)) dX7_insideOf_42 rfl (by decide) rfl ?_
        refine e_iinc dX7_insideOf_43 rfl (ai_inc _) (by decide) rfl ?_
        refine e_goto 4 dX7_insideOf_46 (by decide) ?_
        exact ih (k + 1) c (by omega) (by rw [fb_ct_succ, ← hc]; simp [Int32.not_lt.mpr h20])
      · refine e_aload_n dX7_insideOf_23 rfl rfl ?_
        refine e_getr dX7_insideOf_24 fl_7_7 hB.a0 rfl ?_
        refine e_bipush (v := 12) dX7_insideOf_27 (by decide) ?_
        refine e_iload_n dX7_insideOf_29 rfl rfl ?_
        refine e_iadd dX7_insideOf_30 ?_
        refine mm_ld (12 + k) hB dX7_insideOf_31 (ai_add (ai_lit 12) rfl) (by first | assumption | omega) ?_
        refine e_iload_n dX7_insideOf_32 rfl rfl ?_
        refine e_icmp_ne 40 dX7_insideOf_33 (by decide) (fun h33 => ?_) (fun h33 => ?_)
        · refine e_iconst (v := 0) dX7_insideOf_40 (by decide) ?_
          refine e_iadd dX7_insideOf_41 ?_
          refine e_istoreE_n (nI (c + 0)) (ai_add rfl (ai_lit 0)) dX7_insideOf_42 rfl (by decide) rfl ?_
          refine e_iinc dX7_insideOf_43 rfl (ai_inc _) (by decide) rfl ?_
          refine e_goto 4 dX7_insideOf_46 (by decide) ?_
          exact ih (k + 1) c (by omega) (by rw [fb_ct_succ, ← hc]; simp [h33])
        · refine e_iconst (v := 1) dX7_insideOf_36 (by decide) ?_
          refine e_goto 41 dX7_insideOf_37 (by decide) ?_
          refine e_iadd dX7_insideOf_41 ?_
          refine e_istoreE_n (nI (c + 1)) (ai_add rfl (ai_lit 1)) dX7_insideOf_42 rfl (by decide) rfl ?_
          refine e_iinc dX7_insideOf_43 rfl (ai_inc _) (by decide) rfl ?_
          refine e_goto 4 dX7_insideOf_46 (by decide) ?_
          exact ih (k + 1) (c + 1) (by omega) (by rw [fb_ct_succ, ← hc]; simp [h33, Int32.not_le.mp h20])
  refine e_iconst (v := 0) dX7_insideOf_0 (by decide) ?_
  refine e_istore_n dX7_insideOf_1 rfl (by decide) rfl ?_
  refine e_iconst (v := 0) dX7_insideOf_2 (by decide) ?_
  refine e_istore_n dX7_insideOf_3 rfl (by decide) rfl ?_
  exact key 12 0 0 rfl rfl
theorem c_X7_waitingFor (hB : MS S b) (r : Int32) : AM G_X7_waitingFor [.ref b, .int r] S (md_put b (Rm ρ m) M) J (some (.int (nI (rWai m r))), S, md_put b (Rm ρ m) M, J) := by
  refine AM_gen (fun out ho => ?_)
  refine AM_of [.ref b, .int r, .retAddr 0, .retAddr 0] (by decide) rfl (fun B => (Nat.le_of_ble_eq_true rfl)) ?_
  have key : ∀ (n k c : Nat), k + n = 12 → c = fb_ct (fun k => decide (m k = 1) && decide (m (12 + k) = r)) k → AW G_X7_waitingFor out 0 0 4 [.ref b, .int r, .int (nI c), .int (nI k)] [] S (md_put b (Rm ρ m) M) J := by
    intro n
    induction n with
    | zero =>
      intro k c hk hc
      have hk2 : k = 12 := by omega
      subst hk2
      refine e_iload_n dX7_waitingFor_4 rfl rfl ?_
      refine e_bipush (v := 12) dX7_waitingFor_5 (by decide) ?_
      refine e_ge_t (i := 12) (N := 12) 49 dX7_waitingFor_7 (by decide) rfl rfl (by omega) (by omega) ?_
      refine e_iload_n dX7_waitingFor_49 rfl rfl ?_
      exact e_iret dX7_waitingFor_50 rfl (ho.trans (by rw [rWai, ← hc])) (Nat.le_of_ble_eq_true rfl) (Nat.le_of_ble_eq_true rfl)
    | succ n ih =>
      intro k c hk hc
      refine e_iload_n dX7_waitingFor_4 rfl rfl ?_
      refine e_bipush (v := 12) dX7_waitingFor_5 (by decide) ?_
      refine e_ge_f (i := k) (N := 12) 49 dX7_waitingFor_7 (by decide) rfl rfl (by omega) (by omega) ?_
      refine e_iload_n dX7_waitingFor_10 rfl rfl ?_
      refine e_aload_n dX7_waitingFor_11 rfl rfl ?_
      refine e_getr dX7_waitingFor_12 fl_7_7 hB.a0 rfl ?_
      refine e_iconst (v := 0) dX7_waitingFor_15 (by decide) ?_
      refine e_iload_n dX7_waitingFor_16 rfl rfl ?_
      refine e_iadd dX7_waitingFor_17 ?_
      refine mm_ld k hB dX7_waitingFor_18 (ai_zadd rfl) (by first | assumption | omega) ?_
      refine e_iconst (v := 1) dX7_waitingFor_19 (by decide) ?_
      refine e_icmp_ne 40 dX7_waitingFor_20 (by decide) (fun h20 => ?_) (fun h20 => ?_)
      · refine e_iconst (v := 0) dX7_waitingFor_40 (by decide) ?_
        refine e_iadd dX7_waitingFor_41 ?_
        refine e_istoreE_n (nI (c + 0)) (ai_add rfl (ai_lit 0)) dX7_waitingFor_42 rfl (by decide) rfl ?_
        refine e_iinc dX7_waitingFor_43 rfl (ai_inc _) (by decide) rfl ?_
        refine e_goto 4 dX7_waitingFor_46 (by decide) ?_
        exact ih (k + 1) c (by omega) (by rw [fb_ct_succ, ← hc]; simp [h20])
      · refine e_aload_n dX7_waitingFor_23 rfl rfl ?_
        refine e_getr dX7_waitingFor_24 fl_7_7 hB.a0 rfl ?_
        refine e_bipush (v := 12) dX7_waitingFor_27 (by decide) ?_
        refine e_iload_n dX7_waitingFor_29 rfl rfl ?_
        refine e_iadd dX7_waitingFor_30 ?_
        refine mm_ld (12 + k) hB dX7_waitingFor_31 (ai_add (ai_lit 12) rfl) (by first | assumption | omega) ?_
        refine e_iload_n dX7_waitingFor_32 rfl rfl ?_
        refine e_icmp_ne 40 dX7_waitingFor_33 (by decide) (fun h33 => ?_) (fun h33 => ?_)
        · refine e_iconst (v := 0) dX7_waitingFor_40 (by decide) ?_
          refine e_iadd dX7_waitingFor_41 ?_
          refine e_istoreE_n (nI (c + 0)) (ai_add rfl (ai_lit 0)) dX7_waitingFor_42 rfl (by decide) rfl ?_
          refine e_iinc dX7_waitingFor_43 rfl (ai_inc _) (by decide) rfl ?_
          refine e_goto 4 dX7_waitingFor_46 (by decide) ?_
          exact ih (k + 1) c (by omega) (by rw [fb_ct_succ, ← hc]; simp [h33])
        · refine e_iconst (v := 1) dX7_waitingFor_36 (by decide) ?_
          refine e_goto 41 dX7_waitingFor_37 (by decide) ?_
          refine e_iadd dX7_waitingFor_41 ?_
          refine e_istoreE_n (nI (c + 1)) (ai_add rfl (ai_lit 1)) dX7_waitingFor_42 rfl (by decide) rfl ?_
          refine e_iinc dX7_waitingFor_43 rfl (ai_inc _) (by decide) rfl ?_
          refine e_goto 4 dX7_waitingFor_46 (by decide) ?_
          exact ih (k + 1) (c + 1) (by omega) (by rw [fb_ct_succ, ← hc]; simp [h33, h20])
  refine e_iconst (v := 0) dX7_waitingFor_0 (by decide) ?_
  refine e_istore_n dX7_waitingFor_1 rfl (by decide) rfl ?_
  refine e_iconst (v := 0) dX7_waitingFor_2 (by decide) ?_
  refine e_istore_n dX7_waitingFor_3 rfl (by decide) rfl ?_
  exact key 12 0 0 rfl rfl
theorem c_X7_isImpatient (hB : MS S b) {k : Nat} (hk : k < 12) : AM G_X7_isImpatient [.ref b, .int (nI k)] S (md_put b (Rm ρ m) M) J (some (.int (bI (rImp m k))), S, md_put b (Rm ρ m) M, J) := by
  refine AM_gen (fun out ho => ?_)
  refine AM_of [.ref b, .int (nI k)] (by decide) rfl (fun B => (Nat.le_of_ble_eq_true rfl)) ?_
  refine e_aload_n dX7_isImpatient_0 rfl rfl ?_
  refine e_getr dX7_isImpatient_1 fl_7_7 hB.a0 rfl ?_
  refine e_iconst (v := 0) dX7_isImpatient_4 (by decide) ?_
  refine e_iload_n dX7_isImpatient_5 rfl rfl ?_
  refine e_iadd dX7_isImpatient_6 ?_
  refine mm_ld k hB dX7_isImpatient_7 (ai_zadd rfl) (by first | assumption | omega) ?_
  refine e_iconst (v := 1) dX7_isImpatient_8 (by decide) ?_
  refine e_icmp_ne 43 dX7_isImpatient_9 (by decide) (fun h9 => ?_) (fun h9 => ?_)
  · refine e_iconst (v := 0) dX7_isImpatient_43 (by decide) ?_
    exact e_zret dX7_isImpatient_44 rfl (by decide) (ho.trans (by first | (simp [rImp, bI, h9]; done) | (simp [rImp, bI, h9, Int32.not_le.mpr h36]; done) | (simp [rImp, bI, h9, Int32.not_lt.mp h36]; done))) (Nat.le_of_ble_eq_true rfl) (Nat.le_of_ble_eq_true rfl)
  · refine e_aload_n dX7_isImpatient_12 rfl rfl ?_
    refine e_getr dX7_isImpatient_13 fl_7_7 hB.a0 rfl ?_
    refine e_bipush (v := 103) dX7_isImpatient_16 (by decide) ?_
    refine mm_ld 103 hB dX7_isImpatient_18 (ai_lit 103) (by decide) ?_
    refine e_aload_n dX7_isImpatient_19 rfl rfl ?_
    refine e_getr dX7_isImpatient_20 fl_7_7 hB.a0 rfl ?_
    refine e_bipush (v := 24) dX7_isImpatient_23 (by decide) ?_
    refine e_iload_n dX7_isImpatient_25 rfl rfl ?_
    refine e_iadd dX7_isImpatient_26 ?_
    refine mm_ld (24 + k) hB dX7_isImpatient_27 (ai_add (ai_lit 24) rfl) (by first | assumption | omega) ?_
    refine e_isub dX7_isImpatient_28 ?_
    refine e_aload_n dX7_isImpatient_29 rfl rfl ?_
    refine e_getr dX7_isImpatient_30 fl_7_7 hB.a0 rfl ?_
    refine e_bipush (v := 100) dX7_isImpatient_33 (by decide) ?_
    refine mm_ld 100 hB dX7_isImpatient_35 (ai_lit 100) (by decide) ?_
    refine e_icmp_lt 43 dX7_isImpatient_36 (by decide) (fun h36 => ?_) (fun h36 => ?_)
    · refine e_iconst (v := 0) dX7_isImpatient_43 (by decide) ?_
      exact e_zret dX7_isImpatient_44 rfl (by decide) (ho.trans (by first | (simp [rImp, bI, h9]; done) | (simp [rImp, bI, h9, Int32.not_le.mpr h36]; done) | (simp [rImp, bI, h9, Int32.not_lt.mp h36]; done))) (Nat.le_of_ble_eq_true rfl) (Nat.le_of_ble_eq_true rfl)
    · refine e_iconst (v := 1) dX7_isImpatient_39 (by decide) ?_
      refine e_goto 44 dX7_isImpatient_40 (by decide) ?_
      exact e_zret dX7_isImpatient_44 rfl (by decide) (ho.trans (by first | (simp [rImp, bI, h9]; done) | (simp [rImp, bI, h9, Int32.not_le.mpr h36]; done) | (simp [rImp, bI, h9, Int32.not_lt.mp h36]; done))) (Nat.le_of_ble_eq_true rfl) (Nat.le_of_ble_eq_true rfl)
theorem c_X7_before (hB : MS S b) {q : Nat} (hq : q < 12) : AM G_X7_before [.ref b, .int (nI q)] S (md_put b (Rm ρ m) M) J (some (.int (nI (rBef m q))), S, md_put b (Rm ρ m) M, J) := by
  refine AM_gen (fun out ho => ?_)
  refine AM_of [.ref b, .int (nI q), .retAddr 0, .retAddr 0] (by decide) rfl (fun B => (Nat.le_of_ble_eq_true rfl)) ?_
  have key : ∀ (n k c : Nat), k + n = 12 → c = fb_ct (fun j => decide (m j = 1) && (decide (m (12 + j) = m (12 + q)) && decide (m (48 + j) < m (48 + q)))) k → AW G_X7_before out 0 0 4 [.ref b, .int (nI q), .int (nI c), .int (nI k)] [] S (md_put b (Rm ρ m) M) J := by
    intro n
    induction n with
    | zero =>
      intro k c hk hc
      have hk2 : k = 12 := by omega
      subst hk2
      refine e_iload_n dX7_before_4 rfl rfl ?_
      refine e_bipush (v := 12) dX7_before_5 (by decide) ?_
      refine e_ge_t (i := 12) (N := 12) 78 dX7_before_7 (by decide) rfl rfl (by omega) (by omega) ?_
      refine e_iload_n dX7_before_78 rfl rfl ?_
      exact e_iret dX7_before_79 rfl (ho.trans (by rw [rBef, ← hc])) (Nat.le_of_ble_eq_true rfl) (Nat.le_of_ble_eq_true rfl)
    | succ n ih =>
      intro k c hk hc
      refine e_iload_n dX7_before_4 rfl rfl ?_
      refine e_bipush (v := 12) dX7_before_5 (by decide) ?_
      refine e_ge_f (i := k) (N := 12) 78 dX7_before_7 (by decide) rfl rfl (by omega) (by omega) ?_
      refine e_iload_n dX7_before_10 rfl rfl ?_
      refine e_aload_n dX7_before_11 rfl rfl ?_
      refine e_getr dX7_before_12 fl_7_7 hB.a0 rfl ?_
      refine e_iconst (v := 0) dX7_before_15 (by decide) ?_
      refine e_iload_n dX7_before_16 rfl rfl ?_
      refine e_iadd dX7_before_17 ?_
      refine mm_ld k hB dX7_before_18 (ai_zadd rfl) (by first | assumption | omega) ?_
      refine e_iconst (v := 1) dX7_before_19 (by decide) ?_
      refine e_icmp_ne 69 dX7_before_20 (by decide) (fun h20 => ?_) (fun h20 => ?_)
      · refine e_iconst (v := 0) dX7_before_69 (by decide) ?_
        refine e_iadd dX7_before_70 ?_
        refine e_istoreE_n (nI (c + 0)) (ai_add rfl (ai_lit 0)) dX7_before_71 rfl (by decide) rfl ?_
        refine e_iinc dX7_before_72 rfl (ai_inc _) (by decide) rfl ?_
        refine e_goto 4 dX7_before_75 (by decide) ?_
        exact ih (k + 1) c (by omega) (by rw [fb_ct_succ, ← hc]; simp [h20])
      · refine e_aload_n dX7_before_23 rfl rfl ?_
        refine e_getr dX7_before_24 fl_7_7 hB.a0 rfl ?_
        refine e_bipush (v := 12) dX7_before_27 (by decide) ?_
        refine e_iload_n dX7_before_29 rfl rfl ?_
        refine e_iadd dX7_before_30 ?_
        refine mm_ld (12 + k) hB dX7_before_31 (ai_add (ai_lit 12) rfl) (by first | assumption | omega) ?_
        refine e_aload_n dX7_before_32 rfl rfl ?_
        refine e_getr dX7_before_33 fl_7_7 hB.a0 rfl ?_
        refine e_bipush (v := 12) dX7_before_36 (by decide) ?_
        refine e_iload_n dX7_before_38 rfl rfl ?_
        refine e_iadd dX7_before_39 ?_
        refine mm_ld (12 + q) hB dX7_before_40 (ai_add (ai_lit 12) rfl) (by first | assumption | omega) ?_
        refine e_icmp_ne 69 dX7_before_41 (by decide) (fun h41 => ?_) (fun h41 => ?_)
        · refine e_iconst (v := 0) dX7_before_69 (by decide) ?_
          refine e_iadd dX7_before_70 ?_
          refine e_istoreE_n (nI (c + 0)) (ai_add rfl (ai_lit 0)) dX7_before_71 rfl (by decide) rfl ?_
          refine e_iinc dX7_before_72 rfl (ai_inc _) (by decide) rfl ?_
          refine e_goto 4 dX7_before_75 (by decide) ?_
          exact ih (k + 1) c (by omega) (by rw [fb_ct_succ, ← hc]; simp [h41])
        · refine e_aload_n dX7_before_44 rfl rfl ?_
          refine e_getr dX7_before_45 fl_7_7 hB.a0 rfl ?_
          refine e_bipush (v := 48) dX7_before_48 (by decide) ?_
          refine e_iload_n dX7_before_50 rfl rfl ?_
          refine e_iadd dX7_before_51 ?_
          refine mm_ld (48 + k) hB dX7_before_52 (ai_add (ai_lit 48) rfl) (by first | assumption | omega) ?_
          refine e_aload_n dX7_before_53 rfl rfl ?_
          refine e_getr dX7_before_54 fl_7_7 hB.a0 rfl ?_
          refine e_bipush (v := 48) dX7_before_57 (by decide) ?_
          refine e_iload_n dX7_before_59 rfl rfl ?_
          refine e_iadd dX7_before_60 ?_
          refine mm_ld (48 + q) hB dX7_before_61 (ai_add (ai_lit 48) rfl) (by first | assumption | omega) ?_
          refine e_icmp_ge 69 dX7_before_62 (by decide) (fun h62 => ?_) (fun h62 => ?_)
          · refine e_iconst (v := 0) dX7_before_69 (by decide) ?_
            refine e_iadd dX7_before_70 ?_
            refine e_istoreE_n (nI (c + 0)) (ai_add rfl (ai_lit 0)) dX7_before_71 rfl (by decide) rfl ?_
            refine e_iinc dX7_before_72 rfl (ai_inc _) (by decide) rfl ?_
            refine e_goto 4 dX7_before_75 (by decide) ?_
            exact ih (k + 1) c (by omega) (by rw [fb_ct_succ, ← hc]; simp [Int32.not_lt.mpr h62])
          · refine e_iconst (v := 1) dX7_before_65 (by decide) ?_
            refine e_goto 70 dX7_before_66 (by decide) ?_
            refine e_iadd dX7_before_70 ?_
            refine e_istoreE_n (nI (c + 1)) (ai_add rfl (ai_lit 1)) dX7_before_71 rfl (by decide) rfl ?_
            refine e_iinc dX7_before_72 rfl (ai_inc _) (by decide) rfl ?_
            refine e_goto 4 dX7_before_75 (by decide) ?_
            exact ih (k + 1) (c + 1) (by omega) (by rw [fb_ct_succ, ← hc]; simp [h20, h41, Int32.not_le.mp h62])
  refine e_iconst (v := 0) dX7_before_0 (by decide) ?_
  refine e_istore_n dX7_before_1 rfl (by decide) rfl ?_
  refine e_iconst (v := 0) dX7_before_2 (by decide) ?_
  refine e_istore_n dX7_before_3 rfl (by decide) rfl ?_
  exact key 12 0 0 rfl rfl
theorem c_X7_inQueue (hB : MS S b) (r pl : Int32) : AM G_X7_inQueue [.ref b, .int r, .int pl] S (md_put b (Rm ρ m) M) J (some (.int (rInq m r pl)), S, md_put b (Rm ρ m) M, J) := by
  refine AM_gen (fun out ho => ?_)
  refine AM_of [.ref b, .int r, .int pl, .retAddr 0] (by decide) rfl (fun B => (Nat.le_of_ble_eq_true rfl)) ?_
  have key : ∀ (n k : Nat), k + n = 12 → (∀ j, j < k → (decide (m j = 1) && (decide (m (12 + j) = r) && decide (nI (rBef m j) = pl))) = false) → AW G_X7_inQueue out 0 0 2 [.ref b, .int r, .int pl, .int (nI k)] [] S (md_put b (Rm ρ m) M) J := by
    intro n
    induction n with
    | zero =>
      intro k hk hno
      have hk2 : k = 12 := by omega
      subst hk2
      refine e_iload_n dX7_inQueue_2 rfl rfl ?_
      refine e_bipush (v := 12) dX7_inQueue_3 (by decide) ?_
      refine e_ge_t (i := 12) (N := 12) 50 dX7_inQueue_5 (by decide) rfl rfl (by omega) (by omega) ?_
      refine e_iconst (v := (-1)) dX7_inQueue_50 (by decide) ?_
      exact e_iret dX7_inQueue_51 rfl (ho.trans (by rw [rInq, ff_none hno]; rfl)) (Nat.le_of_ble_eq_true rfl) (Nat.le_of_ble_eq_true rfl)
    | succ n ih =>
      intro k hk hno
      refine e_iload_n dX7_inQueue_2 rfl rfl ?_
      refine e_bipush (v := 12) dX7_inQueue_3 (by decide) ?_
      refine e_ge_f (i := k) (N := 12) 50 dX7_inQueue_5 (by decide) rfl rfl (by omega) (by omega) ?_
      refine e_aload_n dX7_inQueue_8 rfl rfl ?_
      refine e_getr dX7_inQueue_9 fl_7_7 hB.a0 rfl ?_
      refine e_iconst (v := 0) dX7_inQueue_12 (by decide) ?_
      refine e_iload_n dX7_inQueue_13 rfl rfl ?_
      refine e_iadd dX7_inQueue_14 ?_
      refine mm_ld k hB dX7_inQueue_15 (ai_zadd rfl) (by first | assumption | omega) ?_
      refine e_iconst (v := 1) dX7_inQueue_16 (by decide) ?_
      refine e_icmp_ne 44 dX7_inQueue_17 (by decide) (fun h17 => ?_) (fun h17 => ?_)
      · refine e_iinc dX7_inQueue_44 rfl (ai_inc _) (by decide) rfl ?_
        refine e_goto 2 dX7_inQueue_47 (by decide) ?_
        exact ih (k + 1) (by omega) (lt_s hno (by simp [h17]))
      · refine e_aload_n dX7_inQueue_20 rfl rfl ?_
        refine e_getr dX7_inQueue_21 fl_7_7 hB.a0 rfl ?_
        refine e_bipush (v := 12) dX7_inQueue_24 (by decide) ?_
        refine e_iload_n dX7_inQueue_26 rfl rfl ?_
        refine e_iadd dX7_inQueue_27 ?_
        refine mm_ld (12 + k) hB dX7_inQueue_28 (ai_add (ai_lit 12) rfl) (by first | assumption | omega) ?_
        refine e_iload_n dX7_inQueue_29 rfl rfl ?_
        refine e_icmp_ne 44 dX7_inQueue_30 (by decide) (fun h30 => ?_) (fun h30 => ?_)
        · refine e_iinc dX7_inQueue_44 rfl (ai_inc _) (by decide) rfl ?_
          refine e_goto 2 dX7_inQueue_47 (by decide) ?_
          exact ih (k + 1) (by omega) (lt_s hno (by simp [h30]))
        · refine e_aload_n dX7_inQueue_33 rfl rfl ?_
          refine e_iload_n dX7_inQueue_34 rfl rfl ?_
          refine e_cV1 dX7_inQueue_35 ml_7_43 (c_X7_before hB (by omega)) hB.a0 rfl rfl (by decide) (Nat.le_of_ble_eq_true rfl) ⟨rfl, rfl⟩ (Nat.le_of_ble_eq_true rfl) (Nat.le_of_ble_eq_true rfl) ?_
          refine e_iload_n dX7_inQueue_38 rfl rfl ?_
          refine e_icmp_ne 44 dX7_inQueue_39 (by decide) (fun h39 => ?_) (fun h39 => ?_)
          · refine e_iinc dX7_inQueue_44 rfl (ai_inc _) (by decide) rfl ?_
            refine e_goto 2 dX7_inQueue_47 (by decide) ?_
            exact ih (k + 1) (by omega) (lt_s hno (by simp [h39]))
          · refine e_iload_n dX7_inQueue_42 rfl rfl ?_
            exact e_iret dX7_inQueue_43 rfl (ho.trans (by rw [rInq, ff_some (i := k) (by omega) (by simp [h17, h30, h39]) hno]; rfl)) (Nat.le_of_ble_eq_true rfl) (Nat.le_of_ble_eq_true rfl)
  refine e_iconst (v := 0) dX7_inQueue_0 (by decide) ?_
  refine e_istore_n dX7_inQueue_1 rfl (by decide) rfl ?_
  exact key 12 0 rfl (fun _ h => absurd h (by omega))
end C21

