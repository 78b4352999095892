/-! ===== the reference: how it acts, and its ticks ===== -/
section C22
variable {S : List aiS} {M : Nat → Nat → Int32} {J : Nat → Int64} {b : Nat} {ρ : md_T} {m : Nat → Int32}
theorem c_X7_nextRoom (hB : MS S b) : AM G_X7_nextRoom [.ref b] S (md_put b (Rm ρ m) M) J (some (.int (rNext m)), S, md_put b (Rm ρ m) M, J) := by
  refine AM_gen (fun out ho => ?_)
  refine AM_of [.ref b, .retAddr 0, .retAddr 0, .retAddr 0] (by decide) rfl (fun B => (Nat.le_of_ble_eq_true rfl)) ?_
  have key2 : ∀ (n r : Nat) (o : Option Nat) (x1 : Int32), rNf m 12 = none → r + n = 5 → o = rNb m r → AW G_X7_nextRoom out 0 0 75 [.ref b, .int x1, .int (oI o), .int (nI r)] [] S (md_put b (Rm ρ m) M) J := by
    intro n
    induction n with
    | zero =>
      intro r o x1 hno hr hor
      have hr2 : r = 5 := by omega
      subst hr2
      refine e_iload_n dX7_nextRoom_75 rfl rfl ?_
      refine e_iconst (v := 5) dX7_nextRoom_76 (by decide) ?_
      refine e_ge_t (i := 5) (N := 5) 126 dX7_nextRoom_77 (by decide) rfl rfl (by omega) (by omega) ?_
      refine e_iload_n dX7_nextRoom_126 rfl rfl ?_
      exact e_iret dX7_nextRoom_127 rfl (ho.trans (by rw [rNext, hno, ← hor]; rfl)) (Nat.le_of_ble_eq_true rfl) (Nat.le_of_ble_eq_true rfl)
    | succ n ih =>
      intro r o x1 hno hr hor
      refine e_iload_n dX7_nextRoom_75 rfl rfl ?_
      refine e_iconst (v := 5) dX7_nextRoom_76 (by decide) ?_
      refine e_ge_f (i := r) (N := 5) 126 dX7_nextRoom_77 (by decide) rfl rfl (by omega) (by omega) ?_
      refine e_aload_n dX7_nextRoom_80 rfl rfl ?_
      refine e_iload_n dX7_nextRoom_81 rfl rfl ?_
      refine e_cV1 dX7_nextRoom_82 ml_7_51 (c_X7_waitingFor hB _) hB.a0 rfl rfl (by decide) (Nat.le_of_ble_eq_true rfl) ⟨rfl, rfl⟩ (Nat.le_of_ble_eq_true rfl) (Nat.le_of_ble_eq_true rfl) ?_
      have hlt : rWai m (nI r) ≤ 12 := fb_ct_le _ _
      refine e_if_le 118 dX7_nextRoom_85 (by decide) (fun h85 => ?_) (fun h85 => ?_)
      · have h0 : ¬ 0 < rWai m (nI r) := fun q => nI_nle q (by omega) h85
        refine e_iload_n dX7_nextRoom_118 rfl rfl ?_
        refine e_istore_n dX7_nextRoom_119 rfl (by decide) rfl ?_
        refine e_iinc dX7_nextRoom_120 rfl (ai_inc _) (by decide) rfl ?_
        refine e_goto 75 dX7_nextRoom_123 (by decide) ?_
        exact ih (r + 1) o x1 hno (by omega) (by rw [rNb, ← hor]; cases o <;> simp [h0])
      · have h0 : 0 < rWai m (nI r) := by
          rcases Nat.eq_zero_or_pos (rWai m (nI r)) with e | e
          · rw [e] at h85; exact absurd (by decide) h85
          · exact e
        cases o with
        | none =>
          refine e_iload_n dX7_nextRoom_88 rfl rfl ?_
          refine e_iconst (v := (-1)) dX7_nextRoom_89 (by decide) ?_
          refine e_icmp_eq 114 dX7_nextRoom_90 (by decide) (fun h90 => ?_) (fun h90 => ?_)
          · refine e_iload_n dX7_nextRoom_114 rfl rfl ?_
            refine e_goto 119 dX7_nextRoom_115 (by decide) ?_
            refine e_istore_n dX7_nextRoom_119 rfl (by decide) rfl ?_
            refine e_iinc dX7_nextRoom_120 rfl (ai_inc _) (by decide) rfl ?_
            refine e_goto 75 dX7_nextRoom_123 (by decide) ?_
            exact ih (r + 1) (some r) x1 hno (by omega) (by rw [rNb, ← hor]; simp [h0])
          · exact absurd rfl h90
        | some f =>
          have hf := (rNb_is hor.symm).1
          refine e_iload_n dX7_nextRoom_88 rfl rfl ?_
          refine e_iconst (v := (-1)) dX7_nextRoom_89 (by decide) ?_
          refine e_icmp_eq 114 dX7_nextRoom_90 (by decide) (fun h90 => ?_) (fun h90 => ?_)
          · exact absurd h90 (nI_ne_m1 (by omega))
          · refine e_aload_n dX7_nextRoom_93 rfl rfl ?_
            refine e_getr dX7_nextRoom_94 fl_7_7 hB.a0 rfl ?_
            refine e_bipush (v := 70) dX7_nextRoom_97 (by decide) ?_
            refine e_iload_n dX7_nextRoom_99 rfl rfl ?_
            refine e_iadd dX7_nextRoom_100 ?_
            refine mm_ld (70 + r) hB dX7_nextRoom_101 (ai_add (ai_lit 70) rfl) (by first | assumption | omega) ?_
            refine e_aload_n dX7_nextRoom_102 rfl rfl ?_
            refine e_getr dX7_nextRoom_103 fl_7_7 hB.a0 rfl ?_
            refine e_bipush (v := 70) dX7_nextRoom_106 (by decide) ?_
            refine e_iload_n dX7_nextRoom_108 rfl rfl ?_
            refine e_iadd dX7_nextRoom_109 ?_
            refine mm_ld (70 + f) hB dX7_nextRoom_110 (ai_add (ai_lit 70) rfl) (by first | assumption | omega) ?_
            refine e_icmp_ge 118 dX7_nextRoom_111 (by decide) (fun h111 => ?_) (fun h111 => ?_)
            · refine e_iload_n dX7_nextRoom_118 rfl rfl ?_
              refine e_istore_n dX7_nextRoom_119 rfl (by decide) rfl ?_
              refine e_iinc dX7_nextRoom_120 rfl (ai_inc _) (by decide) rfl ?_
              refine e_goto 75 dX7_nextRoom_123 (by decide) ?_
              exact ih (r + 1) (some f) x1 hno (by omega) (by rw [rNb, ← hor]; simp [Int32.not_lt.mpr h111])
            · refine e_iload_n dX7_nextRoom_114 rfl rfl ?_
              refine e_goto 119 dX7_nextRoom_115 (by decide) ?_
              refine e_istore_n dX7_nextRoom_119 rfl (by decide) rfl ?_
              refine e_iinc dX7_nextRoom_120 rfl (ai_inc _) (by decide) rfl ?_
              refine e_goto 75 dX7_nextRoom_123 (by decide) ?_
              exact ih (r + 1) (some r) x1 hno (by omega) (by rw [rNb, ← hor]; simp [h0, Int32.not_le.mp h111])
  have key : ∀ (n k : Nat) (o : Option Nat), k + n = 12 → o = rNf m k → AW G_X7_nextRoom out 0 0 4 [.ref b, .int (oI o), .int (nI k), .retAddr 0] [] S (md_put b (Rm ρ m) M) J := by
    intro n
    induction n with
    | zero =>
      intro k o hk hof
      have hk2 : k = 12 := by omega
      subst hk2
      refine e_iload_n dX7_nextRoom_4 rfl rfl ?_
      refine e_bipush (v := 12) dX7_nextRoom_5 (by decide) ?_
      refine e_ge_t (i := 12) (N := 12) 56 dX7_nextRoom_7 (by decide) rfl rfl (by omega) (by omega) ?_
      cases o with
      | none =>
        refine e_iload_n dX7_nextRoom_56 rfl rfl ?_
        refine e_iconst (v := (-1)) dX7_nextRoom_57 (by decide) ?_
        refine e_icmp_eq 71 dX7_nextRoom_58 (by decide) (fun h58 => ?_) (fun h58 => ?_)
        · refine e_iconst (v := (-1)) dX7_nextRoom_71 (by decide) ?_
          refine e_istore_n dX7_nextRoom_72 rfl (by decide) rfl ?_
          refine e_iconst (v := 0) dX7_nextRoom_73 (by decide) ?_
          refine e_istore_n dX7_nextRoom_74 rfl (by decide) rfl ?_
          exact key2 5 0 none _ hof.symm rfl rfl
        · exact absurd rfl h58
      | some f =>
        have hf := (rNf_is hof.symm).1
        refine e_iload_n dX7_nextRoom_56 rfl rfl ?_
        refine e_iconst (v := (-1)) dX7_nextRoom_57 (by decide) ?_
        refine e_icmp_eq 71 dX7_nextRoom_58 (by decide) (fun h58 => ?_) (fun h58 => ?_)
        · exact absurd h58 (nI_ne_m1 (by omega))
        · refine e_aload_n dX7_nextRoom_61 rfl rfl ?_
          refine e_getr dX7_nextRoom_62 fl_7_7 hB.a0 rfl ?_
          refine e_bipush (v := 12) dX7_nextRoom_65 (by decide) ?_
          refine e_iload_n dX7_nextRoom_67 rfl rfl ?_
          refine e_iadd dX7_nextRoom_68 ?_
          refine mm_ld (12 + f) hB dX7_nextRoom_69 (ai_add (ai_lit 12) rfl) (by first | assumption | omega) ?_
          exact e_iret dX7_nextRoom_70 rfl (ho.trans (by rw [rNext, ← hof]; rfl)) (Nat.le_of_ble_eq_true rfl) (Nat.le_of_ble_eq_true rfl)
    | succ n ih =>
      intro k o hk hof
      refine e_iload_n dX7_nextRoom_4 rfl rfl ?_
      refine e_bipush (v := 12) dX7_nextRoom_5 (by decide) ?_
      refine e_ge_f (i := k) (N := 12) 56 dX7_nextRoom_7 (by decide) rfl rfl (by omega) (by omega) ?_
      refine e_aload_n dX7_nextRoom_10 rfl rfl ?_
      refine e_iload_n dX7_nextRoom_11 rfl rfl ?_
      refine e_cV1 dX7_nextRoom_12 ml_7_47 (c_X7_isImpatient hB (by omega)) hB.a0 rfl rfl (by decide) (Nat.le_of_ble_eq_true rfl) ⟨rfl, rfl⟩ (Nat.le_of_ble_eq_true rfl) (Nat.le_of_ble_eq_true rfl) ?_
      refine e_if_eq 48 dX7_nextRoom_15 (by decide) (fun h15 => ?_) (fun h15 => ?_)
      · have hi := bI0 h15
        refine e_iload_n dX7_nextRoom_48 rfl rfl ?_
        refine e_istore_n dX7_nextRoom_49 rfl (by decide) rfl ?_
        refine e_iinc dX7_nextRoom_50 rfl (ai_inc _) (by decide) rfl ?_
        refine e_goto 4 dX7_nextRoom_53 (by decide) ?_
        exact ih (k + 1) o (by omega) (by rw [rNf, ← hof]; cases o <;> simp [hi])
      · have hi := bI1 h15
        cases o with
        | none =>
          refine e_iload_n dX7_nextRoom_18 rfl rfl ?_
          refine e_iconst (v := (-1)) dX7_nextRoom_19 (by decide) ?_
          refine e_icmp_eq 44 dX7_nextRoom_20 (by decide) (fun h20 => ?_) (fun h20 => ?_)
          · refine e_iload_n dX7_nextRoom_44 rfl rfl ?_
            refine e_goto 49 dX7_nextRoom_45 (by decide) ?_
            refine e_istore_n dX7_nextRoom_49 rfl (by decide) rfl ?_
            refine e_iinc dX7_nextRoom_50 rfl (ai_inc _) (by decide) rfl ?_
            refine e_goto 4 dX7_nextRoom_53 (by decide) ?_
            exact ih (k + 1) (some k) (by omega) (by rw [rNf, ← hof]; simp [hi])
          · exact absurd rfl h20
        | some f =>
          have hf := (rNf_is hof.symm).1
          refine e_iload_n dX7_nextRoom_18 rfl rfl ?_
          refine e_iconst (v := (-1)) dX7_nextRoom_19 (by decide) ?_
          refine e_icmp_eq 44 dX7_nextRoom_20 (by decide) (fun h20 => ?_) (fun h20 => ?_)
          · exact absurd h20 (nI_ne_m1 (by omega))
          · refine e_aload_n dX7_nextRoom_23 rfl rfl ?_
            refine e_getr dX7_nextRoom_24 fl_7_7 hB.a0 rfl ?_
            refine e_bipush (v := 48) dX7_nextRoom_27 (by decide) ?_
            refine e_iload_n dX7_nextRoom_29 rfl rfl ?_
            refine e_iadd dX7_nextRoom_30 ?_
            refine mm_ld (48 + k) hB dX7_nextRoom_31 (ai_add (ai_lit 48) rfl) (by first | assumption | omega) ?_
            refine e_aload_n dX7_nextRoom_32 rfl rfl ?_
            refine e_getr dX7_nextRoom_33 fl_7_7 hB.a0 rfl ?_
            refine e_bipush (v := 48) dX7_nextRoom_36 (by decide) ?_
            refine e_iload_n dX7_nextRoom_38 rfl rfl ?_
            refine e_iadd dX7_nextRoom_39 ?_
            refine mm_ld (48 + f) hB dX7_nextRoom_40 (ai_add (ai_lit 48) rfl) (by first | assumption | omega) ?_
            refine e_icmp_ge 48 dX7_nextRoom_41 (by decide) (fun h41 => ?_) (fun h41 => ?_)
            · refine e_iload_n dX7_nextRoom_48 rfl rfl ?_
              refine e_istore_n dX7_nextRoom_49 rfl (by decide) rfl ?_
              refine e_iinc dX7_nextRoom_50 rfl (ai_inc _) (by decide) rfl ?_
              refine e_goto 4 dX7_nextRoom_53 (by decide) ?_
              exact ih (k + 1) (some f) (by omega) (by rw [rNf, ← hof]; simp [Int32.not_lt.mpr h41])
            · refine e_iload_n dX7_nextRoom_44 rfl rfl ?_
              refine e_goto 49 dX7_nextRoom_45 (by decide) ?_
              refine e_istore_n dX7_nextRoom_49 rfl (by decide) rfl ?_
              refine e_iinc dX7_nextRoom_50 rfl (ai_inc _) (by decide) rfl ?_
              refine e_goto 4 dX7_nextRoom_53 (by decide) ?_
              exact ih (k + 1) (some k) (by omega) (by rw [rNf, ← hof]; simp [hi, Int32.not_le.mp h41])
  refine e_iconst (v := (-1)) dX7_nextRoom_0 (by decide) ?_
  refine e_istore_n dX7_nextRoom_1 rfl (by decide) rfl ?_
  refine e_iconst (v := 0) dX7_nextRoom_2 (by decide) ?_
  refine e_istore_n dX7_nextRoom_3 rfl (by decide) rfl ?_
  exact key 12 0 none rfl rfl
theorem c_X7_enters (hB : MS S b) {p r k : Nat} (hp : m 108 = nI p) (hp4 : p ≤ 40) (hr : r < 5) (hk : k < 12) (hq : rInq m (nI r) 0 = nI k) : AM G_X7_enters [.ref b, .int (nI r)] S (md_put b (Rm ρ m) M) J (none, S, md_put b (Rm ρ (rEnt m r k)) M, J) := by
  refine AM_gen (fun out ho => ?_)
  refine AM_of [.ref b, .int (nI r), .retAddr 0, .retAddr 0] (by decide) rfl (fun B => (Nat.le_of_ble_eq_true rfl)) ?_
  refine e_aload_n dX7_enters_0 rfl rfl ?_
  refine e_iload_n dX7_enters_1 rfl rfl ?_
  refine e_iconst (v := 0) dX7_enters_2 (by decide) ?_
  refine e_cV1 dX7_enters_3 ml_7_54 (c_X7_inQueue hB _ _) hB.a0 rfl rfl (by decide) (Nat.le_of_ble_eq_true rfl) ⟨rfl, rfl⟩ (Nat.le_of_ble_eq_true rfl) (Nat.le_of_ble_eq_true rfl) ?_
  refine e_istoreE_n (nI k) hq dX7_enters_6 rfl (by decide) rfl ?_
  refine e_aload_n dX7_enters_7 rfl rfl ?_
  refine e_getr dX7_enters_8 fl_7_7 hB.a0 rfl ?_
  refine e_bipush (v := 103) dX7_enters_11 (by decide) ?_
  refine mm_ld 103 hB dX7_enters_13 (ai_lit 103) (by decide) ?_
  refine e_aload_n dX7_enters_14 rfl rfl ?_
  refine e_getr dX7_enters_15 fl_7_7 hB.a0 rfl ?_
  refine e_bipush (v := 24) dX7_enters_18 (by decide) ?_
  refine e_iload_n dX7_enters_20 rfl rfl ?_
  refine e_iadd dX7_enters_21 ?_
  refine mm_ld (24 + k) hB dX7_enters_22 (ai_add (ai_lit 24) rfl) (by first | assumption | omega) ?_
  refine e_isub dX7_enters_23 ?_
  refine e_istore_n dX7_enters_24 rfl (by decide) rfl ?_
  refine e_aload_n dX7_enters_25 rfl rfl ?_
  refine e_getr dX7_enters_26 fl_7_7 hB.a0 rfl ?_
  refine e_iconst (v := 0) dX7_enters_29 (by decide) ?_
  refine e_iload_n dX7_enters_30 rfl rfl ?_
  refine e_iadd dX7_enters_31 ?_
  refine e_iconst (v := 2) dX7_enters_32 (by decide) ?_
  refine mm_st k hB dX7_enters_33 (ai_zadd rfl) (by first | assumption | omega) ?_
  refine e_aload_n dX7_enters_34 rfl rfl ?_
  refine e_getr dX7_enters_35 fl_7_7 hB.a0 rfl ?_
  refine e_bipush (v := 24) dX7_enters_38 (by decide) ?_
  refine e_iload_n dX7_enters_40 rfl rfl ?_
  refine e_iadd dX7_enters_41 ?_
  refine e_aload_n dX7_enters_42 rfl rfl ?_
  refine e_getr dX7_enters_43 fl_7_7 hB.a0 rfl ?_
  refine e_bipush (v := 103) dX7_enters_46 (by decide) ?_
  refine mm_ld 103 hB dX7_enters_48 (ai_lit 103) (by decide) ?_
  refine mm_st (24 + k) hB dX7_enters_49 (ai_add (ai_lit 24) rfl) (by first | assumption | omega) ?_
  refine e_aload_n dX7_enters_50 rfl rfl ?_
  refine e_getr dX7_enters_51 fl_7_7 hB.a0 rfl ?_
  refine e_bipush (v := 105) dX7_enters_54 (by decide) ?_
  refine e_dup2 dX7_enters_56 rfl rfl ?_
  refine mm_ld 105 hB dX7_enters_57 (ai_lit 105) (by decide) ?_
  refine e_iconst (v := 1) dX7_enters_58 (by decide) ?_
  refine e_iadd dX7_enters_59 ?_
  refine mm_st 105 hB dX7_enters_60 (ai_lit 105) (by decide) ?_
  refine e_aload_n dX7_enters_61 rfl rfl ?_
  refine e_getr dX7_enters_62 fl_7_7 hB.a0 rfl ?_
  refine e_bipush (v := 80) dX7_enters_65 (by decide) ?_
  refine e_iload_n dX7_enters_67 rfl rfl ?_
  refine e_iadd dX7_enters_68 ?_
  refine e_dup2 dX7_enters_69 rfl rfl ?_
  refine mm_ld (80 + r) hB dX7_enters_70 (ai_add (ai_lit 80) rfl) (by first | assumption | omega) ?_
  refine e_iconst (v := 1) dX7_enters_71 (by decide) ?_
  refine e_iadd dX7_enters_72 ?_
  refine mm_st (80 + r) hB dX7_enters_73 (ai_add (ai_lit 80) rfl) (by first | assumption | omega) ?_
  refine e_aload_n dX7_enters_74 rfl rfl ?_
  refine e_getr dX7_enters_75 fl_7_7 hB.a0 rfl ?_
  refine e_bipush (v := 90) dX7_enters_78 (by decide) ?_
  refine e_iload_n dX7_enters_80 rfl rfl ?_
  refine e_iadd dX7_enters_81 ?_
  refine e_dup2 dX7_enters_82 rfl rfl ?_
  refine mm_ld (90 + r) hB dX7_enters_83 (ai_add (ai_lit 90) rfl) (by first | assumption | omega) ?_
  refine e_iload_n dX7_enters_84 rfl rfl ?_
  refine e_iadd dX7_enters_85 ?_
  refine mm_st (90 + r) hB dX7_enters_86 (ai_add (ai_lit 90) rfl) (by first | assumption | omega) ?_
  refine e_aload_n dX7_enters_87 rfl rfl ?_
  refine e_getr dX7_enters_88 fl_7_7 hB.a0 rfl ?_
  refine e_bipush (v := 95) dX7_enters_91 (by decide) ?_
  refine e_iload_n dX7_enters_93 rfl rfl ?_
  refine e_iadd dX7_enters_94 ?_
  refine e_iload_n dX7_enters_95 rfl rfl ?_
  refine e_aload_n dX7_enters_96 rfl rfl ?_
  refine e_getr dX7_enters_97 fl_7_7 hB.a0 rfl ?_
  refine e_bipush (v := 95) dX7_enters_100 (by decide) ?_
  refine e_iload_n dX7_enters_102 rfl rfl ?_
  refine e_iadd dX7_enters_103 ?_
  refine mm_ld (95 + r) hB dX7_enters_104 (ai_add (ai_lit 95) rfl) (by first | assumption | omega) ?_
  refine e_icmp_le 112 dX7_enters_105 (by decide) (fun h105 => ?_) (fun h105 => ?_)
  · refine e_aload_n dX7_enters_112 rfl rfl ?_
    refine e_getr dX7_enters_113 fl_7_7 hB.a0 rfl ?_
    refine e_bipush (v := 95) dX7_enters_116 (by decide) ?_
    refine e_iload_n dX7_enters_118 rfl rfl ?_
    refine e_iadd dX7_enters_119 ?_
    refine mm_ld (95 + r) hB dX7_enters_120 (ai_add (ai_lit 95) rfl) (by first | assumption | omega) ?_
    refine mm_st (95 + r) hB dX7_enters_121 (ai_add (ai_lit 95) rfl) (by first | assumption | omega) ?_
    refine e_aload_n dX7_enters_122 rfl rfl ?_
    refine e_iconst (v := 1) dX7_enters_123 (by decide) ?_
    refine e_iload_n dX7_enters_124 rfl rfl ?_
    refine e_iload_n dX7_enters_125 rfl rfl ?_
    refine e_cV0 dX7_enters_126 ml_7_58 (c_X7_logs hB (p := p) (by simp (disch := omega) only [upd_ne]; exact hp) hp4 _ _ _) hB.a0 rfl rfl (by decide) (Nat.le_of_ble_eq_true rfl) ⟨rfl, rfl⟩ (Nat.le_of_ble_eq_true rfl) (Nat.le_of_ble_eq_true rfl) ?_
    exact e_vret dX7_enters_129 rfl (ho.trans (by simp only [rEnt, rEnt1, if_pos h105])) (Nat.le_of_ble_eq_true rfl) (Nat.le_of_ble_eq_true rfl)
  · refine e_iload_n dX7_enters_108 rfl rfl ?_
    refine e_goto 121 dX7_enters_109 (by decide) ?_
    refine mm_st (95 + r) hB dX7_enters_121 (ai_add (ai_lit 95) rfl) (by first | assumption | omega) ?_
    refine e_aload_n dX7_enters_122 rfl rfl ?_
    refine e_iconst (v := 1) dX7_enters_123 (by decide) ?_
    refine e_iload_n dX7_enters_124 rfl rfl ?_
    refine e_iload_n dX7_enters_125 rfl rfl ?_
    refine e_cV0 dX7_enters_126 ml_7_58 (c_X7_logs hB (p := p) (by simp (disch := omega) only [upd_ne]; exact hp) hp4 _ _ _) hB.a0 rfl rfl (by decide) (Nat.le_of_ble_eq_true rfl) ⟨rfl, rfl⟩ (Nat.le_of_ble_eq_true rfl) (Nat.le_of_ble_eq_true rfl) ?_
    exact e_vret dX7_enters_129 rfl (ho.trans (by simp only [rEnt, rEnt1, if_neg h105])) (Nat.le_of_ble_eq_true rfl) (Nat.le_of_ble_eq_true rfl)
theorem c_X7_opens (hB : MS S b) {p r k : Nat} (hp : m 108 = nI p) (hp4 : p ≤ 40) (hr : r < 5) (hsh : ¬ m (65 + r) = 0) (hk : k < 12) (hq : rInq (rOpn m r) (nI r) 0 = nI k) : AM G_X7_opens [.ref b, .int (nI r)] S (md_put b (Rm ρ m) M) J (none, S, md_put b (Rm ρ (rEnt (rOpn m r) r k)) M, J) := by
  obtain ⟨p', hp4', hp'⟩ := rLogs_108 (m := rOpn1 m r) ((rOpn1_lo m hr (Or.inr (Or.inl rfl))).trans hp) hp4 0 (-1) (nI r)
  refine AM_gen (fun out ho => ?_)
  refine AM_of [.ref b, .int (nI r)] (by decide) rfl (fun B => (Nat.le_of_ble_eq_true rfl)) ?_
  refine e_aload_n dX7_opens_0 rfl rfl ?_
  refine e_getr dX7_opens_1 fl_7_7 hB.a0 rfl ?_
  refine e_bipush (v := 106) dX7_opens_4 (by decide) ?_
  refine e_aload_n dX7_opens_6 rfl rfl ?_
  refine e_getr dX7_opens_7 fl_7_7 hB.a0 rfl ?_
  refine e_bipush (v := 70) dX7_opens_10 (by decide) ?_
  refine e_iload_n dX7_opens_12 rfl rfl ?_
  refine e_iadd dX7_opens_13 ?_
  refine mm_ld (70 + r) hB dX7_opens_14 (ai_add (ai_lit 70) rfl) (by first | assumption | omega) ?_
  refine mm_st 106 hB dX7_opens_15 (ai_lit 106) (by decide) ?_
  refine e_aload_n dX7_opens_16 rfl rfl ?_
  refine e_getr dX7_opens_17 fl_7_7 hB.a0 rfl ?_
  refine e_bipush (v := 70) dX7_opens_20 (by decide) ?_
  refine e_iload_n dX7_opens_22 rfl rfl ?_
  refine e_iadd dX7_opens_23 ?_
  refine e_dup2 dX7_opens_24 rfl rfl ?_
  refine mm_ld (70 + r) hB dX7_opens_25 (ai_add (ai_lit 70) rfl) (by first | assumption | omega) ?_
  refine e_sipush (v := 2520) dX7_opens_26 (by decide) ?_
  refine e_aload_n dX7_opens_29 rfl rfl ?_
  refine e_getr dX7_opens_30 fl_7_7 hB.a0 rfl ?_
  refine e_bipush (v := 65) dX7_opens_33 (by decide) ?_
  refine e_iload_n dX7_opens_35 rfl rfl ?_
  refine e_iadd dX7_opens_36 ?_
  refine mm_ld (65 + r) hB dX7_opens_37 (ai_add (ai_lit 65) rfl) (by first | assumption | omega) ?_
  refine e_idiv dX7_opens_38 (by rw [upd_ne _ _ (by omega)]; exact hsh) ?_
  refine e_iadd dX7_opens_39 ?_
  refine mm_st (70 + r) hB dX7_opens_40 (ai_add (ai_lit 70) rfl) (by first | assumption | omega) ?_
  refine e_aload_n dX7_opens_41 rfl rfl ?_
  refine e_getr dX7_opens_42 fl_7_7 hB.a0 rfl ?_
  refine e_bipush (v := 104) dX7_opens_45 (by decide) ?_
  refine e_iconst (v := 1) dX7_opens_47 (by decide) ?_
  refine mm_st 104 hB dX7_opens_48 (ai_lit 104) (by decide) ?_
  refine e_aload_n dX7_opens_49 rfl rfl ?_
  refine e_getr dX7_opens_50 fl_7_7 hB.a0 rfl ?_
  refine e_bipush (v := 105) dX7_opens_53 (by decide) ?_
  refine e_iconst (v := 0) dX7_opens_55 (by decide) ?_
  refine mm_st 105 hB dX7_opens_56 (ai_lit 105) (by decide) ?_
  refine e_aload_n dX7_opens_57 rfl rfl ?_
  refine e_getr dX7_opens_58 fl_7_7 hB.a0 rfl ?_
  refine e_bipush (v := 75) dX7_opens_61 (by decide) ?_
  refine e_iload_n dX7_opens_63 rfl rfl ?_
  refine e_iadd dX7_opens_64 ?_
  refine e_dup2 dX7_opens_65 rfl rfl ?_
  refine mm_ld (75 + r) hB dX7_opens_66 (ai_add (ai_lit 75) rfl) (by first | assumption | omega) ?_
  refine e_iconst (v := 1) dX7_opens_67 (by decide) ?_
  refine e_iadd dX7_opens_68 ?_
  refine mm_st (75 + r) hB dX7_opens_69 (ai_add (ai_lit 75) rfl) (by first | assumption | omega) ?_
  refine e_aload_n dX7_opens_70 rfl rfl ?_
  refine e_iconst (v := 0) dX7_opens_71 (by decide) ?_
  refine e_iconst (v := (-1)) dX7_opens_72 (by decide) ?_
  refine e_iload_n dX7_opens_73 rfl rfl ?_
  refine e_cV0 dX7_opens_74 ml_7_58 (c_X7_logs hB (p := p) (by simp (disch := omega) only [upd_ne]; exact hp) hp4 _ _ _) hB.a0 rfl rfl (by decide) (Nat.le_of_ble_eq_true rfl) ⟨rfl, rfl⟩ (Nat.le_of_ble_eq_true rfl) (Nat.le_of_ble_eq_true rfl) ?_
  refine e_aload_n dX7_opens_77 rfl rfl ?_
  refine e_iload_n dX7_opens_78 rfl rfl ?_
  refine e_cV0 dX7_opens_79 ml_7_62 (c_X7_enters (m := rOpn m r) hB hp' hp4' hr hk hq) hB.a0 rfl rfl (by decide) (Nat.le_of_ble_eq_true rfl) ⟨rfl, rfl⟩ (Nat.le_of_ble_eq_true rfl) (Nat.le_of_ble_eq_true rfl) ?_
  exact e_vret dX7_opens_82 rfl ho (Nat.le_of_ble_eq_true rfl) (Nat.le_of_ble_eq_true rfl)
theorem c_X7_isDue (hB : MS S b) (r : Int32) : AM G_X7_isDue [.ref b, .int r] S (md_put b (Rm ρ m) M) J (some (.int (bI (rDue m r))), S, md_put b (Rm ρ m) M, J) := by
  refine AM_gen (fun out ho => ?_)
  refine AM_of [.ref b, .int r, .retAddr 0, .retAddr 0, .retAddr 0, .retAddr 0] (by decide) rfl (fun B => (Nat.le_of_ble_eq_true rfl)) ?_
  have key : ∀ (n k : Nat) (o i : Bool) (x5 : Value), k + n = 12 → o = ex (rOth m r) k → i = ex (fun k => rOth m r k && rImp m k) k → AW G_X7_isDue out 0 0 7 [.ref b, .int r, .int (bI o), .int (bI i), .int (nI k), x5] [] S (md_put b (Rm ρ m) M) J := by
    intro n
    induction n with
    | zero =>
      intro k o i x5 hk hoe hie
      have hk2 : k = 12 := by omega
      subst hk2
      refine e_iload dX7_isDue_7 rfl ?_
      refine e_bipush (v := 12) dX7_isDue_9 (by decide) ?_
      refine e_ge_t (i := 12) (N := 12) 93 dX7_isDue_11 (by decide) rfl rfl (by omega) (by omega) ?_
      refine e_iload_n dX7_isDue_93 rfl rfl ?_
      refine e_if_eq 122 dX7_isDue_94 (by decide) (fun h94 => ?_) (fun h94 => ?_)
      · refine e_iconst (v := 0) dX7_isDue_122 (by decide) ?_
        exact e_zret dX7_isDue_123 rfl (by decide) (ho.trans (by rw [rDue, ← hoe, ← hie]; first | (simp [bI0 h94, bI]; done) | (simp [bI1 h94, bI1 h98, bI]; done) | (simp [bI1 h94, bI0 h98, bI, Int32.not_le.mpr h115]; done) | (simp [bI1 h94, bI0 h98, bI, Int32.not_lt.mp h115]; done))) (Nat.le_of_ble_eq_true rfl) (Nat.le_of_ble_eq_true rfl)
      · refine e_iload_n dX7_isDue_97 rfl rfl ?_
        refine e_if_ne 118 dX7_isDue_98 (by decide) (fun h98 => ?_) (fun h98 => ?_)
        · refine e_iconst (v := 1) dX7_isDue_118 (by decide) ?_
          refine e_goto 123 dX7_isDue_119 (by decide) ?_
          exact e_zret dX7_isDue_123 rfl (by decide) (ho.trans (by rw [rDue, ← hoe, ← hie]; first | (simp [bI0 h94, bI]; done) | (simp [bI1 h94, bI1 h98, bI]; done) | (simp [bI1 h94, bI0 h98, bI, Int32.not_le.mpr h115]; done) | (simp [bI1 h94, bI0 h98, bI, Int32.not_lt.mp h115]; done))) (Nat.le_of_ble_eq_true rfl) (Nat.le_of_ble_eq_true rfl)
        · refine e_aload_n dX7_isDue_101 rfl rfl ?_
          refine e_getr dX7_isDue_102 fl_7_7 hB.a0 rfl ?_
          refine e_bipush (v := 105) dX7_isDue_105 (by decide) ?_
          refine mm_ld 105 hB dX7_isDue_107 (ai_lit 105) (by decide) ?_
          refine e_aload_n dX7_isDue_108 rfl rfl ?_
          refine e_getr dX7_isDue_109 fl_7_7 hB.a0 rfl ?_
          refine e_bipush (v := 101) dX7_isDue_112 (by decide) ?_
          refine mm_ld 101 hB dX7_isDue_114 (ai_lit 101) (by decide) ?_
          refine e_icmp_lt 122 dX7_isDue_115 (by decide) (fun h115 => ?_) (fun h115 => ?_)
          · refine e_iconst (v := 0) dX7_isDue_122 (by decide) ?_
            exact e_zret dX7_isDue_123 rfl (by decide) (ho.trans (by rw [rDue, ← hoe, ← hie]; first | (simp [bI0 h94, bI]; done) | (simp [bI1 h94, bI1 h98, bI]; done) | (simp [bI1 h94, bI0 h98, bI, Int32.not_le.mpr h115]; done) | (simp [bI1 h94, bI0 h98, bI, Int32.not_lt.mp h115]; done))) (Nat.le_of_ble_eq_true rfl) (Nat.le_of_ble_eq_true rfl)
          · refine e_iconst (v := 1) dX7_isDue_118 (by decide) ?_
            refine e_goto 123 dX7_isDue_119 (by decide) ?_
            exact e_zret dX7_isDue_123 rfl (by decide) (ho.trans (by rw [rDue, ← hoe, ← hie]; first | (simp [bI0 h94, bI]; done) | (simp [bI1 h94, bI1 h98, bI]; done) | (simp [bI1 h94, bI0 h98, bI, Int32.not_le.mpr h115]; done) | (simp [bI1 h94, bI0 h98, bI, Int32.not_lt.mp h115]; done))) (Nat.le_of_ble_eq_true rfl) (Nat.le_of_ble_eq_true rfl)
    | succ n ih =>
      intro k o i x5 hk hoe hie
      have seg3 : ∀ (t : Bool), t = rOth m r k → AW G_X7_isDue out 0 0 63 [.ref b, .int r, .int (bI (o || t)), .int (bI i), .int (nI k), .int (bI t)] [] S (md_put b (Rm ρ m) M) J := by
        intro t ht
        have fin : ∀ (u : Bool), u = (i || (t && rImp m k)) → AW G_X7_isDue out 0 0 87 [.ref b, .int r, .int (bI (o || t)), .int (bI u), .int (nI k), .int (bI t)] [] S (md_put b (Rm ρ m) M) J := by
          intro u hu
          refine e_iinc dX7_isDue_87 rfl (ai_inc _) (by decide) rfl ?_
          refine e_goto 7 dX7_isDue_90 (by decide) ?_
          exact ih (k + 1) (o || t) u _ (by omega) (by rw [ex, ← hoe, ht]) (by rw [ex, ← hie, hu, ht])
        refine e_iload_n dX7_isDue_63 rfl rfl ?_
        refine e_if_ne 81 dX7_isDue_64 (by decide) (fun h64 => ?_) (fun h64 => ?_)
        · refine e_iconst (v := 1) dX7_isDue_81 (by decide) ?_
          refine e_goto 86 dX7_isDue_82 (by decide) ?_
          refine e_istore_n dX7_isDue_86 rfl (by decide) rfl ?_
          exact fin true (by rw [bI1 h64]; rfl)
        · refine e_iload dX7_isDue_67 rfl ?_
          refine e_if_eq 85 dX7_isDue_69 (by decide) (fun h69 => ?_) (fun h69 => ?_)
          · refine e_iconst (v := 0) dX7_isDue_85 (by decide) ?_
            refine e_istore_n dX7_isDue_86 rfl (by decide) rfl ?_
            exact fin false (by rw [bI0 h64, bI0 h69]; rfl)
          · refine e_aload_n dX7_isDue_72 rfl rfl ?_
            refine e_iload dX7_isDue_73 rfl ?_
            refine e_cV1 dX7_isDue_75 ml_7_47 (c_X7_isImpatient hB (by omega)) hB.a0 rfl rfl (by decide) (Nat.le_of_ble_eq_true rfl) ⟨rfl, rfl⟩ (Nat.le_of_ble_eq_true rfl) (Nat.le_of_ble_eq_true rfl) ?_
            refine e_if_eq 85 dX7_isDue_78 (by decide) (fun h78 => ?_) (fun h78 => ?_)
            · refine e_iconst (v := 0) dX7_isDue_85 (by decide) ?_
              refine e_istore_n dX7_isDue_86 rfl (by decide) rfl ?_
              exact fin false (by rw [bI0 h64, bI1 h69, bI0 h78]; rfl)
            · refine e_iconst (v := 1) dX7_isDue_81 (by decide) ?_
              refine e_goto 86 dX7_isDue_82 (by decide) ?_
              refine e_istore_n dX7_isDue_86 rfl (by decide) rfl ?_
              exact fin true (by rw [bI1 h69, bI1 h78]; simp)
      have seg2 : ∀ (t : Bool), t = rOth m r k → AW G_X7_isDue out 0 0 48 [.ref b, .int r, .int (bI o), .int (bI i), .int (nI k), .int (bI t)] [] S (md_put b (Rm ρ m) M) J := by
        intro t ht
        refine e_iload_n dX7_isDue_48 rfl rfl ?_
        refine e_if_ne 57 dX7_isDue_49 (by decide) (fun h49 => ?_) (fun h49 => ?_)
        · refine e_iconst (v := 1) dX7_isDue_57 (by decide) ?_
          refine e_goto 62 dX7_isDue_58 (by decide) ?_
          refine e_istore_n dX7_isDue_62 rfl (by decide) rfl ?_
          have e : o = true := bI1 h49
          subst e
          exact seg3 t ht
        · have e : o = false := bI0 h49
          subst e
          refine e_iload dX7_isDue_52 rfl ?_
          refine e_if_eq 61 dX7_isDue_54 (by decide) (fun h54 => ?_) (fun h54 => ?_)
          · refine e_iconst (v := 0) dX7_isDue_61 (by decide) ?_
            refine e_istore_n dX7_isDue_62 rfl (by decide) rfl ?_
            have e2 : t = false := bI0 h54
            subst e2
            exact seg3 false ht
          · refine e_iconst (v := 1) dX7_isDue_57 (by decide) ?_
            refine e_goto 62 dX7_isDue_58 (by decide) ?_
            refine e_istore_n dX7_isDue_62 rfl (by decide) rfl ?_
            have e2 : t = true := bI1 h54
            subst e2
            exact seg3 true ht
      refine e_iload dX7_isDue_7 rfl ?_
      refine e_bipush (v := 12) dX7_isDue_9 (by decide) ?_
      refine e_ge_f (i := k) (N := 12) 93 dX7_isDue_11 (by decide) rfl rfl (by omega) (by omega) ?_
      refine e_aload_n dX7_isDue_14 rfl rfl ?_
      refine e_getr dX7_isDue_15 fl_7_7 hB.a0 rfl ?_
      refine e_iconst (v := 0) dX7_isDue_18 (by decide) ?_
      refine e_iload dX7_isDue_19 rfl ?_
      refine e_iadd dX7_isDue_21 ?_
      refine mm_ld k hB dX7_isDue_22 (ai_zadd rfl) (by first | assumption | omega) ?_
      refine e_iconst (v := 1) dX7_isDue_23 (by decide) ?_
      refine e_icmp_ne 45 dX7_isDue_24 (by decide) (fun h24 => ?_) (fun h24 => ?_)
      · refine e_iconst (v := 0) dX7_isDue_45 (by decide) ?_
        refine e_istore dX7_isDue_46 (by decide) rfl ?_
        exact seg2 false (by simp [rOth, h24])
      · refine e_aload_n dX7_isDue_27 rfl rfl ?_
        refine e_getr dX7_isDue_28 fl_7_7 hB.a0 rfl ?_
        refine e_bipush (v := 12) dX7_isDue_31 (by decide) ?_
        refine e_iload dX7_isDue_33 rfl ?_
        refine e_iadd dX7_isDue_35 ?_
        refine mm_ld (12 + k) hB dX7_isDue_36 (ai_add (ai_lit 12) rfl) (by first | assumption | omega) ?_
        refine e_iload_n dX7_isDue_37 rfl rfl ?_
        refine e_icmp_eq 45 dX7_isDue_38 (by decide) (fun h38 => ?_) (fun h38 => ?_)
        · refine e_iconst (v := 0) dX7_isDue_45 (by decide) ?_
          refine e_istore dX7_isDue_46 (by decide) rfl ?_
          exact seg2 false (by simp [rOth, h38])
        · refine e_iconst (v := 1) dX7_isDue_41 (by decide) ?_
          refine e_goto 46 dX7_isDue_42 (by decide) ?_
          refine e_istore dX7_isDue_46 (by decide) rfl ?_
          exact seg2 true (by simp [rOth, h24, h38])
  refine e_iconst (v := 0) dX7_isDue_0 (by decide) ?_
  refine e_istore_n dX7_isDue_1 rfl (by decide) rfl ?_
  refine e_iconst (v := 0) dX7_isDue_2 (by decide) ?_
  refine e_istore_n dX7_isDue_3 rfl (by decide) rfl ?_
  refine e_iconst (v := 0) dX7_isDue_4 (by decide) ?_
  refine e_istore dX7_isDue_5 (by decide) rfl ?_
  exact key 12 0 false false _ rfl rfl rfl
theorem c_X7_actsOnce (hB : MS S b) (hw : RW m) : AM G_X7_actsOnce [.ref b] S (md_put b (Rm ρ m) M) J (some (.int (bI (rOnce m).2)), S, md_put b (Rm ρ (rOnce m).1) M, J) := by
  obtain ⟨p, hp4, hp⟩ := hw.2.1
  refine AM_gen (fun out ho => ?_)
  refine AM_of [.ref b, .retAddr 0, .retAddr 0] (by decide) rfl (fun B => (Nat.le_of_ble_eq_true rfl)) ?_
  refine e_aload_n dX7_actsOnce_0 rfl rfl ?_
  refine e_cV1 dX7_actsOnce_1 ml_7_65 (c_X7_inUse hB) hB.a0 rfl rfl (by decide) (Nat.le_of_ble_eq_true rfl) ⟨rfl, rfl⟩ (Nat.le_of_ble_eq_true rfl) (Nat.le_of_ble_eq_true rfl) ?_
  refine e_istore_n dX7_actsOnce_4 rfl (by decide) rfl ?_
  refine e_iload_n dX7_actsOnce_5 rfl rfl ?_
  refine e_iconst (v := (-1)) dX7_actsOnce_6 (by decide) ?_
  refine e_icmp_ne 36 dX7_actsOnce_7 (by decide) (fun h7 => ?_) (fun h7 => ?_)
  · obtain ⟨r, hr, er⟩ := (rInUse_is hw).resolve_left h7
    rw [er]
    have hrI : rInUse m ≠ -1 := h7
    refine e_aload_n dX7_actsOnce_36 rfl rfl ?_
    refine e_getr dX7_actsOnce_37 fl_7_7 hB.a0 rfl ?_
    refine e_bipush (v := 104) dX7_actsOnce_40 (by decide) ?_
    refine mm_ld 104 hB dX7_actsOnce_42 (ai_lit 104) (by decide) ?_
    refine e_if_eq 71 dX7_actsOnce_43 (by decide) (fun h43 => ?_) (fun h43 => ?_)
    · refine e_iconst (v := 0) dX7_actsOnce_71 (by decide) ?_
      exact e_zret dX7_actsOnce_72 rfl (by decide) (ho.trans (by rw [rOnce, if_neg h7, if_pos (Or.inl h43)]; rfl)) (Nat.le_of_ble_eq_true rfl) (Nat.le_of_ble_eq_true rfl)
    · refine e_aload_n dX7_actsOnce_46 rfl rfl ?_
      refine e_iload_n dX7_actsOnce_47 rfl rfl ?_
      refine e_cV1 dX7_actsOnce_48 ml_7_51 (c_X7_waitingFor hB _) hB.a0 rfl rfl (by decide) (Nat.le_of_ble_eq_true rfl) ⟨rfl, rfl⟩ (Nat.le_of_ble_eq_true rfl) (Nat.le_of_ble_eq_true rfl) ?_
      have hlt : rWai m (nI r) ≤ 12 := fb_ct_le _ _
      refine e_if_eq 71 dX7_actsOnce_51 (by decide) (fun h51 => ?_) (fun h51 => ?_)
      · have h0 : rWai m (nI r) = 0 := by
          rcases Nat.eq_zero_or_pos (rWai m (nI r)) with e | e
          · exact e
          · exact absurd h51 (nI_ne0 e (by omega))
        refine e_iconst (v := 0) dX7_actsOnce_71 (by decide) ?_
        exact e_zret dX7_actsOnce_72 rfl (by decide) (ho.trans (by rw [rOnce, if_neg h7, if_pos (Or.inr (Or.inl (by rw [er]; exact h0)))]; rfl)) (Nat.le_of_ble_eq_true rfl) (Nat.le_of_ble_eq_true rfl)
      · have h0 : ¬ rWai m (nI r) = 0 := fun e => h51 (by rw [e]; rfl)
        refine e_aload_n dX7_actsOnce_54 rfl rfl ?_
        refine e_iload_n dX7_actsOnce_55 rfl rfl ?_
        refine e_cV1 dX7_actsOnce_56 ml_7_75 (c_X7_insideOf hB _) hB.a0 rfl rfl (by decide) (Nat.le_of_ble_eq_true rfl) ⟨rfl, rfl⟩ (Nat.le_of_ble_eq_true rfl) (Nat.le_of_ble_eq_true rfl) ?_
        refine e_aload_n dX7_actsOnce_59 rfl rfl ?_
        refine e_getr dX7_actsOnce_60 fl_7_7 hB.a0 rfl ?_
        refine e_bipush (v := 60) dX7_actsOnce_63 (by decide) ?_
        refine e_iload_n dX7_actsOnce_65 rfl rfl ?_
        refine e_iadd dX7_actsOnce_66 ?_
        refine mm_ld (60 + r) hB dX7_actsOnce_67 (ai_add (ai_lit 60) rfl) (by first | assumption | omega) ?_
        refine e_icmp_lt 73 dX7_actsOnce_68 (by decide) (fun h68 => ?_) (fun h68 => ?_)
        · have hno : ¬ (m 104 = 0 ∨ rWai m (rInUse m) = 0 ∨ m (60 + (rInUse m).toNatClampNeg) ≤ nI (rIns m (rInUse m))) := by
            rw [er, nI_clamp (by omega)]
            rintro (h | h | h)
            · exact h43 h
            · exact h0 h
            · exact absurd h68 (Int32.not_lt.mpr h)
          refine e_aload_n dX7_actsOnce_73 rfl rfl ?_
          refine e_iload_n dX7_actsOnce_74 rfl rfl ?_
          refine e_cV1 dX7_actsOnce_75 ml_7_78 (c_X7_isDue hB _) hB.a0 rfl rfl (by decide) (Nat.le_of_ble_eq_true rfl) ⟨rfl, rfl⟩ (Nat.le_of_ble_eq_true rfl) (Nat.le_of_ble_eq_true rfl) ?_
          refine e_if_eq 99 dX7_actsOnce_78 (by decide) (fun h78 => ?_) (fun h78 => ?_)
          · have hd := bI0 h78
            obtain ⟨k, hk, ek, -, -⟩ := rInq_ex h0
            refine e_aload_n dX7_actsOnce_99 rfl rfl ?_
            refine e_iload_n dX7_actsOnce_100 rfl rfl ?_
            refine e_cV0 dX7_actsOnce_101 ml_7_62 (c_X7_enters hB hp hp4 hr hk ek) hB.a0 rfl rfl (by decide) (Nat.le_of_ble_eq_true rfl) ⟨rfl, rfl⟩ (Nat.le_of_ble_eq_true rfl) (Nat.le_of_ble_eq_true rfl) ?_
            refine e_iconst (v := 1) dX7_actsOnce_104 (by decide) ?_
            exact e_zret dX7_actsOnce_105 rfl (by decide) (ho.trans (by rw [rOnce, if_neg h7, if_neg hno, er, hd, if_neg (by decide), ek, nI_clamp (by omega), nI_clamp (by omega)]; rfl)) (Nat.le_of_ble_eq_true rfl) (Nat.le_of_ble_eq_true rfl)
          · have hd := bI1 h78
            refine e_aload_n dX7_actsOnce_81 rfl rfl ?_
            refine e_getr dX7_actsOnce_82 fl_7_7 hB.a0 rfl ?_
            refine e_bipush (v := 104) dX7_actsOnce_85 (by decide) ?_
            refine e_iconst (v := 0) dX7_actsOnce_87 (by decide) ?_
            refine mm_st 104 hB dX7_actsOnce_88 (ai_lit 104) (by decide) ?_
            refine e_aload_n dX7_actsOnce_89 rfl rfl ?_
            refine e_iconst (v := 3) dX7_actsOnce_90 (by decide) ?_
            refine e_iconst (v := (-1)) dX7_actsOnce_91 (by decide) ?_
            refine e_iload_n dX7_actsOnce_92 rfl rfl ?_
            refine e_cV0 dX7_actsOnce_93 ml_7_58 (c_X7_logs hB (p := p) (by simp (disch := omega) only [upd_ne]; exact hp) hp4 _ _ _) hB.a0 rfl rfl (by decide) (Nat.le_of_ble_eq_true rfl) ⟨rfl, rfl⟩ (Nat.le_of_ble_eq_true rfl) (Nat.le_of_ble_eq_true rfl) ?_
            refine e_goto 104 dX7_actsOnce_96 (by decide) ?_
            refine e_iconst (v := 1) dX7_actsOnce_104 (by decide) ?_
            exact e_zret dX7_actsOnce_105 rfl (by decide) (ho.trans (by rw [rOnce, if_neg h7, if_neg hno, er, hd, if_pos rfl]; rfl)) (Nat.le_of_ble_eq_true rfl) (Nat.le_of_ble_eq_true rfl)
        · refine e_iconst (v := 0) dX7_actsOnce_71 (by decide) ?_
          exact e_zret dX7_actsOnce_72 rfl (by decide) (ho.trans (by rw [rOnce, if_neg h7, if_pos (Or.inr (Or.inr (by rw [er, nI_clamp (by omega)]; exact Int32.not_lt.mp h68)))]; rfl)) (Nat.le_of_ble_eq_true rfl) (Nat.le_of_ble_eq_true rfl)
  · refine e_aload_n dX7_actsOnce_10 rfl rfl ?_
    refine e_cV1 dX7_actsOnce_11 ml_7_69 (c_X7_nextRoom hB) hB.a0 rfl rfl (by decide) (Nat.le_of_ble_eq_true rfl) ⟨rfl, rfl⟩ (Nat.le_of_ble_eq_true rfl) (Nat.le_of_ble_eq_true rfl) ?_
    refine e_istore_n dX7_actsOnce_14 rfl (by decide) rfl ?_
    refine e_iload_n dX7_actsOnce_15 rfl rfl ?_
    refine e_iconst (v := (-1)) dX7_actsOnce_16 (by decide) ?_
    refine e_icmp_eq 25 dX7_actsOnce_17 (by decide) (fun h17 => ?_) (fun h17 => ?_)
    · refine e_iload_n dX7_actsOnce_25 rfl rfl ?_
      refine e_iconst (v := (-1)) dX7_actsOnce_26 (by decide) ?_
      refine e_icmp_eq 34 dX7_actsOnce_27 (by decide) (fun h27 => ?_) (fun h27 => ?_)
      · refine e_iconst (v := 0) dX7_actsOnce_34 (by decide) ?_
        exact e_zret dX7_actsOnce_35 rfl (by decide) (ho.trans (by rw [rOnce, if_pos h7, if_pos h17]; rfl)) (Nat.le_of_ble_eq_true rfl) (Nat.le_of_ble_eq_true rfl)
      · exact absurd h17 h27
    · obtain ⟨r, hr, er, hwr⟩ := (rNext_is hw).resolve_left h17
      have hwo : ¬ rWai (rOpn m r) (nI r) = 0 := by rw [rWai_cong (fun j hj => rOpn_lo m hr (by omega))]; exact hwr
      obtain ⟨k, hk, ek, -, -⟩ := rInq_ex hwo
      rw [er]
      refine e_aload_n dX7_actsOnce_20 rfl rfl ?_
      refine e_iload_n dX7_actsOnce_21 rfl rfl ?_
      refine e_cV0 dX7_actsOnce_22 ml_7_72 (c_X7_opens hB hp hp4 hr (hw.2.2.1 r hr) hk ek) hB.a0 rfl rfl (by decide) (Nat.le_of_ble_eq_true rfl) ⟨rfl, rfl⟩ (Nat.le_of_ble_eq_true rfl) (Nat.le_of_ble_eq_true rfl) ?_
      refine e_iload_n dX7_actsOnce_25 rfl rfl ?_
      refine e_iconst (v := (-1)) dX7_actsOnce_26 (by decide) ?_
      refine e_icmp_eq 34 dX7_actsOnce_27 (by decide) (fun h27 => ?_) (fun h27 => ?_)
      · exact absurd h27 (nI_ne_m1 (by omega))
      · refine e_iconst (v := 1) dX7_actsOnce_30 (by decide) ?_
        refine e_goto 35 dX7_actsOnce_31 (by decide) ?_
        exact e_zret dX7_actsOnce_35 rfl (by decide) (ho.trans (by rw [rOnce, if_pos h7, if_neg h17, er, nI_clamp (by omega), ek, nI_clamp (by omega)]; rfl)) (Nat.le_of_ble_eq_true rfl) (Nat.le_of_ble_eq_true rfl)
theorem c_X7_acts (hB : MS S b) {n : Nat} {m' : Nat → Int32} (hw : RW m) (hn : rActs n m = some m') : AM G_X7_acts [.ref b] S (md_put b (Rm ρ m) M) J (none, S, md_put b (Rm ρ m') M, J) := by
  refine AM_gen (fun out ho => ?_)
  refine AM_of [.ref b, .retAddr 0] (by decide) rfl (fun B => (Nat.le_of_ble_eq_true rfl)) ?_
  have key : ∀ (n : Nat) (m : Nat → Int32), RW m → rActs n m = some m' → AW G_X7_acts out 0 0 2 [.ref b, .int 1] [] S (md_put b (Rm ρ m) M) J := by
    intro n
    induction n with
    | zero => intro m _ h; simp [rActs] at h
    | succ n ih =>
      intro m hw h
      refine e_iload_n dX7_acts_2 rfl rfl ?_
      refine e_if_eq 14 dX7_acts_3 (by decide) (fun h3 => ?_) (fun h3 => ?_)
      · exact absurd h3 (by decide)
      · refine e_aload_n dX7_acts_6 rfl rfl ?_
        refine e_cV1 dX7_acts_7 ml_7_81 (c_X7_actsOnce hB hw) hB.a0 rfl rfl (by decide) (Nat.le_of_ble_eq_true rfl) ⟨rfl, rfl⟩ (Nat.le_of_ble_eq_true rfl) (Nat.le_of_ble_eq_true rfl) ?_
        refine e_istore_n dX7_acts_10 rfl (by decide) rfl ?_
        refine e_goto 2 dX7_acts_11 (by decide) ?_
        rw [rActs] at h
        by_cases hb : (rOnce m).2 = true
        · rw [if_pos hb] at h
          rw [hb]
          exact ih _ hw.once h
        · rw [if_neg hb] at h
          have e := Option.some.inj h
          have hb2 : (rOnce m).2 = false := by simpa using hb
          rw [hb2, rOnce_false hb2]
          refine e_iload_n dX7_acts_2 rfl rfl ?_
          refine e_if_eq 14 dX7_acts_3 (by decide) (fun h3 => ?_) (fun h3 => ?_)
          · exact e_vret dX7_acts_14 rfl (ho.trans (by rw [e])) (Nat.le_of_ble_eq_true rfl) (Nat.le_of_ble_eq_true rfl)
          · exact absurd rfl h3
  refine e_iconst (v := 1) dX7_acts_0 (by decide) ?_
  refine e_istore_n dX7_acts_1 rfl (by decide) rfl ?_
  exact key n m hw hn
theorem c_X7_ticks (hB : MS S b) {n : Nat} {m' : Nat → Int32} (hw : RW m) (hn : rTick n m = some m') : AM G_X7_ticks [.ref b] S (md_put b (Rm ρ m) M) J (none, S, md_put b (Rm ρ m') M, J) := by
  refine AM_gen (fun out ho => ?_)
  refine AM_of [.ref b, .retAddr 0, .retAddr 0] (by decide) rfl (fun B => (Nat.le_of_ble_eq_true rfl)) ?_
  have hw0 : RW (upd m 103 (m 103 + 1)) := hw.put (by omega) _
  have key : ∀ (n k : Nat) (x2 : Value), k + n = 12 → AW G_X7_ticks out 0 0 13 [.ref b, .int (nI k), x2] [] S (md_put b (Rm ρ (rTkL (upd m 103 (m 103 + 1)) k)) M) J := by
    intro n
    induction n with
    | zero =>
      intro k x2 hk
      have hk2 : k = 12 := by omega
      subst hk2
      refine e_iload_n dX7_ticks_13 rfl rfl ?_
      refine e_bipush (v := 12) dX7_ticks_14 (by decide) ?_
      refine e_ge_t (i := 12) (N := 12) 151 dX7_ticks_16 (by decide) rfl rfl (by omega) (by omega) ?_
      refine e_aload_n dX7_ticks_151 rfl rfl ?_
      refine e_cV0 dX7_ticks_152 ml_7_85 (c_X7_acts hB (hw0.tkL (Nat.le_refl 12)) hn) hB.a0 rfl rfl (by decide) (Nat.le_of_ble_eq_true rfl) ⟨rfl, rfl⟩ (Nat.le_of_ble_eq_true rfl) (Nat.le_of_ble_eq_true rfl) ?_
      exact e_vret dX7_ticks_155 rfl ho (Nat.le_of_ble_eq_true rfl) (Nat.le_of_ble_eq_true rfl)
    | succ n ih =>
      intro k x2 hk
      have hwk := hw0.tkL (k := k) (by omega)
      have ih2 := fun x2 => ih (k + 1) x2 (by omega)
      simp only [rTkL] at ih2
      generalize rTkL (upd m 103 (m 103 + 1)) k = m1 at hwk ih2 ⊢
      obtain ⟨p, hp4, hp⟩ := hwk.2.1
      refine e_iload_n dX7_ticks_13 rfl rfl ?_
      refine e_bipush (v := 12) dX7_ticks_14 (by decide) ?_
      refine e_ge_f (i := k) (N := 12) 151 dX7_ticks_16 (by decide) rfl rfl (by omega) (by omega) ?_
      refine e_aload_n dX7_ticks_19 rfl rfl ?_
      refine e_getr dX7_ticks_20 fl_7_7 hB.a0 rfl ?_
      refine e_bipush (v := 12) dX7_ticks_23 (by decide) ?_
      refine e_iload_n dX7_ticks_25 rfl rfl ?_
      refine e_iadd dX7_ticks_26 ?_
      refine mm_ld (12 + k) hB dX7_ticks_27 (ai_add (ai_lit 12) rfl) (by first | assumption | omega) ?_
      refine e_istore_n dX7_ticks_28 rfl (by decide) rfl ?_
      refine e_aload_n dX7_ticks_29 rfl rfl ?_
      refine e_getr dX7_ticks_30 fl_7_7 hB.a0 rfl ?_
      refine e_iconst (v := 0) dX7_ticks_33 (by decide) ?_
      refine e_iload_n dX7_ticks_34 rfl rfl ?_
      refine e_iadd dX7_ticks_35 ?_
      refine mm_ld k hB dX7_ticks_36 (ai_zadd rfl) (by first | assumption | omega) ?_
      refine e_iconst (v := 2) dX7_ticks_37 (by decide) ?_
      refine e_icmp_ne 94 dX7_ticks_38 (by decide) (fun h38 => ?_) (fun h38 => ?_)
      · refine e_aload_n dX7_ticks_94 rfl rfl ?_
        refine e_getr dX7_ticks_95 fl_7_7 hB.a0 rfl ?_
        refine e_iconst (v := 0) dX7_ticks_98 (by decide) ?_
        refine e_iload_n dX7_ticks_99 rfl rfl ?_
        refine e_iadd dX7_ticks_100 ?_
        refine mm_ld k hB dX7_ticks_101 (ai_zadd rfl) (by first | assumption | omega) ?_
        refine e_iconst (v := 3) dX7_ticks_102 (by decide) ?_
        refine e_icmp_ne 145 dX7_ticks_103 (by decide) (fun h103 => ?_) (fun h103 => ?_)
        · refine e_iinc dX7_ticks_145 rfl (ai_inc _) (by decide) rfl ?_
          refine e_goto 13 dX7_ticks_148 (by decide) ?_
          have e : rTkS m1 k = m1 := by simp only [rTkS]; rw [if_neg h38, if_neg (fun q => h103 q.1)]
          rw [e] at ih2
          exact ih2 _
        · refine e_aload_n dX7_ticks_106 rfl rfl ?_
          refine e_getr dX7_ticks_107 fl_7_7 hB.a0 rfl ?_
          refine e_bipush (v := 103) dX7_ticks_110 (by decide) ?_
          refine mm_ld 103 hB dX7_ticks_112 (ai_lit 103) (by decide) ?_
          refine e_aload_n dX7_ticks_113 rfl rfl ?_
          refine e_getr dX7_ticks_114 fl_7_7 hB.a0 rfl ?_
          refine e_bipush (v := 24) dX7_ticks_117 (by decide) ?_
          refine e_iload_n dX7_ticks_119 rfl rfl ?_
          refine e_iadd dX7_ticks_120 ?_
          refine mm_ld (24 + k) hB dX7_ticks_121 (ai_add (ai_lit 24) rfl) (by first | assumption | omega) ?_
          refine e_isub dX7_ticks_122 ?_
          refine e_aload_n dX7_ticks_123 rfl rfl ?_
          refine e_getr dX7_ticks_124 fl_7_7 hB.a0 rfl ?_
          refine e_bipush (v := 102) dX7_ticks_127 (by decide) ?_
          refine mm_ld 102 hB dX7_ticks_129 (ai_lit 102) (by decide) ?_
          refine e_icmp_lt 145 dX7_ticks_130 (by decide) (fun h130 => ?_) (fun h130 => ?_)
          · refine e_iinc dX7_ticks_145 rfl (ai_inc _) (by decide) rfl ?_
            refine e_goto 13 dX7_ticks_148 (by decide) ?_
            have e : rTkS m1 k = m1 := by simp only [rTkS]; rw [if_neg h38, if_neg (fun q => absurd h130 (Int32.not_lt.mpr q.2))]
            rw [e] at ih2
            exact ih2 _
          · refine e_aload_n dX7_ticks_133 rfl rfl ?_
            refine e_iload_n dX7_ticks_134 rfl rfl ?_
            refine e_cV0 dX7_ticks_135 ml_7_35 (c_X7_leaves hB (by omega)) hB.a0 rfl rfl (by decide) (Nat.le_of_ble_eq_true rfl) ⟨rfl, rfl⟩ (Nat.le_of_ble_eq_true rfl) (Nat.le_of_ble_eq_true rfl) ?_
            refine e_aload_n dX7_ticks_138 rfl rfl ?_
            refine e_iconst (v := 4) dX7_ticks_139 (by decide) ?_
            refine e_iload_n dX7_ticks_140 rfl rfl ?_
            refine e_iload_n dX7_ticks_141 rfl rfl ?_
            refine e_cV0 dX7_ticks_142 ml_7_58 (c_X7_logs hB (p := p) (by simp (disch := omega) only [rLeaves, upd_ne]; exact hp) hp4 _ _ _) hB.a0 rfl rfl (by decide) (Nat.le_of_ble_eq_true rfl) ⟨rfl, rfl⟩ (Nat.le_of_ble_eq_true rfl) (Nat.le_of_ble_eq_true rfl) ?_
            refine e_iinc dX7_ticks_145 rfl (ai_inc _) (by decide) rfl ?_
            refine e_goto 13 dX7_ticks_148 (by decide) ?_
            have e : rTkS m1 k = rLogs (rLeaves m1 k) 4 (nI k) (m1 (12 + k)) := by simp only [rTkS]; rw [if_neg h38, if_pos ⟨h103, Int32.not_lt.mp h130⟩]
            rw [e] at ih2
            exact ih2 _
      · obtain ⟨r, hr, er⟩ := (hwk.1 k (by omega)).resolve_left (by rw [h38]; decide)
        refine e_aload_n dX7_ticks_41 rfl rfl ?_
        refine e_getr dX7_ticks_42 fl_7_7 hB.a0 rfl ?_
        refine e_bipush (v := 85) dX7_ticks_45 (by decide) ?_
        refine e_iload_n dX7_ticks_47 rfl rfl ?_
        refine e_iadd dX7_ticks_48 ?_
        refine e_dup2 dX7_ticks_49 rfl rfl ?_
        refine mm_ld (85 + r) hB dX7_ticks_50 (ai_add (ai_lit 85) er) (by first | assumption | omega) ?_
        refine e_iconst (v := 1) dX7_ticks_51 (by decide) ?_
        refine e_iadd dX7_ticks_52 ?_
        refine mm_st (85 + r) hB dX7_ticks_53 (ai_add (ai_lit 85) er) (by first | assumption | omega) ?_
        refine e_aload_n dX7_ticks_54 rfl rfl ?_
        refine e_getr dX7_ticks_55 fl_7_7 hB.a0 rfl ?_
        refine e_bipush (v := 36) dX7_ticks_58 (by decide) ?_
        refine e_iload_n dX7_ticks_60 rfl rfl ?_
        refine e_iadd dX7_ticks_61 ?_
        refine e_dup2 dX7_ticks_62 rfl rfl ?_
        refine mm_ld (36 + k) hB dX7_ticks_63 (ai_add (ai_lit 36) rfl) (by first | assumption | omega) ?_
        refine e_iconst (v := 1) dX7_ticks_64 (by decide) ?_
        refine e_isub dX7_ticks_65 ?_
        refine mm_st (36 + k) hB dX7_ticks_66 (ai_add (ai_lit 36) rfl) (by first | assumption | omega) ?_
        refine e_aload_n dX7_ticks_67 rfl rfl ?_
        refine e_getr dX7_ticks_68 fl_7_7 hB.a0 rfl ?_
        refine e_bipush (v := 36) dX7_ticks_71 (by decide) ?_
        refine e_iload_n dX7_ticks_73 rfl rfl ?_
        refine e_iadd dX7_ticks_74 ?_
        refine mm_ld (36 + k) hB dX7_ticks_75 (ai_add (ai_lit 36) rfl) (by first | assumption | omega) ?_
        refine e_if_ne 145 dX7_ticks_76 (by decide) (fun h76 => ?_) (fun h76 => ?_)
        · refine e_iinc dX7_ticks_145 rfl (ai_inc _) (by decide) rfl ?_
          refine e_goto 13 dX7_ticks_148 (by decide) ?_
          have e : rTkS m1 k = upd (upd m1 (85 + r) (m1 (85 + r) + 1)) (36 + k) (upd m1 (85 + r) (m1 (85 + r) + 1) (36 + k) - 1) := by simp only [rTkS]; rw [if_pos h38, er, nI_clamp (by omega), if_neg h76]
          rw [e] at ih2
          exact ih2 _
        · refine e_aload_n dX7_ticks_79 rfl rfl ?_
          refine e_iload_n dX7_ticks_80 rfl rfl ?_
          refine e_cV0 dX7_ticks_81 ml_7_35 (c_X7_leaves hB (by omega)) hB.a0 rfl rfl (by decide) (Nat.le_of_ble_eq_true rfl) ⟨rfl, rfl⟩ (Nat.le_of_ble_eq_true rfl) (Nat.le_of_ble_eq_true rfl) ?_
          refine e_aload_n dX7_ticks_84 rfl rfl ?_
          refine e_iconst (v := 2) dX7_ticks_85 (by decide) ?_
          refine e_iload_n dX7_ticks_86 rfl rfl ?_
          refine e_iload_n dX7_ticks_87 rfl rfl ?_
          refine e_cV0 dX7_ticks_88 ml_7_58 (c_X7_logs hB (p := p) (by simp (disch := omega) only [rLeaves, upd_ne]; exact hp) hp4 _ _ _) hB.a0 rfl rfl (by decide) (Nat.le_of_ble_eq_true rfl) ⟨rfl, rfl⟩ (Nat.le_of_ble_eq_true rfl) (Nat.le_of_ble_eq_true rfl) ?_
          refine e_goto 145 dX7_ticks_91 (by decide) ?_
          refine e_iinc dX7_ticks_145 rfl (ai_inc _) (by decide) rfl ?_
          refine e_goto 13 dX7_ticks_148 (by decide) ?_
          have e : rTkS m1 k = rLogs (rLeaves (upd (upd m1 (85 + r) (m1 (85 + r) + 1)) (36 + k) (upd m1 (85 + r) (m1 (85 + r) + 1) (36 + k) - 1)) k) 2 (nI k) (m1 (12 + k)) := by
            simp only [rTkS]
            rw [if_pos h38, show (m1 (12 + k)).toNatClampNeg = r by rw [er, nI_clamp (by omega)], if_pos h76]
          rw [e] at ih2
          exact ih2 _
  refine e_aload_n dX7_ticks_0 rfl rfl ?_
  refine e_getr dX7_ticks_1 fl_7_7 hB.a0 rfl ?_
  refine e_bipush (v := 103) dX7_ticks_4 (by decide) ?_
  refine e_dup2 dX7_ticks_6 rfl rfl ?_
  refine mm_ld 103 hB dX7_ticks_7 (ai_lit 103) (by decide) ?_
  refine e_iconst (v := 1) dX7_ticks_8 (by decide) ?_
  refine e_iadd dX7_ticks_9 ?_
  refine mm_st 103 hB dX7_ticks_10 (ai_lit 103) (by decide) ?_
  refine e_iconst (v := 0) dX7_ticks_11 (by decide) ?_
  refine e_istore_n dX7_ticks_12 rfl (by decide) rfl ?_
  exact key 12 0 _ rfl
end C22

