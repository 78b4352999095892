/-! ===== the calls of a script; the reference's walk ===== -/
abbrev Rl (ρ : md_T) (x : Nat → Int32) : md_T := (ρ.1, ρ.2.1, ρ.2.2.1, ρ.2.2.2.1, ρ.2.2.2.2.1, ρ.2.2.2.2.2.1, ρ.2.2.2.2.2.2.1, ρ.2.2.2.2.2.2.2.1, x)
section C77
variable {S : List aiS} {M : Nat → Nat → Int32} {J : Nat → Int64} {ρ ρ' : md_T} {b : Nat} {κ : sc_T} {σ σ' : hs_T}
theorem c_X7_calls (hB : MS S b) {k : Nat} (hk : k < 100) {v : Int32} (hc : isC (rp ρ (4 * k))) (h114 : rp ρ (4 * k) = 114 → AM G_X7_request [.ref b, .int (rp ρ (4 * k + 1)), .int (rp ρ (4 * k + 2)), .int (rp ρ (4 * k + 3))] S (md_put b ρ M) J (some (.int v), S, md_put b ρ' M, J)) (h119 : rp ρ (4 * k) = 119 → AM G_X7_withdraw [.ref b, .int (rp ρ (4 * k + 1))] S (md_put b ρ M) J (some (.int v), S, md_put b ρ' M, J)) (h108 : rp ρ (4 * k) = 108 → AM G_X7_leave [.ref b, .int (rp ρ (4 * k + 1))] S (md_put b ρ M) J (some (.int v), S, md_put b ρ' M, J)) (h99 : rp ρ (4 * k) = 99 → AM G_X7_collapse [.ref b, .int (rp ρ (4 * k + 1))] S (md_put b ρ M) J (some (.int v), S, md_put b ρ' M, J)) (h116 : rp ρ (4 * k) = 116 → AM G_X7_pass [.ref b, .int (rp ρ (4 * k + 3))] S (md_put b ρ M) J (some (.int v), S, md_put b ρ' M, J)) : AM G_X7_calls [.ref b, .int (nI k)] S (md_put b ρ M) J (some (.int v), S, md_put b ρ' M, J) := by
  have b0 : 4 * k < 400 := by omega
  have b1 : 4 * k + 1 < 400 := by omega
  have b2 : 4 * k + 2 < 400 := by omega
  have b3 : 4 * k + 3 < 400 := by omega
  refine AM_gen (fun out ho => ?_)
  refine AM_of [.ref b, .int (nI k), .retAddr 0] (by decide) rfl (fun B => (Nat.le_of_ble_eq_true rfl)) ?_
  refine e_aload_n dX7_calls_0 rfl rfl ?_
  refine e_getr dX7_calls_1 fl_7_26 hB.a0 rfl ?_
  refine e_iconst (v := 4) dX7_calls_4 (by decide) ?_
  refine e_iload_n dX7_calls_5 rfl rfl ?_
  refine e_imul dX7_calls_6 ?_
  refine e_iconst (v := 1) dX7_calls_7 (by decide) ?_
  refine e_iadd dX7_calls_8 ?_
  refine rp_ld ((4 * k) + 1) hB dX7_calls_9 (ai_add (ai_mul (ai_lit 4) rfl) (ai_lit 1)) (by first | assumption | omega) ?_
  refine e_istore_n dX7_calls_10 rfl (by decide) rfl ?_
  refine e_aload_n dX7_calls_11 rfl rfl ?_
  refine e_getr dX7_calls_12 fl_7_26 hB.a0 rfl ?_
  refine e_iconst (v := 4) dX7_calls_15 (by decide) ?_
  refine e_iload_n dX7_calls_16 rfl rfl ?_
  refine e_imul dX7_calls_17 ?_
  refine rp_ld (4 * k) hB dX7_calls_18 (ai_mul (ai_lit 4) rfl) (by first | assumption | omega) ?_
  rcases hc with z | z | z | z | z
  · have h := h114 z
    rw [z]
    refine e_lookup 60 dX7_calls_19 (by decide) rfl (by decide) ?_
    refine e_aload_n dX7_calls_60 rfl rfl ?_
    refine e_iload_n dX7_calls_61 rfl rfl ?_
    refine e_aload_n dX7_calls_62 rfl rfl ?_
    refine e_getr dX7_calls_63 fl_7_26 hB.a0 rfl ?_
    refine e_iconst (v := 4) dX7_calls_66 (by decide) ?_
    refine e_iload_n dX7_calls_67 rfl rfl ?_
    refine e_imul dX7_calls_68 ?_
    refine e_iconst (v := 2) dX7_calls_69 (by decide) ?_
    refine e_iadd dX7_calls_70 ?_
    refine rp_ld ((4 * k) + 2) hB dX7_calls_71 (ai_add (ai_mul (ai_lit 4) rfl) (ai_lit 2)) (by first | assumption | omega) ?_
    refine e_aload_n dX7_calls_72 rfl rfl ?_
    refine e_getr dX7_calls_73 fl_7_26 hB.a0 rfl ?_
    refine e_iconst (v := 4) dX7_calls_76 (by decide) ?_
    refine e_iload_n dX7_calls_77 rfl rfl ?_
    refine e_imul dX7_calls_78 ?_
    refine e_iconst (v := 3) dX7_calls_79 (by decide) ?_
    refine e_iadd dX7_calls_80 ?_
    refine rp_ld ((4 * k) + 3) hB dX7_calls_81 (ai_add (ai_mul (ai_lit 4) rfl) (ai_lit 3)) (by first | assumption | omega) ?_
    refine e_cV1 dX7_calls_82 ml_7_149 h hB.a0 rfl rfl (by decide) (Nat.le_of_ble_eq_true rfl) ⟨rfl, rfl⟩ (Nat.le_of_ble_eq_true rfl) (Nat.le_of_ble_eq_true rfl) ?_
    exact e_iret dX7_calls_85 rfl ho (Nat.le_of_ble_eq_true rfl) (Nat.le_of_ble_eq_true rfl)
  · have h := h119 z
    rw [z]
    refine e_lookup 86 dX7_calls_19 (by decide) rfl (by decide) ?_
    refine e_aload_n dX7_calls_86 rfl rfl ?_
    refine e_iload_n dX7_calls_87 rfl rfl ?_
    refine e_cV1 dX7_calls_88 ml_7_153 h hB.a0 rfl rfl (by decide) (Nat.le_of_ble_eq_true rfl) ⟨rfl, rfl⟩ (Nat.le_of_ble_eq_true rfl) (Nat.le_of_ble_eq_true rfl) ?_
    exact e_iret dX7_calls_91 rfl ho (Nat.le_of_ble_eq_true rfl) (Nat.le_of_ble_eq_true rfl)
  · have h := h108 z
    rw [z]
    refine e_lookup 92 dX7_calls_19 (by decide) rfl (by decide) ?_
    refine e_aload_n dX7_calls_92 rfl rfl ?_
    refine e_iload_n dX7_calls_93 rfl rfl ?_
    refine e_cV1 dX7_calls_94 ml_7_156 h hB.a0 rfl rfl (by decide) (Nat.le_of_ble_eq_true rfl) ⟨rfl, rfl⟩ (Nat.le_of_ble_eq_true rfl) (Nat.le_of_ble_eq_true rfl) ?_
    exact e_iret dX7_calls_97 rfl ho (Nat.le_of_ble_eq_true rfl) (Nat.le_of_ble_eq_true rfl)
  · have h := h99 z
    rw [z]
    refine e_lookup 98 dX7_calls_19 (by decide) rfl (by decide) ?_
    refine e_aload_n dX7_calls_98 rfl rfl ?_
    refine e_iload_n dX7_calls_99 rfl rfl ?_
    refine e_cV1 dX7_calls_100 ml_7_159 h hB.a0 rfl rfl (by decide) (Nat.le_of_ble_eq_true rfl) ⟨rfl, rfl⟩ (Nat.le_of_ble_eq_true rfl) (Nat.le_of_ble_eq_true rfl) ?_
    exact e_iret dX7_calls_103 rfl ho (Nat.le_of_ble_eq_true rfl) (Nat.le_of_ble_eq_true rfl)
  · have h := h116 z
    rw [z]
    refine e_lookup 104 dX7_calls_19 (by decide) rfl (by decide) ?_
    refine e_aload_n dX7_calls_104 rfl rfl ?_
    refine e_aload_n dX7_calls_105 rfl rfl ?_
    refine e_getr dX7_calls_106 fl_7_26 hB.a0 rfl ?_
    refine e_iconst (v := 4) dX7_calls_109 (by decide) ?_
    refine e_iload_n dX7_calls_110 rfl rfl ?_
    refine e_imul dX7_calls_111 ?_
    refine e_iconst (v := 3) dX7_calls_112 (by decide) ?_
    refine e_iadd dX7_calls_113 ?_
    refine rp_ld ((4 * k) + 3) hB dX7_calls_114 (ai_add (ai_mul (ai_lit 4) rfl) (ai_lit 3)) (by first | assumption | omega) ?_
    refine e_cV1 dX7_calls_115 ml_7_162 h hB.a0 rfl rfl (by decide) (Nat.le_of_ble_eq_true rfl) ⟨rfl, rfl⟩ (Nat.le_of_ble_eq_true rfl) (Nat.le_of_ble_eq_true rfl) ?_
    exact e_iret dX7_calls_118 rfl ho (Nat.le_of_ble_eq_true rfl) (Nat.le_of_ble_eq_true rfl)
theorem c_X6_carryOut (hT : KS S) {k : Nat} (hk : k < 100) {v : Int32} (hc : isC (ck κ k)) (h114 : ck κ k = 114 → AM G_X6_request [.ref 0, .int (cm κ k), .int (cr κ k), .int (cn κ k)] S (hs_put 1 σ (sc_put 103 κ M)) J (some (.int v), S, hs_put 1 σ' (sc_put 103 κ M), J)) (h119 : ck κ k = 119 → AM G_X6_withdraw [.ref 0, .int (cm κ k)] S (hs_put 1 σ (sc_put 103 κ M)) J (some (.int v), S, hs_put 1 σ' (sc_put 103 κ M), J)) (h108 : ck κ k = 108 → AM G_X6_leave [.ref 0, .int (cm κ k)] S (hs_put 1 σ (sc_put 103 κ M)) J (some (.int v), S, hs_put 1 σ' (sc_put 103 κ M), J)) (h99 : ck κ k = 99 → AM G_X6_collapse [.ref 0, .int (cm κ k)] S (hs_put 1 σ (sc_put 103 κ M)) J (some (.int v), S, hs_put 1 σ' (sc_put 103 κ M), J)) (h116 : ck κ k = 116 → AM G_X6_pass [.ref 0, .int (cn κ k)] S (hs_put 1 σ (sc_put 103 κ M)) J (some (.int v), S, hs_put 1 σ' (sc_put 103 κ M), J)) : AM G_X6_carryOut [.ref 0, .int (nI k)] S (hs_put 1 σ (sc_put 103 κ M)) J (some (.int v), S, hs_put 1 σ' (sc_put 103 κ M), J) := by
  have hC := hT.script
  have hcm : hs_put 1 σ (sc_put 103 κ M) = sc_put 103 κ (hs_put 1 σ M) := hs_sc (by decide) _ _ _
  rw [hcm]
  refine AM_gen (fun out ho => ?_)
  refine AM_of [.ref 0, .int (nI k), .retAddr 0] (by decide) rfl (fun B => (Nat.le_of_ble_eq_true rfl)) ?_
  refine e_aload_n dX6_carryOut_0 rfl rfl ?_
  refine e_getr dX6_carryOut_1 fl_6_30 hT.a0 rfl ?_
  refine e_getr dX6_carryOut_4 fl_6_252 hC.a0 rfl ?_
  refine e_iload_n dX6_carryOut_7 rfl rfl ?_
  refine cm_ld k hC dX6_carryOut_8 rfl (by first | assumption | omega) ?_
  refine e_istore_n dX6_carryOut_9 rfl (by decide) rfl ?_
  refine e_aload_n dX6_carryOut_10 rfl rfl ?_
  refine e_getr dX6_carryOut_11 fl_6_30 hT.a0 rfl ?_
  refine e_getr dX6_carryOut_14 fl_6_254 hC.a0 rfl ?_
  refine e_iload_n dX6_carryOut_17 rfl rfl ?_
  refine ck_ld k hC dX6_carryOut_18 rfl (by first | assumption | omega) ?_
  rcases hc with z | z | z | z | z
  · have h := h114 z
    rw [hcm] at h
    rw [z]
    refine e_lookup 60 dX6_carryOut_19 (by decide) rfl (by decide) ?_
    refine e_aload_n dX6_carryOut_60 rfl rfl ?_
    refine e_iload_n dX6_carryOut_61 rfl rfl ?_
    refine e_aload_n dX6_carryOut_62 rfl rfl ?_
    refine e_getr dX6_carryOut_63 fl_6_30 hT.a0 rfl ?_
    refine e_getr dX6_carryOut_66 fl_6_257 hC.a0 rfl ?_
    refine e_iload_n dX6_carryOut_69 rfl rfl ?_
    refine cr_ld k hC dX6_carryOut_70 rfl (by first | assumption | omega) ?_
    refine e_aload_n dX6_carryOut_71 rfl rfl ?_
    refine e_getr dX6_carryOut_72 fl_6_30 hT.a0 rfl ?_
    refine e_getr dX6_carryOut_75 fl_6_259 hC.a0 rfl ?_
    refine e_iload_n dX6_carryOut_78 rfl rfl ?_
    refine cn_ld k hC dX6_carryOut_79 rfl (by first | assumption | omega) ?_
    refine e_cV1 dX6_carryOut_80 ml_6_262 h hT.a0 rfl rfl (by decide) (Nat.le_of_ble_eq_true rfl) ⟨rfl, rfl⟩ (Nat.le_of_ble_eq_true rfl) (Nat.le_of_ble_eq_true rfl) ?_
    exact e_iret dX6_carryOut_83 rfl ho (Nat.le_of_ble_eq_true rfl) (Nat.le_of_ble_eq_true rfl)
  · have h := h119 z
    rw [hcm] at h
    rw [z]
    refine e_lookup 84 dX6_carryOut_19 (by decide) rfl (by decide) ?_
    refine e_aload_n dX6_carryOut_84 rfl rfl ?_
    refine e_iload_n dX6_carryOut_85 rfl rfl ?_
    refine e_cV1 dX6_carryOut_86 ml_6_265 h hT.a0 rfl rfl (by decide) (Nat.le_of_ble_eq_true rfl) ⟨rfl, rfl⟩ (Nat.le_of_ble_eq_true rfl) (Nat.le_of_ble_eq_true rfl) ?_
    exact e_iret dX6_carryOut_89 rfl ho (Nat.le_of_ble_eq_true rfl) (Nat.le_of_ble_eq_true rfl)
  · have h := h108 z
    rw [hcm] at h
    rw [z]
    refine e_lookup 90 dX6_carryOut_19 (by decide) rfl (by decide) ?_
    refine e_aload_n dX6_carryOut_90 rfl rfl ?_
    refine e_iload_n dX6_carryOut_91 rfl rfl ?_
    refine e_cV1 dX6_carryOut_92 ml_6_268 h hT.a0 rfl rfl (by decide) (Nat.le_of_ble_eq_true rfl) ⟨rfl, rfl⟩ (Nat.le_of_ble_eq_true rfl) (Nat.le_of_ble_eq_true rfl) ?_
    exact e_iret dX6_carryOut_95 rfl ho (Nat.le_of_ble_eq_true rfl) (Nat.le_of_ble_eq_true rfl)
  · have h := h99 z
    rw [hcm] at h
    rw [z]
    refine e_lookup 96 dX6_carryOut_19 (by decide) rfl (by decide) ?_
    refine e_aload_n dX6_carryOut_96 rfl rfl ?_
    refine e_iload_n dX6_carryOut_97 rfl rfl ?_
    refine e_cV1 dX6_carryOut_98 ml_6_271 h hT.a0 rfl rfl (by decide) (Nat.le_of_ble_eq_true rfl) ⟨rfl, rfl⟩ (Nat.le_of_ble_eq_true rfl) (Nat.le_of_ble_eq_true rfl) ?_
    exact e_iret dX6_carryOut_101 rfl ho (Nat.le_of_ble_eq_true rfl) (Nat.le_of_ble_eq_true rfl)
  · have h := h116 z
    rw [hcm] at h
    rw [z]
    refine e_lookup 102 dX6_carryOut_19 (by decide) rfl (by decide) ?_
    refine e_aload_n dX6_carryOut_102 rfl rfl ?_
    refine e_aload_n dX6_carryOut_103 rfl rfl ?_
    refine e_getr dX6_carryOut_104 fl_6_30 hT.a0 rfl ?_
    refine e_getr dX6_carryOut_107 fl_6_259 hC.a0 rfl ?_
    refine e_iload_n dX6_carryOut_110 rfl rfl ?_
    refine cn_ld k hC dX6_carryOut_111 rfl (by first | assumption | omega) ?_
    refine e_cV1 dX6_carryOut_112 ml_6_274 h hT.a0 rfl rfl (by decide) (Nat.le_of_ble_eq_true rfl) ⟨rfl, rfl⟩ (Nat.le_of_ble_eq_true rfl) (Nat.le_of_ble_eq_true rfl) ?_
    exact e_iret dX6_carryOut_115 rfl ho (Nat.le_of_ble_eq_true rfl) (Nat.le_of_ble_eq_true rfl)
variable {out : aiR} {m : Nat → Int32}
/-- one round of the reference's walk that calls nothing -/
theorem run_it (hB : MS S b) {s l k u : Nat} {L : Nat → Int32} {good : Int32} (h9 : rf ρ 9 = nI s) (hr : RP (rp ρ) s (L, l, k, u)) {x5 x6 x7 : Value} (hnext : ∀ y5 y6 y7 : Value, AW G_X7_run out 0 0 30 [.ref b, .int (nI (rIt (rp ρ) s (L, l, k, u)).2.2.2), .int good, .int (nI (rIt (rp ρ) s (L, l, k, u)).2.1), .int (nI (rIt (rp ρ) s (L, l, k, u)).2.2.1), y5, y6, y7] [] S (md_put b (Rm (Rl ρ (rIt (rp ρ) s (L, l, k, u)).1) m) M) J) : AW G_X7_run out 0 0 30 [.ref b, .int (nI u), .int good, .int (nI l), .int (nI k), x5, x6, x7] [] S (md_put b (Rm (Rl ρ L) m) M) J := by
  obtain ⟨r1, r2, r3, r4, r5, r6⟩ := hr
  have r1 : k < s := r1
  have r3 : u ≤ 200 := r3
  have r4 : l ≤ 4 := r4
  have b0 : 4 * k < 400 := by omega
  have b1 : 4 * k + 1 < 400 := by omega
  have hl5 : l < 5 := by omega
  have h9' : rf (Rm (Rl ρ L) m) 9 = nI s := h9
  generalize hc : rp ρ (4 * k) = c
  have r5' : c = 41 → 1 ≤ l ∧ ∃ o, o < 100 ∧ rp ρ (4 * k + 1) = nI o := by
    rw [← hc]
    exact r5
  have r6' : c = 40 ∨ c = 41 ∨ u = 200 := by
    rw [← hc]
    exact r6
  have eI : rIt (rp ρ) s (L, l, k, u) = if (¬ c = 41 ∨ 1 < L (l - 1)) ∧ u = 200 then (L, l, s, u) else if c = 40 then (upd L l (rp ρ (4 * k + 1)), l + 1, k + 1, u + 1) else if 1 < L (l - 1) then (upd L (l - 1) (L (l - 1) - 1), l, (rp ρ (4 * k + 1)).toNatClampNeg + 1, u + 1) else (L, l - 1, k + 1, u) := by
    rw [← hc]
    rfl
  rw [eI] at hnext
  have t83 : ∀ g : Bool, (g = true ↔ c = 41 ∧ 1 < L (l - 1)) → ∀ y7 : Value, AW G_X7_run out 0 0 83 [.ref b, .int (nI u), .int good, .int (nI l), .int (nI k), .int c, .int (bI g), y7] [] S (md_put b (Rm (Rl ρ L) m) M) J := by
    intro g hg y7
    have t123 : ¬ ((¬ c = 41 ∨ 1 < L (l - 1)) ∧ u = 200) → ∀ y : Value, AW G_X7_run out 0 0 123 [.ref b, .int (nI u), .int good, .int (nI l), .int (nI k), .int c, .int (bI g), y] [] S (md_put b (Rm (Rl ρ L) m) M) J := by
      intro hno y
      rw [if_neg hno] at hnext
      refine e_iload dX7_run_123 rfl ?_
      refine e_bipush (v := 40) dX7_run_125 (by decide) ?_
      refine e_icmp_ne 159 dX7_run_127 (by decide) (fun h127 => ?_) (fun h127 => ?_)
      · rw [if_neg h127] at hnext
        have hc41 : c = 41 := by
          rcases r6' with z | z | z
          · exact absurd z h127
          · exact z
          · exact Decidable.byContradiction (fun w => hno ⟨Or.inl w, z⟩)
        obtain ⟨hl1, o, ho1, ho2⟩ := r5' hc41
        have hdec : nI l - 1 = nI (l - 1) := nI_sb (a := l) (b := 1) hl1
        have hl15 : l - 1 < 5 := by omega
        refine e_iload dX7_run_159 rfl ?_
        cases g with
        | false =>
          have hL : ¬ 1 < L (l - 1) := fun w => Bool.noConfusion (hg.mpr ⟨hc41, w⟩)
          rw [if_neg hL] at hnext
          refine e_if_eq 197 dX7_run_161 (by decide) (fun h161 => ?_) (fun h161 => ?_)
          · refine e_iload dX7_run_197 rfl ?_
            refine e_bipush (v := 41) dX7_run_199 (by decide) ?_
            refine e_icmp_ne 213 dX7_run_201 (by decide) (fun h201 => ?_) (fun h201 => ?_)
            · exact absurd hc41 h201
            · have hdec2 : nI l + Int32.ofInt (-1) = nI (l - 1) := by rw [← hdec, Int32.sub_eq_add_neg]; rfl
              refine e_iinc (v := nI (l - 1)) dX7_run_204 rfl hdec2 (by decide) rfl ?_
              refine e_iinc dX7_run_207 rfl (ai_inc _) (by decide) rfl ?_
              refine e_goto 236 dX7_run_210 (by decide) ?_
              refine e_goto 30 dX7_run_236 (by decide) ?_
              exact hnext _ _ _
          · exact absurd rfl h161
        | true =>
          have hL : 1 < L (l - 1) := (hg.mp rfl).2
          rw [if_pos hL, ho2, nI_clamp (by omega)] at hnext
          refine e_if_eq 197 dX7_run_161 (by decide) (fun h161 => ?_) (fun h161 => ?_)
          · exact absurd h161 (by decide)
          · refine e_aload_n dX7_run_164 rfl rfl ?_
            refine e_getr dX7_run_165 fl_7_32 hB.a0 rfl ?_
            refine e_iload_n dX7_run_168 rfl rfl ?_
            refine e_iconst (v := 1) dX7_run_169 (by decide) ?_
            refine e_isub dX7_run_170 ?_
            refine e_as (nI ((l - 1))) hdec ?_
            refine e_dup2 dX7_run_171 rfl rfl ?_
            refine rl_ld ((l - 1)) hB dX7_run_172 rfl (by first | assumption | omega) ?_
            refine e_iconst (v := 1) dX7_run_173 (by decide) ?_
            refine e_isub dX7_run_174 ?_
            refine rl_st ((l - 1)) hB dX7_run_175 rfl (by first | assumption | omega) ?_
            show AW G_X7_run out 0 0 176 [.ref b, .int (nI u), .int good, .int (nI l), .int (nI k), .int c, .int (bI true), y] [] S (md_put b (Rm (Rl ρ (upd L (l - 1) (L (l - 1) - 1))) m) M) J
            refine e_iinc dX7_run_176 rfl (ai_inc _) (by decide) rfl ?_
            refine e_aload_n dX7_run_179 rfl rfl ?_
            refine e_getr dX7_run_180 fl_7_26 hB.a0 rfl ?_
            refine e_iconst (v := 4) dX7_run_183 (by decide) ?_
            refine e_iload dX7_run_184 rfl ?_
            refine e_imul dX7_run_186 ?_
            refine e_iconst (v := 1) dX7_run_187 (by decide) ?_
            refine e_iadd dX7_run_188 ?_
            refine rp_ld ((4 * k) + 1) hB dX7_run_189 (ai_add (ai_mul (ai_lit 4) rfl) (ai_lit 1)) (by first | assumption | omega) ?_
            refine e_as (nI o) ho2 ?_
            refine e_iconst (v := 1) dX7_run_190 (by decide) ?_
            refine e_iadd dX7_run_191 ?_
            refine e_istoreE (nI (o + 1)) (ai_add rfl (ai_lit 1)) dX7_run_192 (by decide) rfl ?_
            refine e_goto 236 dX7_run_194 (by decide) ?_
            refine e_goto 30 dX7_run_236 (by decide) ?_
            exact hnext _ _ _
      · rw [if_pos h127] at hnext
        refine e_aload_n dX7_run_130 rfl rfl ?_
        refine e_getr dX7_run_131 fl_7_32 hB.a0 rfl ?_
        refine e_iload_n dX7_run_134 rfl rfl ?_
        refine e_aload_n dX7_run_135 rfl rfl ?_
        refine e_getr dX7_run_136 fl_7_26 hB.a0 rfl ?_
        refine e_iconst (v := 4) dX7_run_139 (by decide) ?_
        refine e_iload dX7_run_140 rfl ?_
        refine e_imul dX7_run_142 ?_
        refine e_iconst (v := 1) dX7_run_143 (by decide) ?_
        refine e_iadd dX7_run_144 ?_
        refine rp_ld ((4 * k) + 1) hB dX7_run_145 (ai_add (ai_mul (ai_lit 4) rfl) (ai_lit 1)) (by first | assumption | omega) ?_
        refine rl_st l hB dX7_run_146 rfl (by first | assumption | omega) ?_
        show AW G_X7_run out 0 0 147 [.ref b, .int (nI u), .int good, .int (nI l), .int (nI k), .int c, .int (bI g), y] [] S (md_put b (Rm (Rl ρ (upd L l (rp ρ (4 * k + 1)))) m) M) J
        refine e_iinc dX7_run_147 rfl (ai_inc _) (by decide) rfl ?_
        refine e_iinc dX7_run_150 rfl (ai_inc _) (by decide) rfl ?_
        refine e_iinc dX7_run_153 rfl (ai_inc _) (by decide) rfl ?_
        refine e_goto 236 dX7_run_156 (by decide) ?_
        refine e_goto 30 dX7_run_236 (by decide) ?_
        exact hnext _ _ _
    have t102 : ∀ w : Bool, (w = true ↔ (¬ c = 41 ∨ 1 < L (l - 1))) → AW G_X7_run out 0 0 102 [.ref b, .int (nI u), .int good, .int (nI l), .int (nI k), .int c, .int (bI g), .int (bI w)] [] S (md_put b (Rm (Rl ρ L) m) M) J := by
      intro w hw
      refine e_iload dX7_run_102 rfl ?_
      refine e_if_eq 123 dX7_run_104 (by decide) (fun h104 => ?_) (fun h104 => ?_)
      · refine t123 (fun z => ?_) _
        rw [hw.mpr z.1] at h104
        exact absurd h104 (by decide)
      · have hw1 : w = true := bI1 h104
        refine e_iload_n dX7_run_107 rfl rfl ?_
        refine e_sipush (v := 200) dX7_run_108 (by decide) ?_
        refine e_icmp_ne 123 dX7_run_111 (by decide) (fun h111 => ?_) (fun h111 => ?_)
        · refine t123 (fun z => ?_) _
          rw [z.2] at h111
          exact h111 rfl
        · have hu : u = 200 := (nI_eq (a := u) (b := 200) (by omega) (by decide)).mp h111
          rw [if_pos ⟨hw.mp hw1, hu⟩] at hnext
          refine e_aload_n dX7_run_114 rfl rfl ?_
          refine rf_get hB dX7_run_115 fl_7_128 (by decide) ?_
          refine e_as (nI s) h9' ?_
          refine e_istore dX7_run_118 (by decide) rfl ?_
          refine e_goto 236 dX7_run_120 (by decide) ?_
          refine e_goto 30 dX7_run_236 (by decide) ?_
          exact hnext _ _ _
    refine e_iload dX7_run_83 rfl ?_
    refine e_bipush (v := 41) dX7_run_85 (by decide) ?_
    refine e_icmp_ne 95 dX7_run_87 (by decide) (fun h87 => ?_) (fun h87 => ?_)
    · refine e_iconst (v := 1) dX7_run_95 (by decide) ?_
      refine e_goto 100 dX7_run_96 (by decide) ?_
      refine e_istore dX7_run_100 (by decide) rfl ?_
      exact t102 true ⟨fun _ => Or.inl h87, fun _ => rfl⟩
    · refine e_iload dX7_run_90 rfl ?_
      cases g with
      | false =>
        have hL : ¬ 1 < L (l - 1) := fun w => Bool.noConfusion (hg.mpr ⟨h87, w⟩)
        refine e_if_eq 99 dX7_run_92 (by decide) (fun h92 => ?_) (fun h92 => ?_)
        · refine e_iconst (v := 0) dX7_run_99 (by decide) ?_
          refine e_istore dX7_run_100 (by decide) rfl ?_
          exact t102 false ⟨fun z => Bool.noConfusion z, fun z => z.elim (fun w => absurd h87 w) (fun w => absurd w hL)⟩
        · exact absurd rfl h92
      | true =>
        refine e_if_eq 99 dX7_run_92 (by decide) (fun h92 => ?_) (fun h92 => ?_)
        · exact absurd h92 (by decide)
        · refine e_iconst (v := 1) dX7_run_95 (by decide) ?_
          refine e_goto 100 dX7_run_96 (by decide) ?_
          refine e_istore dX7_run_100 (by decide) rfl ?_
          exact t102 true ⟨fun _ => Or.inr (hg.mp rfl).2, fun _ => rfl⟩
  refine e_iload dX7_run_30 rfl ?_
  refine e_aload_n dX7_run_32 rfl rfl ?_
  refine rf_get hB dX7_run_33 fl_7_128 (by decide) ?_
  refine e_ge_f (i := k) (N := s) 239 dX7_run_36 (by decide) rfl h9' (by omega) (by omega) ?_
  refine e_iload_n dX7_run_39 rfl rfl ?_
  refine e_sipush (v := 200) dX7_run_40 (by decide) ?_
  refine e_icmp_gt 239 dX7_run_43 (by decide) (fun h43 => ?_) (fun h43 => ?_)
  · exact absurd h43 (nI_nlt (a := 200) r3 (by decide))
  · refine e_aload_n dX7_run_46 rfl rfl ?_
    refine e_getr dX7_run_47 fl_7_26 hB.a0 rfl ?_
    refine e_iconst (v := 4) dX7_run_50 (by decide) ?_
    refine e_iload dX7_run_51 rfl ?_
    refine e_imul dX7_run_53 ?_
    refine rp_ld (4 * k) hB dX7_run_54 (ai_mul (ai_lit 4) rfl) (by first | assumption | omega) ?_
    rw [show rp (Rm (Rl ρ L) m) (4 * k) = c from hc]
    refine e_istore dX7_run_55 (by decide) rfl ?_
    refine e_iload dX7_run_57 rfl ?_
    refine e_bipush (v := 41) dX7_run_59 (by decide) ?_
    by_cases c41 : c = 41
    · obtain ⟨hl1, o, ho1, ho2⟩ := r5' c41
      have hdec : nI l - 1 = nI (l - 1) := nI_sb (a := l) (b := 1) hl1
      have hl15 : l - 1 < 5 := by omega
      refine e_icmp_ne 80 dX7_run_61 (by decide) (fun h61 => ?_) (fun h61 => ?_)
      · exact absurd c41 h61
      · refine e_aload_n dX7_run_64 rfl rfl ?_
        refine e_getr dX7_run_65 fl_7_32 hB.a0 rfl ?_
        refine e_iload_n dX7_run_68 rfl rfl ?_
        refine e_iconst (v := 1) dX7_run_69 (by decide) ?_
        refine e_isub dX7_run_70 ?_
        refine e_as (nI ((l - 1))) hdec ?_
        refine rl_ld ((l - 1)) hB dX7_run_71 rfl (by first | assumption | omega) ?_
        refine e_iconst (v := 1) dX7_run_72 (by decide) ?_
        refine e_icmp_le 80 dX7_run_73 (by decide) (fun h73 => ?_) (fun h73 => ?_)
        · refine e_iconst (v := 0) dX7_run_80 (by decide) ?_
          refine e_istore dX7_run_81 (by decide) rfl ?_
          exact t83 false ⟨fun z => Bool.noConfusion z, fun z => absurd z.2 (Int32.not_lt.mpr h73)⟩ _
        · refine e_iconst (v := 1) dX7_run_76 (by decide) ?_
          refine e_goto 81 dX7_run_77 (by decide) ?_
          refine e_istore dX7_run_81 (by decide) rfl ?_
          exact t83 true ⟨fun _ => ⟨c41, Int32.not_le.mp h73⟩, fun _ => rfl⟩ _
    · refine e_icmp_ne 80 dX7_run_61 (by decide) (fun h61 => ?_) (fun h61 => ?_)
      · refine e_iconst (v := 0) dX7_run_80 (by decide) ?_
        refine e_istore dX7_run_81 (by decide) rfl ?_
        exact t83 false ⟨fun z => Bool.noConfusion z, fun z => absurd z.1 c41⟩ _
      · exact absurd h61 c41
theorem run_rch (hB : MS S b) {s : Nat} {good : Int32} (h9 : rf ρ 9 = nI s) : ∀ (n : Nat) {q q' : rQ} {x5 x6 x7 : Value}, Rch (rp ρ) s n q q' → (∀ y5 y6 y7 : Value, AW G_X7_run out 0 0 30 [.ref b, .int (nI q'.2.2.2), .int good, .int (nI q'.2.1), .int (nI q'.2.2.1), y5, y6, y7] [] S (md_put b (Rm (Rl ρ q'.1) m) M) J) → AW G_X7_run out 0 0 30 [.ref b, .int (nI q.2.2.2), .int good, .int (nI q.2.1), .int (nI q.2.2.1), x5, x6, x7] [] S (md_put b (Rm (Rl ρ q.1) m) M) J
  | 0, q, q', x5, x6, x7, h, hn => by
    have e : q' = q := h
    subst e
    exact hn _ _ _
  | n + 1, q, q', x5, x6, x7, h, hn => by
    obtain ⟨L, l, k, u⟩ := q
    exact run_it hB h9 h.1 (fun y5 y6 y7 => run_rch hB h9 n h.2 hn)
/-- a call -/
theorem run_call (hB : MS S b) {s l k u : Nat} {L : Nat → Int32} {good v : Int32} {m' : Nat → Int32} (h9 : rf ρ 9 = nI s) (hk : k < s) (hs : s ≤ 100) (hu : u < 200) (hl4 : l ≤ 4) (hc : isC (rp ρ (4 * k))) (hcall : AM G_X7_calls [.ref b, .int (nI k)] S (md_put b (Rm (Rl ρ L) m) M) J (some (.int v), S, md_put b (Rm (Rl ρ L) m') M, J)) {x5 x6 x7 : Value} (hnext : ∀ y5 y6 y7 : Value, AW G_X7_run out 0 0 30 [.ref b, .int (nI (u + 1)), .int (good + if v < 0 then 0 else 1), .int (nI l), .int (nI (k + 1)), y5, y6, y7] [] S (md_put b (Rm (Rl ρ L) m') M) J) : AW G_X7_run out 0 0 30 [.ref b, .int (nI u), .int good, .int (nI l), .int (nI k), x5, x6, x7] [] S (md_put b (Rm (Rl ρ L) m) M) J := by
  obtain ⟨n40, n41, -⟩ := isC_no hc
  have b0 : 4 * k < 400 := by omega
  have h9' : rf (Rm (Rl ρ L) m) 9 = nI s := h9
  revert n40 n41
  generalize hce : rp ρ (4 * k) = c
  intro n40 n41
  have hu2 : ¬ nI u = 200 := fun z => by
    have := (nI_eq (a := u) (b := 200) (by omega) (by decide)).mp z
    omega
  have t236 : ∀ (w : Int32) (y5 y6 y7 : Value), w = (if v < 0 then 0 else 1) → AW G_X7_run out 0 0 228 [.ref b, .int (nI u), .int good, .int (nI l), .int (nI k), y5, y6, y7] [.int w, .int good] S (md_put b (Rm (Rl ρ L) m') M) J := by
    intro w y5 y6 y7 hw
    rw [← hw] at hnext
    refine e_iadd dX7_run_228 ?_
    refine e_istore_n dX7_run_229 rfl (by decide) rfl ?_
    refine e_iinc dX7_run_230 rfl (ai_inc _) (by decide) rfl ?_
    refine e_iinc dX7_run_233 rfl (ai_inc _) (by decide) rfl ?_
    refine e_goto 30 dX7_run_236 (by decide) ?_
    exact hnext _ _ _
  refine e_iload dX7_run_30 rfl ?_
  refine e_aload_n dX7_run_32 rfl rfl ?_
  refine rf_get hB dX7_run_33 fl_7_128 (by decide) ?_
  refine e_ge_f (i := k) (N := s) 239 dX7_run_36 (by decide) rfl h9' (by omega) (by omega) ?_
  refine e_iload_n dX7_run_39 rfl rfl ?_
  refine e_sipush (v := 200) dX7_run_40 (by decide) ?_
  refine e_icmp_gt 239 dX7_run_43 (by decide) (fun h43 => ?_) (fun h43 => ?_)
  · exact absurd h43 (nI_nlt (a := 200) (by omega) (by decide))
  · refine e_aload_n dX7_run_46 rfl rfl ?_
    refine e_getr dX7_run_47 fl_7_26 hB.a0 rfl ?_
    refine e_iconst (v := 4) dX7_run_50 (by decide) ?_
    refine e_iload dX7_run_51 rfl ?_
    refine e_imul dX7_run_53 ?_
    refine rp_ld (4 * k) hB dX7_run_54 (ai_mul (ai_lit 4) rfl) (by first | assumption | omega) ?_
    rw [show rp (Rm (Rl ρ L) m) (4 * k) = c from hce]
    refine e_istore dX7_run_55 (by decide) rfl ?_
    refine e_iload dX7_run_57 rfl ?_
    refine e_bipush (v := 41) dX7_run_59 (by decide) ?_
    refine e_icmp_ne 80 dX7_run_61 (by decide) (fun h61 => ?_) (fun h61 => ?_)
    · refine e_iconst (v := 0) dX7_run_80 (by decide) ?_
      refine e_istore dX7_run_81 (by decide) rfl ?_
      refine e_iload dX7_run_83 rfl ?_
      refine e_bipush (v := 41) dX7_run_85 (by decide) ?_
      refine e_icmp_ne 95 dX7_run_87 (by decide) (fun h87 => ?_) (fun h87 => ?_)
      · refine e_iconst (v := 1) dX7_run_95 (by decide) ?_
        refine e_goto 100 dX7_run_96 (by decide) ?_
        refine e_istore dX7_run_100 (by decide) rfl ?_
        refine e_iload dX7_run_102 rfl ?_
        refine e_if_eq 123 dX7_run_104 (by decide) (fun h104 => ?_) (fun h104 => ?_)
        · exact absurd h104 (by decide)
        · refine e_iload_n dX7_run_107 rfl rfl ?_
          refine e_sipush (v := 200) dX7_run_108 (by decide) ?_
          refine e_icmp_ne 123 dX7_run_111 (by decide) (fun h111 => ?_) (fun h111 => ?_)
          · refine e_iload dX7_run_123 rfl ?_
            refine e_bipush (v := 40) dX7_run_125 (by decide) ?_
            refine e_icmp_ne 159 dX7_run_127 (by decide) (fun h127 => ?_) (fun h127 => ?_)
            · refine e_iload dX7_run_159 rfl ?_
              refine e_if_eq 197 dX7_run_161 (by decide) (fun h161 => ?_) (fun h161 => ?_)
              · refine e_iload dX7_run_197 rfl ?_
                refine e_bipush (v := 41) dX7_run_199 (by decide) ?_
                refine e_icmp_ne 213 dX7_run_201 (by decide) (fun h201 => ?_) (fun h201 => ?_)
                · refine e_iload_n dX7_run_213 rfl rfl ?_
                  refine e_aload_n dX7_run_214 rfl rfl ?_
                  refine e_iload dX7_run_215 rfl ?_
                  refine e_cV1 dX7_run_217 ml_7_168 hcall hB.a0 rfl rfl (by decide) (Nat.le_of_ble_eq_true rfl) ⟨rfl, rfl⟩ (Nat.le_of_ble_eq_true rfl) (Nat.le_of_ble_eq_true rfl) ?_
                  refine e_if_lt 227 dX7_run_220 (by decide) (fun h220 => ?_) (fun h220 => ?_)
                  · refine e_iconst (v := 0) dX7_run_227 (by decide) ?_
                    exact t236 0 _ _ _ (by rw [if_pos h220])
                  · refine e_iconst (v := 1) dX7_run_223 (by decide) ?_
                    refine e_goto 228 dX7_run_224 (by decide) ?_
                    exact t236 1 _ _ _ (by rw [if_neg h220])
                · exact absurd h201 n41
              · exact absurd rfl h161
            · exact absurd h127 n40
          · exact absurd h111 hu2
      · exact absurd h87 n41
    · exact absurd h61 n41
theorem run_end (hB : MS S b) {s l u : Nat} {L : Nat → Int32} {good : Int32} (h9 : rf ρ 9 = nI s) (hs : s ≤ 100) (ho : out = (some (.int good), S, md_put b (Rm (Rl ρ L) (upd m 110 (nI u))) M, J)) {x5 x6 x7 : Value} : AW G_X7_run out 0 0 30 [.ref b, .int (nI u), .int good, .int (nI l), .int (nI s), x5, x6, x7] [] S (md_put b (Rm (Rl ρ L) m) M) J := by
  have h9' : rf (Rm (Rl ρ L) m) 9 = nI s := h9
  refine e_iload dX7_run_30 rfl ?_
  refine e_aload_n dX7_run_32 rfl rfl ?_
  refine rf_get hB dX7_run_33 fl_7_128 (by decide) ?_
  refine e_ge_t (i := s) (N := s) 239 dX7_run_36 (by decide) rfl h9' (by omega) (by omega) ?_
  refine e_aload_n dX7_run_239 rfl rfl ?_
  refine e_getr dX7_run_240 fl_7_7 hB.a0 rfl ?_
  refine e_bipush (v := 110) dX7_run_243 (by decide) ?_
  refine e_iload_n dX7_run_245 rfl rfl ?_
  refine mm_st 110 hB dX7_run_246 (ai_lit 110) (by decide) ?_
  refine e_iload_n dX7_run_247 rfl rfl ?_
  exact e_iret dX7_run_248 rfl ho (Nat.le_of_ble_eq_true rfl) (Nat.le_of_ble_eq_true rfl)
end C77

