/-! ===== acting: all rounds; the method ===== -/
theorem Rel.acts {E t : Nat} : ∀ (N F : Nat) {σ : hs_T} {m : Nat → Int32}, Rel F E t σ m → hLn σ ≤ N → F + 2 * N + 2 ≤ 1000000000 → ∃ m', rActs (N + 2) m = some m' ∧ Rel (F + 2 * N + 1) E t (hAct N σ) m' ∧ (rOnce m').2 = false
  | 0, F, σ, m, h, hl, hF => by
    rcases h.once (by omega) with ⟨a, -, -⟩ | ⟨-, b, -⟩ | ⟨-, k, -, -, -, -, b⟩
    · exact ⟨m, by rw [rActs_step, if_neg (by rw [a]; decide)], h.more, a⟩
    · omega
    · omega
  | N + 1, F, σ, m, h, hl, hF => by
    rcases h.once (by omega) with ⟨a, b, c⟩ | ⟨a, -, b, c, d⟩ | ⟨a, k, hk, b, -, c, d⟩
    · refine ⟨m, by rw [rActs_step, if_neg (by rw [a]; decide)], ?_, a⟩
      rw [hAct, b, if_pos c]
      exact h.more
    · refine ⟨(rOnce m).1, by rw [rActs_step, if_pos a, rActs_step, if_neg (by rw [b]; decide)], ?_, b⟩
      rw [hAct, if_pos c]
      exact d.more
    · obtain ⟨m', h1, h2, h3⟩ := Rel.acts N (F + 2) c (by omega) (by omega)
      refine ⟨m', by rw [rActs_step, if_pos a]; exact h1, ?_, h3⟩
      rw [hAct, if_neg (by rw [b]; exact nI_ne_m1 (by omega)), b, nI_clamp (by omega)]
      exact h2.more
theorem HW_of {t c : Nat} {σ : hs_T} {m : Nat → Int32} (hw : RW m) (hM : RMem t c σ m) (hL : RLine σ m) : HW σ (hLn σ) (hPl σ) := by
  refine ⟨hL.1, hL.2.1, fun i hi => ?_⟩
  obtain ⟨a, b, d⟩ := hL.2.2.1 i hi
  obtain ⟨r, hr1, hr2⟩ := (hw.1 _ a).resolve_left (by rw [d]; decide)
  exact ⟨a, b, r, hr1, by rw [(hM _ a).1.2.1]; exact hr2⟩
/-- what the class's methods ask of a house -/
theorem Rel.house {F E t : Nat} {σ : hs_T} {m : Nat → Int32} (h : Rel F E t σ m) : HW σ (hLn σ) (hPl σ) ∧ (∃ e, e ≤ F ∧ F ≤ 1000000000 ∧ he σ 1 = nI e) ∧ (hf σ 8 = -1 ∨ ∃ u, u < 5 ∧ hf σ 8 = nI u) ∧ ∀ k, k < 12 → hm σ k 0 = m k ∧ hm σ k 1 = m (12 + k) := by
  obtain ⟨hw, e, c, hN, hM, hR, hSt, hU, hL, hG⟩ := h
  refine ⟨HW_of hw hM hL, ⟨e, hN.2.2.2.2.2.1, hN.2.2.2.2.2.2.1, hN.2.2.2.1⟩, ?_, fun k hk => ⟨(hM k hk).1.1, (hM k hk).1.2.1⟩⟩
  rw [hU.1]
  exact rInUse_is hw
theorem RelU.house {F E t u : Nat} {σ : hs_T} {m : Nat → Int32} (h : RelU F E t u σ m) : HW σ (hLn σ) (hPl σ) ∧ (∃ e, e ≤ F ∧ F ≤ 1000000000 ∧ he σ 1 = nI e) ∧ (hf σ 8 = -1 ∨ ∃ u, u < 5 ∧ hf σ 8 = nI u) ∧ ∀ k, k < 12 → hm σ k 0 = m k ∧ hm σ k 1 = m (12 + k) := by
  obtain ⟨hw, e, c, hN, hM, hR, hSt, hU, hL, hG⟩ := h
  exact ⟨HW_of hw hM hL, ⟨e, hN.2.2.2.2.2.1, hN.2.2.2.2.2.2.1, hN.2.2.2.1⟩, Or.inr ⟨u, hU.1, hU.2.1⟩, fun k hk => ⟨(hM k hk).1.1, (hM k hk).1.2.1⟩⟩
/-- the house behind the first half of a round -/
theorem Rel.half {F E t : Nat} {σ : hs_T} {m : Nat → Int32} (h : Rel F E t σ m) (hF : F + 2 ≤ 1000000000) : ∃ m1, (Rel (F + 1) E t (hA1 σ) m1 ∨ ∃ u, RelU (F + 1) E t u (hA1 σ) m1) ∧ ∀ k, k < 12 → m1 k = m k ∧ m1 (12 + k) = m (12 + k) := by
  have h0 := h
  obtain ⟨hw, e, c, hN, hM, hR, hSt, hU, hL, hG⟩ := h
  have hnx := hNext_line hw hN hM hR hSt hL
  by_cases hu : rInUse m = -1
  · have h8 : hf σ 8 = -1 := by rw [hU.1, hu]
    by_cases hn : rNext m = -1
    · exact ⟨m, Or.inl (by rw [hA1, if_pos h8, hnx, if_pos hn]; exact h0.more), fun k hk => ⟨rfl, rfl⟩⟩
    · obtain ⟨r, hr5, hre, hwr⟩ := (rNext_is hw).resolve_left hn
      refine ⟨rOpn m r, Or.inr ⟨r, ?_⟩, fun k hk => ⟨rOpn_lo m hr5 (by omega), rOpn_lo m hr5 (by omega)⟩⟩
      rw [hA1, if_pos h8, hnx, if_neg hn, hre, nI_clamp (by omega)]
      exact h0.opn (by omega) hu hr5
  · have h8 : ¬ hf σ 8 = -1 := by rw [hU.1]; exact hu
    by_cases hc : ¬ hFd σ = -1 ∧ hTo σ = true
    · refine ⟨_, Or.inl (by rw [hA1, if_neg h8, if_pos hc]; exact h0.close (by omega) hu), fun k hk => ⟨?_, ?_⟩⟩
      · rw [rLogs_lo _ _ _ _ (by omega), upd_ne _ _ (by omega)]
      · rw [rLogs_lo _ _ _ _ (by omega), upd_ne _ _ (by omega)]
    · exact ⟨m, Or.inl (by rw [hA1, if_neg h8, if_neg hc]; exact h0.more), fun k hk => ⟨rfl, rfl⟩⟩
section C47
variable {S : List aiS} {M : Nat → Nat → Int32} {J : Nat → Int64} {h : Nat}
theorem c_X0_act (hS : HS S h) {F E t : Nat} {σ : hs_T} {m : Nat → Int32} (hR : Rel F E t σ m) (hF : F + 30 ≤ 1000000000) : AM G_X0_act [.ref h] S (hs_put h σ M) J (none, S, hs_put h (hAct 12 σ) M, J) := by
  refine AM_gen (fun out ho => ?_)
  refine AM_of [.ref h, .retAddr 0, .retAddr 0] (by decide) rfl (fun B => (Nat.le_of_ble_eq_true rfl)) ?_
  have key : ∀ (d i F : Nat) (σ : hs_T) (m : Nat → Int32) (x2 : Value), i + d = 12 → Rel F E t σ m → F + 2 * d + 2 ≤ 1000000000 → out = (none, S, hs_put h (hAct d σ) M, J) → AW G_X0_act out 0 0 2 [.ref h, .int (nI i), x2] [] S (hs_put h σ M) J := by
    intro d
    induction d with
    | zero =>
      intro i F σ m x2 hi hR hF ho
      have hi2 : i = 12 := by omega
      subst hi2
      refine e_iload_n dX0_act_2 rfl rfl ?_
      refine e_bipush (v := 12) dX0_act_3 (by decide) ?_
      refine e_ge_t (i := 12) (N := 12) 68 dX0_act_5 (by decide) rfl rfl (by omega) (by omega) ?_
      exact e_vret dX0_act_68 rfl ho (Nat.le_of_ble_eq_true rfl) (Nat.le_of_ble_eq_true rfl)
    | succ d ih =>
      intro i F σ m x2 hi hR hF ho
      obtain ⟨hHW, ⟨e, he1, he2, he3⟩, h8, hmm⟩ := hR.house
      obtain ⟨m1, hhalf, hm1⟩ := hR.half (by omega)
      have hH1 : HW (hA1 σ) (hLn (hA1 σ)) (hPl (hA1 σ)) ∧ (∃ e, e ≤ F + 1 ∧ F + 1 ≤ 1000000000 ∧ he (hA1 σ) 1 = nI e) ∧ (hf (hA1 σ) 8 = -1 ∨ ∃ u, u < 5 ∧ hf (hA1 σ) 8 = nI u) ∧ ∀ k, k < 12 → hm (hA1 σ) k 0 = m1 k ∧ hm (hA1 σ) k 1 = m1 (12 + k) := by
        rcases hhalf with z | ⟨u, z⟩
        · exact z.house
        · exact z.house
      have tail : ∀ y2 : Value, AW G_X0_act out 0 0 46 [.ref h, .int (nI i), y2] [] S (hs_put h (hA1 σ) M) J := by
        intro y2
        obtain ⟨g1, ⟨e', g2, g3, g4⟩, g5, g6⟩ := hH1
        have hfdc := c_X0_firstAtDoor (S := S) (M := M) (J := J) (h := h) (σ := hA1 σ) hS g1 g5
        refine e_aload_n dX0_act_46 rfl rfl ?_
        refine e_cV1 dX0_act_47 ml_0_132 hfdc hS.a0 rfl rfl (by decide) (Nat.le_of_ble_eq_true rfl) ⟨rfl, rfl⟩ (Nat.le_of_ble_eq_true rfl) (Nat.le_of_ble_eq_true rfl) ?_
        refine e_istore_n dX0_act_50 rfl (by decide) rfl ?_
        refine e_iload_n dX0_act_51 rfl rfl ?_
        refine e_iconst (v := (-1)) dX0_act_52 (by decide) ?_
        refine e_icmp_ne 57 dX0_act_53 (by decide) (fun h53 => ?_) (fun h53 => ?_)
        · rcases hR.once (by omega) with ⟨a, b, c⟩ | ⟨a, -, b, c, d2⟩ | ⟨a, k, hk, b, hk1, c, d2⟩
          · rw [b] at h53; exact absurd c h53
          · exact absurd c h53
          · obtain ⟨w1, -, -⟩ := hR
            obtain ⟨r, hr1, hr2⟩ := (w1.1 k hk).resolve_left (by rw [hk1]; decide)
            have hrm : hm (hA1 σ) k 1 = nI r := by rw [(g6 k hk).2, (hm1 k hk).2]; exact hr2
            rw [b]
            refine e_aload_n dX0_act_57 rfl rfl ?_
            refine e_iload_n dX0_act_58 rfl rfl ?_
            refine e_cV0 dX0_act_59 ml_0_142 (c_X0_letIn (σ := hA1 σ) (k := k) (r := r) (e := e') hS hk hr1 hrm g1.1 g1.2.1 g4 (by omega)) hS.a0 rfl rfl (by decide) (Nat.le_of_ble_eq_true rfl) ⟨rfl, rfl⟩ (Nat.le_of_ble_eq_true rfl) (Nat.le_of_ble_eq_true rfl) ?_
            refine e_iinc dX0_act_62 rfl (ai_inc _) (by decide) rfl ?_
            refine e_goto 2 dX0_act_65 (by decide) ?_
            exact ih (i + 1) (F + 2) (hLet (hA1 σ) k) _ _ (by omega) c (by omega) (by rw [ho, hAct, if_neg (by rw [b]; exact nI_ne_m1 (by omega)), b, nI_clamp (by omega)])
        · exact e_vret dX0_act_56 rfl (ho.trans (by rw [hAct, if_pos h53])) (Nat.le_of_ble_eq_true rfl) (Nat.le_of_ble_eq_true rfl)
      refine e_iload_n dX0_act_2 rfl rfl ?_
      refine e_bipush (v := 12) dX0_act_3 (by decide) ?_
      refine e_ge_f (i := i) (N := 12) 68 dX0_act_5 (by decide) rfl rfl (by omega) (by omega) ?_
      refine e_aload_n dX0_act_8 rfl rfl ?_
      refine hf_get hS dX0_act_9 fl_0_51 (by decide) ?_
      refine e_iconst (v := (-1)) dX0_act_12 (by decide) ?_
      refine e_icmp_ne 27 dX0_act_13 (by decide) (fun h13 => ?_) (fun h13 => ?_)
      · have hfdc := c_X0_firstAtDoor (S := S) (M := M) (J := J) (h := h) (σ := σ) hS hHW h8
        refine e_aload_n dX0_act_27 rfl rfl ?_
        refine e_cV1 dX0_act_28 ml_0_132 hfdc hS.a0 rfl rfl (by decide) (Nat.le_of_ble_eq_true rfl) ⟨rfl, rfl⟩ (Nat.le_of_ble_eq_true rfl) (Nat.le_of_ble_eq_true rfl) ?_
        refine e_iconst (v := (-1)) dX0_act_31 (by decide) ?_
        refine e_icmp_eq 46 dX0_act_32 (by decide) (fun h32 => ?_) (fun h32 => ?_)
        · have e1 : hA1 σ = σ := by rw [hA1, if_neg h13, if_neg (fun y => y.1 h32)]
          rw [e1] at tail
          exact tail _
        · refine e_aload_n dX0_act_35 rfl rfl ?_
          refine e_cV1 dX0_act_36 ml_0_135 (c_X0_isTurnOfOthers hS hHW) hS.a0 rfl rfl (by decide) (Nat.le_of_ble_eq_true rfl) ⟨rfl, rfl⟩ (Nat.le_of_ble_eq_true rfl) (Nat.le_of_ble_eq_true rfl) ?_
          refine e_if_eq 46 dX0_act_39 (by decide) (fun h39 => ?_) (fun h39 => ?_)
          · have e1 : hA1 σ = σ := by rw [hA1, if_neg h13, if_neg (fun y => by rw [bI0 h39] at y; exact absurd y.2 (by decide))]
            rw [e1] at tail
            exact tail _
          · have e1 : hA1 σ = hCl σ := by rw [hA1, if_neg h13, if_pos ⟨h32, bI1 h39⟩]
            rw [e1] at tail
            refine e_aload_n dX0_act_42 rfl rfl ?_
            refine e_cV0 dX0_act_43 ml_0_139 (c_X0_closeDoor (σ := σ) (e := e) hS he3 (by omega)) hS.a0 rfl rfl (by decide) (Nat.le_of_ble_eq_true rfl) ⟨rfl, rfl⟩ (Nat.le_of_ble_eq_true rfl) (Nat.le_of_ble_eq_true rfl) ?_
            exact tail _
      · have hnr := c_X0_nextRoom (S := S) (M := M) (J := J) (h := h) (σ := σ) hS hHW
        refine e_aload_n dX0_act_16 rfl rfl ?_
        refine e_aload_n dX0_act_17 rfl rfl ?_
        refine e_cV1 dX0_act_18 ml_0_125 hnr hS.a0 rfl rfl (by decide) (Nat.le_of_ble_eq_true rfl) ⟨rfl, rfl⟩ (Nat.le_of_ble_eq_true rfl) (Nat.le_of_ble_eq_true rfl) ?_
        by_cases hz : hNext σ (hPl σ) (hLn σ) = -1
        · have e1 : hA1 σ = σ := by rw [hA1, if_pos h13, if_pos hz]
          rw [e1] at tail
          rw [hz]
          refine e_cV0 dX0_act_21 ml_0_129 (c_X0_openRoom_none hS) hS.a0 rfl rfl (by decide) (Nat.le_of_ble_eq_true rfl) ⟨rfl, rfl⟩ (Nat.le_of_ble_eq_true rfl) (Nat.le_of_ble_eq_true rfl) ?_
          refine e_goto 46 dX0_act_24 (by decide) ?_
          exact tail _
        · have hR' := hR
          obtain ⟨hw, ee, cc, hN, hM, hRo, hSt, hU, hL, hG⟩ := hR'
          have hnx := hNext_line hw hN hM hRo hSt hL
          rw [hnx] at hz
          obtain ⟨r, hr5, hre, -⟩ := (rNext_is hw).resolve_left hz
          have e1 : hA1 σ = hOpn σ r := by rw [hA1, if_pos h13, hnx, if_neg hz, hre, nI_clamp (by omega)]
          rw [e1] at tail
          rw [hnx, hre]
          refine e_cV0 dX0_act_21 ml_0_129 (c_X0_openRoom (σ := σ) (r := r) (e := e) hS hr5 he3 (by omega)) hS.a0 rfl rfl (by decide) (Nat.le_of_ble_eq_true rfl) ⟨rfl, rfl⟩ (Nat.le_of_ble_eq_true rfl) (Nat.le_of_ble_eq_true rfl) ?_
          refine e_goto 46 dX0_act_24 (by decide) ?_
          exact tail _
  refine e_iconst (v := 0) dX0_act_0 (by decide) ?_
  refine e_istore_n dX0_act_1 rfl (by decide) rfl ?_
  exact key 12 0 F σ m _ rfl hR (by omega) ho
end C47

