/-! ===== the keeper: its shape; ticks that pass, foretelling ===== -/
def KS (S : List aiS) : Prop := S[0]? = some (6, 0, [.ref 1, .ref 26, .ref 51, .ref 102, .ref 103]) ∧ HS S 1 ∧ HS S 26 ∧ S[51]? = some (10, 2, [.ref 52, .ref 77]) ∧ HS S 52 ∧ HS S 77 ∧ S[102]? = some (9, 2, []) ∧ SS S 103
theorem KS.a0 {S : List aiS} (h : KS S) : S[0]? = some (6, 0, [.ref 1, .ref 26, .ref 51, .ref 102, .ref 103]) := h.1
theorem KS.now {S : List aiS} (h : KS S) : HS S 1 := h.2.1
theorem KS.trial {S : List aiS} (h : KS S) : HS S 26 := h.2.2.1
theorem KS.script {S : List aiS} (h : KS S) : SS S 103 := h.2.2.2.2.2.2.2
theorem Rel.h9 {F E t : Nat} {σ : hs_T} {m : Nat → Int32} (h : Rel F E t σ m) : hf σ 9 = 0 ∨ hf σ 9 = 1 := by
  obtain ⟨hw, e, c, hN, hM, hR, hSt, hU, hL, hG⟩ := h
  rw [hU.2.2.1]
  split
  · exact Or.inl rfl
  · exact hU.2.2.2.2
theorem Rel.t5 {F E t : Nat} {σ : hs_T} {m : Nat → Int32} (h : Rel F E t σ m) : hf σ 5 = nI t ∧ m 103 = nI t := by
  obtain ⟨hw, e, c, hN, hM, hR, hSt, hU, hL, hG⟩ := h
  exact ⟨hN.1, hN.2.1⟩
theorem Rel.st {F E t : Nat} {σ : hs_T} {m : Nat → Int32} (h : Rel F E t σ m) {k : Nat} (hk : k < 12) : hm σ k 0 = m k ∧ hm σ k 1 = m (12 + k) ∧ hm σ k 2 = m (24 + k) ∧ hm σ k 3 = m (36 + k) := by
  obtain ⟨hw, e, c, hN, hM, hR, hSt, hU, hL, hG⟩ := h
  exact (hM k hk).1
section C59
variable {S : List aiS}
theorem c_X6_pass_ok (hT : KS S) {F E t T : Nat} {σ : hs_T} {m : Nat → Int32} (hR : Rel F E t σ m) (hF : F + 40 * T + 50 ≤ 1000000000) (hT1 : 1 ≤ T) (hT9 : T ≤ 999) (ht : t + T ≤ 20000) : ∃ σ' m', rPass 14 T m = some m' ∧ Rel (F + 40 * T) E (t + T) σ' m' ∧ ∀ M J, AM G_X6_pass [.ref 0, .int (nI T)] S (hs_put 1 σ M) J (some (.int (nI (t + T))), S, hs_put 1 σ' M, J) := by
  have hS := hT.now
  have key : ∀ (d a i : Nat) (σ1 : hs_T) (m1 : Nat → Int32), T - a ≤ d → a ≤ T → i ≤ a → rPass 14 a m = some m1 → Rel (F + 40 * a) E (t + a) σ1 m1 → ∃ σ' m', rPass 14 T m = some m' ∧ Rel (F + 40 * T) E (t + T) σ' m' ∧ ∀ M J out, out = ((some (.int (nI (t + T))), S, hs_put 1 σ' M, J) : aiR) → AW G_X6_pass out 0 0 36 [.ref 0, .int (nI T), .int (nI (t + T)), .int (nI i)] [] S (hs_put 1 σ1 M) J := by
    have hend : ∀ (a i : Nat) (σ1 : hs_T) (m1 : Nat → Int32), a = T → rPass 14 a m = some m1 → Rel (F + 40 * a) E (t + a) σ1 m1 → ∃ σ' m', rPass 14 T m = some m' ∧ Rel (F + 40 * T) E (t + T) σ' m' ∧ ∀ M J out, out = ((some (.int (nI (t + T))), S, hs_put 1 σ' M, J) : aiR) → AW G_X6_pass out 0 0 36 [.ref 0, .int (nI T), .int (nI (t + T)), .int (nI i)] [] S (hs_put 1 σ1 M) J := by
      intro a i σ1 m1 ha hp hr
      subst ha
      refine ⟨σ1, m1, hp, hr, fun M J out ho => ?_⟩
      refine e_iload_n dX6_pass_36 rfl rfl ?_
      refine e_iload_n dX6_pass_37 rfl rfl ?_
      refine e_icmp_ge 73 dX6_pass_38 (by decide) (fun h38 => ?_) (fun h38 => ?_)
      · refine e_aload_n dX6_pass_73 rfl rfl ?_
        refine e_getr dX6_pass_74 fl_6_10 hT.a0 rfl ?_
        refine hf_get hS dX6_pass_77 fl_6_82 (by decide) ?_
        exact e_iret dX6_pass_80 rfl (ho.trans (by rw [hr.t5.1])) (Nat.le_of_ble_eq_true rfl) (Nat.le_of_ble_eq_true rfl)
      · refine e_aload_n dX6_pass_41 rfl rfl ?_
        refine e_getr dX6_pass_42 fl_6_10 hT.a0 rfl ?_
        refine hf_get hS dX6_pass_45 fl_6_82 (by decide) ?_
        refine e_iload_n dX6_pass_48 rfl rfl ?_
        refine e_ge_t (i := t + a) (N := t + a) 73 dX6_pass_49 (by decide) hr.t5.1 rfl (by omega) (by omega) ?_
        refine e_aload_n dX6_pass_73 rfl rfl ?_
        refine e_getr dX6_pass_74 fl_6_10 hT.a0 rfl ?_
        refine hf_get hS dX6_pass_77 fl_6_82 (by decide) ?_
        exact e_iret dX6_pass_80 rfl (ho.trans (by rw [hr.t5.1])) (Nat.le_of_ble_eq_true rfl) (Nat.le_of_ble_eq_true rfl)
    intro d
    induction d with
    | zero =>
      intro a i σ1 m1 hd ha hia hp hr
      exact hend a i σ1 m1 (by omega) hp hr
    | succ d ih =>
      intro a i σ1 m1 hd ha hia hp hr
      by_cases haT : a = T
      · exact hend a i σ1 m1 haT hp hr
      · obtain ⟨X, m2, x1, x2, x3, x4, x5, x6⟩ := hr.tickSkip (N := T - (a + 1)) (by omega) (by omega)
        have hp2 : rPass 14 (a + 1 + X) m = some (rSk m2 X) := by
          rw [show a + 1 + X = a + (1 + X) by omega, rPass_add, hp, Option.bind_some]
          exact x5 X (Nat.le_refl _)
        have hr2 : Rel (F + 40 * (a + 1 + X)) E (t + (a + 1 + X)) (hSkip (hTick σ1) (nI (T - (a + 1)))).1 (rSk m2 X) := by
          rw [show t + (a + 1 + X) = t + a + 1 + X by omega]
          exact x6.more
        obtain ⟨σ', m', y1, y2, y3⟩ := ih (a + 1 + X) (i + 1) _ _ (by omega) (by omega) (by omega) hp2 hr2
        refine ⟨σ', m', y1, y2, fun M J out ho => ?_⟩
        have y4 := y3 M J out ho
        have htk := c_X0_tick (M := M) (J := J) hS hr (by omega) (by omega)
        have hen : nI (t + T) - hf (hTick σ1) 5 = nI (T - (a + 1)) := by
          rw [x2.t5.1, nI_sb (by omega), show t + T - (t + a + 1) = T - (a + 1) by omega]
        have hsk := c_X0_skipQuietTicks (M := M) (J := J) hS x2 hen
        refine e_iload_n dX6_pass_36 rfl rfl ?_
        refine e_iload_n dX6_pass_37 rfl rfl ?_
        refine e_ge_f (i := i) (N := T) 73 dX6_pass_38 (by decide) rfl rfl (by omega) (by omega) ?_
        refine e_aload_n dX6_pass_41 rfl rfl ?_
        refine e_getr dX6_pass_42 fl_6_10 hT.a0 rfl ?_
        refine hf_get hS dX6_pass_45 fl_6_82 (by decide) ?_
        refine e_iload_n dX6_pass_48 rfl rfl ?_
        refine e_ge_f (i := t + a) (N := t + T) 73 dX6_pass_49 (by decide) hr.t5.1 rfl (by omega) (by omega) ?_
        refine e_aload_n dX6_pass_52 rfl rfl ?_
        refine e_getr dX6_pass_53 fl_6_10 hT.a0 rfl ?_
        refine e_cV0 dX6_pass_56 ml_6_108 htk hS.a0 rfl rfl (by decide) (Nat.le_of_ble_eq_true rfl) ⟨rfl, rfl⟩ (Nat.le_of_ble_eq_true rfl) (Nat.le_of_ble_eq_true rfl) ?_
        refine e_aload_n dX6_pass_59 rfl rfl ?_
        refine e_getr dX6_pass_60 fl_6_10 hT.a0 rfl ?_
        refine e_iload_n dX6_pass_63 rfl rfl ?_
        refine e_cV0 dX6_pass_64 ml_6_111 hsk hS.a0 rfl rfl (by decide) (Nat.le_of_ble_eq_true rfl) ⟨rfl, rfl⟩ (Nat.le_of_ble_eq_true rfl) (Nat.le_of_ble_eq_true rfl) ?_
        refine e_iinc dX6_pass_67 rfl (ai_inc _) (by decide) rfl ?_
        refine e_goto 36 dX6_pass_70 (by decide) ?_
        exact y4
  obtain ⟨σ', m', y1, y2, y3⟩ := key T 0 0 σ m (by omega) (by omega) (by omega) rfl hR
  refine ⟨σ', m', y1, y2, fun M J => ?_⟩
  refine AM_gen (fun out ho => ?_)
  refine AM_of [.ref 0, .int (nI T), .retAddr 0, .retAddr 0] (by decide) rfl (fun B => (Nat.le_of_ble_eq_true rfl)) ?_
  have y4 := y3 M J out ho
  refine e_iload_n dX6_pass_0 rfl rfl ?_
  refine e_iconst (v := 1) dX6_pass_1 (by decide) ?_
  refine e_sipush (v := 999) dX6_pass_2 (by decide) ?_
  refine e_cS1 dX6_pass_5 ml_6_38 (c_X6_isWithin _ _ _) rfl rfl (by decide) (Nat.le_of_ble_eq_true rfl) ⟨rfl, rfl⟩ (Nat.le_of_ble_eq_true rfl) (Nat.le_of_ble_eq_true rfl) ?_
  refine e_if_ne 14 dX6_pass_8 (by decide) (fun h8 => ?_) (fun h8 => ?_)
  · refine e_aload_n dX6_pass_14 rfl rfl ?_
    refine e_getr dX6_pass_15 fl_6_10 hT.a0 rfl ?_
    refine hf_get hS dX6_pass_18 fl_6_82 (by decide) ?_
    refine e_iload_n dX6_pass_21 rfl rfl ?_
    refine e_iadd dX6_pass_22 ?_
    refine e_as (nI ((t + T))) (ai_add hR.t5.1 rfl) ?_
    refine e_istore_n dX6_pass_23 rfl (by decide) rfl ?_
    refine e_iload_n dX6_pass_24 rfl rfl ?_
    refine e_sipush (v := 20000) dX6_pass_25 (by decide) ?_
    refine e_icmp_le 34 dX6_pass_28 (by decide) (fun h28 => ?_) (fun h28 => ?_)
    · refine e_iconst (v := 0) dX6_pass_34 (by decide) ?_
      refine e_istore_n dX6_pass_35 rfl (by decide) rfl ?_
      exact y4
    · exact absurd (nI_le (a := t + T) (b := 20000) (by omega) (by decide)) h28
  · exact absurd (if_pos ⟨nI_le (a := 1) hT1 (by omega), nI_le (b := 999) hT9 (by decide)⟩) (fun z => absurd (h8.symm.trans z) (by decide))
theorem c_X6_pass_no (hT : KS S) {F E t : Nat} {σ : hs_T} {m : Nat → Int32} (hR : Rel F E t σ m) {a v : Int32} (hbad : ¬ (1 ≤ a ∧ a ≤ 999) → v = -2) (hful : 1 ≤ a ∧ a ≤ 999 → 20000 < hf σ 5 + a ∧ v = -4) (M : Nat → Nat → Int32) (J : Nat → Int64) : AM G_X6_pass [.ref 0, .int a] S (hs_put 1 σ M) J (some (.int v), S, hs_put 1 σ M, J) := by
  have hS := hT.now
  refine AM_gen (fun out ho => ?_)
  refine AM_of [.ref 0, .int a, .retAddr 0, .retAddr 0] (by decide) rfl (fun B => (Nat.le_of_ble_eq_true rfl)) ?_
  refine e_iload_n dX6_pass_0 rfl rfl ?_
  refine e_iconst (v := 1) dX6_pass_1 (by decide) ?_
  refine e_sipush (v := 999) dX6_pass_2 (by decide) ?_
  refine e_cS1 dX6_pass_5 ml_6_38 (c_X6_isWithin _ _ _) rfl rfl (by decide) (Nat.le_of_ble_eq_true rfl) ⟨rfl, rfl⟩ (Nat.le_of_ble_eq_true rfl) (Nat.le_of_ble_eq_true rfl) ?_
  refine e_if_ne 14 dX6_pass_8 (by decide) (fun h8 => ?_) (fun h8 => ?_)
  · obtain ⟨h1, h2⟩ := hful (z1 h8)
    refine e_aload_n dX6_pass_14 rfl rfl ?_
    refine e_getr dX6_pass_15 fl_6_10 hT.a0 rfl ?_
    refine hf_get hS dX6_pass_18 fl_6_82 (by decide) ?_
    refine e_iload_n dX6_pass_21 rfl rfl ?_
    refine e_iadd dX6_pass_22 ?_
    refine e_istore_n dX6_pass_23 rfl (by decide) rfl ?_
    refine e_iload_n dX6_pass_24 rfl rfl ?_
    refine e_sipush (v := 20000) dX6_pass_25 (by decide) ?_
    refine e_icmp_le 34 dX6_pass_28 (by decide) (fun h28 => ?_) (fun h28 => ?_)
    · exact absurd h1 (Int32.not_lt.mpr h28)
    · refine e_bipush (v := (-4)) dX6_pass_31 (by decide) ?_
      exact e_iret dX6_pass_33 rfl (ho.trans (by rw [h2])) (Nat.le_of_ble_eq_true rfl) (Nat.le_of_ble_eq_true rfl)
  · have hv := hbad (z0 h8)
    refine e_bipush (v := (-2)) dX6_pass_11 (by decide) ?_
    exact e_iret dX6_pass_13 rfl (ho.trans (by rw [hv])) (Nat.le_of_ble_eq_true rfl) (Nat.le_of_ble_eq_true rfl)
theorem c_X6_tue (hT : KS S) {F E t k N : Nat} {σ : hs_T} {m : Nat → Int32} (qv : Int32) (hR : Rel F E t σ m) (hF : F + 24000 ≤ 1000000000) (ht : t ≤ 20000) (hk : k < 12) (hk1 : m k = 1) (hN : N ≤ 500) (τ : hs_T) : ∃ τ', ∀ M J, AM G_X6_ticksUntilEntry [.ref 0, .int (nI k), .int qv, .int (nI N)] S (hs_put 1 σ (hs_put 26 τ M)) J (some (.int (oI (eO (upd m 101 qv) k N))), S, hs_put 1 σ (hs_put 26 τ' M), J) := by
  have hS := hT.now
  have hG : HS S 1 := hT.now
  have hD : 26 + 25 ≤ 1 ∨ 1 + 25 ≤ 26 := Or.inr (by decide)
  have hV := hT.trial
  generalize hm0 : upd m 101 qv = m0
  have hR0 : Rel F E t (phu (hCp τ σ) 1 qv) m0 := by
    rw [← hm0]
    exact (hR.ext (hCp_eq τ σ)).quota qv
  have hk0 : m0 k = 1 := by rw [← hm0, upd_ne _ _ (by omega)]; exact hk1
  have key : ∀ (d a i : Nat) (τ1 : hs_T) (m1 : Nat → Int32), N - a ≤ d → a ≤ N → i ≤ a → rPass 14 a m0 = some m1 → m1 k = 1 → (∀ T, T ≤ a → rP m0 T k = 1) → Rel (F + 40 * a) E (t + a) τ1 m1 → ∃ τ', ∀ M J out, out = ((some (.int (oI (eO m0 k N))), S, hs_put 26 τ' (hs_put 1 σ M), J) : aiR) → AW G_X6_ticksUntilEntry out 0 0 35 [.ref 0, .int (nI k), .int qv, .int (nI N), .int (nI (t + N)), .int (nI i)] [] S (hs_put 26 τ1 (hs_put 1 σ M)) J := by
    have hend : ∀ (a i : Nat) (τ1 : hs_T), a = N → hf τ1 5 = nI (t + a) → (∀ T, T ≤ a → rP m0 T k = 1) → ∃ τ', ∀ M J out, out = ((some (.int (oI (eO m0 k N))), S, hs_put 26 τ' (hs_put 1 σ M), J) : aiR) → AW G_X6_ticksUntilEntry out 0 0 35 [.ref 0, .int (nI k), .int qv, .int (nI N), .int (nI (t + N)), .int (nI i)] [] S (hs_put 26 τ1 (hs_put 1 σ M)) J := by
      intro a i τ1 ha ht5 hw
      subst ha
      refine ⟨τ1, fun M J out ho => ?_⟩
      rw [eO_none hw] at ho
      refine e_iload dX6_ticksUntilEntry_35 rfl ?_
      refine e_iload_n dX6_ticksUntilEntry_37 rfl rfl ?_
      refine e_icmp_ge 107 dX6_ticksUntilEntry_38 (by decide) (fun h38 => ?_) (fun h38 => ?_)
      · refine e_iconst (v := (-1)) dX6_ticksUntilEntry_107 (by decide) ?_
        exact e_iret dX6_ticksUntilEntry_108 rfl ho (Nat.le_of_ble_eq_true rfl) (Nat.le_of_ble_eq_true rfl)
      · refine e_aload_n dX6_ticksUntilEntry_41 rfl rfl ?_
        refine e_getr dX6_ticksUntilEntry_42 fl_6_16 hT.a0 rfl ?_
        refine hf_get hV dX6_ticksUntilEntry_45 fl_6_82 (by decide) ?_
        refine e_iload dX6_ticksUntilEntry_48 rfl ?_
        refine e_ge_t (i := t + a) (N := t + a) 107 dX6_ticksUntilEntry_50 (by decide) ht5 rfl (by omega) (by omega) ?_
        refine e_iconst (v := (-1)) dX6_ticksUntilEntry_107 (by decide) ?_
        exact e_iret dX6_ticksUntilEntry_108 rfl ho (Nat.le_of_ble_eq_true rfl) (Nat.le_of_ble_eq_true rfl)
    intro d
    induction d with
    | zero =>
      intro a i τ1 m1 hd ha hia hp h1 hw hr
      exact hend a i τ1 (by omega) hr.t5.1 hw
    | succ d ih =>
      intro a i τ1 m1 hd ha hia hp h1 hw hr
      by_cases haT : a = N
      · exact hend a i τ1 haT hr.t5.1 hw
      · obtain ⟨X, m2, x1, x2, x3, x4, x5, x6⟩ := hr.tickSkip (N := N - (a + 1)) (by omega) (by omega)
        have hp1 : ∀ y, y ≤ X → rPass 14 (a + 1 + y) m0 = some (rSk m2 y) := by
          intro y hy
          rw [show a + 1 + y = a + (1 + y) by omega, rPass_add, hp, Option.bind_some]
          exact x5 y hy
        have hp0 : rPass 14 (a + 1) m0 = some m2 := by
          rw [rPass_add, hp, Option.bind_some, rPass_one]
          exact x1
        have hst := rTick_wst hr.1 hk h1 x1
        have hq := (x2.st hk).1
        by_cases h2 : m2 k = 2
        · refine ⟨hTick τ1, fun M J out ho => ?_⟩
          have htk := c_X0_tick (M := hs_put 1 σ M) (J := J) hV hr (by omega) (by omega)
          have hvl : hf (hTick τ1) 5 - hf σ 5 = nI (a + 1) := by
            rw [x2.t5.1, hR.t5.1, nI_sb (by omega), show t + a + 1 - t = a + 1 by omega]
          rw [eO_some (a := a + 1) (fun T hT => hw T (by omega)) (by omega) (by rw [rP_of hp0, h2]; decide)] at ho
          refine e_iload dX6_ticksUntilEntry_35 rfl ?_
          refine e_iload_n dX6_ticksUntilEntry_37 rfl rfl ?_
          refine e_ge_f (i := i) (N := N) 107 dX6_ticksUntilEntry_38 (by decide) rfl rfl (by omega) (by omega) ?_
          refine e_aload_n dX6_ticksUntilEntry_41 rfl rfl ?_
          refine e_getr dX6_ticksUntilEntry_42 fl_6_16 hT.a0 rfl ?_
          refine hf_get hV dX6_ticksUntilEntry_45 fl_6_82 (by decide) ?_
          refine e_iload dX6_ticksUntilEntry_48 rfl ?_
          refine e_ge_f (i := t + a) (N := t + N) 107 dX6_ticksUntilEntry_50 (by decide) hr.t5.1 rfl (by omega) (by omega) ?_
          refine e_aload_n dX6_ticksUntilEntry_53 rfl rfl ?_
          refine e_getr dX6_ticksUntilEntry_54 fl_6_16 hT.a0 rfl ?_
          refine e_cV0 dX6_ticksUntilEntry_57 ml_6_108 htk hV.a0 rfl rfl (by decide) (Nat.le_of_ble_eq_true rfl) ⟨rfl, rfl⟩ (Nat.le_of_ble_eq_true rfl) (Nat.le_of_ble_eq_true rfl) ?_
          refine e_aload_n dX6_ticksUntilEntry_60 rfl rfl ?_
          refine e_getr dX6_ticksUntilEntry_61 fl_6_16 hT.a0 rfl ?_
          refine e_getr dX6_ticksUntilEntry_64 fl_6_66 hV.a0 rfl ?_
          refine e_iload_n dX6_ticksUntilEntry_67 rfl rfl ?_
          refine h_mem k hV dX6_ticksUntilEntry_68 rfl (by first | assumption | omega) ?_
          refine hm_get hV (by first | assumption | omega) dX6_ticksUntilEntry_69 fl_6_70 (by decide) ?_
          refine e_iconst (v := 2) dX6_ticksUntilEntry_72 (by decide) ?_
          refine e_icmp_ne 92 dX6_ticksUntilEntry_73 (by decide) (fun h73 => ?_) (fun h73 => ?_)
          · exact absurd (hq.trans h2) h73
          · refine e_aload_n dX6_ticksUntilEntry_76 rfl rfl ?_
            refine e_getr dX6_ticksUntilEntry_77 fl_6_16 hT.a0 rfl ?_
            refine hf_get hV dX6_ticksUntilEntry_80 fl_6_82 (by decide) ?_
            refine e_aload_n dX6_ticksUntilEntry_83 rfl rfl ?_
            refine e_getr dX6_ticksUntilEntry_84 fl_6_10 hT.a0 rfl ?_
            refine hf_get2 hG hD dX6_ticksUntilEntry_87 fl_6_82 (by decide) ?_
            refine e_isub dX6_ticksUntilEntry_90 ?_
            refine e_as (nI ((a + 1))) hvl ?_
            exact e_iret dX6_ticksUntilEntry_91 rfl ho (Nat.le_of_ble_eq_true rfl) (Nat.le_of_ble_eq_true rfl)
        · have h21 : m2 k = 1 := hst.resolve_right h2
          have hsk1 : ∀ y, rSk m2 y k = 1 := fun y => by rw [rSk_ne x2.1 y (by omega)]; exact h21
          have hw2 : ∀ T, T ≤ a + 1 + X → rP m0 T k = 1 := by
            intro T hT
            by_cases hTa : T ≤ a
            · exact hw T hTa
            · rw [show T = a + 1 + (T - (a + 1)) by omega, rP_of (hp1 (T - (a + 1)) (by omega))]
              exact hsk1 _
          have hr2 : Rel (F + 40 * (a + 1 + X)) E (t + (a + 1 + X)) (hSkip (hTick τ1) (nI (N - (a + 1)))).1 (rSk m2 X) := by
            rw [show t + (a + 1 + X) = t + a + 1 + X by omega]
            exact x6.more
          obtain ⟨τ', y3⟩ := ih (a + 1 + X) (i + 1) _ _ (by omega) (by omega) (by omega) (hp1 X (Nat.le_refl _)) (hsk1 X) hw2 hr2
          refine ⟨τ', fun M J out ho => ?_⟩
          have y4 := y3 M J out ho
          have htk := c_X0_tick (M := hs_put 1 σ M) (J := J) hV hr (by omega) (by omega)
          have hen : nI (t + N) - hf (hTick τ1) 5 = nI (N - (a + 1)) := by
            rw [x2.t5.1, nI_sb (by omega), show t + N - (t + a + 1) = N - (a + 1) by omega]
          have hsk := c_X0_skipQuietTicks (M := hs_put 1 σ M) (J := J) hV x2 hen
          refine e_iload dX6_ticksUntilEntry_35 rfl ?_
          refine e_iload_n dX6_ticksUntilEntry_37 rfl rfl ?_
          refine e_ge_f (i := i) (N := N) 107 dX6_ticksUntilEntry_38 (by decide) rfl rfl (by omega) (by omega) ?_
          refine e_aload_n dX6_ticksUntilEntry_41 rfl rfl ?_
          refine e_getr dX6_ticksUntilEntry_42 fl_6_16 hT.a0 rfl ?_
          refine hf_get hV dX6_ticksUntilEntry_45 fl_6_82 (by decide) ?_
          refine e_iload dX6_ticksUntilEntry_48 rfl ?_
          refine e_ge_f (i := t + a) (N := t + N) 107 dX6_ticksUntilEntry_50 (by decide) hr.t5.1 rfl (by omega) (by omega) ?_
          refine e_aload_n dX6_ticksUntilEntry_53 rfl rfl ?_
          refine e_getr dX6_ticksUntilEntry_54 fl_6_16 hT.a0 rfl ?_
          refine e_cV0 dX6_ticksUntilEntry_57 ml_6_108 htk hV.a0 rfl rfl (by decide) (Nat.le_of_ble_eq_true rfl) ⟨rfl, rfl⟩ (Nat.le_of_ble_eq_true rfl) (Nat.le_of_ble_eq_true rfl) ?_
          refine e_aload_n dX6_ticksUntilEntry_60 rfl rfl ?_
          refine e_getr dX6_ticksUntilEntry_61 fl_6_16 hT.a0 rfl ?_
          refine e_getr dX6_ticksUntilEntry_64 fl_6_66 hV.a0 rfl ?_
          refine e_iload_n dX6_ticksUntilEntry_67 rfl rfl ?_
          refine h_mem k hV dX6_ticksUntilEntry_68 rfl (by first | assumption | omega) ?_
          refine hm_get hV (by first | assumption | omega) dX6_ticksUntilEntry_69 fl_6_70 (by decide) ?_
          refine e_iconst (v := 2) dX6_ticksUntilEntry_72 (by decide) ?_
          refine e_icmp_ne 92 dX6_ticksUntilEntry_73 (by decide) (fun h73 => ?_) (fun h73 => ?_)
          · refine e_aload_n dX6_ticksUntilEntry_92 rfl rfl ?_
            refine e_getr dX6_ticksUntilEntry_93 fl_6_16 hT.a0 rfl ?_
            refine e_iload dX6_ticksUntilEntry_96 rfl ?_
            refine e_cV0 dX6_ticksUntilEntry_98 ml_6_111 hsk hV.a0 rfl rfl (by decide) (Nat.le_of_ble_eq_true rfl) ⟨rfl, rfl⟩ (Nat.le_of_ble_eq_true rfl) (Nat.le_of_ble_eq_true rfl) ?_
            refine e_iinc dX6_ticksUntilEntry_101 rfl (ai_inc _) (by decide) rfl ?_
            refine e_goto 35 dX6_ticksUntilEntry_104 (by decide) ?_
            exact y4
          · exact absurd (hq.symm.trans h73) h2
  obtain ⟨τ', y3⟩ := key N 0 0 _ m0 (by omega) (by omega) (by omega) rfl hk0 (fun T hT => by rw [show T = 0 by omega]; exact hk0) hR0
  refine ⟨τ', fun M J => ?_⟩
  rw [hs_comm (h := 1) (g := 26) (Or.inl (by decide)) σ τ M, hs_comm (h := 1) (g := 26) (Or.inl (by decide)) σ τ' M]
  refine AM_gen (fun out ho => ?_)
  refine AM_of [.ref 0, .int (nI k), .int qv, .int (nI N), .retAddr 0, .retAddr 0] (by decide) rfl (fun B => (Nat.le_of_ble_eq_true rfl)) ?_
  have y4 := y3 M J out ho
  refine e_aload_n dX6_ticksUntilEntry_0 rfl rfl ?_
  refine e_getr dX6_ticksUntilEntry_1 fl_6_16 hT.a0 rfl ?_
  refine e_aload_n dX6_ticksUntilEntry_4 rfl rfl ?_
  refine e_getr dX6_ticksUntilEntry_5 fl_6_10 hT.a0 rfl ?_
  refine e_cV0 dX6_ticksUntilEntry_8 ml_6_171 (c_X0_copyFrom hV hS (Or.inr (by decide)) hR.h9) hV.a0 rfl rfl (by decide) (Nat.le_of_ble_eq_true rfl) ⟨rfl, rfl⟩ (Nat.le_of_ble_eq_true rfl) (Nat.le_of_ble_eq_true rfl) ?_
  refine e_aload_n dX6_ticksUntilEntry_11 rfl rfl ?_
  refine e_getr dX6_ticksUntilEntry_12 fl_6_16 hT.a0 rfl ?_
  refine e_getr dX6_ticksUntilEntry_15 fl_6_59 hV.a0 rfl ?_
  refine e_iconst (v := 1) dX6_ticksUntilEntry_18 (by decide) ?_
  refine e_iload_n dX6_ticksUntilEntry_19 rfl rfl ?_
  refine hu_st 1 hV dX6_ticksUntilEntry_20 (ai_lit 1) (by decide) ?_
  refine e_aload_n dX6_ticksUntilEntry_21 rfl rfl ?_
  refine e_getr dX6_ticksUntilEntry_22 fl_6_10 hT.a0 rfl ?_
  refine hf_get2 hG hD dX6_ticksUntilEntry_25 fl_6_82 (by decide) ?_
  refine e_iload_n dX6_ticksUntilEntry_28 rfl rfl ?_
  refine e_iadd dX6_ticksUntilEntry_29 ?_
  refine e_as (nI ((t + N))) (ai_add hR.t5.1 rfl) ?_
  refine e_istore dX6_ticksUntilEntry_30 (by decide) rfl ?_
  refine e_iconst (v := 0) dX6_ticksUntilEntry_32 (by decide) ?_
  refine e_istore dX6_ticksUntilEntry_33 (by decide) rfl ?_
  exact y4
theorem c_X6_empties (hT : KS S) {F E t : Nat} {σ : hs_T} {m : Nat → Int32} (hR : Rel F E t σ m) (hF : F + 24000 ≤ 1000000000) (ht : t ≤ 20000) (τ : hs_T) : ∃ τ', ∀ M J, AM G_X6_empties [.ref 0] S (hs_put 1 σ (hs_put 26 τ M)) J (some (.int (oI (eM m 500))), S, hs_put 1 σ (hs_put 26 τ' M), J) := by
  have hS := hT.now
  have hG : HS S 1 := hT.now
  have hD : 26 + 25 ≤ 1 ∨ 1 + 25 ≤ 26 := Or.inr (by decide)
  have hV := hT.trial
  by_cases h0 : rPre m = 0
  · refine ⟨τ, fun M J => ?_⟩
    rw [eM_some (a := 0) (fun T hT => absurd hT (by omega)) (by omega) (by rw [rP_0]; exact h0)]
    refine AM_gen (fun out ho => ?_)
    refine AM_of [.ref 0, .retAddr 0, .retAddr 0] (by decide) rfl (fun B => (Nat.le_of_ble_eq_true rfl)) ?_
    refine e_aload_n dX6_empties_0 rfl rfl ?_
    refine e_getr dX6_empties_1 fl_6_10 hT.a0 rfl ?_
    refine e_cV1 dX6_empties_4 ml_6_167 (c_X0_isDeserted hS) hS.a0 rfl rfl (by decide) (Nat.le_of_ble_eq_true rfl) ⟨rfl, rfl⟩ (Nat.le_of_ble_eq_true rfl) (Nat.le_of_ble_eq_true rfl) ?_
    refine e_if_eq 12 dX6_empties_7 (by decide) (fun h7 => ?_) (fun h7 => ?_)
    · exact absurd (hR.desert.mpr h0) (z0 h7)
    · refine e_iconst (v := 0) dX6_empties_10 (by decide) ?_
      exact e_iret dX6_empties_11 rfl ho (Nat.le_of_ble_eq_true rfl) (Nat.le_of_ble_eq_true rfl)
  · have hR0 : Rel F E t (hCp τ σ) m := hR.ext (hCp_eq τ σ)
    have key : ∀ (d a i : Nat) (τ1 : hs_T) (m1 : Nat → Int32), 500 - a ≤ d → a ≤ 500 → i ≤ a → rPass 14 a m = some m1 → (∀ T, T ≤ a → ¬ rPre (rP m T) = 0) → Rel (F + 40 * a) E (t + a) τ1 m1 → ∃ τ', ∀ M J out, out = ((some (.int (oI (eM m 500))), S, hs_put 26 τ' (hs_put 1 σ M), J) : aiR) → AW G_X6_empties out 0 0 37 [.ref 0, .int (nI (t + 500)), .int (nI i)] [] S (hs_put 26 τ1 (hs_put 1 σ M)) J := by
      have hend : ∀ (a i : Nat) (τ1 : hs_T), a = 500 → hf τ1 5 = nI (t + a) → (∀ T, T ≤ a → ¬ rPre (rP m T) = 0) → ∃ τ', ∀ M J out, out = ((some (.int (oI (eM m 500))), S, hs_put 26 τ' (hs_put 1 σ M), J) : aiR) → AW G_X6_empties out 0 0 37 [.ref 0, .int (nI (t + 500)), .int (nI i)] [] S (hs_put 26 τ1 (hs_put 1 σ M)) J := by
        intro a i τ1 ha ht5 hw
        refine ⟨τ1, fun M J out ho => ?_⟩
        rw [eM_none (fun T hT => hw T (by omega))] at ho
        refine e_iload_n dX6_empties_37 rfl rfl ?_
        refine e_sipush (v := 500) dX6_empties_38 (by decide) ?_
        refine e_icmp_ge 102 dX6_empties_41 (by decide) (fun h41 => ?_) (fun h41 => ?_)
        · refine e_iconst (v := (-1)) dX6_empties_102 (by decide) ?_
          exact e_iret dX6_empties_103 rfl ho (Nat.le_of_ble_eq_true rfl) (Nat.le_of_ble_eq_true rfl)
        · refine e_aload_n dX6_empties_44 rfl rfl ?_
          refine e_getr dX6_empties_45 fl_6_16 hT.a0 rfl ?_
          refine hf_get hV dX6_empties_48 fl_6_82 (by decide) ?_
          refine e_iload_n dX6_empties_51 rfl rfl ?_
          refine e_ge_t (i := t + a) (N := t + 500) 102 dX6_empties_52 (by decide) ht5 rfl (by omega) (by omega) ?_
          refine e_iconst (v := (-1)) dX6_empties_102 (by decide) ?_
          exact e_iret dX6_empties_103 rfl ho (Nat.le_of_ble_eq_true rfl) (Nat.le_of_ble_eq_true rfl)
      intro d
      induction d with
      | zero =>
        intro a i τ1 m1 hd ha hia hp hw hr
        exact hend a i τ1 (by omega) hr.t5.1 hw
      | succ d ih =>
        intro a i τ1 m1 hd ha hia hp hw hr
        by_cases haT : a = 500
        · exact hend a i τ1 haT hr.t5.1 hw
        · obtain ⟨X, m2, x1, x2, x3, x4, x5, x6⟩ := hr.tickSkip (N := 500 - (a + 1)) (by omega) (by omega)
          have hp1 : ∀ y, y ≤ X → rPass 14 (a + 1 + y) m = some (rSk m2 y) := by
            intro y hy
            rw [show a + 1 + y = a + (1 + y) by omega, rPass_add, hp, Option.bind_some]
            exact x5 y hy
          have hp0 : rPass 14 (a + 1) m = some m2 := by
            rw [rPass_add, hp, Option.bind_some, rPass_one]
            exact x1
          have hdes := x2.desert
          by_cases h2 : rPre m2 = 0
          · refine ⟨hTick τ1, fun M J out ho => ?_⟩
            have htk := c_X0_tick (M := hs_put 1 σ M) (J := J) hV hr (by omega) (by omega)
            have hde := c_X0_isDeserted (σ := hTick τ1) (M := hs_put 1 σ M) (J := J) hV
            rw [eM_some (a := a + 1) (fun T hT => hw T (by omega)) (by omega) (by rw [rP_of hp0]; exact h2)] at ho
            have hvl : hf (hTick τ1) 5 - hf σ 5 = nI (a + 1) := by
              rw [x2.t5.1, hR.t5.1, nI_sb (by omega), show t + a + 1 - t = a + 1 by omega]
            refine e_iload_n dX6_empties_37 rfl rfl ?_
            refine e_sipush (v := 500) dX6_empties_38 (by decide) ?_
            refine e_ge_f (i := i) (N := 500) 102 dX6_empties_41 (by decide) rfl rfl (by omega) (by omega) ?_
            refine e_aload_n dX6_empties_44 rfl rfl ?_
            refine e_getr dX6_empties_45 fl_6_16 hT.a0 rfl ?_
            refine hf_get hV dX6_empties_48 fl_6_82 (by decide) ?_
            refine e_iload_n dX6_empties_51 rfl rfl ?_
            refine e_ge_f (i := t + a) (N := t + 500) 102 dX6_empties_52 (by decide) hr.t5.1 rfl (by omega) (by omega) ?_
            refine e_aload_n dX6_empties_55 rfl rfl ?_
            refine e_getr dX6_empties_56 fl_6_16 hT.a0 rfl ?_
            refine e_cV0 dX6_empties_59 ml_6_108 htk hV.a0 rfl rfl (by decide) (Nat.le_of_ble_eq_true rfl) ⟨rfl, rfl⟩ (Nat.le_of_ble_eq_true rfl) (Nat.le_of_ble_eq_true rfl) ?_
            refine e_aload_n dX6_empties_62 rfl rfl ?_
            refine e_getr dX6_empties_63 fl_6_16 hT.a0 rfl ?_
            refine e_cV1 dX6_empties_66 ml_6_167 hde hV.a0 rfl rfl (by decide) (Nat.le_of_ble_eq_true rfl) ⟨rfl, rfl⟩ (Nat.le_of_ble_eq_true rfl) (Nat.le_of_ble_eq_true rfl) ?_
            refine e_if_eq 88 dX6_empties_69 (by decide) (fun h69 => ?_) (fun h69 => ?_)
            · exact absurd (hdes.mpr h2) (z0 h69)
            · refine e_aload_n dX6_empties_72 rfl rfl ?_
              refine e_getr dX6_empties_73 fl_6_16 hT.a0 rfl ?_
              refine hf_get hV dX6_empties_76 fl_6_82 (by decide) ?_
              refine e_aload_n dX6_empties_79 rfl rfl ?_
              refine e_getr dX6_empties_80 fl_6_10 hT.a0 rfl ?_
              refine hf_get2 hG hD dX6_empties_83 fl_6_82 (by decide) ?_
              refine e_isub dX6_empties_86 ?_
              refine e_as (nI ((a + 1))) hvl ?_
              exact e_iret dX6_empties_87 rfl ho (Nat.le_of_ble_eq_true rfl) (Nat.le_of_ble_eq_true rfl)
          · have hsk1 : ∀ y, ¬ rPre (rSk m2 y) = 0 := fun y => by rw [rPre_cong (fun j hj => rSk_ne x2.1 y (by omega))]; exact h2
            have hw2 : ∀ T, T ≤ a + 1 + X → ¬ rPre (rP m T) = 0 := by
              intro T hT
              by_cases hTa : T ≤ a
              · exact hw T hTa
              · rw [show T = a + 1 + (T - (a + 1)) by omega, rP_of (hp1 (T - (a + 1)) (by omega))]
                exact hsk1 _
            have hr2 : Rel (F + 40 * (a + 1 + X)) E (t + (a + 1 + X)) (hSkip (hTick τ1) (nI (500 - (a + 1)))).1 (rSk m2 X) := by
              rw [show t + (a + 1 + X) = t + a + 1 + X by omega]
              exact x6.more
            obtain ⟨τ', y3⟩ := ih (a + 1 + X) (i + 1) _ _ (by omega) (by omega) (by omega) (hp1 X (Nat.le_refl _)) hw2 hr2
            refine ⟨τ', fun M J out ho => ?_⟩
            have y4 := y3 M J out ho
            have htk := c_X0_tick (M := hs_put 1 σ M) (J := J) hV hr (by omega) (by omega)
            have hde := c_X0_isDeserted (σ := hTick τ1) (M := hs_put 1 σ M) (J := J) hV
            have hen : nI (t + 500) - hf (hTick τ1) 5 = nI (500 - (a + 1)) := by
              rw [x2.t5.1, nI_sb (by omega), show t + 500 - (t + a + 1) = 500 - (a + 1) by omega]
            have hsk := c_X0_skipQuietTicks (M := hs_put 1 σ M) (J := J) hV x2 hen
            refine e_iload_n dX6_empties_37 rfl rfl ?_
            refine e_sipush (v := 500) dX6_empties_38 (by decide) ?_
            refine e_ge_f (i := i) (N := 500) 102 dX6_empties_41 (by decide) rfl rfl (by omega) (by omega) ?_
            refine e_aload_n dX6_empties_44 rfl rfl ?_
            refine e_getr dX6_empties_45 fl_6_16 hT.a0 rfl ?_
            refine hf_get hV dX6_empties_48 fl_6_82 (by decide) ?_
            refine e_iload_n dX6_empties_51 rfl rfl ?_
            refine e_ge_f (i := t + a) (N := t + 500) 102 dX6_empties_52 (by decide) hr.t5.1 rfl (by omega) (by omega) ?_
            refine e_aload_n dX6_empties_55 rfl rfl ?_
            refine e_getr dX6_empties_56 fl_6_16 hT.a0 rfl ?_
            refine e_cV0 dX6_empties_59 ml_6_108 htk hV.a0 rfl rfl (by decide) (Nat.le_of_ble_eq_true rfl) ⟨rfl, rfl⟩ (Nat.le_of_ble_eq_true rfl) (Nat.le_of_ble_eq_true rfl) ?_
            refine e_aload_n dX6_empties_62 rfl rfl ?_
            refine e_getr dX6_empties_63 fl_6_16 hT.a0 rfl ?_
            refine e_cV1 dX6_empties_66 ml_6_167 hde hV.a0 rfl rfl (by decide) (Nat.le_of_ble_eq_true rfl) ⟨rfl, rfl⟩ (Nat.le_of_ble_eq_true rfl) (Nat.le_of_ble_eq_true rfl) ?_
            refine e_if_eq 88 dX6_empties_69 (by decide) (fun h69 => ?_) (fun h69 => ?_)
            · refine e_aload_n dX6_empties_88 rfl rfl ?_
              refine e_getr dX6_empties_89 fl_6_16 hT.a0 rfl ?_
              refine e_iload_n dX6_empties_92 rfl rfl ?_
              refine e_cV0 dX6_empties_93 ml_6_111 hsk hV.a0 rfl rfl (by decide) (Nat.le_of_ble_eq_true rfl) ⟨rfl, rfl⟩ (Nat.le_of_ble_eq_true rfl) (Nat.le_of_ble_eq_true rfl) ?_
              refine e_iinc dX6_empties_96 rfl (ai_inc _) (by decide) rfl ?_
              refine e_goto 37 dX6_empties_99 (by decide) ?_
              exact y4
            · exact absurd (hdes.mp (z1 h69)) h2
    obtain ⟨τ', y3⟩ := key 500 0 0 _ m (by omega) (by omega) (by omega) rfl (fun T hT => by rw [show T = 0 by omega]; exact h0) hR0
    refine ⟨τ', fun M J => ?_⟩
    rw [hs_comm (h := 1) (g := 26) (Or.inl (by decide)) σ τ M, hs_comm (h := 1) (g := 26) (Or.inl (by decide)) σ τ' M]
    refine AM_gen (fun out ho => ?_)
    refine AM_of [.ref 0, .retAddr 0, .retAddr 0] (by decide) rfl (fun B => (Nat.le_of_ble_eq_true rfl)) ?_
    have y4 := y3 M J out ho
    have hde := c_X0_isDeserted (σ := σ) (M := hs_put 26 τ M) (J := J) hS
    rw [hs_comm (h := 1) (g := 26) (Or.inl (by decide)) σ τ M] at hde
    refine e_aload_n dX6_empties_0 rfl rfl ?_
    refine e_getr dX6_empties_1 fl_6_10 hT.a0 rfl ?_
    refine e_cV1 dX6_empties_4 ml_6_167 hde hS.a0 rfl rfl (by decide) (Nat.le_of_ble_eq_true rfl) ⟨rfl, rfl⟩ (Nat.le_of_ble_eq_true rfl) (Nat.le_of_ble_eq_true rfl) ?_
    refine e_if_eq 12 dX6_empties_7 (by decide) (fun h7 => ?_) (fun h7 => ?_)
    · refine e_aload_n dX6_empties_12 rfl rfl ?_
      refine e_getr dX6_empties_13 fl_6_16 hT.a0 rfl ?_
      refine e_aload_n dX6_empties_16 rfl rfl ?_
      refine e_getr dX6_empties_17 fl_6_10 hT.a0 rfl ?_
      refine e_cV0 dX6_empties_20 ml_6_171 (c_X0_copyFrom hV hS (Or.inr (by decide)) hR.h9) hV.a0 rfl rfl (by decide) (Nat.le_of_ble_eq_true rfl) ⟨rfl, rfl⟩ (Nat.le_of_ble_eq_true rfl) (Nat.le_of_ble_eq_true rfl) ?_
      refine e_aload_n dX6_empties_23 rfl rfl ?_
      refine e_getr dX6_empties_24 fl_6_10 hT.a0 rfl ?_
      refine hf_get2 hG hD dX6_empties_27 fl_6_82 (by decide) ?_
      refine e_sipush (v := 500) dX6_empties_30 (by decide) ?_
      refine e_iadd dX6_empties_33 ?_
      refine e_as (nI ((t + 500))) (ai_add hR.t5.1 (ai_lit 500)) ?_
      refine e_istore_n dX6_empties_34 rfl (by decide) rfl ?_
      refine e_iconst (v := 0) dX6_empties_35 (by decide) ?_
      refine e_istore_n dX6_empties_36 rfl (by decide) rfl ?_
      exact y4
    · exact absurd (hR.desert.mp (z1 h7)) h0
end C59

