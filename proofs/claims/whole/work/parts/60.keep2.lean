/-! ===== the keeper: foretelling, the best quota ===== -/
theorem eO_cut {m : Nat → Int32} {k N : Nat} (hN : N ≤ 500) : eO m k N = match eO m k 500 with
    | some x => if x ≤ N then some x else none
    | none => none := by
  cases h : eO m k 500 with
  | none =>
    have hn := ff_no h
    exact ff_none (fun T hT => hn T (by omega))
  | some x =>
    obtain ⟨h1, h2, h3⟩ := ff_is h
    show eO m k N = if x ≤ N then some x else none
    by_cases hx : x ≤ N
    · rw [if_pos hx]
      exact ff_some (by omega) h2 h3
    · rw [if_neg hx]
      exact ff_none (fun T hT => h3 T (by omega))
theorem eO_pos {m : Nat → Int32} {k N x : Nat} (h1 : m k = 1) (h : eO m k N = some x) : 1 ≤ x ∧ x ≤ N := by
  obtain ⟨a, b, c⟩ := ff_is h
  refine ⟨?_, by omega⟩
  rcases Nat.eq_zero_or_pos x with z | z
  · subst z
    rw [rP_0, h1] at b
    exact absurd b (by decide)
  · exact z
section C60
variable {S : List aiS}
theorem c_X6_foretell_ok (hT : KS S) {F E t k : Nat} {σ : hs_T} {m : Nat → Int32} (hR : Rel F E t σ m) (hF : F + 24000 ≤ 1000000000) (ht : t ≤ 20000) (hk : k < 12) (hk1 : m k = 1) (τ : hs_T) : ∃ τ', ∀ M J, AM G_X6_foretell [.ref 0, .int (nI k)] S (hs_put 1 σ (hs_put 26 τ M)) J (some (.int (oI (eO (upd m 101 (m 101)) k 500))), S, hs_put 1 σ (hs_put 26 τ' M), J) := by
  have hS := hT.now
  have hu1 : hu σ 1 = m 101 := by
    obtain ⟨hw, e, c, hN, hM, hR, hSt, hU, hL, hG⟩ := hR
    exact hSt.2.1
  obtain ⟨τ', hc⟩ := c_X6_tue hT (m 101) hR hF ht hk hk1 (N := 500) (by omega) τ
  refine ⟨τ', fun M J => ?_⟩
  have hc2 := hc M J
  rw [← hu1] at hc2 ⊢
  have hst := (hR.st hk).1
  refine AM_gen (fun out ho => ?_)
  refine AM_of [.ref 0, .int (nI k)] (by decide) rfl (fun B => (Nat.le_of_ble_eq_true rfl)) ?_
  refine e_iload_n dX6_foretell_0 rfl rfl ?_
  refine e_cS1 dX6_foretell_1 ml_6_63 (c_X6_isMember _) rfl rfl (by decide) (Nat.le_of_ble_eq_true rfl) ⟨rfl, rfl⟩ (Nat.le_of_ble_eq_true rfl) (Nat.le_of_ble_eq_true rfl) ?_
  refine e_if_ne 10 dX6_foretell_4 (by decide) (fun h4 => ?_) (fun h4 => ?_)
  · refine e_aload_n dX6_foretell_10 rfl rfl ?_
    refine e_getr dX6_foretell_11 fl_6_10 hT.a0 rfl ?_
    refine e_getr dX6_foretell_14 fl_6_66 hS.a0 rfl ?_
    refine e_iload_n dX6_foretell_17 rfl rfl ?_
    refine h_mem k hS dX6_foretell_18 rfl (by first | assumption | omega) ?_
    refine hm_get hS (by first | assumption | omega) dX6_foretell_19 fl_6_70 (by decide) ?_
    refine e_iconst (v := 1) dX6_foretell_22 (by decide) ?_
    refine e_icmp_eq 29 dX6_foretell_23 (by decide) (fun h23 => ?_) (fun h23 => ?_)
    · refine e_aload_n dX6_foretell_29 rfl rfl ?_
      refine e_iload_n dX6_foretell_30 rfl rfl ?_
      refine e_aload_n dX6_foretell_31 rfl rfl ?_
      refine e_getr dX6_foretell_32 fl_6_10 hT.a0 rfl ?_
      refine e_getr dX6_foretell_35 fl_6_59 hS.a0 rfl ?_
      refine e_iconst (v := 1) dX6_foretell_38 (by decide) ?_
      refine hu_ld 1 hS dX6_foretell_39 (ai_lit 1) (by decide) ?_
      refine e_sipush (v := 500) dX6_foretell_40 (by decide) ?_
      refine e_cV1 dX6_foretell_43 ml_6_163 hc2 hT.a0 rfl rfl (by decide) (Nat.le_of_ble_eq_true rfl) ⟨rfl, rfl⟩ (Nat.le_of_ble_eq_true rfl) (Nat.le_of_ble_eq_true rfl) ?_
      exact e_iret dX6_foretell_46 rfl ho (Nat.le_of_ble_eq_true rfl) (Nat.le_of_ble_eq_true rfl)
    · exact absurd (hst.trans hk1) h23
  · exact absurd ⟨nI_pos' (by omega), nI_le (b := 11) (by omega) (by decide)⟩ (z0 h4)
theorem c_X6_foretell_no (hT : KS S) {σ : hs_T} {a v : Int32} (hbad : ¬ (0 ≤ a ∧ a ≤ 11) → v = -2) (hst : ∀ k, k < 12 → a = nI k → ¬ hm σ k 0 = 1 ∧ v = -3) (M : Nat → Nat → Int32) (J : Nat → Int64) : AM G_X6_foretell [.ref 0, .int a] S (hs_put 1 σ M) J (some (.int v), S, hs_put 1 σ M, J) := by
  have hS := hT.now
  refine AM_gen (fun out ho => ?_)
  refine AM_of [.ref 0, .int a] (by decide) rfl (fun B => (Nat.le_of_ble_eq_true rfl)) ?_
  refine e_iload_n dX6_foretell_0 rfl rfl ?_
  refine e_cS1 dX6_foretell_1 ml_6_63 (c_X6_isMember _) rfl rfl (by decide) (Nat.le_of_ble_eq_true rfl) ⟨rfl, rfl⟩ (Nat.le_of_ble_eq_true rfl) (Nat.le_of_ble_eq_true rfl) ?_
  refine e_if_ne 10 dX6_foretell_4 (by decide) (fun h4 => ?_) (fun h4 => ?_)
  · obtain ⟨k, hk, rfl⟩ := wi_nI (n := 11) rfl (z1 h4)
    obtain ⟨h1, h2⟩ := hst k (by omega) rfl
    refine e_aload_n dX6_foretell_10 rfl rfl ?_
    refine e_getr dX6_foretell_11 fl_6_10 hT.a0 rfl ?_
    refine e_getr dX6_foretell_14 fl_6_66 hS.a0 rfl ?_
    refine e_iload_n dX6_foretell_17 rfl rfl ?_
    refine h_mem k hS dX6_foretell_18 rfl (by first | assumption | omega) ?_
    refine hm_get hS (by first | assumption | omega) dX6_foretell_19 fl_6_70 (by decide) ?_
    refine e_iconst (v := 1) dX6_foretell_22 (by decide) ?_
    refine e_icmp_eq 29 dX6_foretell_23 (by decide) (fun h23 => ?_) (fun h23 => ?_)
    · exact absurd h23 h1
    · refine e_bipush (v := (-3)) dX6_foretell_26 (by decide) ?_
      exact e_iret dX6_foretell_28 rfl (ho.trans (by rw [h2])) (Nat.le_of_ble_eq_true rfl) (Nat.le_of_ble_eq_true rfl)
  · have hv := hbad (z0 h4)
    refine e_bipush (v := (-2)) dX6_foretell_7 (by decide) ?_
    exact e_iret dX6_foretell_9 rfl (ho.trans (by rw [hv])) (Nat.le_of_ble_eq_true rfl) (Nat.le_of_ble_eq_true rfl)
theorem c_X6_bestQuota_no (hT : KS S) {σ : hs_T} {a w v : Int32} (hbad : ¬ ((0 ≤ a ∧ a ≤ 11) ∧ (0 ≤ w ∧ w ≤ 1)) → v = -2) (hst : ∀ k, k < 12 → a = nI k → (0 ≤ w ∧ w ≤ 1) → ¬ hm σ k 0 = 1 ∧ v = -3) (M : Nat → Nat → Int32) (J : Nat → Int64) : AM G_X6_bestQuota [.ref 0, .int a, .int w] S (hs_put 1 σ M) J (some (.int v), S, hs_put 1 σ M, J) := by
  have hS := hT.now
  refine AM_gen (fun out ho => ?_)
  refine AM_of [.ref 0, .int a, .int w, .retAddr 0, .retAddr 0, .retAddr 0, .retAddr 0, .retAddr 0] (by decide) rfl (fun B => (Nat.le_of_ble_eq_true rfl)) ?_
  refine e_iload_n dX6_bestQuota_0 rfl rfl ?_
  refine e_cS1 dX6_bestQuota_1 ml_6_63 (c_X6_isMember _) rfl rfl (by decide) (Nat.le_of_ble_eq_true rfl) ⟨rfl, rfl⟩ (Nat.le_of_ble_eq_true rfl) (Nat.le_of_ble_eq_true rfl) ?_
  refine e_if_eq 16 dX6_bestQuota_4 (by decide) (fun h4 => ?_) (fun h4 => ?_)
  · have hv := hbad (fun q => z0 h4 q.1)
    refine e_bipush (v := (-2)) dX6_bestQuota_16 (by decide) ?_
    exact e_iret dX6_bestQuota_18 rfl (ho.trans (by rw [hv])) (Nat.le_of_ble_eq_true rfl) (Nat.le_of_ble_eq_true rfl)
  · refine e_iload_n dX6_bestQuota_7 rfl rfl ?_
    refine e_iconst (v := 0) dX6_bestQuota_8 (by decide) ?_
    refine e_iconst (v := 1) dX6_bestQuota_9 (by decide) ?_
    refine e_cS1 dX6_bestQuota_10 ml_6_38 (c_X6_isWithin _ _ _) rfl rfl (by decide) (Nat.le_of_ble_eq_true rfl) ⟨rfl, rfl⟩ (Nat.le_of_ble_eq_true rfl) (Nat.le_of_ble_eq_true rfl) ?_
    refine e_if_ne 19 dX6_bestQuota_13 (by decide) (fun h13 => ?_) (fun h13 => ?_)
    · obtain ⟨k, hk, rfl⟩ := wi_nI (n := 11) rfl (z1 h4)
      obtain ⟨h1, h2⟩ := hst k (by omega) rfl (z1 h13)
      refine e_aload_n dX6_bestQuota_19 rfl rfl ?_
      refine e_getr dX6_bestQuota_20 fl_6_10 hT.a0 rfl ?_
      refine e_getr dX6_bestQuota_23 fl_6_66 hS.a0 rfl ?_
      refine e_iload_n dX6_bestQuota_26 rfl rfl ?_
      refine h_mem k hS dX6_bestQuota_27 rfl (by first | assumption | omega) ?_
      refine hm_get hS (by first | assumption | omega) dX6_bestQuota_28 fl_6_70 (by decide) ?_
      refine e_iconst (v := 1) dX6_bestQuota_31 (by decide) ?_
      refine e_icmp_eq 38 dX6_bestQuota_32 (by decide) (fun h32 => ?_) (fun h32 => ?_)
      · exact absurd h32 h1
      · refine e_bipush (v := (-3)) dX6_bestQuota_35 (by decide) ?_
        exact e_iret dX6_bestQuota_37 rfl (ho.trans (by rw [h2])) (Nat.le_of_ble_eq_true rfl) (Nat.le_of_ble_eq_true rfl)
    · have hv := hbad (fun q => z0 h13 q.2)
      refine e_bipush (v := (-2)) dX6_bestQuota_16 (by decide) ?_
      exact e_iret dX6_bestQuota_18 rfl (ho.trans (by rw [hv])) (Nat.le_of_ble_eq_true rfl) (Nat.le_of_ble_eq_true rfl)
theorem c_X6_bestQuota_ok (hT : KS S) {F E t k q : Nat} {σ : hs_T} {m : Nat → Int32} (hR : Rel F E t σ m) (hF : F + 24000 ≤ 1000000000) (ht : t ≤ 20000) (hk : k < 12) (hq : q < 2) (hk1 : m k = 1) (τ : hs_T) : ∃ τ', ∀ M J, AM G_X6_bestQuota [.ref 0, .int (nI k), .int (nI q)] S (hs_put 1 σ (hs_put 26 τ M)) J (some (.int (oI ((rBq (fun i => eO (upd m 101 (nI i)) k 500) 20).map (fun z => if q = 0 then z.1 else z.2)))), S, hs_put 1 σ (hs_put 26 τ' M), J) := by
  have hS := hT.now
  have hst := (hR.st hk).1
  generalize he : (fun i => eO (upd m 101 (nI i)) k 500) = e
  have hee : ∀ i, eO (upd m 101 (nI i)) k 500 = e i := fun i => by rw [← he]
  have hk0 : ∀ i, upd m 101 (nI i) k = 1 := fun i => by rw [upd_ne _ _ (by omega)]; exact hk1
  have hle : ∀ i t, e i = some t → 1 ≤ t ∧ t ≤ 500 := by
    intro i t hi
    rw [← hee] at hi
    exact eO_pos (hk0 i) hi
  have hbl : ∀ i z, rBq e i = some z → z.1 ≤ i ∧ 1 ≤ z.2 ∧ z.2 ≤ 500 := by
    intro i
    induction i with
    | zero => intro z h; simp [rBq] at h
    | succ i ih =>
      intro z h
      rw [rBq] at h
      cases hb : rBq e i with
      | none =>
        rw [hb] at h
        cases he : e (i + 1) with
        | none => rw [he] at h; cases h
        | some t =>
          rw [he] at h
          cases h
          exact ⟨Nat.le_refl _, hle (i + 1) t he⟩
      | some y =>
        obtain ⟨y1, y2⟩ := ih y hb
        rw [hb] at h
        obtain ⟨yq, ys⟩ := y
        cases he : e (i + 1) with
        | none =>
          rw [he] at h
          cases h
          exact ⟨by show yq ≤ i + 1; have : yq ≤ i := y1; omega, y2⟩
        | some t =>
          rw [he] at h
          by_cases hts : t < ys
          · simp only [hts, if_true] at h
            cases h
            exact ⟨Nat.le_refl _, hle (i + 1) t he⟩
          · simp only [hts, if_false] at h
            cases h
            exact ⟨by show yq ≤ i + 1; have : yq ≤ i := y1; omega, y2⟩
  have key : ∀ (d i : Nat) (τ1 : hs_T) (x6 x7 : Value), i + d = 20 → ∃ τ', ∀ M J out, out = ((some (.int (oI ((rBq e 20).map (fun z => if q = 0 then z.1 else z.2)))), S, hs_put 1 σ (hs_put 26 τ' M), J) : aiR) → AW G_X6_bestQuota out 0 0 46 [.ref 0, .int (nI k), .int (nI q), .int (oI ((rBq e i).map (fun z => z.1))), .int (oI ((rBq e i).map (fun z => z.2))), .int (nI (i + 1)), x6, x7] [] S (hs_put 1 σ (hs_put 26 τ1 M)) J := by
    intro d
    induction d with
    | zero =>
      intro i τ1 x6 x7 hi
      have hi2 : i = 20 := by omega
      subst hi2
      refine ⟨τ1, fun M J out ho => ?_⟩
      have tl2 : ∀ y : Int32, y = oI ((rBq e 20).map (fun z => if q = 0 then z.1 else z.2)) → AW G_X6_bestQuota out 0 0 110 [.ref 0, .int (nI k), .int (nI q), .int (oI ((rBq e 20).map (fun z => z.1))), .int (oI ((rBq e 20).map (fun z => z.2))), .int (nI (20 + 1)), x6, x7] [.int y] S (hs_put 1 σ (hs_put 26 τ1 M)) J := by
        intro y hy
        exact e_iret dX6_bestQuota_110 rfl (ho.trans (by rw [hy])) (Nat.le_of_ble_eq_true rfl) (Nat.le_of_ble_eq_true rfl)
      refine e_iload dX6_bestQuota_46 rfl ?_
      refine e_bipush (v := 20) dX6_bestQuota_48 (by decide) ?_
      refine e_icmp_gt 100 dX6_bestQuota_50 (by decide) (fun h50 => ?_) (fun h50 => ?_)
      · refine e_iload_n dX6_bestQuota_100 rfl rfl ?_
        refine e_if_ne 108 dX6_bestQuota_101 (by decide) (fun h101 => ?_) (fun h101 => ?_)
        · have hq0 : ¬ q = 0 := fun z => h101 (by rw [z]; rfl)
          refine e_iload dX6_bestQuota_108 rfl ?_
          exact tl2 _ (by simp only [hq0, if_false])
        · have hq0 : q = 0 := by
            rcases Nat.eq_zero_or_pos q with z | z
            · exact z
            · exact absurd h101 (nI_ne0 z (by omega))
          refine e_iload_n dX6_bestQuota_104 rfl rfl ?_
          refine e_goto 110 dX6_bestQuota_105 (by decide) ?_
          exact tl2 _ (by simp only [hq0, if_true])
      · exact absurd (by decide) h50
    | succ d ih =>
      intro i τ1 x6 x7 hi
      have hlt1 : nI (i + 1) ≤ 20 := nI_le (a := i + 1) (b := 20) (by omega) (by omega)
      -- the foresight N, then the turn
      have turn : ∀ (N : Nat), N ≤ 500 → ∃ τ', ∀ M J out, out = ((some (.int (oI ((rBq e 20).map (fun z => if q = 0 then z.1 else z.2)))), S, hs_put 1 σ (hs_put 26 τ' M), J) : aiR) → (N = match rBq e i with | none => 500 | some y => y.2 - 1) → AW G_X6_bestQuota out 0 0 68 [.ref 0, .int (nI k), .int (nI q), .int (oI ((rBq e i).map (fun z => z.1))), .int (oI ((rBq e i).map (fun z => z.2))), .int (nI (i + 1)), x6, x7] [.int (nI N)] S (hs_put 1 σ (hs_put 26 τ1 M)) J := by
        intro N hN
        obtain ⟨τ2, hc⟩ := c_X6_tue hT (nI (i + 1)) hR hF ht hk hk1 hN τ1
        obtain ⟨τ3, hi3⟩ := ih (i + 1) τ2 (.int (nI N)) (.int (oI (eO (upd m 101 (nI (i + 1))) k N))) (by omega)
        refine ⟨τ3, fun M J out ho hNe => ?_⟩
        have hc2 := hc M J
        have hi4 := hi3 M J out ho
        have hcut := eO_cut (m := upd m 101 (nI (i + 1))) (k := k) hN
        rw [hee (i + 1)] at hcut
        cases hb : rBq e i with
        | none =>
          rw [hb] at hNe
          have hN5 : N = 500 := hNe
          cases he1 : e (i + 1) with
          | none =>
            rw [he1] at hcut
            have hcut' : eO (upd m 101 (nI (i + 1))) k N = none := hcut
            have hbq : rBq e (i + 1) = none := by rw [rBq, hb, he1]; rfl
            rw [hcut'] at hc2
            rw [hbq, hcut'] at hi4
            refine e_istore dX6_bestQuota_68 (by decide) rfl ?_
            refine e_aload_n dX6_bestQuota_70 rfl rfl ?_
            refine e_iload_n dX6_bestQuota_71 rfl rfl ?_
            refine e_iload dX6_bestQuota_72 rfl ?_
            refine e_iload dX6_bestQuota_74 rfl ?_
            refine e_cV1 dX6_bestQuota_76 ml_6_163 hc2 hT.a0 rfl rfl (by decide) (Nat.le_of_ble_eq_true rfl) ⟨rfl, rfl⟩ (Nat.le_of_ble_eq_true rfl) (Nat.le_of_ble_eq_true rfl) ?_
            refine e_istore dX6_bestQuota_79 (by decide) rfl ?_
            refine e_iload dX6_bestQuota_81 rfl ?_
            refine e_iconst (v := (-1)) dX6_bestQuota_83 (by decide) ?_
            refine e_icmp_eq 94 dX6_bestQuota_84 (by decide) (fun h84 => ?_) (fun h84 => ?_)
            · refine e_iinc dX6_bestQuota_94 rfl (ai_inc _) (by decide) rfl ?_
              refine e_goto 46 dX6_bestQuota_97 (by decide) ?_
              exact hi4
            · exact absurd rfl h84
          | some t =>
            have ht5 := hle (i + 1) t he1
            rw [he1] at hcut
            have hcut' : eO (upd m 101 (nI (i + 1))) k N = some t := by
              rw [hcut]
              show (if t ≤ N then some t else none) = some t
              rw [if_pos (by omega)]
            have hbq : rBq e (i + 1) = some (i + 1, t) := by rw [rBq, hb, he1]; rfl
            rw [hcut'] at hc2
            rw [hbq, hcut'] at hi4
            refine e_istore dX6_bestQuota_68 (by decide) rfl ?_
            refine e_aload_n dX6_bestQuota_70 rfl rfl ?_
            refine e_iload_n dX6_bestQuota_71 rfl rfl ?_
            refine e_iload dX6_bestQuota_72 rfl ?_
            refine e_iload dX6_bestQuota_74 rfl ?_
            refine e_cV1 dX6_bestQuota_76 ml_6_163 hc2 hT.a0 rfl rfl (by decide) (Nat.le_of_ble_eq_true rfl) ⟨rfl, rfl⟩ (Nat.le_of_ble_eq_true rfl) (Nat.le_of_ble_eq_true rfl) ?_
            refine e_istore dX6_bestQuota_79 (by decide) rfl ?_
            refine e_iload dX6_bestQuota_81 rfl ?_
            refine e_iconst (v := (-1)) dX6_bestQuota_83 (by decide) ?_
            refine e_icmp_eq 94 dX6_bestQuota_84 (by decide) (fun h84 => ?_) (fun h84 => ?_)
            · exact absurd h84 (nI_ne_m1 (by omega))
            · refine e_iload dX6_bestQuota_87 rfl ?_
              refine e_istore_n dX6_bestQuota_89 rfl (by decide) rfl ?_
              refine e_iload dX6_bestQuota_90 rfl ?_
              refine e_istore dX6_bestQuota_92 (by decide) rfl ?_
              refine e_iinc dX6_bestQuota_94 rfl (ai_inc _) (by decide) rfl ?_
              refine e_goto 46 dX6_bestQuota_97 (by decide) ?_
              exact hi4
        | some y =>
          obtain ⟨yq, ys⟩ := y
          obtain ⟨y1, y2, y3⟩ := hbl i _ hb
          have y2' : 1 ≤ ys := y2
          have y3' : ys ≤ 500 := y3
          rw [hb] at hNe
          have hN5 : N = ys - 1 := hNe
          cases he1 : e (i + 1) with
          | none =>
            rw [he1] at hcut
            have hcut' : eO (upd m 101 (nI (i + 1))) k N = none := hcut
            have hbq : rBq e (i + 1) = some (yq, ys) := by rw [rBq, hb, he1]
            rw [hcut'] at hc2
            rw [hbq, hcut'] at hi4
            refine e_istore dX6_bestQuota_68 (by decide) rfl ?_
            refine e_aload_n dX6_bestQuota_70 rfl rfl ?_
            refine e_iload_n dX6_bestQuota_71 rfl rfl ?_
            refine e_iload dX6_bestQuota_72 rfl ?_
            refine e_iload dX6_bestQuota_74 rfl ?_
            refine e_cV1 dX6_bestQuota_76 ml_6_163 hc2 hT.a0 rfl rfl (by decide) (Nat.le_of_ble_eq_true rfl) ⟨rfl, rfl⟩ (Nat.le_of_ble_eq_true rfl) (Nat.le_of_ble_eq_true rfl) ?_
            refine e_istore dX6_bestQuota_79 (by decide) rfl ?_
            refine e_iload dX6_bestQuota_81 rfl ?_
            refine e_iconst (v := (-1)) dX6_bestQuota_83 (by decide) ?_
            refine e_icmp_eq 94 dX6_bestQuota_84 (by decide) (fun h84 => ?_) (fun h84 => ?_)
            · refine e_iinc dX6_bestQuota_94 rfl (ai_inc _) (by decide) rfl ?_
              refine e_goto 46 dX6_bestQuota_97 (by decide) ?_
              exact hi4
            · exact absurd rfl h84
          | some t =>
            have ht5 := hle (i + 1) t he1
            rw [he1] at hcut
            by_cases hts : t < ys
            · have hcut' : eO (upd m 101 (nI (i + 1))) k N = some t := by
                rw [hcut]
                show (if t ≤ N then some t else none) = some t
                rw [if_pos (by omega)]
              have hbq : rBq e (i + 1) = some (i + 1, t) := by
                rw [rBq, hb, he1]
                simp only [hts, if_true]
              rw [hcut'] at hc2
              rw [hbq, hcut'] at hi4
              refine e_istore dX6_bestQuota_68 (by decide) rfl ?_
              refine e_aload_n dX6_bestQuota_70 rfl rfl ?_
              refine e_iload_n dX6_bestQuota_71 rfl rfl ?_
              refine e_iload dX6_bestQuota_72 rfl ?_
              refine e_iload dX6_bestQuota_74 rfl ?_
              refine e_cV1 dX6_bestQuota_76 ml_6_163 hc2 hT.a0 rfl rfl (by decide) (Nat.le_of_ble_eq_true rfl) ⟨rfl, rfl⟩ (Nat.le_of_ble_eq_true rfl) (Nat.le_of_ble_eq_true rfl) ?_
              refine e_istore dX6_bestQuota_79 (by decide) rfl ?_
              refine e_iload dX6_bestQuota_81 rfl ?_
              refine e_iconst (v := (-1)) dX6_bestQuota_83 (by decide) ?_
              refine e_icmp_eq 94 dX6_bestQuota_84 (by decide) (fun h84 => ?_) (fun h84 => ?_)
              · exact absurd h84 (nI_ne_m1 (by omega))
              · refine e_iload dX6_bestQuota_87 rfl ?_
                refine e_istore_n dX6_bestQuota_89 rfl (by decide) rfl ?_
                refine e_iload dX6_bestQuota_90 rfl ?_
                refine e_istore dX6_bestQuota_92 (by decide) rfl ?_
                refine e_iinc dX6_bestQuota_94 rfl (ai_inc _) (by decide) rfl ?_
                refine e_goto 46 dX6_bestQuota_97 (by decide) ?_
                exact hi4
            · have hcut' : eO (upd m 101 (nI (i + 1))) k N = none := by
                rw [hcut]
                show (if t ≤ N then some t else none) = none
                rw [if_neg (by omega)]
              have hbq : rBq e (i + 1) = some (yq, ys) := by
                rw [rBq, hb, he1]
                simp only [hts, if_false]
              rw [hcut'] at hc2
              rw [hbq, hcut'] at hi4
              refine e_istore dX6_bestQuota_68 (by decide) rfl ?_
              refine e_aload_n dX6_bestQuota_70 rfl rfl ?_
              refine e_iload_n dX6_bestQuota_71 rfl rfl ?_
              refine e_iload dX6_bestQuota_72 rfl ?_
              refine e_iload dX6_bestQuota_74 rfl ?_
              refine e_cV1 dX6_bestQuota_76 ml_6_163 hc2 hT.a0 rfl rfl (by decide) (Nat.le_of_ble_eq_true rfl) ⟨rfl, rfl⟩ (Nat.le_of_ble_eq_true rfl) (Nat.le_of_ble_eq_true rfl) ?_
              refine e_istore dX6_bestQuota_79 (by decide) rfl ?_
              refine e_iload dX6_bestQuota_81 rfl ?_
              refine e_iconst (v := (-1)) dX6_bestQuota_83 (by decide) ?_
              refine e_icmp_eq 94 dX6_bestQuota_84 (by decide) (fun h84 => ?_) (fun h84 => ?_)
              · refine e_iinc dX6_bestQuota_94 rfl (ai_inc _) (by decide) rfl ?_
                refine e_goto 46 dX6_bestQuota_97 (by decide) ?_
                exact hi4
              · exact absurd rfl h84
      cases hb : rBq e i with
      | none =>
        obtain ⟨τ', h1⟩ := turn 500 (by omega)
        refine ⟨τ', fun M J out ho => ?_⟩
        have h2 := h1 M J out ho (by rw [hb])
        rw [hb] at h2
        refine e_iload dX6_bestQuota_46 rfl ?_
        refine e_bipush (v := 20) dX6_bestQuota_48 (by decide) ?_
        refine e_icmp_gt 100 dX6_bestQuota_50 (by decide) (fun h50 => ?_) (fun h50 => ?_)
        · exact absurd h50 (Int32.not_lt.mpr hlt1)
        · refine e_iload_n dX6_bestQuota_53 rfl rfl ?_
          refine e_iconst (v := (-1)) dX6_bestQuota_54 (by decide) ?_
          refine e_icmp_ne 64 dX6_bestQuota_55 (by decide) (fun h55 => ?_) (fun h55 => ?_)
          · exact absurd rfl h55
          · refine e_sipush (v := 500) dX6_bestQuota_58 (by decide) ?_
            refine e_goto 68 dX6_bestQuota_61 (by decide) ?_
            exact h2
      | some y =>
        obtain ⟨yq, ys⟩ := y
        obtain ⟨y1, y2, y3⟩ := hbl i _ hb
        have y1' : yq ≤ i := y1
        have y2' : 1 ≤ ys := y2
        have y3' : ys ≤ 500 := y3
        obtain ⟨τ', h1⟩ := turn (ys - 1) (by omega)
        refine ⟨τ', fun M J out ho => ?_⟩
        have h2 := h1 M J out ho (by rw [hb])
        rw [hb] at h2
        refine e_iload dX6_bestQuota_46 rfl ?_
        refine e_bipush (v := 20) dX6_bestQuota_48 (by decide) ?_
        refine e_icmp_gt 100 dX6_bestQuota_50 (by decide) (fun h50 => ?_) (fun h50 => ?_)
        · exact absurd h50 (Int32.not_lt.mpr hlt1)
        · refine e_iload_n dX6_bestQuota_53 rfl rfl ?_
          refine e_iconst (v := (-1)) dX6_bestQuota_54 (by decide) ?_
          refine e_icmp_ne 64 dX6_bestQuota_55 (by decide) (fun h55 => ?_) (fun h55 => ?_)
          · refine e_iload dX6_bestQuota_64 rfl ?_
            refine e_iconst (v := 1) dX6_bestQuota_66 (by decide) ?_
            refine e_isub dX6_bestQuota_67 ?_
            refine e_as (nI ((ys - 1))) (nI_sb (a := ys) (b := 1) (by omega)) ?_
            exact h2
          · exact absurd h55 (nI_ne_m1 (k := yq) (by omega))
  obtain ⟨τ', y3⟩ := key 20 0 τ (.retAddr 0) (.retAddr 0) (by omega)
  refine ⟨τ', fun M J => ?_⟩
  refine AM_gen (fun out ho => ?_)
  refine AM_of [.ref 0, .int (nI k), .int (nI q), .retAddr 0, .retAddr 0, .retAddr 0, .retAddr 0, .retAddr 0] (by decide) rfl (fun B => (Nat.le_of_ble_eq_true rfl)) ?_
  have y4 := y3 M J out ho
  refine e_iload_n dX6_bestQuota_0 rfl rfl ?_
  refine e_cS1 dX6_bestQuota_1 ml_6_63 (c_X6_isMember _) rfl rfl (by decide) (Nat.le_of_ble_eq_true rfl) ⟨rfl, rfl⟩ (Nat.le_of_ble_eq_true rfl) (Nat.le_of_ble_eq_true rfl) ?_
  refine e_if_eq 16 dX6_bestQuota_4 (by decide) (fun h4 => ?_) (fun h4 => ?_)
  · exact absurd ⟨nI_pos' (by omega), nI_le (b := 11) (by omega) (by decide)⟩ (z0 h4)
  · refine e_iload_n dX6_bestQuota_7 rfl rfl ?_
    refine e_iconst (v := 0) dX6_bestQuota_8 (by decide) ?_
    refine e_iconst (v := 1) dX6_bestQuota_9 (by decide) ?_
    refine e_cS1 dX6_bestQuota_10 ml_6_38 (c_X6_isWithin _ _ _) rfl rfl (by decide) (Nat.le_of_ble_eq_true rfl) ⟨rfl, rfl⟩ (Nat.le_of_ble_eq_true rfl) (Nat.le_of_ble_eq_true rfl) ?_
    refine e_if_ne 19 dX6_bestQuota_13 (by decide) (fun h13 => ?_) (fun h13 => ?_)
    · refine e_aload_n dX6_bestQuota_19 rfl rfl ?_
      refine e_getr dX6_bestQuota_20 fl_6_10 hT.a0 rfl ?_
      refine e_getr dX6_bestQuota_23 fl_6_66 hS.a0 rfl ?_
      refine e_iload_n dX6_bestQuota_26 rfl rfl ?_
      refine h_mem k hS dX6_bestQuota_27 rfl (by first | assumption | omega) ?_
      refine hm_get hS (by first | assumption | omega) dX6_bestQuota_28 fl_6_70 (by decide) ?_
      refine e_iconst (v := 1) dX6_bestQuota_31 (by decide) ?_
      refine e_icmp_eq 38 dX6_bestQuota_32 (by decide) (fun h32 => ?_) (fun h32 => ?_)
      · refine e_iconst (v := (-1)) dX6_bestQuota_38 (by decide) ?_
        refine e_istore_n dX6_bestQuota_39 rfl (by decide) rfl ?_
        refine e_iconst (v := (-1)) dX6_bestQuota_40 (by decide) ?_
        refine e_istore dX6_bestQuota_41 (by decide) rfl ?_
        refine e_iconst (v := 1) dX6_bestQuota_43 (by decide) ?_
        refine e_istore dX6_bestQuota_44 (by decide) rfl ?_
        exact y4
      · exact absurd (hst.trans hk1) h32
    · exact absurd (if_pos ⟨nI_pos' (by omega), nI_le (b := 1) (by omega) (by decide)⟩) (fun z => absurd (h13.symm.trans z) (by decide))
end C60

