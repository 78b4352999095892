/-! ===== the reference: its calls ===== -/
theorem wi_nI {a hi : Int32} {n : Nat} (hM : hi.toInt = n) (h : 0 ≤ a ∧ a ≤ hi) : ∃ j : Nat, j ≤ n ∧ a = nI j := nI_of2 hM (Int32.not_lt.mpr h.1) h.2
def rSetR (o N : Nat) (hi : Int32 → Int32) (m : Nat → Int32) (a c v : Int32) (m' : Nat → Int32) : Prop :=
  (¬ ((0 ≤ a ∧ a ≤ nI (N - 1)) ∧ (1 ≤ c ∧ c ≤ hi a)) → v = -2 ∧ m' = m) ∧ ∀ r, r < N → a = nI r → 1 ≤ c ∧ c ≤ hi a → v = m (o + r) ∧ m' = upd m (o + r) c
def rRule (a : Int32) : Int32 := if a = 0 then 100 else if a = 1 then 20 else 50
def rReq2 (m : Nat → Int32) (k r : Nat) (t : Int32) : Nat → Int32 :=
  let m2 := upd (upd m k 1) (12 + k) (nI r)
  let m4 := upd (upd m2 (24 + k) (m2 103)) (36 + k) t
  let m5 := upd m4 (48 + k) (m4 107)
  upd m5 107 (m5 107 + 1)
def rReq (m : Nat → Int32) (k r : Nat) (t : Int32) : Nat → Int32 :=
  rReq2 (if ¬ rInUse m = nI r ∧ rWai m (nI r) = 0 ∧ m (70 + r) < m 106 then upd m (70 + r) (m 106) else m) k r t
def rReqR (n : Nat) (m : Nat → Int32) (a r t v : Int32) (m' : Nat → Int32) : Prop :=
  (¬ ((0 ≤ a ∧ a ≤ 11) ∧ (0 ≤ r ∧ r ≤ 4) ∧ (1 ≤ t ∧ t ≤ 999)) → v = -2 ∧ m' = m) ∧ ∀ k q, k < 12 → q < 5 → a = nI k → r = nI q → 1 ≤ t ∧ t ≤ 999 → (¬ m k = 0 → v = -3 ∧ m' = m) ∧ (m k = 0 → rActs n (rReq m k q t) = some m' ∧ v = m' k)
def rWdR (n : Nat) (m : Nat → Int32) (a v : Int32) (m' : Nat → Int32) : Prop :=
  (¬ (0 ≤ a ∧ a ≤ 11) → v = -2 ∧ m' = m) ∧ ∀ k, k < 12 → a = nI k → (¬ m k = 1 → v = -3 ∧ m' = m) ∧ (m k = 1 → rActs n (rLeaves m k) = some m' ∧ v = m 103 - m (24 + k))
def rLvR (n : Nat) (m : Nat → Int32) (a v : Int32) (m' : Nat → Int32) : Prop :=
  (¬ (0 ≤ a ∧ a ≤ 11) → v = -2 ∧ m' = m) ∧ ∀ k, k < 12 → a = nI k → (¬ m k = 2 → v = -3 ∧ m' = m) ∧ (m k = 2 → rActs n (rLogs (rLeaves m k) 2 (nI k) (m (12 + k))) = some m' ∧ v = m (36 + k))
def rCol (m : Nat → Int32) (k : Nat) : Nat → Int32 := upd (upd (upd m k 3) (24 + k) (upd m k 3 103)) (36 + k) 0
def rCoR (m : Nat → Int32) (a v : Int32) (m' : Nat → Int32) : Prop :=
  (¬ (0 ≤ a ∧ a ≤ 11) → v = -2 ∧ m' = m) ∧ ∀ k, k < 12 → a = nI k → (¬ m k = 2 → v = -3 ∧ m' = m) ∧ (m k = 2 → m' = rCol m k ∧ v = m (36 + k))
def rPaR (n : Nat) (m : Nat → Int32) (t v : Int32) (m' : Nat → Int32) : Prop :=
  (¬ (1 ≤ t ∧ t ≤ 999) → v = -2 ∧ m' = m) ∧ ∀ T, T ≤ 999 → 1 ≤ t → t = nI T → (¬ t ≤ 20000 - m 103 → v = -4 ∧ m' = m) ∧ (t ≤ 20000 - m 103 → rPass n T m = some m' ∧ v = m' 103)
theorem RW.req {m : Nat → Int32} (h : RW m) {k r : Nat} (hk : k < 12) (hr : r < 5) (t : Int32) : RW (rReq m k r t) := by
  have h0 : RW (if ¬ rInUse m = nI r ∧ rWai m (nI r) = 0 ∧ m (70 + r) < m 106 then upd m (70 + r) (m 106) else m) := by
    split
    · exact h.put (by omega) _
    · exact h
  rw [rReq]
  generalize (if ¬ rInUse m = nI r ∧ rWai m (nI r) = 0 ∧ m (70 + r) < m 106 then upd m (70 + r) (m 106) else m) = m0 at h0
  have h2 : RW (upd (upd m0 k 1) (12 + k) (nI r)) := by
    refine ⟨fun j hj => ?_, ?_, fun q hq => ?_, fun j hj => ?_⟩
    · by_cases e : j = k
      · subst e
        exact Or.inr ⟨r, hr, upd_same _ _ _⟩
      · rw [upd_ne _ _ (by omega), upd_ne _ _ (by omega), upd_ne _ _ (by omega), upd_ne _ _ (by omega)]
        exact h0.1 j hj
    · rw [upd_ne _ _ (by omega), upd_ne _ _ (by omega)]; exact h0.2.1
    · rw [upd_ne _ _ (by omega), upd_ne _ _ (by omega)]; exact h0.2.2.1 q hq
    · rw [upd_ne _ _ (by omega), upd_ne _ _ (by omega)]; exact h0.2.2.2 j hj
  exact (((h2.put (by omega) _).put (by omega) _).put (by omega) _).put (by omega) _
section C23
variable {S : List aiS} {M : Nat → Nat → Int32} {J : Nat → Int64} {b : Nat} {ρ : md_T} {m m' : Nat → Int32}
theorem c_X7_setCapacity (hB : MS S b) {a c v : Int32} (hR : rSetR 60 5 (fun _ => 8) m a c v m') : AM G_X7_setCapacity [.ref b, .int a, .int c] S (md_put b (Rm ρ m) M) J (some (.int v), S, md_put b (Rm ρ m') M, J) := by
  refine AM_gen (fun out ho => ?_)
  refine AM_of [.ref b, .int a, .int c, .retAddr 0] (by decide) rfl (fun B => (Nat.le_of_ble_eq_true rfl)) ?_
  refine e_iload_n dX7_setCapacity_0 rfl rfl ?_
  refine e_cS1 dX7_setCapacity_1 ml_7_88 (c_X7_isRoom _) rfl rfl (by decide) (Nat.le_of_ble_eq_true rfl) ⟨rfl, rfl⟩ (Nat.le_of_ble_eq_true rfl) (Nat.le_of_ble_eq_true rfl) ?_
  refine e_if_eq 17 dX7_setCapacity_4 (by decide) (fun h4 => ?_) (fun h4 => ?_)
  · obtain ⟨hv, hm⟩ := hR.1 (fun q => z0 h4 q.1)
    refine e_bipush (v := (-2)) dX7_setCapacity_17 (by decide) ?_
    exact e_iret dX7_setCapacity_19 rfl (ho.trans (by rw [hv, hm])) (Nat.le_of_ble_eq_true rfl) (Nat.le_of_ble_eq_true rfl)
  · refine e_iload_n dX7_setCapacity_7 rfl rfl ?_
    refine e_iconst (v := 1) dX7_setCapacity_8 (by decide) ?_
    refine e_bipush (v := 8) dX7_setCapacity_9 (by decide) ?_
    refine e_cS1 dX7_setCapacity_11 ml_7_39 (c_X7_in _ _ _) rfl rfl (by decide) (Nat.le_of_ble_eq_true rfl) ⟨rfl, rfl⟩ (Nat.le_of_ble_eq_true rfl) (Nat.le_of_ble_eq_true rfl) ?_
    refine e_if_ne 20 dX7_setCapacity_14 (by decide) (fun h14 => ?_) (fun h14 => ?_)
    · obtain ⟨r, hr, rfl⟩ := wi_nI (n := 4) rfl (z1 h4)
      obtain ⟨hv, hm⟩ := hR.2 r (by omega) rfl (z1 h14)
      refine e_aload_n dX7_setCapacity_20 rfl rfl ?_
      refine e_getr dX7_setCapacity_21 fl_7_7 hB.a0 rfl ?_
      refine e_bipush (v := 60) dX7_setCapacity_24 (by decide) ?_
      refine e_iload_n dX7_setCapacity_26 rfl rfl ?_
      refine e_iadd dX7_setCapacity_27 ?_
      refine mm_ld (60 + r) hB dX7_setCapacity_28 (ai_add (ai_lit 60) rfl) (by first | assumption | omega) ?_
      refine e_istore_n dX7_setCapacity_29 rfl (by decide) rfl ?_
      refine e_aload_n dX7_setCapacity_30 rfl rfl ?_
      refine e_getr dX7_setCapacity_31 fl_7_7 hB.a0 rfl ?_
      refine e_bipush (v := 60) dX7_setCapacity_34 (by decide) ?_
      refine e_iload_n dX7_setCapacity_36 rfl rfl ?_
      refine e_iadd dX7_setCapacity_37 ?_
      refine e_iload_n dX7_setCapacity_38 rfl rfl ?_
      refine mm_st (60 + r) hB dX7_setCapacity_39 (ai_add (ai_lit 60) rfl) (by first | assumption | omega) ?_
      refine e_iload_n dX7_setCapacity_40 rfl rfl ?_
      exact e_iret dX7_setCapacity_41 rfl (ho.trans (by rw [hv, hm])) (Nat.le_of_ble_eq_true rfl) (Nat.le_of_ble_eq_true rfl)
    · obtain ⟨hv, hm⟩ := hR.1 (fun q => z0 h14 q.2)
      refine e_bipush (v := (-2)) dX7_setCapacity_17 (by decide) ?_
      exact e_iret dX7_setCapacity_19 rfl (ho.trans (by rw [hv, hm])) (Nat.le_of_ble_eq_true rfl) (Nat.le_of_ble_eq_true rfl)
theorem c_X7_setShare (hB : MS S b) {a c v : Int32} (hR : rSetR 65 5 (fun _ => 9) m a c v m') : AM G_X7_setShare [.ref b, .int a, .int c] S (md_put b (Rm ρ m) M) J (some (.int v), S, md_put b (Rm ρ m') M, J) := by
  refine AM_gen (fun out ho => ?_)
  refine AM_of [.ref b, .int a, .int c, .retAddr 0] (by decide) rfl (fun B => (Nat.le_of_ble_eq_true rfl)) ?_
  refine e_iload_n dX7_setShare_0 rfl rfl ?_
  refine e_cS1 dX7_setShare_1 ml_7_88 (c_X7_isRoom _) rfl rfl (by decide) (Nat.le_of_ble_eq_true rfl) ⟨rfl, rfl⟩ (Nat.le_of_ble_eq_true rfl) (Nat.le_of_ble_eq_true rfl) ?_
  refine e_if_eq 17 dX7_setShare_4 (by decide) (fun h4 => ?_) (fun h4 => ?_)
  · obtain ⟨hv, hm⟩ := hR.1 (fun q => z0 h4 q.1)
    refine e_bipush (v := (-2)) dX7_setShare_17 (by decide) ?_
    exact e_iret dX7_setShare_19 rfl (ho.trans (by rw [hv, hm])) (Nat.le_of_ble_eq_true rfl) (Nat.le_of_ble_eq_true rfl)
  · refine e_iload_n dX7_setShare_7 rfl rfl ?_
    refine e_iconst (v := 1) dX7_setShare_8 (by decide) ?_
    refine e_bipush (v := 9) dX7_setShare_9 (by decide) ?_
    refine e_cS1 dX7_setShare_11 ml_7_39 (c_X7_in _ _ _) rfl rfl (by decide) (Nat.le_of_ble_eq_true rfl) ⟨rfl, rfl⟩ (Nat.le_of_ble_eq_true rfl) (Nat.le_of_ble_eq_true rfl) ?_
    refine e_if_ne 20 dX7_setShare_14 (by decide) (fun h14 => ?_) (fun h14 => ?_)
    · obtain ⟨r, hr, rfl⟩ := wi_nI (n := 4) rfl (z1 h4)
      obtain ⟨hv, hm⟩ := hR.2 r (by omega) rfl (z1 h14)
      refine e_aload_n dX7_setShare_20 rfl rfl ?_
      refine e_getr dX7_setShare_21 fl_7_7 hB.a0 rfl ?_
      refine e_bipush (v := 65) dX7_setShare_24 (by decide) ?_
      refine e_iload_n dX7_setShare_26 rfl rfl ?_
      refine e_iadd dX7_setShare_27 ?_
      refine mm_ld (65 + r) hB dX7_setShare_28 (ai_add (ai_lit 65) rfl) (by first | assumption | omega) ?_
      refine e_istore_n dX7_setShare_29 rfl (by decide) rfl ?_
      refine e_aload_n dX7_setShare_30 rfl rfl ?_
      refine e_getr dX7_setShare_31 fl_7_7 hB.a0 rfl ?_
      refine e_bipush (v := 65) dX7_setShare_34 (by decide) ?_
      refine e_iload_n dX7_setShare_36 rfl rfl ?_
      refine e_iadd dX7_setShare_37 ?_
      refine e_iload_n dX7_setShare_38 rfl rfl ?_
      refine mm_st (65 + r) hB dX7_setShare_39 (ai_add (ai_lit 65) rfl) (by first | assumption | omega) ?_
      refine e_iload_n dX7_setShare_40 rfl rfl ?_
      exact e_iret dX7_setShare_41 rfl (ho.trans (by rw [hv, hm])) (Nat.le_of_ble_eq_true rfl) (Nat.le_of_ble_eq_true rfl)
    · obtain ⟨hv, hm⟩ := hR.1 (fun q => z0 h14 q.2)
      refine e_bipush (v := (-2)) dX7_setShare_17 (by decide) ?_
      exact e_iret dX7_setShare_19 rfl (ho.trans (by rw [hv, hm])) (Nat.le_of_ble_eq_true rfl) (Nat.le_of_ble_eq_true rfl)
theorem c_X7_setRule (hB : MS S b) {a c v : Int32} (hR : rSetR 100 3 rRule m a c v m') : AM G_X7_setRule [.ref b, .int a, .int c] S (md_put b (Rm ρ m) M) J (some (.int v), S, md_put b (Rm ρ m') M, J) := by
  refine AM_gen (fun out ho => ?_)
  refine AM_of [.ref b, .int a, .int c, .retAddr 0] (by decide) rfl (fun B => (Nat.le_of_ble_eq_true rfl)) ?_
  refine e_iload_n dX7_setRule_0 rfl rfl ?_
  refine e_iconst (v := 0) dX7_setRule_1 (by decide) ?_
  refine e_iconst (v := 2) dX7_setRule_2 (by decide) ?_
  refine e_cS1 dX7_setRule_3 ml_7_39 (c_X7_in _ _ _) rfl rfl (by decide) (Nat.le_of_ble_eq_true rfl) ⟨rfl, rfl⟩ (Nat.le_of_ble_eq_true rfl) (Nat.le_of_ble_eq_true rfl) ?_
  refine e_if_eq 38 dX7_setRule_6 (by decide) (fun h6 => ?_) (fun h6 => ?_)
  · obtain ⟨hv, hm⟩ := hR.1 (fun q => z0 h6 q.1)
    refine e_bipush (v := (-2)) dX7_setRule_38 (by decide) ?_
    exact e_iret dX7_setRule_40 rfl (ho.trans (by rw [hv, hm])) (Nat.le_of_ble_eq_true rfl) (Nat.le_of_ble_eq_true rfl)
  · obtain ⟨r, hr, rfl⟩ := wi_nI (n := 2) rfl (z1 h6)
    have tail : ∀ hi : Int32, hi = rRule (nI r) → AW G_X7_setRule out 0 0 32 [.ref b, .int (nI r), .int c, .retAddr 0] [.int hi, .int 1, .int c] S (md_put b (Rm ρ m) M) J := by
      intro hi hh
      refine e_cS1 dX7_setRule_32 ml_7_39 (c_X7_in _ _ _) rfl rfl (by decide) (Nat.le_of_ble_eq_true rfl) ⟨rfl, rfl⟩ (Nat.le_of_ble_eq_true rfl) (Nat.le_of_ble_eq_true rfl) ?_
      refine e_if_ne 41 dX7_setRule_35 (by decide) (fun h35 => ?_) (fun h35 => ?_)
      · obtain ⟨hv, hm⟩ := hR.2 r (by omega) rfl (by rw [← hh]; exact z1 h35)
        refine e_aload_n dX7_setRule_41 rfl rfl ?_
        refine e_getr dX7_setRule_42 fl_7_7 hB.a0 rfl ?_
        refine e_bipush (v := 100) dX7_setRule_45 (by decide) ?_
        refine e_iload_n dX7_setRule_47 rfl rfl ?_
        refine e_iadd dX7_setRule_48 ?_
        refine mm_ld (100 + r) hB dX7_setRule_49 (ai_add (ai_lit 100) rfl) (by first | assumption | omega) ?_
        refine e_istore_n dX7_setRule_50 rfl (by decide) rfl ?_
        refine e_aload_n dX7_setRule_51 rfl rfl ?_
        refine e_getr dX7_setRule_52 fl_7_7 hB.a0 rfl ?_
        refine e_bipush (v := 100) dX7_setRule_55 (by decide) ?_
        refine e_iload_n dX7_setRule_57 rfl rfl ?_
        refine e_iadd dX7_setRule_58 ?_
        refine e_iload_n dX7_setRule_59 rfl rfl ?_
        refine mm_st (100 + r) hB dX7_setRule_60 (ai_add (ai_lit 100) rfl) (by first | assumption | omega) ?_
        refine e_iload_n dX7_setRule_61 rfl rfl ?_
        exact e_iret dX7_setRule_62 rfl (ho.trans (by rw [hv, hm])) (Nat.le_of_ble_eq_true rfl) (Nat.le_of_ble_eq_true rfl)
      · obtain ⟨hv, hm⟩ := hR.1 (fun q => z0 h35 (by rw [hh]; exact q.2))
        refine e_bipush (v := (-2)) dX7_setRule_38 (by decide) ?_
        exact e_iret dX7_setRule_40 rfl (ho.trans (by rw [hv, hm])) (Nat.le_of_ble_eq_true rfl) (Nat.le_of_ble_eq_true rfl)
    refine e_iload_n dX7_setRule_9 rfl rfl ?_
    refine e_iconst (v := 1) dX7_setRule_10 (by decide) ?_
    refine e_iload_n dX7_setRule_11 rfl rfl ?_
    refine e_if_ne 20 dX7_setRule_12 (by decide) (fun h12 => ?_) (fun h12 => ?_)
    · refine e_iload_n dX7_setRule_20 rfl rfl ?_
      refine e_iconst (v := 1) dX7_setRule_21 (by decide) ?_
      refine e_icmp_ne 30 dX7_setRule_22 (by decide) (fun h22 => ?_) (fun h22 => ?_)
      · refine e_bipush (v := 50) dX7_setRule_30 (by decide) ?_
        exact tail 50 (by rw [rRule, if_neg h12, if_neg h22])
      · refine e_bipush (v := 20) dX7_setRule_25 (by decide) ?_
        refine e_goto 32 dX7_setRule_27 (by decide) ?_
        exact tail 20 (by rw [rRule, if_neg h12, if_pos h22])
    · refine e_bipush (v := 100) dX7_setRule_15 (by decide) ?_
      refine e_goto 32 dX7_setRule_17 (by decide) ?_
      exact tail 100 (by rw [rRule, if_pos h12])
theorem c_X7_request (hB : MS S b) (hw : RW m) {n : Nat} {a r t v : Int32} (hR : rReqR n m a r t v m') : AM G_X7_request [.ref b, .int a, .int r, .int t] S (md_put b (Rm ρ m) M) J (some (.int v), S, md_put b (Rm ρ m') M, J) := by
  refine AM_gen (fun out ho => ?_)
  refine AM_of [.ref b, .int a, .int r, .int t] (by decide) rfl (fun B => (Nat.le_of_ble_eq_true rfl)) ?_
  refine e_iload_n dX7_request_0 rfl rfl ?_
  refine e_cS1 dX7_request_1 ml_7_91 (c_X7_isMember _) rfl rfl (by decide) (Nat.le_of_ble_eq_true rfl) ⟨rfl, rfl⟩ (Nat.le_of_ble_eq_true rfl) (Nat.le_of_ble_eq_true rfl) ?_
  refine e_if_eq 25 dX7_request_4 (by decide) (fun h4 => ?_) (fun h4 => ?_)
  · obtain ⟨hv, hm⟩ := hR.1 (fun q => z0 h4 q.1)
    refine e_bipush (v := (-2)) dX7_request_25 (by decide) ?_
    exact e_iret dX7_request_27 rfl (ho.trans (by rw [hv, hm])) (Nat.le_of_ble_eq_true rfl) (Nat.le_of_ble_eq_true rfl)
  · refine e_iload_n dX7_request_7 rfl rfl ?_
    refine e_cS1 dX7_request_8 ml_7_88 (c_X7_isRoom _) rfl rfl (by decide) (Nat.le_of_ble_eq_true rfl) ⟨rfl, rfl⟩ (Nat.le_of_ble_eq_true rfl) (Nat.le_of_ble_eq_true rfl) ?_
    refine e_if_eq 25 dX7_request_11 (by decide) (fun h11 => ?_) (fun h11 => ?_)
    · obtain ⟨hv, hm⟩ := hR.1 (fun q => z0 h11 q.2.1)
      refine e_bipush (v := (-2)) dX7_request_25 (by decide) ?_
      exact e_iret dX7_request_27 rfl (ho.trans (by rw [hv, hm])) (Nat.le_of_ble_eq_true rfl) (Nat.le_of_ble_eq_true rfl)
    · refine e_iload_n dX7_request_14 rfl rfl ?_
      refine e_iconst (v := 1) dX7_request_15 (by decide) ?_
      refine e_sipush (v := 999) dX7_request_16 (by decide) ?_
      refine e_cS1 dX7_request_19 ml_7_39 (c_X7_in _ _ _) rfl rfl (by decide) (Nat.le_of_ble_eq_true rfl) ⟨rfl, rfl⟩ (Nat.le_of_ble_eq_true rfl) (Nat.le_of_ble_eq_true rfl) ?_
      refine e_if_ne 28 dX7_request_22 (by decide) (fun h22 => ?_) (fun h22 => ?_)
      · obtain ⟨k, hk, rfl⟩ := wi_nI (n := 11) rfl (z1 h4)
        obtain ⟨q, hq, rfl⟩ := wi_nI (n := 4) rfl (z1 h11)
        obtain ⟨hst, hok⟩ := hR.2 k q (by omega) (by omega) rfl rfl (z1 h22)
        refine e_aload_n dX7_request_28 rfl rfl ?_
        refine e_getr dX7_request_29 fl_7_7 hB.a0 rfl ?_
        refine e_iconst (v := 0) dX7_request_32 (by decide) ?_
        refine e_iload_n dX7_request_33 rfl rfl ?_
        refine e_iadd dX7_request_34 ?_
        refine mm_ld k hB dX7_request_35 (ai_zadd rfl) (by first | assumption | omega) ?_
        refine e_if_eq 42 dX7_request_36 (by decide) (fun h36 => ?_) (fun h36 => ?_)
        · obtain ⟨hA, hv⟩ := hok h36
          have hwr := hw.req (k := k) (r := q) (by omega) (by omega) t
          have tail : ∀ m0 : Nat → Int32, rReq m k q t = rReq2 m0 k q t → AW G_X7_request out 0 0 93 [.ref b, .int (nI k), .int (nI q), .int t] [] S (md_put b (Rm ρ m0) M) J := by
            intro m0 hm0
            rw [hm0] at hA hwr
            refine e_aload_n dX7_request_93 rfl rfl ?_
            refine e_getr dX7_request_94 fl_7_7 hB.a0 rfl ?_
            refine e_iconst (v := 0) dX7_request_97 (by decide) ?_
            refine e_iload_n dX7_request_98 rfl rfl ?_
            refine e_iadd dX7_request_99 ?_
            refine e_iconst (v := 1) dX7_request_100 (by decide) ?_
            refine mm_st k hB dX7_request_101 (ai_zadd rfl) (by first | assumption | omega) ?_
            refine e_aload_n dX7_request_102 rfl rfl ?_
            refine e_getr dX7_request_103 fl_7_7 hB.a0 rfl ?_
            refine e_bipush (v := 12) dX7_request_106 (by decide) ?_
            refine e_iload_n dX7_request_108 rfl rfl ?_
            refine e_iadd dX7_request_109 ?_
            refine e_iload_n dX7_request_110 rfl rfl ?_
            refine mm_st (12 + k) hB dX7_request_111 (ai_add (ai_lit 12) rfl) (by first | assumption | omega) ?_
            refine e_aload_n dX7_request_112 rfl rfl ?_
            refine e_getr dX7_request_113 fl_7_7 hB.a0 rfl ?_
            refine e_bipush (v := 24) dX7_request_116 (by decide) ?_
            refine e_iload_n dX7_request_118 rfl rfl ?_
            refine e_iadd dX7_request_119 ?_
            refine e_aload_n dX7_request_120 rfl rfl ?_
            refine e_getr dX7_request_121 fl_7_7 hB.a0 rfl ?_
            refine e_bipush (v := 103) dX7_request_124 (by decide) ?_
            refine mm_ld 103 hB dX7_request_126 (ai_lit 103) (by decide) ?_
            refine mm_st (24 + k) hB dX7_request_127 (ai_add (ai_lit 24) rfl) (by first | assumption | omega) ?_
            refine e_aload_n dX7_request_128 rfl rfl ?_
            refine e_getr dX7_request_129 fl_7_7 hB.a0 rfl ?_
            refine e_bipush (v := 36) dX7_request_132 (by decide) ?_
            refine e_iload_n dX7_request_134 rfl rfl ?_
            refine e_iadd dX7_request_135 ?_
            refine e_iload_n dX7_request_136 rfl rfl ?_
            refine mm_st (36 + k) hB dX7_request_137 (ai_add (ai_lit 36) rfl) (by first | assumption | omega) ?_
            refine e_aload_n dX7_request_138 rfl rfl ?_
            refine e_getr dX7_request_139 fl_7_7 hB.a0 rfl ?_
            refine e_bipush (v := 48) dX7_request_142 (by decide) ?_
            refine e_iload_n dX7_request_144 rfl rfl ?_
            refine e_iadd dX7_request_145 ?_
            refine e_aload_n dX7_request_146 rfl rfl ?_
            refine e_getr dX7_request_147 fl_7_7 hB.a0 rfl ?_
            refine e_bipush (v := 107) dX7_request_150 (by decide) ?_
            refine mm_ld 107 hB dX7_request_152 (ai_lit 107) (by decide) ?_
            refine mm_st (48 + k) hB dX7_request_153 (ai_add (ai_lit 48) rfl) (by first | assumption | omega) ?_
            refine e_aload_n dX7_request_154 rfl rfl ?_
            refine e_getr dX7_request_155 fl_7_7 hB.a0 rfl ?_
            refine e_bipush (v := 107) dX7_request_158 (by decide) ?_
            refine e_dup2 dX7_request_160 rfl rfl ?_
            refine mm_ld 107 hB dX7_request_161 (ai_lit 107) (by decide) ?_
            refine e_iconst (v := 1) dX7_request_162 (by decide) ?_
            refine e_iadd dX7_request_163 ?_
            refine mm_st 107 hB dX7_request_164 (ai_lit 107) (by decide) ?_
            refine e_aload_n dX7_request_165 rfl rfl ?_
            refine e_cV0 dX7_request_166 ml_7_85 (c_X7_acts hB hwr hA) hB.a0 rfl rfl (by decide) (Nat.le_of_ble_eq_true rfl) ⟨rfl, rfl⟩ (Nat.le_of_ble_eq_true rfl) (Nat.le_of_ble_eq_true rfl) ?_
            refine e_aload_n dX7_request_169 rfl rfl ?_
            refine e_getr dX7_request_170 fl_7_7 hB.a0 rfl ?_
            refine e_iconst (v := 0) dX7_request_173 (by decide) ?_
            refine e_iload_n dX7_request_174 rfl rfl ?_
            refine e_iadd dX7_request_175 ?_
            refine mm_ld k hB dX7_request_176 (ai_zadd rfl) (by first | assumption | omega) ?_
            exact e_iret dX7_request_177 rfl (ho.trans (by rw [hv])) (Nat.le_of_ble_eq_true rfl) (Nat.le_of_ble_eq_true rfl)
          refine e_aload_n dX7_request_42 rfl rfl ?_
          refine e_cV1 dX7_request_43 ml_7_65 (c_X7_inUse hB) hB.a0 rfl rfl (by decide) (Nat.le_of_ble_eq_true rfl) ⟨rfl, rfl⟩ (Nat.le_of_ble_eq_true rfl) (Nat.le_of_ble_eq_true rfl) ?_
          refine e_iload_n dX7_request_46 rfl rfl ?_
          refine e_icmp_eq 93 dX7_request_47 (by decide) (fun h47 => ?_) (fun h47 => ?_)
          · exact tail m (by rw [rReq, if_neg (fun q => q.1 h47)])
          · refine e_aload_n dX7_request_50 rfl rfl ?_
            refine e_iload_n dX7_request_51 rfl rfl ?_
            refine e_cV1 dX7_request_52 ml_7_51 (c_X7_waitingFor hB _) hB.a0 rfl rfl (by decide) (Nat.le_of_ble_eq_true rfl) ⟨rfl, rfl⟩ (Nat.le_of_ble_eq_true rfl) (Nat.le_of_ble_eq_true rfl) ?_
            have hlt : rWai m (nI q) ≤ 12 := fb_ct_le _ _
            refine e_if_ne 93 dX7_request_55 (by decide) (fun h55 => ?_) (fun h55 => ?_)
            · have h0 : ¬ rWai m (nI q) = 0 := fun e => h55 (by rw [e]; rfl)
              exact tail m (by rw [rReq, if_neg (fun q => h0 q.2.1)])
            · have h0 : rWai m (nI q) = 0 := by
                rcases Nat.eq_zero_or_pos (rWai m (nI q)) with e | e
                · exact e
                · exact absurd h55 (nI_ne0 e (by omega))
              refine e_aload_n dX7_request_58 rfl rfl ?_
              refine e_getr dX7_request_59 fl_7_7 hB.a0 rfl ?_
              refine e_bipush (v := 70) dX7_request_62 (by decide) ?_
              refine e_iload_n dX7_request_64 rfl rfl ?_
              refine e_iadd dX7_request_65 ?_
              refine mm_ld (70 + q) hB dX7_request_66 (ai_add (ai_lit 70) rfl) (by first | assumption | omega) ?_
              refine e_aload_n dX7_request_67 rfl rfl ?_
              refine e_getr dX7_request_68 fl_7_7 hB.a0 rfl ?_
              refine e_bipush (v := 106) dX7_request_71 (by decide) ?_
              refine mm_ld 106 hB dX7_request_73 (ai_lit 106) (by decide) ?_
              refine e_icmp_ge 93 dX7_request_74 (by decide) (fun h74 => ?_) (fun h74 => ?_)
              · exact tail m (by rw [rReq, if_neg (fun q => absurd q.2.2 (Int32.not_lt.mpr h74))])
              · refine e_aload_n dX7_request_77 rfl rfl ?_
                refine e_getr dX7_request_78 fl_7_7 hB.a0 rfl ?_
                refine e_bipush (v := 70) dX7_request_81 (by decide) ?_
                refine e_iload_n dX7_request_83 rfl rfl ?_
                refine e_iadd dX7_request_84 ?_
                refine e_aload_n dX7_request_85 rfl rfl ?_
                refine e_getr dX7_request_86 fl_7_7 hB.a0 rfl ?_
                refine e_bipush (v := 106) dX7_request_89 (by decide) ?_
                refine mm_ld 106 hB dX7_request_91 (ai_lit 106) (by decide) ?_
                refine mm_st (70 + q) hB dX7_request_92 (ai_add (ai_lit 70) rfl) (by first | assumption | omega) ?_
                exact tail _ (by rw [rReq, if_pos ⟨h47, h0, Int32.not_le.mp h74⟩])
        · obtain ⟨hv, hm⟩ := hst h36
          refine e_bipush (v := (-3)) dX7_request_39 (by decide) ?_
          exact e_iret dX7_request_41 rfl (ho.trans (by rw [hv, hm])) (Nat.le_of_ble_eq_true rfl) (Nat.le_of_ble_eq_true rfl)
      · obtain ⟨hv, hm⟩ := hR.1 (fun q => z0 h22 q.2.2)
        refine e_bipush (v := (-2)) dX7_request_25 (by decide) ?_
        exact e_iret dX7_request_27 rfl (ho.trans (by rw [hv, hm])) (Nat.le_of_ble_eq_true rfl) (Nat.le_of_ble_eq_true rfl)
theorem c_X7_withdraw (hB : MS S b) (hw : RW m) {n : Nat} {a v : Int32} (hR : rWdR n m a v m') : AM G_X7_withdraw [.ref b, .int a] S (md_put b (Rm ρ m) M) J (some (.int v), S, md_put b (Rm ρ m') M, J) := by
  refine AM_gen (fun out ho => ?_)
  refine AM_of [.ref b, .int a, .retAddr 0] (by decide) rfl (fun B => (Nat.le_of_ble_eq_true rfl)) ?_
  refine e_iload_n dX7_withdraw_0 rfl rfl ?_
  refine e_cS1 dX7_withdraw_1 ml_7_91 (c_X7_isMember _) rfl rfl (by decide) (Nat.le_of_ble_eq_true rfl) ⟨rfl, rfl⟩ (Nat.le_of_ble_eq_true rfl) (Nat.le_of_ble_eq_true rfl) ?_
  refine e_if_ne 10 dX7_withdraw_4 (by decide) (fun h4 => ?_) (fun h4 => ?_)
  · obtain ⟨k, hk, rfl⟩ := wi_nI (n := 11) rfl (z1 h4)
    obtain ⟨hst, hok⟩ := hR.2 k (by omega) rfl
    refine e_aload_n dX7_withdraw_10 rfl rfl ?_
    refine e_getr dX7_withdraw_11 fl_7_7 hB.a0 rfl ?_
    refine e_iconst (v := 0) dX7_withdraw_14 (by decide) ?_
    refine e_iload_n dX7_withdraw_15 rfl rfl ?_
    refine e_iadd dX7_withdraw_16 ?_
    refine mm_ld k hB dX7_withdraw_17 (ai_zadd rfl) (by first | assumption | omega) ?_
    refine e_iconst (v := 1) dX7_withdraw_18 (by decide) ?_
    refine e_icmp_eq 25 dX7_withdraw_19 (by decide) (fun h19 => ?_) (fun h19 => ?_)
    · obtain ⟨hA, hv⟩ := hok h19
      refine e_aload_n dX7_withdraw_25 rfl rfl ?_
      refine e_getr dX7_withdraw_26 fl_7_7 hB.a0 rfl ?_
      refine e_bipush (v := 103) dX7_withdraw_29 (by decide) ?_
      refine mm_ld 103 hB dX7_withdraw_31 (ai_lit 103) (by decide) ?_
      refine e_aload_n dX7_withdraw_32 rfl rfl ?_
      refine e_getr dX7_withdraw_33 fl_7_7 hB.a0 rfl ?_
      refine e_bipush (v := 24) dX7_withdraw_36 (by decide) ?_
      refine e_iload_n dX7_withdraw_38 rfl rfl ?_
      refine e_iadd dX7_withdraw_39 ?_
      refine mm_ld (24 + k) hB dX7_withdraw_40 (ai_add (ai_lit 24) rfl) (by first | assumption | omega) ?_
      refine e_isub dX7_withdraw_41 ?_
      refine e_istore_n dX7_withdraw_42 rfl (by decide) rfl ?_
      refine e_aload_n dX7_withdraw_43 rfl rfl ?_
      refine e_iload_n dX7_withdraw_44 rfl rfl ?_
      refine e_cV0 dX7_withdraw_45 ml_7_35 (c_X7_leaves hB (by omega)) hB.a0 rfl rfl (by decide) (Nat.le_of_ble_eq_true rfl) ⟨rfl, rfl⟩ (Nat.le_of_ble_eq_true rfl) (Nat.le_of_ble_eq_true rfl) ?_
      refine e_aload_n dX7_withdraw_48 rfl rfl ?_
      refine e_cV0 dX7_withdraw_49 ml_7_85 (c_X7_acts hB (hw.leaves (by omega)) hA) hB.a0 rfl rfl (by decide) (Nat.le_of_ble_eq_true rfl) ⟨rfl, rfl⟩ (Nat.le_of_ble_eq_true rfl) (Nat.le_of_ble_eq_true rfl) ?_
      refine e_iload_n dX7_withdraw_52 rfl rfl ?_
      exact e_iret dX7_withdraw_53 rfl (ho.trans (by rw [hv])) (Nat.le_of_ble_eq_true rfl) (Nat.le_of_ble_eq_true rfl)
    · obtain ⟨hv, hm⟩ := hst h19
      refine e_bipush (v := (-3)) dX7_withdraw_22 (by decide) ?_
      exact e_iret dX7_withdraw_24 rfl (ho.trans (by rw [hv, hm])) (Nat.le_of_ble_eq_true rfl) (Nat.le_of_ble_eq_true rfl)
  · obtain ⟨hv, hm⟩ := hR.1 (z0 h4)
    refine e_bipush (v := (-2)) dX7_withdraw_7 (by decide) ?_
    exact e_iret dX7_withdraw_9 rfl (ho.trans (by rw [hv, hm])) (Nat.le_of_ble_eq_true rfl) (Nat.le_of_ble_eq_true rfl)
theorem c_X7_leave (hB : MS S b) (hw : RW m) {n : Nat} {a v : Int32} (hR : rLvR n m a v m') : AM G_X7_leave [.ref b, .int a] S (md_put b (Rm ρ m) M) J (some (.int v), S, md_put b (Rm ρ m') M, J) := by
  obtain ⟨p, hp4, hp⟩ := hw.2.1
  refine AM_gen (fun out ho => ?_)
  refine AM_of [.ref b, .int a, .retAddr 0, .retAddr 0] (by decide) rfl (fun B => (Nat.le_of_ble_eq_true rfl)) ?_
  refine e_iload_n dX7_leave_0 rfl rfl ?_
  refine e_cS1 dX7_leave_1 ml_7_91 (c_X7_isMember _) rfl rfl (by decide) (Nat.le_of_ble_eq_true rfl) ⟨rfl, rfl⟩ (Nat.le_of_ble_eq_true rfl) (Nat.le_of_ble_eq_true rfl) ?_
  refine e_if_ne 10 dX7_leave_4 (by decide) (fun h4 => ?_) (fun h4 => ?_)
  · obtain ⟨k, hk, rfl⟩ := wi_nI (n := 11) rfl (z1 h4)
    obtain ⟨hst, hok⟩ := hR.2 k (by omega) rfl
    refine e_aload_n dX7_leave_10 rfl rfl ?_
    refine e_getr dX7_leave_11 fl_7_7 hB.a0 rfl ?_
    refine e_iconst (v := 0) dX7_leave_14 (by decide) ?_
    refine e_iload_n dX7_leave_15 rfl rfl ?_
    refine e_iadd dX7_leave_16 ?_
    refine mm_ld k hB dX7_leave_17 (ai_zadd rfl) (by first | assumption | omega) ?_
    refine e_iconst (v := 2) dX7_leave_18 (by decide) ?_
    refine e_icmp_eq 25 dX7_leave_19 (by decide) (fun h19 => ?_) (fun h19 => ?_)
    · obtain ⟨hA, hv⟩ := hok h19
      refine e_aload_n dX7_leave_25 rfl rfl ?_
      refine e_getr dX7_leave_26 fl_7_7 hB.a0 rfl ?_
      refine e_bipush (v := 36) dX7_leave_29 (by decide) ?_
      refine e_iload_n dX7_leave_31 rfl rfl ?_
      refine e_iadd dX7_leave_32 ?_
      refine mm_ld (36 + k) hB dX7_leave_33 (ai_add (ai_lit 36) rfl) (by first | assumption | omega) ?_
      refine e_istore_n dX7_leave_34 rfl (by decide) rfl ?_
      refine e_aload_n dX7_leave_35 rfl rfl ?_
      refine e_getr dX7_leave_36 fl_7_7 hB.a0 rfl ?_
      refine e_bipush (v := 12) dX7_leave_39 (by decide) ?_
      refine e_iload_n dX7_leave_41 rfl rfl ?_
      refine e_iadd dX7_leave_42 ?_
      refine mm_ld (12 + k) hB dX7_leave_43 (ai_add (ai_lit 12) rfl) (by first | assumption | omega) ?_
      refine e_istore_n dX7_leave_44 rfl (by decide) rfl ?_
      refine e_aload_n dX7_leave_45 rfl rfl ?_
      refine e_iload_n dX7_leave_46 rfl rfl ?_
      refine e_cV0 dX7_leave_47 ml_7_35 (c_X7_leaves hB (by omega)) hB.a0 rfl rfl (by decide) (Nat.le_of_ble_eq_true rfl) ⟨rfl, rfl⟩ (Nat.le_of_ble_eq_true rfl) (Nat.le_of_ble_eq_true rfl) ?_
      refine e_aload_n dX7_leave_50 rfl rfl ?_
      refine e_iconst (v := 2) dX7_leave_51 (by decide) ?_
      refine e_iload_n dX7_leave_52 rfl rfl ?_
      refine e_iload_n dX7_leave_53 rfl rfl ?_
      refine e_cV0 dX7_leave_54 ml_7_58 (c_X7_logs hB (p := p) (by simp (disch := omega) only [rLeaves, upd_ne]; exact hp) hp4 _ _ _) hB.a0 rfl rfl (by decide) (Nat.le_of_ble_eq_true rfl) ⟨rfl, rfl⟩ (Nat.le_of_ble_eq_true rfl) (Nat.le_of_ble_eq_true rfl) ?_
      refine e_aload_n dX7_leave_57 rfl rfl ?_
      refine e_cV0 dX7_leave_58 ml_7_85 (c_X7_acts hB ((hw.leaves (by omega)).logs _ _ _) hA) hB.a0 rfl rfl (by decide) (Nat.le_of_ble_eq_true rfl) ⟨rfl, rfl⟩ (Nat.le_of_ble_eq_true rfl) (Nat.le_of_ble_eq_true rfl) ?_
      refine e_iload_n dX7_leave_61 rfl rfl ?_
      exact e_iret dX7_leave_62 rfl (ho.trans (by rw [hv])) (Nat.le_of_ble_eq_true rfl) (Nat.le_of_ble_eq_true rfl)
    · obtain ⟨hv, hm⟩ := hst h19
      refine e_bipush (v := (-3)) dX7_leave_22 (by decide) ?_
      exact e_iret dX7_leave_24 rfl (ho.trans (by rw [hv, hm])) (Nat.le_of_ble_eq_true rfl) (Nat.le_of_ble_eq_true rfl)
  · obtain ⟨hv, hm⟩ := hR.1 (z0 h4)
    refine e_bipush (v := (-2)) dX7_leave_7 (by decide) ?_
    exact e_iret dX7_leave_9 rfl (ho.trans (by rw [hv, hm])) (Nat.le_of_ble_eq_true rfl) (Nat.le_of_ble_eq_true rfl)
theorem c_X7_collapse (hB : MS S b) {a v : Int32} (hR : rCoR m a v m') : AM G_X7_collapse [.ref b, .int a] S (md_put b (Rm ρ m) M) J (some (.int v), S, md_put b (Rm ρ m') M, J) := by
  refine AM_gen (fun out ho => ?_)
  refine AM_of [.ref b, .int a, .retAddr 0] (by decide) rfl (fun B => (Nat.le_of_ble_eq_true rfl)) ?_
  refine e_iload_n dX7_collapse_0 rfl rfl ?_
  refine e_cS1 dX7_collapse_1 ml_7_91 (c_X7_isMember _) rfl rfl (by decide) (Nat.le_of_ble_eq_true rfl) ⟨rfl, rfl⟩ (Nat.le_of_ble_eq_true rfl) (Nat.le_of_ble_eq_true rfl) ?_
  refine e_if_ne 10 dX7_collapse_4 (by decide) (fun h4 => ?_) (fun h4 => ?_)
  · obtain ⟨k, hk, rfl⟩ := wi_nI (n := 11) rfl (z1 h4)
    obtain ⟨hst, hok⟩ := hR.2 k (by omega) rfl
    refine e_aload_n dX7_collapse_10 rfl rfl ?_
    refine e_getr dX7_collapse_11 fl_7_7 hB.a0 rfl ?_
    refine e_iconst (v := 0) dX7_collapse_14 (by decide) ?_
    refine e_iload_n dX7_collapse_15 rfl rfl ?_
    refine e_iadd dX7_collapse_16 ?_
    refine mm_ld k hB dX7_collapse_17 (ai_zadd rfl) (by first | assumption | omega) ?_
    refine e_iconst (v := 2) dX7_collapse_18 (by decide) ?_
    refine e_icmp_eq 25 dX7_collapse_19 (by decide) (fun h19 => ?_) (fun h19 => ?_)
    · obtain ⟨hm, hv⟩ := hok h19
      refine e_aload_n dX7_collapse_25 rfl rfl ?_
      refine e_getr dX7_collapse_26 fl_7_7 hB.a0 rfl ?_
      refine e_bipush (v := 36) dX7_collapse_29 (by decide) ?_
      refine e_iload_n dX7_collapse_31 rfl rfl ?_
      refine e_iadd dX7_collapse_32 ?_
      refine mm_ld (36 + k) hB dX7_collapse_33 (ai_add (ai_lit 36) rfl) (by first | assumption | omega) ?_
      refine e_istore_n dX7_collapse_34 rfl (by decide) rfl ?_
      refine e_aload_n dX7_collapse_35 rfl rfl ?_
      refine e_getr dX7_collapse_36 fl_7_7 hB.a0 rfl ?_
      refine e_iconst (v := 0) dX7_collapse_39 (by decide) ?_
      refine e_iload_n dX7_collapse_40 rfl rfl ?_
      refine e_iadd dX7_collapse_41 ?_
      refine e_iconst (v := 3) dX7_collapse_42 (by decide) ?_
      refine mm_st k hB dX7_collapse_43 (ai_zadd rfl) (by first | assumption | omega) ?_
      refine e_aload_n dX7_collapse_44 rfl rfl ?_
      refine e_getr dX7_collapse_45 fl_7_7 hB.a0 rfl ?_
      refine e_bipush (v := 24) dX7_collapse_48 (by decide) ?_
      refine e_iload_n dX7_collapse_50 rfl rfl ?_
      refine e_iadd dX7_collapse_51 ?_
      refine e_aload_n dX7_collapse_52 rfl rfl ?_
      refine e_getr dX7_collapse_53 fl_7_7 hB.a0 rfl ?_
      refine e_bipush (v := 103) dX7_collapse_56 (by decide) ?_
      refine mm_ld 103 hB dX7_collapse_58 (ai_lit 103) (by decide) ?_
      refine mm_st (24 + k) hB dX7_collapse_59 (ai_add (ai_lit 24) rfl) (by first | assumption | omega) ?_
      refine e_aload_n dX7_collapse_60 rfl rfl ?_
      refine e_getr dX7_collapse_61 fl_7_7 hB.a0 rfl ?_
      refine e_bipush (v := 36) dX7_collapse_64 (by decide) ?_
      refine e_iload_n dX7_collapse_66 rfl rfl ?_
      refine e_iadd dX7_collapse_67 ?_
      refine e_iconst (v := 0) dX7_collapse_68 (by decide) ?_
      refine mm_st (36 + k) hB dX7_collapse_69 (ai_add (ai_lit 36) rfl) (by first | assumption | omega) ?_
      refine e_iload_n dX7_collapse_70 rfl rfl ?_
      exact e_iret dX7_collapse_71 rfl (ho.trans (by rw [hv, hm]; rfl)) (Nat.le_of_ble_eq_true rfl) (Nat.le_of_ble_eq_true rfl)
    · obtain ⟨hv, hm⟩ := hst h19
      refine e_bipush (v := (-3)) dX7_collapse_22 (by decide) ?_
      exact e_iret dX7_collapse_24 rfl (ho.trans (by rw [hv, hm])) (Nat.le_of_ble_eq_true rfl) (Nat.le_of_ble_eq_true rfl)
  · obtain ⟨hv, hm⟩ := hR.1 (z0 h4)
    refine e_bipush (v := (-2)) dX7_collapse_7 (by decide) ?_
    exact e_iret dX7_collapse_9 rfl (ho.trans (by rw [hv, hm])) (Nat.le_of_ble_eq_true rfl) (Nat.le_of_ble_eq_true rfl)
theorem c_X7_pass (hB : MS S b) (hw : RW m) {n : Nat} {t v : Int32} (hR : rPaR n m t v m') : AM G_X7_pass [.ref b, .int t] S (md_put b (Rm ρ m) M) J (some (.int v), S, md_put b (Rm ρ m') M, J) := by
  refine AM_gen (fun out ho => ?_)
  refine AM_of [.ref b, .int t, .retAddr 0] (by decide) rfl (fun B => (Nat.le_of_ble_eq_true rfl)) ?_
  refine e_iload_n dX7_pass_0 rfl rfl ?_
  refine e_iconst (v := 1) dX7_pass_1 (by decide) ?_
  refine e_sipush (v := 999) dX7_pass_2 (by decide) ?_
  refine e_cS1 dX7_pass_5 ml_7_39 (c_X7_in _ _ _) rfl rfl (by decide) (Nat.le_of_ble_eq_true rfl) ⟨rfl, rfl⟩ (Nat.le_of_ble_eq_true rfl) (Nat.le_of_ble_eq_true rfl) ?_
  refine e_if_ne 14 dX7_pass_8 (by decide) (fun h8 => ?_) (fun h8 => ?_)
  · have hin := z1 h8
    obtain ⟨T, hT, hTe⟩ := wi_nI (n := 999) (a := t) (hi := 999) rfl ⟨Int32.le_trans (by decide) hin.1, hin.2⟩
    obtain ⟨hst, hok⟩ := hR.2 T hT hin.1 hTe
    refine e_iload_n dX7_pass_14 rfl rfl ?_
    refine e_sipush (v := 20000) dX7_pass_15 (by decide) ?_
    refine e_aload_n dX7_pass_18 rfl rfl ?_
    refine e_getr dX7_pass_19 fl_7_7 hB.a0 rfl ?_
    refine e_bipush (v := 103) dX7_pass_22 (by decide) ?_
    refine mm_ld 103 hB dX7_pass_24 (ai_lit 103) (by decide) ?_
    refine e_isub dX7_pass_25 ?_
    refine e_icmp_le 32 dX7_pass_26 (by decide) (fun h26 => ?_) (fun h26 => ?_)
    · obtain ⟨hA, hv⟩ := hok h26
      subst hTe
      have key : ∀ (d i : Nat) (m1 : Nat → Int32), i + d = T → rPass n i m = some m1 → AW G_X7_pass out 0 0 34 [.ref b, .int (nI T), .int (nI i)] [] S (md_put b (Rm ρ m1) M) J := by
        intro d
        induction d with
        | zero =>
          intro i m1 hi hm1
          have hi2 : i = T := by omega
          subst hi2
          rw [hA] at hm1
          cases hm1
          refine e_iload_n dX7_pass_34 rfl rfl ?_
          refine e_iload_n dX7_pass_35 rfl rfl ?_
          refine e_ge_t (i := i) (N := i) 49 dX7_pass_36 (by decide) rfl rfl (by omega) (by omega) ?_
          refine e_aload_n dX7_pass_49 rfl rfl ?_
          refine e_getr dX7_pass_50 fl_7_7 hB.a0 rfl ?_
          refine e_bipush (v := 103) dX7_pass_53 (by decide) ?_
          refine mm_ld 103 hB dX7_pass_55 (ai_lit 103) (by decide) ?_
          exact e_iret dX7_pass_56 rfl (ho.trans (by rw [hv])) (Nat.le_of_ble_eq_true rfl) (Nat.le_of_ble_eq_true rfl)
        | succ d ih =>
          intro i m1 hi hm1
          obtain ⟨m2, hm2⟩ := rPass_le hA (t := i + 1) (by omega)
          have hm2' := hm2
          rw [rPass, hm1] at hm2'
          refine e_iload_n dX7_pass_34 rfl rfl ?_
          refine e_iload_n dX7_pass_35 rfl rfl ?_
          refine e_ge_f (i := i) (N := T) 49 dX7_pass_36 (by decide) rfl rfl (by omega) (by omega) ?_
          refine e_aload_n dX7_pass_39 rfl rfl ?_
          refine e_cV0 dX7_pass_40 ml_7_94 (c_X7_ticks hB (hw.pass hm1) hm2') hB.a0 rfl rfl (by decide) (Nat.le_of_ble_eq_true rfl) ⟨rfl, rfl⟩ (Nat.le_of_ble_eq_true rfl) (Nat.le_of_ble_eq_true rfl) ?_
          refine e_iinc dX7_pass_43 rfl (ai_inc _) (by decide) rfl ?_
          refine e_goto 34 dX7_pass_46 (by decide) ?_
          exact ih (i + 1) m2 (by omega) hm2
      refine e_iconst (v := 0) dX7_pass_32 (by decide) ?_
      refine e_istore_n dX7_pass_33 rfl (by decide) rfl ?_
      exact key T 0 m (by omega) rfl
    · obtain ⟨hv, hm⟩ := hst h26
      refine e_bipush (v := (-4)) dX7_pass_29 (by decide) ?_
      exact e_iret dX7_pass_31 rfl (ho.trans (by rw [hv, hm])) (Nat.le_of_ble_eq_true rfl) (Nat.le_of_ble_eq_true rfl)
  · obtain ⟨hv, hm⟩ := hR.1 (z0 h8)
    refine e_bipush (v := (-2)) dX7_pass_11 (by decide) ?_
    exact e_iret dX7_pass_13 rfl (ho.trans (by rw [hv, hm])) (Nat.le_of_ble_eq_true rfl) (Nat.le_of_ble_eq_true rfl)
end C23

