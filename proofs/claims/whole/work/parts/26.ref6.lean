/-! ===== the reference: the hash ===== -/
def rDig (m : Nat → Int32) (tl : Nat) (tx : Nat → Int32) (p : Nat) (em : Int32) : Int64 :=
  mixN (mix (mix (mixN (mixN (mixN (mixN 549 (rNum m (nI tl)) 15) (fun k => rMemV m (k / 5) (k % 5)) 60) (fun k => rRoomV m (k / 10) (k % 10)) 50) (fun k => m (111 + k)) (4 * p)) ((rUnf m 5).2.2 - (rUnf m 5).2.1)) em) tx tl
theorem mixN_0 (h : Int64) (f : Nat → Int32) : mixN h f 0 = h := rfl
section C26
variable {S : List aiS} {M : Nat → Nat → Int32} {J : Nat → Int64} {b : Nat} {ρ : md_T} {m m' : Nat → Int32}
theorem mix_Jp (J : Nat → Int64) (b : Nat) (h : Int64) (x : Int32) : Jp (Jp J b h) b (31 * (Jp J b h) b + x.toInt64) = Jp J b (mix h x) := by
  rw [Jp_Jp, Jp_at]; rfl
theorem c_X7_mixes2 (hB : MS S b) (h : Int64) (x : Int32) : AM G_X7_mixes [.ref b, .long x.toInt64] S (md_put b ρ M) (Jp J b h) (none, S, md_put b ρ M, Jp J b (mix h x)) := by
  have := c_X7_mixes (S := S) (M := M) (J := Jp J b h) (b := b) (ρ := ρ) hB x.toInt64
  rw [mix_Jp] at this
  exact this
theorem c_X7_digest (hB : MS S b) (hw : RW m) {n tl p : Nat} (htl : rf ρ 5 = nI tl) (ht4 : tl ≤ 100) (hp : m 108 = nI p) (hp4 : p ≤ 40) {o : Option Nat} (hE : rEm n m o) : AM G_X7_digest [.ref b] S (md_put b (Rm ρ m) M) J (some (.long (rDig m tl (rt ρ) p (oI o))), S, md_put b (Rm (Ra ρ (fl m (ra ρ) 271)) m) M, Jp J b (rDig m tl (rt ρ) p (oI o))) := by
  obtain ⟨H1, hH1⟩ : ∃ x, x = mixN 549 (rNum m (nI tl)) 15 := ⟨_, rfl⟩
  obtain ⟨H2, hH2⟩ : ∃ x, x = mixN H1 (fun k => rMemV m (k / 5) (k % 5)) 60 := ⟨_, rfl⟩
  obtain ⟨H3, hH3⟩ : ∃ x, x = mixN H2 (fun k => rRoomV m (k / 10) (k % 10)) 50 := ⟨_, rfl⟩
  obtain ⟨H4, hH4⟩ : ∃ x, x = mixN H3 (fun k => m (111 + k)) (4 * p) := ⟨_, rfl⟩
  obtain ⟨H5, hH5⟩ : ∃ x, x = mix (mix H4 ((rUnf m 5).2.2 - (rUnf m 5).2.1)) (oI o) := ⟨_, rfl⟩
  have hdig : rDig m tl (rt ρ) p (oI o) = mixN H5 (rt ρ) tl := by rw [rDig, hH5, hH4, hH3, hH2, hH1]
  rw [hdig]
  refine AM_gen (fun out ho => ?_)
  refine AM_of [.ref b, .retAddr 0] (by decide) rfl (fun B => (Nat.le_of_ble_eq_true rfl)) ?_
  have k5 : ∀ (d i : Nat), i + d = tl → AW G_X7_digest out 0 0 146 [.ref b, .int (nI i)] [] S (md_put b (Rm (Ra ρ (fl m (ra ρ) 271)) m) M) (Jp J b (mixN H5 (rt ρ) i)) := by
    intro d
    induction d with
    | zero =>
      intro i hi
      have hi2 : i = tl := by omega
      subst hi2
      refine e_iload_n dX7_digest_146 rfl rfl ?_
      refine e_aload_n dX7_digest_147 rfl rfl ?_
      refine rf_get hB dX7_digest_148 fl_7_109 (by decide) ?_
      refine e_ge_t (i := i) (N := i) 171 dX7_digest_151 (by decide) rfl htl (by omega) (by omega) ?_
      refine e_aload_n dX7_digest_171 rfl rfl ?_
      refine e_getl dX7_digest_172 fl_7_182 hB.a0 ?_
      rw [Jp_at]
      exact e_lret dX7_digest_175 rfl ho (Nat.le_of_ble_eq_true rfl) (Nat.le_of_ble_eq_true rfl)
    | succ d ih =>
      intro i hi
      refine e_iload_n dX7_digest_146 rfl rfl ?_
      refine e_aload_n dX7_digest_147 rfl rfl ?_
      refine rf_get hB dX7_digest_148 fl_7_109 (by decide) ?_
      refine e_ge_f (i := i) (N := tl) 171 dX7_digest_151 (by decide) rfl htl (by omega) (by omega) ?_
      refine e_aload_n dX7_digest_154 rfl rfl ?_
      refine e_aload_n dX7_digest_155 rfl rfl ?_
      refine e_getr dX7_digest_156 fl_7_23 hB.a0 rfl ?_
      refine e_iload_n dX7_digest_159 rfl rfl ?_
      refine rt_ld i hB dX7_digest_160 rfl (by first | assumption | omega) ?_
      refine e_i2l dX7_digest_161 ?_
      refine e_cV0 dX7_digest_162 ml_7_188 (c_X7_mixes2 hB _ _) hB.a0 rfl rfl (by decide) (Nat.le_of_ble_eq_true rfl) ⟨rfl, rfl⟩ (Nat.le_of_ble_eq_true rfl) (Nat.le_of_ble_eq_true rfl) ?_
      refine e_iinc dX7_digest_165 rfl (ai_inc _) (by decide) rfl ?_
      refine e_goto 146 dX7_digest_168 (by decide) ?_
      exact ih (i + 1) (by omega)
  have k4 : ∀ (d i : Nat), i + d = 4 * p → AW G_X7_digest out 0 0 93 [.ref b, .int (nI i)] [] S (md_put b (Rm ρ m) M) (Jp J b (mixN (H3) (fun k => m (111 + k)) i)) := by
    intro d
    induction d with
    | zero =>
      intro i hi
      have hi2 : i = 4 * p := by omega
      subst hi2
      refine e_iload_n dX7_digest_93 rfl rfl ?_
      refine e_iconst (v := 4) dX7_digest_94 (by decide) ?_
      refine e_aload_n dX7_digest_95 rfl rfl ?_
      refine e_getr dX7_digest_96 fl_7_7 hB.a0 rfl ?_
      refine e_bipush (v := 108) dX7_digest_99 (by decide) ?_
      refine mm_ld 108 hB dX7_digest_101 (ai_lit 108) (by decide) ?_
      refine e_imul dX7_digest_102 ?_
      refine e_ge_t (i := 4 * p) (N := 4 * p) 126 dX7_digest_103 (by decide) rfl (ai_mul (ai_lit 4) hp) (by omega) (by omega) ?_
      refine e_aload_n dX7_digest_126 rfl rfl ?_
      refine e_aload_n dX7_digest_127 rfl rfl ?_
      refine e_cV1 dX7_digest_128 ml_7_198 (c_X7_unfairness hB hw) hB.a0 rfl rfl (by decide) (Nat.le_of_ble_eq_true rfl) ⟨rfl, rfl⟩ (Nat.le_of_ble_eq_true rfl) (Nat.le_of_ble_eq_true rfl) ?_
      refine e_i2l dX7_digest_131 ?_
      refine e_cV0 dX7_digest_132 ml_7_188 (c_X7_mixes2 hB _ _) hB.a0 rfl rfl (by decide) (Nat.le_of_ble_eq_true rfl) ⟨rfl, rfl⟩ (Nat.le_of_ble_eq_true rfl) (Nat.le_of_ble_eq_true rfl) ?_
      refine e_aload_n dX7_digest_135 rfl rfl ?_
      refine e_aload_n dX7_digest_136 rfl rfl ?_
      refine e_cV1 dX7_digest_137 ml_7_201 (c_X7_empties hB hw hE) hB.a0 rfl rfl (by decide) (Nat.le_of_ble_eq_true rfl) ⟨rfl, rfl⟩ (Nat.le_of_ble_eq_true rfl) (Nat.le_of_ble_eq_true rfl) ?_
      refine e_i2l dX7_digest_140 ?_
      refine e_cV0 dX7_digest_141 ml_7_188 (c_X7_mixes2 hB _ _) hB.a0 rfl rfl (by decide) (Nat.le_of_ble_eq_true rfl) ⟨rfl, rfl⟩ (Nat.le_of_ble_eq_true rfl) (Nat.le_of_ble_eq_true rfl) ?_
      refine e_iconst (v := 0) dX7_digest_144 (by decide) ?_
      refine e_istore_n dX7_digest_145 rfl (by decide) rfl ?_
      have h0 := k5 tl 0 (by omega)
      rw [mixN_0, hH5, hH4] at h0
      exact h0
    | succ d ih =>
      intro i hi
      refine e_iload_n dX7_digest_93 rfl rfl ?_
      refine e_iconst (v := 4) dX7_digest_94 (by decide) ?_
      refine e_aload_n dX7_digest_95 rfl rfl ?_
      refine e_getr dX7_digest_96 fl_7_7 hB.a0 rfl ?_
      refine e_bipush (v := 108) dX7_digest_99 (by decide) ?_
      refine mm_ld 108 hB dX7_digest_101 (ai_lit 108) (by decide) ?_
      refine e_imul dX7_digest_102 ?_
      refine e_ge_f (i := i) (N := 4 * p) 126 dX7_digest_103 (by decide) rfl (ai_mul (ai_lit 4) hp) (by omega) (by omega) ?_
      refine e_aload_n dX7_digest_106 rfl rfl ?_
      refine e_aload_n dX7_digest_107 rfl rfl ?_
      refine e_getr dX7_digest_108 fl_7_7 hB.a0 rfl ?_
      refine e_bipush (v := 111) dX7_digest_111 (by decide) ?_
      refine e_iload_n dX7_digest_113 rfl rfl ?_
      refine e_iadd dX7_digest_114 ?_
      refine mm_ld (111 + i) hB dX7_digest_115 (ai_add (ai_lit 111) rfl) (by first | assumption | omega) ?_
      refine e_i2l dX7_digest_116 ?_
      refine e_cV0 dX7_digest_117 ml_7_188 (c_X7_mixes2 hB _ _) hB.a0 rfl rfl (by decide) (Nat.le_of_ble_eq_true rfl) ⟨rfl, rfl⟩ (Nat.le_of_ble_eq_true rfl) (Nat.le_of_ble_eq_true rfl) ?_
      refine e_iinc dX7_digest_120 rfl (ai_inc _) (by decide) rfl ?_
      refine e_goto 93 dX7_digest_123 (by decide) ?_
      exact ih (i + 1) (by omega)
  have k3 : ∀ (d i : Nat), i + d = 50 → AW G_X7_digest out 0 0 62 [.ref b, .int (nI i)] [] S (md_put b (Rm ρ m) M) (Jp J b (mixN (H2) (fun k => rRoomV m (k / 10) (k % 10)) i)) := by
    intro d
    induction d with
    | zero =>
      intro i hi
      have hi2 : i = 50 := by omega
      subst hi2
      refine e_iload_n dX7_digest_62 rfl rfl ?_
      refine e_bipush (v := 50) dX7_digest_63 (by decide) ?_
      refine e_ge_t (i := 50) (N := 50) 91 dX7_digest_65 (by decide) rfl rfl (by omega) (by omega) ?_
      refine e_iconst (v := 0) dX7_digest_91 (by decide) ?_
      refine e_istore_n dX7_digest_92 rfl (by decide) rfl ?_
      have h0 := k4 (4 * p) 0 (by omega)
      rw [mixN_0, hH3] at h0
      exact h0
    | succ d ih =>
      intro i hi
      refine e_iload_n dX7_digest_62 rfl rfl ?_
      refine e_bipush (v := 50) dX7_digest_63 (by decide) ?_
      refine e_ge_f (i := i) (N := 50) 91 dX7_digest_65 (by decide) rfl rfl (by omega) (by omega) ?_
      refine e_aload_n dX7_digest_68 rfl rfl ?_
      refine e_aload_n dX7_digest_69 rfl rfl ?_
      refine e_iload_n dX7_digest_70 rfl rfl ?_
      refine e_bipush (v := 10) dX7_digest_71 (by decide) ?_
      refine e_idiv dX7_digest_73 (by decide) ?_
      refine e_as (nI ((i / 10))) (pk_div (a := i) (d := 10) (by omega) (by omega) (by omega)) ?_
      refine e_iload_n dX7_digest_74 rfl rfl ?_
      refine e_bipush (v := 10) dX7_digest_75 (by decide) ?_
      refine e_irem dX7_digest_77 (by decide) ?_
      refine e_as (nI ((i % 10))) (pk_rem (a := i) (d := 10) (by omega) (by omega) (by omega)) ?_
      refine e_cV1 dX7_digest_78 ml_7_195 (c_X7_room hB (rRoomR_ok (k := i / 10) (q := i % 10) (by omega) (by omega))) hB.a0 rfl rfl (by decide) (Nat.le_of_ble_eq_true rfl) ⟨rfl, rfl⟩ (Nat.le_of_ble_eq_true rfl) (Nat.le_of_ble_eq_true rfl) ?_
      refine e_i2l dX7_digest_81 ?_
      refine e_cV0 dX7_digest_82 ml_7_188 (c_X7_mixes2 hB _ _) hB.a0 rfl rfl (by decide) (Nat.le_of_ble_eq_true rfl) ⟨rfl, rfl⟩ (Nat.le_of_ble_eq_true rfl) (Nat.le_of_ble_eq_true rfl) ?_
      refine e_iinc dX7_digest_85 rfl (ai_inc _) (by decide) rfl ?_
      refine e_goto 62 dX7_digest_88 (by decide) ?_
      exact ih (i + 1) (by omega)
  have k2 : ∀ (d i : Nat), i + d = 60 → AW G_X7_digest out 0 0 33 [.ref b, .int (nI i)] [] S (md_put b (Rm ρ m) M) (Jp J b (mixN (H1) (fun k => rMemV m (k / 5) (k % 5)) i)) := by
    intro d
    induction d with
    | zero =>
      intro i hi
      have hi2 : i = 60 := by omega
      subst hi2
      refine e_iload_n dX7_digest_33 rfl rfl ?_
      refine e_bipush (v := 60) dX7_digest_34 (by decide) ?_
      refine e_ge_t (i := 60) (N := 60) 60 dX7_digest_36 (by decide) rfl rfl (by omega) (by omega) ?_
      refine e_iconst (v := 0) dX7_digest_60 (by decide) ?_
      refine e_istore_n dX7_digest_61 rfl (by decide) rfl ?_
      have h0 := k3 50 0 (by omega)
      rw [mixN_0, hH2] at h0
      exact h0
    | succ d ih =>
      intro i hi
      refine e_iload_n dX7_digest_33 rfl rfl ?_
      refine e_bipush (v := 60) dX7_digest_34 (by decide) ?_
      refine e_ge_f (i := i) (N := 60) 60 dX7_digest_36 (by decide) rfl rfl (by omega) (by omega) ?_
      refine e_aload_n dX7_digest_39 rfl rfl ?_
      refine e_aload_n dX7_digest_40 rfl rfl ?_
      refine e_iload_n dX7_digest_41 rfl rfl ?_
      refine e_iconst (v := 5) dX7_digest_42 (by decide) ?_
      refine e_idiv dX7_digest_43 (by decide) ?_
      refine e_as (nI ((i / 5))) (pk_div (a := i) (d := 5) (by omega) (by omega) (by omega)) ?_
      refine e_iload_n dX7_digest_44 rfl rfl ?_
      refine e_iconst (v := 5) dX7_digest_45 (by decide) ?_
      refine e_irem dX7_digest_46 (by decide) ?_
      refine e_as (nI ((i % 5))) (pk_rem (a := i) (d := 5) (by omega) (by omega) (by omega)) ?_
      refine e_cV1 dX7_digest_47 ml_7_192 (c_X7_member hB (rMemR_ok (k := i / 5) (q := i % 5) (by omega) (by omega))) hB.a0 rfl rfl (by decide) (Nat.le_of_ble_eq_true rfl) ⟨rfl, rfl⟩ (Nat.le_of_ble_eq_true rfl) (Nat.le_of_ble_eq_true rfl) ?_
      refine e_i2l dX7_digest_50 ?_
      refine e_cV0 dX7_digest_51 ml_7_188 (c_X7_mixes2 hB _ _) hB.a0 rfl rfl (by decide) (Nat.le_of_ble_eq_true rfl) ⟨rfl, rfl⟩ (Nat.le_of_ble_eq_true rfl) (Nat.le_of_ble_eq_true rfl) ?_
      refine e_iinc dX7_digest_54 rfl (ai_inc _) (by decide) rfl ?_
      refine e_goto 33 dX7_digest_57 (by decide) ?_
      exact ih (i + 1) (by omega)
  have k1 : ∀ (d i : Nat), i + d = 15 → AW G_X7_digest out 0 0 9 [.ref b, .int (nI i)] [] S (md_put b (Rm ρ m) M) (Jp J b (mixN 549 (rNum m (nI tl)) i)) := by
    intro d
    induction d with
    | zero =>
      intro i hi
      have hi2 : i = 15 := by omega
      subst hi2
      refine e_iload_n dX7_digest_9 rfl rfl ?_
      refine e_bipush (v := 15) dX7_digest_10 (by decide) ?_
      refine e_ge_t (i := 15) (N := 15) 31 dX7_digest_12 (by decide) rfl rfl (by omega) (by omega) ?_
      refine e_iconst (v := 0) dX7_digest_31 (by decide) ?_
      refine e_istore_n dX7_digest_32 rfl (by decide) rfl ?_
      have h0 := k2 60 0 (by omega)
      rw [mixN_0, hH1] at h0
      exact h0
    | succ d ih =>
      intro i hi
      have hnum := c_X7_number (S := S) (M := M) (J := Jp J b (mixN 549 (rNum m (nI tl)) i)) (b := b) (ρ := ρ) (m := m) hB (w := i) (by omega)
      rw [htl] at hnum
      refine e_iload_n dX7_digest_9 rfl rfl ?_
      refine e_bipush (v := 15) dX7_digest_10 (by decide) ?_
      refine e_ge_f (i := i) (N := 15) 31 dX7_digest_12 (by decide) rfl rfl (by omega) (by omega) ?_
      refine e_aload_n dX7_digest_15 rfl rfl ?_
      refine e_aload_n dX7_digest_16 rfl rfl ?_
      refine e_iload_n dX7_digest_17 rfl rfl ?_
      refine e_cV1 dX7_digest_18 ml_7_177 hnum hB.a0 rfl rfl (by decide) (Nat.le_of_ble_eq_true rfl) ⟨rfl, rfl⟩ (Nat.le_of_ble_eq_true rfl) (Nat.le_of_ble_eq_true rfl) ?_
      refine e_i2l dX7_digest_21 ?_
      refine e_cV0 dX7_digest_22 ml_7_188 (c_X7_mixes2 hB _ _) hB.a0 rfl rfl (by decide) (Nat.le_of_ble_eq_true rfl) ⟨rfl, rfl⟩ (Nat.le_of_ble_eq_true rfl) (Nat.le_of_ble_eq_true rfl) ?_
      refine e_iinc dX7_digest_25 rfl (ai_inc _) (by decide) rfl ?_
      refine e_goto 9 dX7_digest_28 (by decide) ?_
      exact ih (i + 1) (by omega)
  refine e_aload_n dX7_digest_0 rfl rfl ?_
  refine e_ldc2 dX7_digest_1 kc_7_186 ?_
  refine e_putl dX7_digest_4 fl_7_182 hB.a0 (by intro i hi; simp only [ai_ft]; repeat (first | split | omega)) ?_
  refine e_iconst (v := 0) dX7_digest_7 (by decide) ?_
  refine e_istore_n dX7_digest_8 rfl (by decide) rfl ?_
  have h0 := k1 15 0 (by omega)
  rw [mixN_0] at h0
  exact h0
theorem c_X7_bestQuota (hB : MS S b) (hw : RW m) {n : Nat} {a w v : Int32} (hbad : ¬ ((0 ≤ a ∧ a ≤ 11) ∧ (0 ≤ w ∧ w ≤ 1)) → v = -2) (hst : ∀ k q, k < 12 → q < 2 → a = nI k → w = nI q → ¬ m k = 1 → v = -3) (hok : ∀ k q, k < 12 → q < 2 → a = nI k → w = nI q → m k = 1 → ∃ e : Nat → Option Nat, (∀ i, 1 ≤ i → i ≤ 20 → rEi n m k (nI i) (e i)) ∧ v = oI ((rBq e 20).map (fun z => if q = 0 then z.1 else z.2))) : ∃ g, AM G_X7_bestQuota [.ref b, .int a, .int w] S (md_put b (Rm ρ m) M) J (some (.int v), S, md_put b (Rm (Ra ρ g) m) M, J) := by
  by_cases hm : (0 ≤ a ∧ a ≤ 11) ∧ (0 ≤ w ∧ w ≤ 1)
  · obtain ⟨k, hk, rfl⟩ := wi_nI (n := 11) rfl hm.1
    obtain ⟨q, hq, rfl⟩ := wi_nI (n := 1) rfl hm.2
    by_cases h1 : m k = 1
    · obtain ⟨e, hE, hv⟩ := hok k q (by omega) (by omega) rfl rfl h1
      refine ⟨fl m (ra ρ) 271, ?_⟩
      have hfl : fl m (fl m (ra ρ) 271) 271 = fl m (ra ρ) 271 := by
        funext j
        simp only [fl]
        split <;> rfl
      have hle : ∀ i t, 1 ≤ i → i ≤ 20 → e i = some t → t ≤ 500 := by
        intro i t h1 h2 he
        obtain ⟨N, mN, hN, -, -, -, ho⟩ := hE i h1 h2
        rw [he] at ho
        split at ho
        · cases ho
        · cases ho; exact hN
      have hbl : ∀ i z, i ≤ 20 → rBq e i = some z → z.1 ≤ i ∧ z.2 ≤ 500 := by
        intro i
        induction i with
        | zero => intro z _ h; simp [rBq] at h
        | succ i ih =>
          intro z hi h
          rw [rBq] at h
          cases hb : rBq e i with
          | none =>
            rw [hb] at h
            cases he : e (i + 1) with
            | none => rw [he] at h; cases h
            | some t =>
              rw [he] at h
              cases h
              exact ⟨Nat.le_refl _, hle (i + 1) t (by omega) hi he⟩
          | some y =>
            obtain ⟨y1, y2⟩ := ih y (by omega) hb
            rw [hb] at h
            obtain ⟨yq, ys⟩ := y
            cases he : e (i + 1) with
            | none =>
              rw [he] at h
              cases h
              exact ⟨by show yq ≤ i + 1; have : yq ≤ i := y1; omega, y2⟩
            | some t =>
              rw [he] at h
              by_cases hts : t < ys
              · simp only [hts, if_true] at h
                cases h
                exact ⟨Nat.le_refl _, hle (i + 1) t (by omega) hi he⟩
              · simp only [hts, if_false] at h
                cases h
                exact ⟨by show yq ≤ i + 1; have : yq ≤ i := y1; omega, y2⟩
      refine AM_gen (fun out ho => ?_)
      refine AM_of [.ref b, .int (nI k), .int (nI q), .retAddr 0, .retAddr 0, .retAddr 0, .retAddr 0, .retAddr 0] (by decide) rfl (fun B => (Nat.le_of_ble_eq_true rfl)) ?_
      have key : ∀ (d i : Nat) (g : Nat → Int32) (x6 x7 : Value), i + d = 20 → fl m g 271 = fl m (ra ρ) 271 → (0 < i → g = fl m (ra ρ) 271) → AW G_X7_bestQuota out 0 0 42 [.ref b, .int (nI k), .int (nI q), .int (oI ((rBq e i).map (fun z => z.1))), .int (oI ((rBq e i).map (fun z => z.2))), .int (nI (i + 1)), x6, x7] [] S (md_put b (Rm (Ra ρ g) m) M) J := by
        intro d
        induction d with
        | zero =>
          intro i g x6 x7 hi hg hg0
          have hi2 : i = 20 := by omega
          subst hi2
          have hge := hg0 (by omega)
          subst hge
          refine e_iload dX7_bestQuota_42 rfl ?_
          refine e_bipush (v := 20) dX7_bestQuota_44 (by decide) ?_
          refine e_icmp_gt 115 dX7_bestQuota_46 (by decide) (fun h46 => ?_) (fun h46 => ?_)
          · have tl2 : ∀ y : Int32, y = oI ((rBq e 20).map (fun z => if q = 0 then z.1 else z.2)) → AW G_X7_bestQuota out 0 0 125 [.ref b, .int (nI k), .int (nI q), .int (oI ((rBq e 20).map (fun z => z.1))), .int (oI ((rBq e 20).map (fun z => z.2))), .int (nI (20 + 1)), x6, x7] [.int y] S (md_put b (Rm (Ra ρ (fl m (ra ρ) 271)) m) M) J := by
              intro y hy
              exact e_iret dX7_bestQuota_125 rfl (ho.trans (by rw [hv, hy])) (Nat.le_of_ble_eq_true rfl) (Nat.le_of_ble_eq_true rfl)
            refine e_iload_n dX7_bestQuota_115 rfl rfl ?_
            refine e_if_ne 123 dX7_bestQuota_116 (by decide) (fun h116 => ?_) (fun h116 => ?_)
            · have hq0 : ¬ q = 0 := fun z => h116 (by rw [z]; rfl)
              refine e_iload dX7_bestQuota_123 rfl ?_
              exact tl2 _ (by simp only [hq0, if_false])
            · have hq0 : q = 0 := by
                rcases Nat.eq_zero_or_pos q with z | z
                · exact z
                · exact absurd h116 (nI_ne0 z (by omega))
              refine e_iload_n dX7_bestQuota_119 rfl rfl ?_
              refine e_goto 125 dX7_bestQuota_120 (by decide) ?_
              exact tl2 _ (by simp only [hq0, if_true])
          · exact absurd (by decide) h46
        | succ d ih =>
          intro i g x6 x7 hi hg hg0
          have hcall := c_X7_entersIn (S := S) (M := M) (J := J) (b := b) (ρ := Ra ρ g) (m := m) hB hw (k := k) (by omega) (hE (i + 1) (by omega) (by omega))
          have hmem : md_put b (Rm (Ra (Ra ρ g) (fl m (ra (Ra ρ g)) 271)) m) M = md_put b (Rm (Ra ρ (fl m (ra ρ) 271)) m) M := by rw [← hg]
          rw [hmem] at hcall
          have hlt1 : nI (i + 1) ≤ 20 := nI_le (a := i + 1) (b := 20) (by omega) (by omega)
          have fin : ∀ (bo so : Option Nat) (x6 x7 : Int32), bo = (rBq e (i + 1)).map (fun z => z.1) → so = (rBq e (i + 1)).map (fun z => z.2) → AW G_X7_bestQuota out 0 0 109 [.ref b, .int (nI k), .int (nI q), .int (oI bo), .int (oI so), .int (nI (i + 1)), .int x6, .int x7] [] S (md_put b (Rm (Ra ρ (fl m (ra ρ) 271)) m) M) J := by
            intro bo so x6 x7 hbo hso
            rw [hbo, hso]
            refine e_iinc dX7_bestQuota_109 rfl (ai_inc _) (by decide) rfl ?_
            refine e_goto 42 dX7_bestQuota_112 (by decide) ?_
            exact ih (i + 1) _ _ _ (by omega) hfl (fun _ => rfl)
          have better : ∀ (t : Nat) (bo so : Option Nat), t ≤ 500 → rBq e (i + 1) = some (i + 1, t) → AW G_X7_bestQuota out 0 0 83 [.ref b, .int (nI k), .int (nI q), .int (oI bo), .int (oI so), .int (nI (i + 1)), .int (nI t), .int 1] [] S (md_put b (Rm (Ra ρ (fl m (ra ρ) 271)) m) M) J := by
            intro t bo so ht hr
            have f1 := fin (some (i + 1)) (some t) (nI t) 1 (by rw [hr]; rfl) (by rw [hr]; rfl)
            refine e_iload dX7_bestQuota_83 rfl ?_
            refine e_if_eq 93 dX7_bestQuota_85 (by decide) (fun h85 => ?_) (fun h85 => ?_)
            · exact absurd h85 (by decide)
            · refine e_iload dX7_bestQuota_88 rfl ?_
              refine e_goto 94 dX7_bestQuota_90 (by decide) ?_
              refine e_istore_n dX7_bestQuota_94 rfl (by decide) rfl ?_
              refine e_iload dX7_bestQuota_95 rfl ?_
              refine e_if_eq 105 dX7_bestQuota_97 (by decide) (fun h97 => ?_) (fun h97 => ?_)
              · exact absurd h97 (by decide)
              · refine e_iload dX7_bestQuota_100 rfl ?_
                refine e_goto 107 dX7_bestQuota_102 (by decide) ?_
                refine e_istore dX7_bestQuota_107 (by decide) rfl ?_
                exact f1
          have notb : ∀ (x : Int32) (bo so : Option Nat), bo = (rBq e (i + 1)).map (fun z => z.1) → so = (rBq e (i + 1)).map (fun z => z.2) → AW G_X7_bestQuota out 0 0 83 [.ref b, .int (nI k), .int (nI q), .int (oI bo), .int (oI so), .int (nI (i + 1)), .int x, .int 0] [] S (md_put b (Rm (Ra ρ (fl m (ra ρ) 271)) m) M) J := by
            intro x bo so hbo hso
            have f1 := fin bo so x 0 hbo hso
            refine e_iload dX7_bestQuota_83 rfl ?_
            refine e_if_eq 93 dX7_bestQuota_85 (by decide) (fun h85 => ?_) (fun h85 => ?_)
            · refine e_iload_n dX7_bestQuota_93 rfl rfl ?_
              refine e_istore_n dX7_bestQuota_94 rfl (by decide) rfl ?_
              refine e_iload dX7_bestQuota_95 rfl ?_
              refine e_if_eq 105 dX7_bestQuota_97 (by decide) (fun h97 => ?_) (fun h97 => ?_)
              · refine e_iload dX7_bestQuota_105 rfl ?_
                refine e_istore dX7_bestQuota_107 (by decide) rfl ?_
                exact f1
              · exact absurd rfl h97
            · exact absurd rfl h85
          refine e_iload dX7_bestQuota_42 rfl ?_
          refine e_bipush (v := 20) dX7_bestQuota_44 (by decide) ?_
          refine e_icmp_gt 115 dX7_bestQuota_46 (by decide) (fun h46 => ?_) (fun h46 => ?_)
          · exact absurd h46 (Int32.not_lt.mpr hlt1)
          · refine e_aload_n dX7_bestQuota_49 rfl rfl ?_
            refine e_iload_n dX7_bestQuota_50 rfl rfl ?_
            refine e_iload dX7_bestQuota_51 rfl ?_
            refine e_cV1 dX7_bestQuota_53 ml_7_103 hcall hB.a0 rfl rfl (by decide) (Nat.le_of_ble_eq_true rfl) ⟨rfl, rfl⟩ (Nat.le_of_ble_eq_true rfl) (Nat.le_of_ble_eq_true rfl) ?_
            refine e_istore dX7_bestQuota_56 (by decide) rfl ?_
            refine e_iload dX7_bestQuota_58 rfl ?_
            refine e_iconst (v := (-1)) dX7_bestQuota_60 (by decide) ?_
            cases he : e (i + 1) with
            | none =>
              refine e_icmp_eq 80 dX7_bestQuota_61 (by decide) (fun h61 => ?_) (fun h61 => ?_)
              · refine e_iconst (v := 0) dX7_bestQuota_80 (by decide) ?_
                refine e_istore dX7_bestQuota_81 (by decide) rfl ?_
                refine notb _ _ _ ?_ ?_
                · rw [rBq]
                  cases hb : rBq e i with
                  | none => rw [he]; rfl
                  | some y => rw [he]
                · rw [rBq]
                  cases hb : rBq e i with
                  | none => rw [he]; rfl
                  | some y => rw [he]
              · exact absurd rfl h61
            | some t =>
              have ht := hle (i + 1) t (by omega) (by omega) he
              refine e_icmp_eq 80 dX7_bestQuota_61 (by decide) (fun h61 => ?_) (fun h61 => ?_)
              · exact absurd h61 (nI_ne_m1 (by omega))
              · cases hb : rBq e i with
                | none =>
                  refine e_iload_n dX7_bestQuota_64 rfl rfl ?_
                  refine e_iconst (v := (-1)) dX7_bestQuota_65 (by decide) ?_
                  refine e_icmp_eq 76 dX7_bestQuota_66 (by decide) (fun h66 => ?_) (fun h66 => ?_)
                  · refine e_iconst (v := 1) dX7_bestQuota_76 (by decide) ?_
                    refine e_goto 81 dX7_bestQuota_77 (by decide) ?_
                    refine e_istore dX7_bestQuota_81 (by decide) rfl ?_
                    exact better t none none ht (by rw [rBq, hb, he]; rfl)
                  · exact absurd rfl h66
                | some y =>
                  obtain ⟨yq, ys⟩ := y
                  obtain ⟨y1, y2⟩ := hbl i _ (by omega) hb
                  have y1' : yq ≤ i := y1
                  have y2' : ys ≤ 500 := y2
                  refine e_iload_n dX7_bestQuota_64 rfl rfl ?_
                  refine e_iconst (v := (-1)) dX7_bestQuota_65 (by decide) ?_
                  refine e_icmp_eq 76 dX7_bestQuota_66 (by decide) (fun h66 => ?_) (fun h66 => ?_)
                  · exact absurd h66 (nI_ne_m1 (k := yq) (by omega))
                  · refine e_iload dX7_bestQuota_69 rfl ?_
                    refine e_iload dX7_bestQuota_71 rfl ?_
                    refine e_icmp_ge 80 dX7_bestQuota_73 (by decide) (fun h73 => ?_) (fun h73 => ?_)
                    · have hts : ¬ t < ys := fun z => absurd h73 (nI_ge (a := t) (b := ys) z (by omega))
                      refine e_iconst (v := 0) dX7_bestQuota_80 (by decide) ?_
                      refine e_istore dX7_bestQuota_81 (by decide) rfl ?_
                      exact notb _ (some yq) (some ys) (by rw [rBq, hb, he]; simp only [hts, if_false]; rfl) (by rw [rBq, hb, he]; simp only [hts, if_false]; rfl)
                    · have hts : t < ys := by
                        rcases Nat.lt_or_ge t ys with z | z
                        · exact z
                        · exact absurd (nI_le (a := ys) (b := t) z (by omega)) h73
                      refine e_iconst (v := 1) dX7_bestQuota_76 (by decide) ?_
                      refine e_goto 81 dX7_bestQuota_77 (by decide) ?_
                      refine e_istore dX7_bestQuota_81 (by decide) rfl ?_
                      exact better t (some yq) (some ys) ht (by rw [rBq, hb, he]; simp only [hts, if_true])
      refine e_iload_n dX7_bestQuota_0 rfl rfl ?_
      refine e_cS1 dX7_bestQuota_1 ml_7_91 (c_X7_isMember _) rfl rfl (by decide) (Nat.le_of_ble_eq_true rfl) ⟨rfl, rfl⟩ (Nat.le_of_ble_eq_true rfl) (Nat.le_of_ble_eq_true rfl) ?_
      refine e_if_eq 16 dX7_bestQuota_4 (by decide) (fun h4 => ?_) (fun h4 => ?_)
      · exact absurd hm.1 (z0 h4)
      · refine e_iload_n dX7_bestQuota_7 rfl rfl ?_
        refine e_iconst (v := 0) dX7_bestQuota_8 (by decide) ?_
        refine e_iconst (v := 1) dX7_bestQuota_9 (by decide) ?_
        refine e_cS1 dX7_bestQuota_10 ml_7_39 (c_X7_in _ _ _) rfl rfl (by decide) (Nat.le_of_ble_eq_true rfl) ⟨rfl, rfl⟩ (Nat.le_of_ble_eq_true rfl) (Nat.le_of_ble_eq_true rfl) ?_
        refine e_if_ne 19 dX7_bestQuota_13 (by decide) (fun h13 => ?_) (fun h13 => ?_)
        · refine e_aload_n dX7_bestQuota_19 rfl rfl ?_
          refine e_getr dX7_bestQuota_20 fl_7_7 hB.a0 rfl ?_
          refine e_iconst (v := 0) dX7_bestQuota_23 (by decide) ?_
          refine e_iload_n dX7_bestQuota_24 rfl rfl ?_
          refine e_iadd dX7_bestQuota_25 ?_
          refine mm_ld k hB dX7_bestQuota_26 (ai_zadd rfl) (by first | assumption | omega) ?_
          refine e_iconst (v := 1) dX7_bestQuota_27 (by decide) ?_
          refine e_icmp_eq 34 dX7_bestQuota_28 (by decide) (fun h28 => ?_) (fun h28 => ?_)
          · refine e_iconst (v := (-1)) dX7_bestQuota_34 (by decide) ?_
            refine e_istore_n dX7_bestQuota_35 rfl (by decide) rfl ?_
            refine e_iconst (v := (-1)) dX7_bestQuota_36 (by decide) ?_
            refine e_istore dX7_bestQuota_37 (by decide) rfl ?_
            refine e_iconst (v := 1) dX7_bestQuota_39 (by decide) ?_
            refine e_istore dX7_bestQuota_40 (by decide) rfl ?_
            exact key 20 0 (ra ρ) _ _ rfl rfl (fun z => absurd z (by omega))
          · exact absurd h1 h28
        · exact absurd hm.2 (z0 h13)
    · refine ⟨ra ρ, ?_⟩
      have hv := hst k q (by omega) (by omega) rfl rfl h1
      refine AM_gen (fun out ho => ?_)
      refine AM_of [.ref b, .int (nI k), .int (nI q), .retAddr 0, .retAddr 0, .retAddr 0, .retAddr 0, .retAddr 0] (by decide) rfl (fun B => (Nat.le_of_ble_eq_true rfl)) ?_
      refine e_iload_n dX7_bestQuota_0 rfl rfl ?_
      refine e_cS1 dX7_bestQuota_1 ml_7_91 (c_X7_isMember _) rfl rfl (by decide) (Nat.le_of_ble_eq_true rfl) ⟨rfl, rfl⟩ (Nat.le_of_ble_eq_true rfl) (Nat.le_of_ble_eq_true rfl) ?_
      refine e_if_eq 16 dX7_bestQuota_4 (by decide) (fun h4 => ?_) (fun h4 => ?_)
      · exact absurd hm.1 (z0 h4)
      · refine e_iload_n dX7_bestQuota_7 rfl rfl ?_
        refine e_iconst (v := 0) dX7_bestQuota_8 (by decide) ?_
        refine e_iconst (v := 1) dX7_bestQuota_9 (by decide) ?_
        refine e_cS1 dX7_bestQuota_10 ml_7_39 (c_X7_in _ _ _) rfl rfl (by decide) (Nat.le_of_ble_eq_true rfl) ⟨rfl, rfl⟩ (Nat.le_of_ble_eq_true rfl) (Nat.le_of_ble_eq_true rfl) ?_
        refine e_if_ne 19 dX7_bestQuota_13 (by decide) (fun h13 => ?_) (fun h13 => ?_)
        · refine e_aload_n dX7_bestQuota_19 rfl rfl ?_
          refine e_getr dX7_bestQuota_20 fl_7_7 hB.a0 rfl ?_
          refine e_iconst (v := 0) dX7_bestQuota_23 (by decide) ?_
          refine e_iload_n dX7_bestQuota_24 rfl rfl ?_
          refine e_iadd dX7_bestQuota_25 ?_
          refine mm_ld k hB dX7_bestQuota_26 (ai_zadd rfl) (by first | assumption | omega) ?_
          refine e_iconst (v := 1) dX7_bestQuota_27 (by decide) ?_
          refine e_icmp_eq 34 dX7_bestQuota_28 (by decide) (fun h28 => ?_) (fun h28 => ?_)
          · exact absurd h28 h1
          · refine e_bipush (v := (-3)) dX7_bestQuota_31 (by decide) ?_
            exact e_iret dX7_bestQuota_33 rfl (ho.trans (by rw [hv])) (Nat.le_of_ble_eq_true rfl) (Nat.le_of_ble_eq_true rfl)
        · exact absurd hm.2 (z0 h13)
  · refine ⟨ra ρ, ?_⟩
    have hv := hbad hm
    refine AM_gen (fun out ho => ?_)
    refine AM_of [.ref b, .int a, .int w, .retAddr 0, .retAddr 0, .retAddr 0, .retAddr 0, .retAddr 0] (by decide) rfl (fun B => (Nat.le_of_ble_eq_true rfl)) ?_
    refine e_iload_n dX7_bestQuota_0 rfl rfl ?_
    refine e_cS1 dX7_bestQuota_1 ml_7_91 (c_X7_isMember _) rfl rfl (by decide) (Nat.le_of_ble_eq_true rfl) ⟨rfl, rfl⟩ (Nat.le_of_ble_eq_true rfl) (Nat.le_of_ble_eq_true rfl) ?_
    refine e_if_eq 16 dX7_bestQuota_4 (by decide) (fun h4 => ?_) (fun h4 => ?_)
    · refine e_bipush (v := (-2)) dX7_bestQuota_16 (by decide) ?_
      exact e_iret dX7_bestQuota_18 rfl (ho.trans (by rw [hv])) (Nat.le_of_ble_eq_true rfl) (Nat.le_of_ble_eq_true rfl)
    · refine e_iload_n dX7_bestQuota_7 rfl rfl ?_
      refine e_iconst (v := 0) dX7_bestQuota_8 (by decide) ?_
      refine e_iconst (v := 1) dX7_bestQuota_9 (by decide) ?_
      refine e_cS1 dX7_bestQuota_10 ml_7_39 (c_X7_in _ _ _) rfl rfl (by decide) (Nat.le_of_ble_eq_true rfl) ⟨rfl, rfl⟩ (Nat.le_of_ble_eq_true rfl) (Nat.le_of_ble_eq_true rfl) ?_
      refine e_if_ne 19 dX7_bestQuota_13 (by decide) (fun h13 => ?_) (fun h13 => ?_)
      · exact absurd ⟨z1 h4, z1 h13⟩ hm
      · refine e_bipush (v := (-2)) dX7_bestQuota_16 (by decide) ?_
        exact e_iret dX7_bestQuota_18 rfl (ho.trans (by rw [hv])) (Nat.le_of_ble_eq_true rfl) (Nat.le_of_ble_eq_true rfl)
end C26

