/-! ===== both run a script alike: the call ===== -/
def KR (ρ ρ' : md_T) : Prop := rf ρ' 5 = rf ρ 5 ∧ rs ρ' = rs ρ ∧ ri ρ' = ri ρ ∧ rt ρ' = rt ρ
theorem TX.keep {κ κ' : sc_T} {ρ ρ' : md_T} (h : TX κ ρ) (hk : KK κ κ') (hr : KR ρ ρ') : TX κ' ρ' := by
  have e : cL κ' = cL κ := by rw [cL, cL, hk.2]
  rw [TX, e, hk.1, hk.2, hr.1, hr.2.2.2]
  exact h
theorem Rm_id {ρ : md_T} {m : Nat → Int32} (h : rm ρ = m) : Rm ρ m = ρ := by
  subst h
  rfl
section C79
variable {S : List aiS}
theorem b_run (hT : KS S) (hB : MS S 111) {K E : Nat} {σ : hs_T} {m : Nat → Int32} {κ : sc_T} {ρ : md_T} (h : Inv K E σ m) (hK : K + 6000 ≤ 900000000) (hE : E + 200 ≤ 900000000) (hx : TX κ ρ) : ∃ v σ' m' κ' ρ', Inv (K + 6000) (E + 200) σ' m' ∧ KK κ κ' ∧ KR ρ ρ' ∧ (∀ M J, AM G_X6_run [.ref 0] S (hs_put 1 σ (sc_put 103 κ M)) J (some (.int v), S, hs_put 1 σ' (sc_put 103 κ' M), J)) ∧ (∀ M J, AM G_X7_run [.ref 111] S (md_put 111 (Rm ρ m) M) J (some (.int v), S, md_put 111 (Rm ρ' m') M, J)) := by
  have hC := hT.script
  have hxm : TX κ (Rm ρ m) := hx
  obtain ⟨n, ρ1, hlp, hres⟩ := read_sim hxm
  have hkm := KM.xRd hlp
  have hkk := KK.xRd κ
  have hl5 : mL (Rm ρ m) = cL κ := by
    show (rf ρ 5).toNatClampNeg = cL κ
    rw [hx.2.2.1, nI_clamp (by have := hx.2.1; omega)]
  have hrd7 : ∀ M J, AM G_X7_reads [.ref 111] S (md_put 111 (Rm ρ m) M) J (none, S, md_put 111 (mEnd ρ1) M, J) := fun M J => c_X7_reads hB (by rw [hl5]; exact hx.2.2.1) (by rw [hl5]; exact hx.2.1) hlp
  have hrd6 : ∀ M J, AM G_X5_read [.ref 103] S (sc_put 103 κ M) J (some (.int (cf (rRead κ) 8)), S, sc_put 103 (rRead κ) M, J) := fun M J => c_X5_read hC hx.1 hx.2.1
  have hrm : rm (mEnd ρ1) = m := hkm.2.1
  have hKR : KR ρ (mEnd ρ1) := ⟨hkm.1, hkm.2.2.2.1, hkm.2.2.2.2.1, hkm.2.2.2.2.2⟩
  revert hres hrd7 hrd6 hkk hrm hKR
  generalize mEnd ρ1 = ρ2
  generalize rRead κ = κ1
  intro hres hkk hrd7 hrd6 hrm hKR
  rcases hres with ⟨f, f1, f2, f3⟩ | ⟨f1, f2, s, s1, s2, s3, s4⟩
  · refine ⟨-2000 - nI f, σ, m, κ1, ρ2, h.more, hkk, hKR, fun M J => ?_, fun M J => ?_⟩
    · have hcm : hs_put 1 σ (sc_put 103 κ M) = sc_put 103 κ (hs_put 1 σ M) := hs_sc (by decide) _ _ _
      have hcm1 : hs_put 1 σ (sc_put 103 κ1 M) = sc_put 103 κ1 (hs_put 1 σ M) := hs_sc (by decide) _ _ _
      have hr := hrd6 (hs_put 1 σ M) J
      rw [f2] at hr
      rw [hcm, hcm1]
      refine AM_gen (fun out ho => ?_)
      refine AM_of [.ref 0, .retAddr 0, .retAddr 0, .retAddr 0, .retAddr 0] (by decide) rfl (fun B => (Nat.le_of_ble_eq_true rfl)) ?_
      refine e_aload_n dX6_run_0 rfl rfl ?_
      refine e_getr dX6_run_1 fl_6_30 hT.a0 rfl ?_
      refine e_cV1 dX6_run_4 ml_6_181 hr hC.a0 rfl rfl (by decide) (Nat.le_of_ble_eq_true rfl) ⟨rfl, rfl⟩ (Nat.le_of_ble_eq_true rfl) (Nat.le_of_ble_eq_true rfl) ?_
      refine e_istore_n dX6_run_7 rfl (by decide) rfl ?_
      refine e_iload_n dX6_run_8 rfl rfl ?_
      refine e_iconst (v := (-1)) dX6_run_9 (by decide) ?_
      refine e_icmp_eq 19 dX6_run_10 (by decide) (fun h10 => ?_) (fun h10 => ?_)
      · exact absurd h10 (nI_ne_m1 (by omega))
      · refine e_sipush (v := (-2000)) dX6_run_13 (by decide) ?_
        refine e_iload_n dX6_run_16 rfl rfl ?_
        refine e_isub dX6_run_17 ?_
        exact e_iret dX6_run_18 rfl ho (Nat.le_of_ble_eq_true rfl) (Nat.le_of_ble_eq_true rfl)
    · rw [Rm_id hrm]
      refine AM_gen (fun out ho => ?_)
      refine AM_of [.ref 111, .retAddr 0, .retAddr 0, .retAddr 0, .retAddr 0, .retAddr 0, .retAddr 0, .retAddr 0] (by decide) rfl (fun B => (Nat.le_of_ble_eq_true rfl)) ?_
      refine e_aload_n dX7_run_0 rfl rfl ?_
      refine e_cV0 dX7_run_1 ml_7_165 (hrd7 M J) hB.a0 rfl rfl (by decide) (Nat.le_of_ble_eq_true rfl) ⟨rfl, rfl⟩ (Nat.le_of_ble_eq_true rfl) (Nat.le_of_ble_eq_true rfl) ?_
      refine e_aload_n dX7_run_4 rfl rfl ?_
      refine rf_get hB dX7_run_5 fl_7_119 (by decide) ?_
      refine e_iconst (v := (-1)) dX7_run_8 (by decide) ?_
      rw [f3]
      refine e_icmp_eq 21 dX7_run_9 (by decide) (fun h9 => ?_) (fun h9 => ?_)
      · exact absurd h9 (nI_ne_m1 (by omega))
      · refine e_sipush (v := (-2000)) dX7_run_12 (by decide) ?_
        refine e_aload_n dX7_run_15 rfl rfl ?_
        refine rf_get hB dX7_run_16 fl_7_119 (by decide) ?_
        rw [f3]
        refine e_isub dX7_run_19 ?_
        exact e_iret dX7_run_20 rfl ho (Nat.le_of_ble_eq_true rfl) (Nat.le_of_ble_eq_true rfl)
  · have hP : SP (pcf (pcf κ1 11 0) 12 0) (rp ρ2) s := by
      refine ⟨s1, fun j hj => ⟨(s4.1 j hj).1.1, ?_, (s4.1 j hj).2⟩, s4.2.1.1⟩
      rcases (s4.1 j hj).1.2 with z | z
      · exact Or.inl z.1
      · exact Or.inr z
    have hRN : RN (pcf (pcf κ1 11 0) 12 0) s (rl ρ2) 0 0 0 := ⟨⟨rfl, Nat.zero_le _⟩, s2, ⟨rfl, Nat.zero_le _⟩, rfl, fun i hi => absurd hi (by omega)⟩
    have hER : ∀ j, j < s → ER (pcf (pcf κ1 11 0) 12 0) ρ2 j := fun j hj => (s4.1 j hj).1
    obtain ⟨g, σ', m', κ', L', b1, b2, b3, b4⟩ := run_both hT hB s3 200 0 K E (good := 0) (by omega) hP hER hRN (Nat.le_refl _) h (by omega) (by omega)
    have hkk2 : KK κ κ' := by
      have h1 : KK κ1 (pcf (pcf κ1 11 0) 12 0) := ⟨rfl, rfl⟩
      exact (hkk.trans h1).trans b2.kk
    refine ⟨g, σ', m', κ', Rl ρ2 L', b1, hkk2, hKR, fun M J => ?_, fun M J => ?_⟩
    · have hcm : hs_put 1 σ (sc_put 103 κ M) = sc_put 103 κ (hs_put 1 σ M) := hs_sc (by decide) _ _ _
      have hr := hrd6 (hs_put 1 σ M) J
      rw [f1] at hr
      rw [hcm]
      refine AM_gen (fun out ho => ?_)
      refine AM_of [.ref 0, .retAddr 0, .retAddr 0, .retAddr 0, .retAddr 0] (by decide) rfl (fun B => (Nat.le_of_ble_eq_true rfl)) ?_
      have b5 := b3 M J out (.retAddr 0) ho
      rw [hs_sc (by decide)] at b5
      refine e_aload_n dX6_run_0 rfl rfl ?_
      refine e_getr dX6_run_1 fl_6_30 hT.a0 rfl ?_
      refine e_cV1 dX6_run_4 ml_6_181 hr hC.a0 rfl rfl (by decide) (Nat.le_of_ble_eq_true rfl) ⟨rfl, rfl⟩ (Nat.le_of_ble_eq_true rfl) (Nat.le_of_ble_eq_true rfl) ?_
      refine e_istore_n dX6_run_7 rfl (by decide) rfl ?_
      refine e_iload_n dX6_run_8 rfl rfl ?_
      refine e_iconst (v := (-1)) dX6_run_9 (by decide) ?_
      refine e_icmp_eq 19 dX6_run_10 (by decide) (fun h10 => ?_) (fun h10 => ?_)
      · refine e_iconst (v := 0) dX6_run_19 (by decide) ?_
        refine e_istore_n dX6_run_20 rfl (by decide) rfl ?_
        refine e_aload_n dX6_run_21 rfl rfl ?_
        refine e_getr dX6_run_22 fl_6_30 hT.a0 rfl ?_
        refine e_cV0 dX6_run_25 ml_6_185 (c_X5_begin hC) hC.a0 rfl rfl (by decide) (Nat.le_of_ble_eq_true rfl) ⟨rfl, rfl⟩ (Nat.le_of_ble_eq_true rfl) (Nat.le_of_ble_eq_true rfl) ?_
        refine e_iconst (v := 0) dX6_run_28 (by decide) ?_
        refine e_istore_n dX6_run_29 rfl (by decide) rfl ?_
        exact b5
      · exact absurd rfl h10
    · have hr := hrd7 M J
      refine AM_gen (fun out ho => ?_)
      refine AM_of [.ref 111, .retAddr 0, .retAddr 0, .retAddr 0, .retAddr 0, .retAddr 0, .retAddr 0, .retAddr 0] (by decide) rfl (fun B => (Nat.le_of_ble_eq_true rfl)) ?_
      have b5 := b4 M J out (.retAddr 0) (.retAddr 0) (.retAddr 0) ho
      have e2 : Rm (Rl ρ2 (rl ρ2)) m = ρ2 := Rm_id (ρ := Rl ρ2 (rl ρ2)) hrm
      rw [e2] at b5
      refine e_aload_n dX7_run_0 rfl rfl ?_
      refine e_cV0 dX7_run_1 ml_7_165 hr hB.a0 rfl rfl (by decide) (Nat.le_of_ble_eq_true rfl) ⟨rfl, rfl⟩ (Nat.le_of_ble_eq_true rfl) (Nat.le_of_ble_eq_true rfl) ?_
      refine e_aload_n dX7_run_4 rfl rfl ?_
      refine rf_get hB dX7_run_5 fl_7_119 (by decide) ?_
      refine e_iconst (v := (-1)) dX7_run_8 (by decide) ?_
      rw [f2]
      refine e_icmp_eq 21 dX7_run_9 (by decide) (fun h9 => ?_) (fun h9 => ?_)
      · refine e_iconst (v := 0) dX7_run_21 (by decide) ?_
        refine e_istore_n dX7_run_22 rfl (by decide) rfl ?_
        refine e_iconst (v := 0) dX7_run_23 (by decide) ?_
        refine e_istore_n dX7_run_24 rfl (by decide) rfl ?_
        refine e_iconst (v := 0) dX7_run_25 (by decide) ?_
        refine e_istore_n dX7_run_26 rfl (by decide) rfl ?_
        refine e_iconst (v := 0) dX7_run_27 (by decide) ?_
        refine e_istore dX7_run_28 (by decide) rfl ?_
        exact b5
      · exact absurd rfl h9
end C79

