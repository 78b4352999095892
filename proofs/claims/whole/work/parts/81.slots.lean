/-! ===== slots: both save and restore alike ===== -/
theorem sc_out {a : Nat} (κ : sc_T) (M : Nat → Nat → Int32) (ha : a < 103 ∨ 111 ≤ a) : sc_put 103 κ M a = M a := bput_out _ _ ha
theorem md_out {a : Nat} (ρ : md_T) (M : Nat → Nat → Int32) (ha : a < 111 ∨ 120 ≤ a) : md_put 111 ρ M a = M a := bput_out _ _ ha
theorem bput_uo {b n a j : Nat} {x : Int32} (V M : Nat → Nat → Int32) (ha : a < b ∨ b + n ≤ a) : ai_u (bput b n V M) a j x = bput b n V (ai_u M a j x) := by
  funext q
  by_cases hq : q = a
  · subst hq
    rw [ai_u_at, bput_out _ _ ha, bput_out _ _ ha, ai_u_at]
  · rw [ai_u_ne _ _ _ hq]
    by_cases hb : b ≤ q ∧ q < b + n
    · simp only [bput, hb, and_self, if_true]
    · simp only [bput, hb, if_false]
      rw [ai_u_ne _ _ _ hq]
theorem sc_uo {j : Nat} {x : Int32} (κ : sc_T) (M : Nat → Nat → Int32) : ai_u (sc_put 103 κ M) 102 j x = sc_put 103 κ (ai_u M 102 j x) := bput_uo _ _ (Or.inl (by decide))
theorem md_uo {j : Nat} {x : Int32} (ρ : md_T) (M : Nat → Nat → Int32) : ai_u (md_put 111 ρ M) 102 j x = md_put 111 ρ (ai_u M 102 j x) := bput_uo _ _ (Or.inl (by decide))
theorem Inv.copy {K E : Nat} {σ : hs_T} {m : Nat → Int32} (h : Inv K E σ m) (τ : hs_T) : Inv K E (hCp τ σ) m := by
  obtain ⟨t, ht, hR⟩ := h
  exact ⟨t, ht, hR.ext (hCp_eq τ σ)⟩
theorem Inv.h9 {K E : Nat} {σ : hs_T} {m : Nat → Int32} (h : Inv K E σ m) : (hf σ 9 = 0 ∨ hf σ 9 = 1) ∧ hf σ 5 = m 103 ∧ RW m := by
  obtain ⟨t, ht, hR⟩ := h
  exact ⟨hR.h9, by rw [hR.t5.1, hR.t5.2], hR.1⟩
theorem slt_save {ρ ρ' : md_T} {m : Nat → Int32} {s : Nat} (h : RW m) (hr : rs ρ' = fs m (rs ρ) (271 * s) 271) : slt ρ' s = m := by
  funext j
  rw [slt, hr]
  by_cases hj : j < 271
  · rw [if_pos hj, fs, if_pos ⟨by omega, by omega⟩, show 271 * s + j - 271 * s = j by omega]
  · rw [if_neg hj]
    exact (h.2.2.2 j (by omega)).symm
theorem slt_other {ρ ρ' : md_T} {m : Nat → Int32} {s z : Nat} (hz : z ≠ s) (hr : rs ρ' = fs m (rs ρ) (271 * s) 271) : slt ρ' z = slt ρ z := by
  funext j
  rw [slt, slt, hr]
  by_cases hj : j < 271
  · rw [if_pos hj, if_pos hj, fs, if_neg]
    intro w
    rcases Nat.lt_or_ge z s with q | q
    · have : 271 * z + 271 ≤ 271 * s := by omega
      omega
    · have : 271 * s + 271 ≤ 271 * z := by omega
      omega
  · rw [if_neg hj, if_neg hj]
theorem slt_rest {ρ : md_T} {m : Nat → Int32} {s : Nat} (h : RW m) : fl (fun j => rs ρ (271 * s + j)) m 271 = slt ρ s := by
  funext j
  rw [fl, slt]
  by_cases hj : j < 271
  · rw [if_pos hj, if_pos hj]
  · rw [if_neg hj, if_neg hj]
    exact h.2.2.2 j (by omega)
section C81
variable {S : List aiS}
theorem wM_s0 (σ τ α β : hs_T) (κ : sc_T) (M : Nat → Nat → Int32) : wM σ τ α β κ M = hs_put 52 α (hs_put 1 σ (hs_put 26 τ (hs_put 77 β (sc_put 103 κ M)))) := by
  rw [wM, hs_comm (h := 26) (g := 52) (Or.inl (by decide)), hs_comm (h := 1) (g := 52) (Or.inl (by decide))]
theorem wM_r0 (σ τ α β : hs_T) (κ : sc_T) (M : Nat → Nat → Int32) : wM σ τ α β κ M = hs_put 1 σ (hs_put 52 α (hs_put 26 τ (hs_put 77 β (sc_put 103 κ M)))) := by
  rw [wM, hs_comm (h := 26) (g := 52) (Or.inl (by decide))]
theorem w_save0 (hT : KS S) (hB : MS S 111) : OW S G_X6_save G_X7_save [.int (nI 0)] := by
  intro K E σ τ α β κ ρ m M J hW hK hE
  obtain ⟨h9, h5, hw⟩ := hW.1.h9
  have hi : ∀ z, z < 2 → ai_u M 102 0 1 102 z = upd (ri ρ) 0 1 z := by
    intro z hz
    rw [ai_u_at]
    by_cases e : z = 0
    · rw [e, upd_same, upd_same]
    · rw [upd_ne _ _ e, upd_ne _ _ e]
      exact hW.2.2.1 z hz
  have hs1 : slt (Ri (Rs ρ (fs m (rs ρ) (271 * 0) 271)) (upd (ri ρ) 0 1)) 0 = m := slt_save hw rfl
  have hs2 : slt (Ri (Rs ρ (fs m (rs ρ) (271 * 0) 271)) (upd (ri ρ) 0 1)) 1 = slt ρ 1 := slt_other (s := 0) (m := m) (by decide) rfl
  refine ⟨m 103, wM σ τ (hCp α σ) β κ (md_put 111 (Rm ρ m) (ai_u M 102 0 1)), σ, τ, hCp α σ, β, κ, Ri (Rs ρ (fs m (rs ρ) (271 * 0) 271)) (upd (ri ρ) 0 1), m, ai_u M 102 0 1, ?_, ?_, ⟨hW.1.more, hW.2.1, hi, ?_, ?_⟩⟩
  · have h6 := c_X6_save0 (α := α) (M := hs_put 26 τ (hs_put 77 β (sc_put 103 κ (md_put 111 (Rm ρ m) M)))) (J := J) hT h9
    rw [hs_uo _ _ (Or.inr (by decide)), hs_uo _ _ (Or.inr (by decide)), sc_uo, md_uo, h5] at h6
    rw [wM_s0, wM_s0]
    exact h6
  · rw [wM_md, wM_md]
    exact c_X7_save hB (s := 0) (by decide)
  · intro _
    rw [hs1]
    exact (hW.1.copy α).more
  · intro z
    rw [hs2]
    exact (hW.2.2.2.2 (by
      have z2 : ¬ upd (ri ρ) 0 1 1 = 0 := z
      rw [upd_ne _ _ (by decide)] at z2
      exact z2)).more
theorem w_restore0 (hT : KS S) (hB : MS S 111) : OW S G_X6_restore G_X7_restore [.int (nI 0)] := by
  intro K E σ τ α β κ ρ m M J hW hK hE
  obtain ⟨h9, h5, hw⟩ := hW.1.h9
  have hM : M 102 0 = ri ρ 0 := hW.2.2.1 0 (by decide)
  by_cases hz : ri ρ 0 = 0
  · refine ⟨-3, wM σ τ α β κ (md_put 111 (Rm ρ m) M), σ, τ, α, β, κ, ρ, m, M, ?_, ?_, hW.next hK hE hW.1.more hW.2.1 rfl rfl⟩
    · refine c_X6_restore_no hT (fun z => absurd (by decide) z) (fun z hz2 he => ⟨?_, rfl⟩)
      rw [← (nI_eq (a := 0) (b := z) (by decide) (by omega)).mp he, wM, hs_out _ _ (Or.inr (by decide)), hs_out _ _ (Or.inr (by decide)), hs_out _ _ (Or.inr (by decide)), hs_out _ _ (Or.inr (by decide)), sc_out _ _ (Or.inl (by decide)), md_out _ _ (Or.inl (by decide)), hM]
      exact hz
    · rw [wM_md]
      refine c_X7_restore_bad (ρ := Rm ρ m) hB (fun z => absurd (by decide) z) (fun z hz2 he => ⟨?_, rfl⟩)
      rw [← (nI_eq (a := 0) (b := z) (by decide) (by omega)).mp he]
      exact hz
  · have hI := hW.2.2.2.1 hz
    obtain ⟨g9, g5, gw⟩ := hI.h9
    have hv : rs ρ (271 * 0 + 103) = hf α 5 := by
      rw [g5]
      rfl
    refine ⟨hf α 5, wM (hCp σ α) τ α β κ (md_put 111 (Rm ρ m) M), hCp σ α, τ, α, β, κ, ρ, slt ρ 0, M, ?_, ?_, hW.next hK hE (hI.copy σ).more hW.2.1 rfl rfl⟩
    · rw [wM_r0, wM_r0]
      refine c_X6_restore0 hT g9 ?_
      rw [hs_out _ _ (Or.inr (by decide)), hs_out _ _ (Or.inr (by decide)), sc_out _ _ (Or.inl (by decide)), md_out _ _ (Or.inl (by decide)), hM]
      exact hz
    · rw [wM_md, wM_md, ← hv, ← slt_rest (s := 0) hw]
      exact c_X7_restore hB (s := 0) (by decide) hz
theorem wM_s1 (σ τ α β : hs_T) (κ : sc_T) (M : Nat → Nat → Int32) : wM σ τ α β κ M = hs_put 77 β (hs_put 1 σ (hs_put 26 τ (hs_put 52 α (sc_put 103 κ M)))) := by
  rw [wM, hs_comm (h := 52) (g := 77) (Or.inl (by decide)), hs_comm (h := 26) (g := 77) (Or.inl (by decide)), hs_comm (h := 1) (g := 77) (Or.inl (by decide))]
theorem wM_r1 (σ τ α β : hs_T) (κ : sc_T) (M : Nat → Nat → Int32) : wM σ τ α β κ M = hs_put 1 σ (hs_put 77 β (hs_put 26 τ (hs_put 52 α (sc_put 103 κ M)))) := by
  rw [wM, hs_comm (h := 52) (g := 77) (Or.inl (by decide)), hs_comm (h := 26) (g := 77) (Or.inl (by decide))]
theorem w_save1 (hT : KS S) (hB : MS S 111) : OW S G_X6_save G_X7_save [.int (nI 1)] := by
  intro K E σ τ α β κ ρ m M J hW hK hE
  obtain ⟨h9, h5, hw⟩ := hW.1.h9
  have hi : ∀ z, z < 2 → ai_u M 102 1 1 102 z = upd (ri ρ) 1 1 z := by
    intro z hz
    rw [ai_u_at]
    by_cases e : z = 1
    · rw [e, upd_same, upd_same]
    · rw [upd_ne _ _ e, upd_ne _ _ e]
      exact hW.2.2.1 z hz
  have hs1 : slt (Ri (Rs ρ (fs m (rs ρ) (271 * 1) 271)) (upd (ri ρ) 1 1)) 1 = m := slt_save hw rfl
  have hs2 : slt (Ri (Rs ρ (fs m (rs ρ) (271 * 1) 271)) (upd (ri ρ) 1 1)) 0 = slt ρ 0 := slt_other (s := 1) (m := m) (by decide) rfl
  refine ⟨m 103, wM σ τ α (hCp β σ) κ (md_put 111 (Rm ρ m) (ai_u M 102 1 1)), σ, τ, α, hCp β σ, κ, Ri (Rs ρ (fs m (rs ρ) (271 * 1) 271)) (upd (ri ρ) 1 1), m, ai_u M 102 1 1, ?_, ?_, ⟨hW.1.more, hW.2.1, hi, ?_, ?_⟩⟩
  · have h6 := c_X6_save1 (α := β) (M := hs_put 26 τ (hs_put 52 α (sc_put 103 κ (md_put 111 (Rm ρ m) M)))) (J := J) hT h9
    rw [hs_uo _ _ (Or.inr (by decide)), hs_uo _ _ (Or.inr (by decide)), sc_uo, md_uo, h5] at h6
    rw [wM_s1, wM_s1]
    exact h6
  · rw [wM_md, wM_md]
    exact c_X7_save hB (s := 1) (by decide)
  · intro z
    rw [hs2]
    exact (hW.2.2.2.1 (by
      have z2 : ¬ upd (ri ρ) 1 1 0 = 0 := z
      rw [upd_ne _ _ (by decide)] at z2
      exact z2)).more
  · intro _
    rw [hs1]
    exact (hW.1.copy β).more
theorem w_restore1 (hT : KS S) (hB : MS S 111) : OW S G_X6_restore G_X7_restore [.int (nI 1)] := by
  intro K E σ τ α β κ ρ m M J hW hK hE
  obtain ⟨h9, h5, hw⟩ := hW.1.h9
  have hM : M 102 1 = ri ρ 1 := hW.2.2.1 1 (by decide)
  by_cases hz : ri ρ 1 = 0
  · refine ⟨-3, wM σ τ α β κ (md_put 111 (Rm ρ m) M), σ, τ, α, β, κ, ρ, m, M, ?_, ?_, hW.next hK hE hW.1.more hW.2.1 rfl rfl⟩
    · refine c_X6_restore_no hT (fun z => absurd (by decide) z) (fun z hz2 he => ⟨?_, rfl⟩)
      rw [← (nI_eq (a := 1) (b := z) (by decide) (by omega)).mp he, wM, hs_out _ _ (Or.inr (by decide)), hs_out _ _ (Or.inr (by decide)), hs_out _ _ (Or.inr (by decide)), hs_out _ _ (Or.inr (by decide)), sc_out _ _ (Or.inl (by decide)), md_out _ _ (Or.inl (by decide)), hM]
      exact hz
    · rw [wM_md]
      refine c_X7_restore_bad (ρ := Rm ρ m) hB (fun z => absurd (by decide) z) (fun z hz2 he => ⟨?_, rfl⟩)
      rw [← (nI_eq (a := 1) (b := z) (by decide) (by omega)).mp he]
      exact hz
  · have hI := hW.2.2.2.2 hz
    obtain ⟨g9, g5, gw⟩ := hI.h9
    have hv : rs ρ (271 * 1 + 103) = hf β 5 := by
      rw [g5]
      rfl
    refine ⟨hf β 5, wM (hCp σ β) τ α β κ (md_put 111 (Rm ρ m) M), hCp σ β, τ, α, β, κ, ρ, slt ρ 1, M, ?_, ?_, hW.next hK hE (hI.copy σ).more hW.2.1 rfl rfl⟩
    · rw [wM_r1, wM_r1]
      refine c_X6_restore1 hT g9 ?_
      rw [hs_out _ _ (Or.inr (by decide)), hs_out _ _ (Or.inr (by decide)), sc_out _ _ (Or.inl (by decide)), md_out _ _ (Or.inl (by decide)), hM]
      exact hz
    · rw [wM_md, wM_md, ← hv, ← slt_rest (s := 1) hw]
      exact c_X7_restore hB (s := 1) (by decide) hz
theorem w_save (hT : KS S) (hB : MS S 111) (a : Int32) : OW S G_X6_save G_X7_save [.int a] := by
  by_cases hv : 0 ≤ a ∧ a ≤ 1
  · obtain ⟨s, hs, rfl⟩ := wi_nI (n := 1) rfl hv
    rcases (show s = 0 ∨ s = 1 by omega) with rfl | rfl
    · exact w_save0 hT hB
    · exact w_save1 hT hB
  · intro K E σ τ α β κ ρ m M J hW hK hE
    refine ⟨-2, wM σ τ α β κ (md_put 111 (Rm ρ m) M), σ, τ, α, β, κ, ρ, m, M, c_X6_save_no hT hv, ?_, hW.next hK hE hW.1.more hW.2.1 rfl rfl⟩
    rw [wM_md]
    exact c_X7_save_bad (ρ := Rm ρ m) hB hv
theorem w_restore (hT : KS S) (hB : MS S 111) (a : Int32) : OW S G_X6_restore G_X7_restore [.int a] := by
  by_cases hv : 0 ≤ a ∧ a ≤ 1
  · obtain ⟨s, hs, rfl⟩ := wi_nI (n := 1) rfl hv
    rcases (show s = 0 ∨ s = 1 by omega) with rfl | rfl
    · exact w_restore0 hT hB
    · exact w_restore1 hT hB
  · intro K E σ τ α β κ ρ m M J hW hK hE
    refine ⟨-2, wM σ τ α β κ (md_put 111 (Rm ρ m) M), σ, τ, α, β, κ, ρ, m, M, c_X6_restore_no hT (fun _ => rfl) (fun s hs he => absurd (by rw [he]; exact ⟨nI_pos' (by omega), nI_le (b := 1) (by omega) (by decide)⟩) hv), ?_, hW.next hK hE hW.1.more hW.2.1 rfl rfl⟩
    rw [wM_md]
    exact c_X7_restore_bad (ρ := Rm ρ m) hB (fun _ => rfl) (fun s hs he => absurd (by rw [he]; exact ⟨nI_pos' (by omega), nI_le (b := 1) (by omega) (by decide)⟩) hv)
end C81

