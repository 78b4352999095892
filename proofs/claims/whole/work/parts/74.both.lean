/-! ===== both answer alike: calls on the house alone ===== -/
def Inv (K E : Nat) (σ : hs_T) (m : Nat → Int32) : Prop := ∃ t, t ≤ 20000 ∧ Rel (K + 40 * t) E t σ m
theorem Rel.moreE {F E E' t : Nat} {σ : hs_T} {m : Nat → Int32} (h : Rel F E t σ m) (hE : E ≤ E' ∧ E' ≤ 1000000000 := by omega) : Rel F E' t σ m := by
  obtain ⟨hw, e, c, hN, hM, hR, hSt, hU, hL, hG⟩ := h
  obtain ⟨n1, n2, n3, n4, n5, n6, n7, n8, n9, n10⟩ := hN
  exact ⟨hw, e, c, ⟨n1, n2, n3, n4, n5, n6, n7, n8, by omega, hE.2⟩, hM, hR, hSt, hU, hL, hG⟩
theorem Inv.more {K E K' E' : Nat} {σ : hs_T} {m : Nat → Int32} (h : Inv K E σ m) (hK : K ≤ K' ∧ K' ≤ 900000000 := by omega) (hE : E ≤ E' ∧ E' ≤ 900000000 := by omega) : Inv K' E' σ m := by
  obtain ⟨t, ht, hR⟩ := h
  exact ⟨t, ht, (hR.more (F' := K' + 40 * t)).moreE⟩
/-- class and reference answer alike -/
def Bo (S : List aiS) (G6 G7 : aiG) (as : List Value) (σ : hs_T) (m : Nat → Int32) (v : Int32) (σ' : hs_T) (m' : Nat → Int32) : Prop :=
  (∀ M J, AM G6 (.ref 0 :: as) S (hs_put 1 σ M) J (some (.int v), S, hs_put 1 σ' M, J)) ∧ ∀ ρ M J, AM G7 (.ref 111 :: as) S (md_put 111 (Rm ρ m) M) J (some (.int v), S, md_put 111 (Rm ρ m') M, J)
section C74
variable {S : List aiS} {σ : hs_T} {m : Nat → Int32} {K E : Nat}
theorem b_setCapacity (hT : KS S) (hB : MS S 111) (h : Inv K E σ m) (a c : Int32) : ∃ v σ' m', Bo S G_X6_setCapacity G_X7_setCapacity [.int a, .int c] σ m v σ' m' ∧ Inv K E σ' m' := by
  obtain ⟨t, ht, hR⟩ := h
  by_cases hv : (0 ≤ a ∧ a ≤ 4) ∧ (1 ≤ c ∧ c ≤ 8)
  · obtain ⟨r, hrr, rfl⟩ := wi_nI (n := 4) rfl hv.1
    have hr5 : r < 5 := by omega
    have e0 : hr σ r 0 = m (60 + r) := by
      obtain ⟨hw, e, c, hN, hM, hRo, hSt, hU, hL, hG⟩ := hR
      exact (hRo r hr5).1
    refine ⟨m (60 + r), phr σ r 0 c, upd m (60 + r) c, ⟨fun M J => c_X6_setCapacity hT (fun z => absurd hv z) (fun q hq hqe _ => ?_), fun ρ M J => c_X7_setCapacity hB ⟨fun z => absurd hv z, fun q hq hqe _ => ?_⟩⟩, t, ht, hR.cap hr5 hv.2.1⟩
    · rw [← (nI_eq (by omega) (by omega)).mp hqe]
      exact ⟨e0.symm, rfl⟩
    · rw [← (nI_eq (by omega) (by omega)).mp hqe]
      exact ⟨rfl, rfl⟩
  · exact ⟨-2, σ, m, ⟨fun M J => c_X6_setCapacity hT (fun _ => ⟨rfl, rfl⟩) (fun q hq hqe z => absurd ⟨by rw [hqe]; exact ⟨nI_pos' (by omega), nI_le (b := 4) (by omega) (by decide)⟩, z⟩ hv), fun ρ M J => c_X7_setCapacity hB ⟨fun _ => ⟨rfl, rfl⟩, fun q hq hqe z => absurd ⟨by rw [hqe]; exact ⟨nI_pos' (by omega), nI_le (b := 4) (by omega) (by decide)⟩, z⟩ hv⟩⟩, t, ht, hR⟩
theorem b_setShare (hT : KS S) (hB : MS S 111) (h : Inv K E σ m) (a c : Int32) : ∃ v σ' m', Bo S G_X6_setShare G_X7_setShare [.int a, .int c] σ m v σ' m' ∧ Inv K E σ' m' := by
  obtain ⟨t, ht, hR⟩ := h
  by_cases hv : (0 ≤ a ∧ a ≤ 4) ∧ (1 ≤ c ∧ c ≤ 9)
  · obtain ⟨r, hrr, rfl⟩ := wi_nI (n := 4) rfl hv.1
    have hr5 : r < 5 := by omega
    have e0 : hr σ r 1 = m (65 + r) := by
      obtain ⟨hw, e, c, hN, hM, hRo, hSt, hU, hL, hG⟩ := hR
      exact (hRo r hr5).2.1
    refine ⟨m (65 + r), phr σ r 1 c, upd m (65 + r) c, ⟨fun M J => c_X6_setShare hT (fun z => absurd hv z) (fun q hq hqe _ => ?_), fun ρ M J => c_X7_setShare hB ⟨fun z => absurd hv z, fun q hq hqe _ => ?_⟩⟩, t, ht, hR.share hr5 hv.2.1⟩
    · rw [← (nI_eq (by omega) (by omega)).mp hqe]
      exact ⟨e0.symm, rfl⟩
    · rw [← (nI_eq (by omega) (by omega)).mp hqe]
      exact ⟨rfl, rfl⟩
  · exact ⟨-2, σ, m, ⟨fun M J => c_X6_setShare hT (fun _ => ⟨rfl, rfl⟩) (fun q hq hqe z => absurd ⟨by rw [hqe]; exact ⟨nI_pos' (by omega), nI_le (b := 4) (by omega) (by decide)⟩, z⟩ hv), fun ρ M J => c_X7_setShare hB ⟨fun _ => ⟨rfl, rfl⟩, fun q hq hqe z => absurd ⟨by rw [hqe]; exact ⟨nI_pos' (by omega), nI_le (b := 4) (by omega) (by decide)⟩, z⟩ hv⟩⟩, t, ht, hR⟩
theorem b_setRule (hT : KS S) (hB : MS S 111) (h : Inv K E σ m) (a c : Int32) : ∃ v σ' m', Bo S G_X6_setRule G_X7_setRule [.int a, .int c] σ m v σ' m' ∧ Inv K E σ' m' := by
  obtain ⟨t, ht, hR⟩ := h
  by_cases hv : (0 ≤ a ∧ a ≤ 2) ∧ (1 ≤ c ∧ c ≤ rRule a)
  · obtain ⟨r, hr, rfl⟩ := wi_nI (n := 2) rfl hv.1
    have hr3 : r < 3 := by omega
    have hc100 : c ≤ 100 := by
      refine Int32.le_trans hv.2.2 ?_
      rcases (show r = 0 ∨ r = 1 ∨ r = 2 by omega) with rfl | rfl | rfl <;> decide
    obtain ⟨n, hn, hne⟩ := wi_nI (n := 100) (a := c) (hi := 100) rfl ⟨Int32.le_trans (by decide) hv.2.1, hc100⟩
    have hn1 : 1 ≤ n := (nI_leI (a := 1) (by decide) (by omega)).mp (by rw [← hne]; exact hv.2.1)
    have hn50 : r = 2 → n ≤ 50 := by
      intro z
      subst z
      have := hv.2.2
      rw [hne] at this
      exact (nI_leI (b := 50) (by omega) (by decide)).mp this
    have e0 : hu σ r = m (100 + r) := by
      obtain ⟨hw, e, c, hN, hM, hRo, hSt, hU, hL, hG⟩ := hR
      rcases (show r = 0 ∨ r = 1 ∨ r = 2 by omega) with rfl | rfl | rfl
      · exact hSt.1
      · exact hSt.2.1
      · exact hSt.2.2.1
    refine ⟨m (100 + r), phu σ r c, upd m (100 + r) c, ⟨fun M J => c_X6_setRule hT (fun z => absurd hv z) (fun q hq hqe _ => ?_), fun ρ M J => c_X7_setRule hB ⟨fun z => absurd hv z, fun q hq hqe _ => ?_⟩⟩, t, ht, hR.rule hr3 hne hn1 (fun _ => hn) hn50⟩
    · rw [← (nI_eq (by omega) (by omega)).mp hqe]
      exact ⟨e0.symm, rfl⟩
    · rw [← (nI_eq (by omega) (by omega)).mp hqe]
      exact ⟨rfl, rfl⟩
  · exact ⟨-2, σ, m, ⟨fun M J => c_X6_setRule hT (fun _ => ⟨rfl, rfl⟩) (fun q hq hqe z => absurd ⟨by rw [hqe]; exact ⟨nI_pos' (by omega), nI_le (b := 2) (by omega) (by decide)⟩, z⟩ hv), fun ρ M J => c_X7_setRule hB ⟨fun _ => ⟨rfl, rfl⟩, fun q hq hqe z => absurd ⟨by rw [hqe]; exact ⟨nI_pos' (by omega), nI_le (b := 2) (by omega) (by decide)⟩, z⟩ hv⟩⟩, t, ht, hR⟩
theorem b_request (hT : KS S) (hB : MS S 111) (h : Inv K E σ m) (hK : K ≤ 900000000) (hE : E ≤ 900000000) (a r x : Int32) : ∃ v σ' m', Bo S G_X6_request G_X7_request [.int a, .int r, .int x] σ m v σ' m' ∧ Inv (K + 30) (E + 1) σ' m' := by
  obtain ⟨t, ht, hR⟩ := h
  have hI : Inv (K + 30) (E + 1) σ m := ⟨t, ht, (hR.more (F' := K + 30 + 40 * t)).moreE⟩
  by_cases hv : (0 ≤ a ∧ a ≤ 11) ∧ (0 ≤ r ∧ r ≤ 4) ∧ (1 ≤ x ∧ x ≤ 999)
  · obtain ⟨k, hk, rfl⟩ := wi_nI (n := 11) rfl hv.1
    obtain ⟨q, hq, rfl⟩ := wi_nI (n := 4) rfl hv.2.1
    obtain ⟨n, hn, hne⟩ := wi_nI (n := 999) (a := x) (hi := 999) rfl ⟨Int32.le_trans (by decide) hv.2.2.1, hv.2.2.2⟩
    have hn1 : 1 ≤ n := (nI_leI (a := 1) (by decide) (by omega)).mp (by rw [← hne]; exact hv.2.2.1)
    have hk12 : k < 12 := by omega
    have hq5 : q < 5 := by omega
    have e0 := (hR.st hk12).1
    by_cases h0 : m k = 0
    · have hl : hLn σ < 12 := by
        obtain ⟨hw, e, c, hN, hM, hRo, hSt, hU, hL, hG⟩ := hR
        exact line_short hL hk12 (by rw [h0]; decide)
      have hR1 := hR.req (by omega) hk12 hq5 h0 hne hn1 hn
      obtain ⟨m', c1, c2, -⟩ := Rel.acts 12 (K + 40 * t) hR1 hR1.ln (by omega)
      have e1 := (c2.st hk12).1
      refine ⟨m' k, hAct 12 (hQu σ k q x), m', ⟨fun M J => c_X6_request hT hR (fun z => absurd hv z) (fun k' q' hk' hq' hke hqe _ => ?_), fun ρ M J => c_X7_request hB hR.1 (n := 14) ⟨fun z => absurd hv z, fun k' q' hk' hq' hke hqe _ => ?_⟩⟩, t, ht, c2.more⟩
      · rw [← (nI_eq (by omega) (by omega)).mp hke, ← (nI_eq (by omega) (by omega)).mp hqe]
        exact ⟨fun z => absurd (e0.trans h0) z, fun _ => ⟨hl, ⟨_, _, _, _, hR1, by omega⟩, rfl, e1.symm⟩⟩
      · rw [← (nI_eq (by omega) (by omega)).mp hke, ← (nI_eq (by omega) (by omega)).mp hqe]
        exact ⟨fun z => absurd h0 z, fun _ => ⟨c1, rfl⟩⟩
    · refine ⟨-3, σ, m, ⟨fun M J => c_X6_request hT hR (fun z => absurd hv z) (fun k' q' hk' hq' hke hqe _ => ?_), fun ρ M J => c_X7_request hB hR.1 (n := 14) ⟨fun z => absurd hv z, fun k' q' hk' hq' hke hqe _ => ?_⟩⟩, hI⟩
      · rw [← (nI_eq (by omega) (by omega)).mp hke]
        exact ⟨fun _ => ⟨rfl, rfl⟩, fun z => absurd (e0.symm.trans z) h0⟩
      · rw [← (nI_eq (by omega) (by omega)).mp hke]
        exact ⟨fun _ => ⟨rfl, rfl⟩, fun z => absurd z h0⟩
  · exact ⟨-2, σ, m, ⟨fun M J => c_X6_request hT hR (fun _ => ⟨rfl, rfl⟩) (fun k' q' hk' hq' hke hqe z => absurd ⟨by rw [hke]; exact ⟨nI_pos' (by omega), nI_le (b := 11) (by omega) (by decide)⟩, by rw [hqe]; exact ⟨nI_pos' (by omega), nI_le (b := 4) (by omega) (by decide)⟩, z⟩ hv), fun ρ M J => c_X7_request hB hR.1 (n := 14) ⟨fun _ => ⟨rfl, rfl⟩, fun k' q' hk' hq' hke hqe z => absurd ⟨by rw [hke]; exact ⟨nI_pos' (by omega), nI_le (b := 11) (by omega) (by decide)⟩, by rw [hqe]; exact ⟨nI_pos' (by omega), nI_le (b := 4) (by omega) (by decide)⟩, z⟩ hv⟩⟩, hI⟩
theorem b_withdraw (hT : KS S) (hB : MS S 111) (h : Inv K E σ m) (hK : K ≤ 900000000) (hE : E ≤ 900000000) (a : Int32) : ∃ v σ' m', Bo S G_X6_withdraw G_X7_withdraw [.int a] σ m v σ' m' ∧ Inv (K + 30) (E + 1) σ' m' := by
  obtain ⟨t, ht, hR⟩ := h
  have hI : Inv (K + 30) (E + 1) σ m := ⟨t, ht, (hR.more (F' := K + 30 + 40 * t)).moreE⟩
  by_cases hv : 0 ≤ a ∧ a ≤ 11
  · obtain ⟨k, hk, rfl⟩ := wi_nI (n := 11) rfl hv
    have hk12 : k < 12 := by omega
    obtain ⟨e0, e1, e2, e3⟩ := hR.st hk12
    by_cases h0 : m k = 1
    · have hR1 := hR.gu hk12 h0
      obtain ⟨m', c1, c2, -⟩ := Rel.acts 12 (K + 40 * t) hR1 hR1.ln (by omega)
      have hve : m 103 - m (24 + k) = hf σ 5 - hm σ k 2 := by rw [hR.t5.1, hR.t5.2, e2]
      refine ⟨m 103 - m (24 + k), hAct 12 (hGu σ k), m', ⟨fun M J => c_X6_withdraw hT hR (fun z => absurd hv z) (fun k' hk' hke => ?_), fun ρ M J => c_X7_withdraw hB hR.1 (n := 14) ⟨fun z => absurd hv z, fun k' hk' hke => ?_⟩⟩, t, ht, (c2.more (F' := K + 30 + 40 * t)).moreE⟩
      · rw [← (nI_eq (by omega) (by omega)).mp hke]
        exact ⟨fun z => absurd (e0.trans h0) z, fun _ => ⟨⟨_, _, _, _, hR1, by omega⟩, rfl, hve⟩⟩
      · rw [← (nI_eq (by omega) (by omega)).mp hke]
        exact ⟨fun z => absurd h0 z, fun _ => ⟨c1, rfl⟩⟩
    · refine ⟨-3, σ, m, ⟨fun M J => c_X6_withdraw hT hR (fun z => absurd hv z) (fun k' hk' hke => ?_), fun ρ M J => c_X7_withdraw hB hR.1 (n := 14) ⟨fun z => absurd hv z, fun k' hk' hke => ?_⟩⟩, hI⟩
      · rw [← (nI_eq (by omega) (by omega)).mp hke]
        exact ⟨fun _ => ⟨rfl, rfl⟩, fun z => absurd (e0.symm.trans z) h0⟩
      · rw [← (nI_eq (by omega) (by omega)).mp hke]
        exact ⟨fun _ => ⟨rfl, rfl⟩, fun z => absurd z h0⟩
  · exact ⟨-2, σ, m, ⟨fun M J => c_X6_withdraw hT hR (fun _ => ⟨rfl, rfl⟩) (fun k' hk' hke => absurd (by rw [hke]; exact ⟨nI_pos' (by omega), nI_le (b := 11) (by omega) (by decide)⟩) hv), fun ρ M J => c_X7_withdraw hB hR.1 (n := 14) ⟨fun _ => ⟨rfl, rfl⟩, fun k' hk' hke => absurd (by rw [hke]; exact ⟨nI_pos' (by omega), nI_le (b := 11) (by omega) (by decide)⟩) hv⟩⟩, hI⟩
theorem b_leave (hT : KS S) (hB : MS S 111) (h : Inv K E σ m) (hK : K ≤ 900000000) (hE : E ≤ 900000000) (a : Int32) : ∃ v σ' m', Bo S G_X6_leave G_X7_leave [.int a] σ m v σ' m' ∧ Inv (K + 30) (E + 1) σ' m' := by
  obtain ⟨t, ht, hR⟩ := h
  have hI : Inv (K + 30) (E + 1) σ m := ⟨t, ht, (hR.more (F' := K + 30 + 40 * t)).moreE⟩
  by_cases hv : 0 ≤ a ∧ a ≤ 11
  · obtain ⟨k, hk, rfl⟩ := wi_nI (n := 11) rfl hv
    have hk12 : k < 12 := by omega
    obtain ⟨e0, e1, e2, e3⟩ := hR.st hk12
    by_cases h0 : m k = 2
    · have hR1 := hR.out (by omega) hk12 (by rw [h0]; decide) 2
      obtain ⟨m', c1, c2, -⟩ := Rel.acts 12 (K + 40 * t + 1) hR1 hR1.ln (by omega)
      refine ⟨m (36 + k), hAct 12 (hOut σ k 2), m', ⟨fun M J => c_X6_leave hT hR (fun z => absurd hv z) (fun k' hk' hke => ?_), fun ρ M J => c_X7_leave hB hR.1 (n := 14) ⟨fun z => absurd hv z, fun k' hk' hke => ?_⟩⟩, t, ht, (c2.more (F' := K + 30 + 40 * t)).moreE⟩
      · rw [← (nI_eq (by omega) (by omega)).mp hke]
        exact ⟨fun z => absurd (e0.trans h0) z, fun _ => ⟨⟨_, _, _, _, hR1, by omega⟩, rfl, e3.symm⟩⟩
      · rw [← (nI_eq (by omega) (by omega)).mp hke]
        exact ⟨fun z => absurd h0 z, fun _ => ⟨c1, rfl⟩⟩
    · refine ⟨-3, σ, m, ⟨fun M J => c_X6_leave hT hR (fun z => absurd hv z) (fun k' hk' hke => ?_), fun ρ M J => c_X7_leave hB hR.1 (n := 14) ⟨fun z => absurd hv z, fun k' hk' hke => ?_⟩⟩, hI⟩
      · rw [← (nI_eq (by omega) (by omega)).mp hke]
        exact ⟨fun _ => ⟨rfl, rfl⟩, fun z => absurd (e0.symm.trans z) h0⟩
      · rw [← (nI_eq (by omega) (by omega)).mp hke]
        exact ⟨fun _ => ⟨rfl, rfl⟩, fun z => absurd z h0⟩
  · exact ⟨-2, σ, m, ⟨fun M J => c_X6_leave hT hR (fun _ => ⟨rfl, rfl⟩) (fun k' hk' hke => absurd (by rw [hke]; exact ⟨nI_pos' (by omega), nI_le (b := 11) (by omega) (by decide)⟩) hv), fun ρ M J => c_X7_leave hB hR.1 (n := 14) ⟨fun _ => ⟨rfl, rfl⟩, fun k' hk' hke => absurd (by rw [hke]; exact ⟨nI_pos' (by omega), nI_le (b := 11) (by omega) (by decide)⟩) hv⟩⟩, hI⟩
theorem b_collapse (hT : KS S) (hB : MS S 111) (h : Inv K E σ m) (a : Int32) : ∃ v σ' m', Bo S G_X6_collapse G_X7_collapse [.int a] σ m v σ' m' ∧ Inv K E σ' m' := by
  obtain ⟨t, ht, hR⟩ := h
  by_cases hv : 0 ≤ a ∧ a ≤ 11
  · obtain ⟨k, hk, rfl⟩ := wi_nI (n := 11) rfl hv
    have hk12 : k < 12 := by omega
    obtain ⟨e0, e1, e2, e3⟩ := hR.st hk12
    by_cases h0 : m k = 2
    · refine ⟨m (36 + k), hBe σ k 3 (hm σ k 1) (hf σ 5) 0, rCol m k, ⟨fun M J => c_X6_collapse hT (fun z => absurd hv z) (fun k' hk' hke => ?_), fun ρ M J => c_X7_collapse hB ⟨fun z => absurd hv z, fun k' hk' hke => ?_⟩⟩, t, ht, hR.col hk12 h0⟩
      · rw [← (nI_eq (by omega) (by omega)).mp hke]
        exact ⟨fun z => absurd (e0.trans h0) z, fun _ => ⟨rfl, e3.symm⟩⟩
      · rw [← (nI_eq (by omega) (by omega)).mp hke]
        exact ⟨fun z => absurd h0 z, fun _ => ⟨rfl, rfl⟩⟩
    · refine ⟨-3, σ, m, ⟨fun M J => c_X6_collapse hT (fun z => absurd hv z) (fun k' hk' hke => ?_), fun ρ M J => c_X7_collapse hB ⟨fun z => absurd hv z, fun k' hk' hke => ?_⟩⟩, t, ht, hR⟩
      · rw [← (nI_eq (by omega) (by omega)).mp hke]
        exact ⟨fun _ => ⟨rfl, rfl⟩, fun z => absurd (e0.symm.trans z) h0⟩
      · rw [← (nI_eq (by omega) (by omega)).mp hke]
        exact ⟨fun _ => ⟨rfl, rfl⟩, fun z => absurd z h0⟩
  · exact ⟨-2, σ, m, ⟨fun M J => c_X6_collapse hT (fun _ => ⟨rfl, rfl⟩) (fun k' hk' hke => absurd (by rw [hke]; exact ⟨nI_pos' (by omega), nI_le (b := 11) (by omega) (by decide)⟩) hv), fun ρ M J => c_X7_collapse hB ⟨fun _ => ⟨rfl, rfl⟩, fun k' hk' hke => absurd (by rw [hke]; exact ⟨nI_pos' (by omega), nI_le (b := 11) (by omega) (by decide)⟩) hv⟩⟩, t, ht, hR⟩
theorem b_pass (hT : KS S) (hB : MS S 111) (h : Inv K E σ m) (hK : K ≤ 900000000) (a : Int32) : ∃ v σ' m', Bo S G_X6_pass G_X7_pass [.int a] σ m v σ' m' ∧ Inv K E σ' m' := by
  obtain ⟨t, ht, hR⟩ := h
  obtain ⟨t5, t6⟩ := hR.t5
  by_cases hv : 1 ≤ a ∧ a ≤ 999
  · obtain ⟨T, hT9, rfl⟩ := wi_nI (n := 999) (a := a) (hi := 999) rfl ⟨Int32.le_trans (by decide) hv.1, hv.2⟩
    have hT1 : 1 ≤ T := (nI_leI (a := 1) (by decide) (by omega)).mp hv.1
    have hle : nI T ≤ 20000 - m 103 ↔ t + T ≤ 20000 := by
      rw [t6, show (20000 : Int32) = nI 20000 from rfl, nI_sb (by omega), nI_leI (by omega) (by omega)]
      omega
    by_cases hful : t + T ≤ 20000
    · obtain ⟨σ', m', c1, c2, c3⟩ := c_X6_pass_ok hT hR (T := T) (by omega) hT1 hT9 hful
      have hI : Inv K E σ' m' := ⟨t + T, hful, by rw [show K + 40 * (t + T) = K + 40 * t + 40 * T by omega]; exact c2⟩
      refine ⟨nI (t + T), σ', m', ⟨c3, fun ρ M J => c_X7_pass hB hR.1 (n := 14) ⟨fun z => absurd hv z, fun T' hT' _ hTe => ?_⟩⟩, hI⟩
      rw [← (nI_eq (by omega) (by omega)).mp hTe]
      exact ⟨fun z => absurd (hle.mpr hful) z, fun _ => ⟨c1, c2.t5.2.symm⟩⟩
    · refine ⟨-4, σ, m, ⟨fun M J => c_X6_pass_no hT hR (fun z => absurd hv z) (fun _ => ⟨?_, rfl⟩) M J, fun ρ M J => c_X7_pass hB hR.1 (n := 14) ⟨fun z => absurd hv z, fun T' hT' _ hTe => ?_⟩⟩, t, ht, hR⟩
      · rw [t5, nI_add]
        exact nI_lt (a := 20000) (by omega) (by omega)
      · rw [← (nI_eq (by omega) (by omega)).mp hTe]
        exact ⟨fun _ => ⟨rfl, rfl⟩, fun z => absurd (hle.mp z) hful⟩
  · refine ⟨-2, σ, m, ⟨fun M J => c_X6_pass_no hT hR (fun _ => rfl) (fun z => absurd z hv) M J, fun ρ M J => c_X7_pass hB hR.1 (n := 14) ⟨fun _ => ⟨rfl, rfl⟩, fun T' hT' h1 hTe => ?_⟩⟩, t, ht, hR⟩
    exact absurd ⟨h1, by rw [hTe]; exact nI_le (b := 999) hT' (by decide)⟩ hv
end C74

