/-! ===== both read alike: repetitions, wrong bytes, all steps ===== -/
theorem MD.nodig {κ : sc_T} {ρ : md_T} {x : Nat} (h : MD κ ρ x) (hno : ¬ (skp (cb κ) (cL κ) x < cL κ ∧ (48 ≤ cb κ (skp (cb κ) (cL κ) x) ∧ cb κ (skp (cb κ) (cL κ) x) ≤ 57))) {most : Int32} : rf (mNm ρ most).1 7 = nI (skp (cb κ) (cL κ) x) := by
  have hle := h.le
  have eR : nmr (rt ρ) (mL ρ) 3 (mA ρ) 0 = (skp (cb κ) (cL κ) x, 0) := by
    rw [h.2.2.2.1, h.2.1.2.1, nmr_cong h.2.2.2.2, nmr, if_neg hno]
  rw [mNm, eR]
  have e1 : rf (mN2 ρ (mN1 ρ) 0 most) 7 = nI (skp (cb κ) (cL κ) x) := by
    rw [mN2, if_neg (fun z => absurd z.1 (by decide))]
    show (if rf ρ 7 = -1 then rf ρ 6 else rf ρ 7) = _
    rw [if_pos h.1.2, h.2.2.1.2.2.1, h.2.1.2.1]
  have e2 : ∀ ρ2 : md_T, rf ρ2 7 = nI (skp (cb κ) (cL κ) x) → rf (mSk (mN3 ρ2)) 7 = nI (skp (cb κ) (cL κ) x) := by
    intro ρ2 h2
    rw [mN3]
    split
    · rw [mFl_fault (by rw [h2]; exact nI_ne_m1 (by omega))]
      exact h2
    · exact h2
  exact e2 _ e1
theorem mP3_fault {ρ : md_T} {s d : Nat} (h : ¬ rf ρ 7 = -1) : mP3 ρ s d = ρ := by rw [mP3, if_neg h]
theorem mP2_fault {ρ : md_T} (h : ¬ rf ρ 7 = -1) : mP2 ρ = ρ := by
  rw [mP2, mFl_fault h]
  split <;> rfl
theorem mOpn_fault {ρ : md_T} {s f : Nat} (hs : mS ρ = s) (hf : f ≤ 100) (h : rf (mNm (prp ρ (4 * s) 40) 50).1 7 = nI f) : rf (mOpn ρ) 7 = nI f := by
  have h1 : rf (mP1 ρ s) 7 = nI f := by rw [mP1, rf_prp]; exact h
  have h2 : ¬ rf (mP1 ρ s) 7 = -1 := by rw [h1]; exact nI_ne_m1 (by omega)
  rw [mOpn, hs, mP2_fault h2, mTk_fault h2, mP3_fault h2]
  exact h1
theorem rOp_fault {κ : sc_T} (h : ¬ cf (rN κ 50).1 8 = -1) : rOp κ = (rN κ 50).1 := by
  rw [rOp, rOp1, if_neg (fun z => h z.1), rB_fault h, rOp2, if_neg (fun z => h z.1)]
theorem PR.par {κ : sc_T} {ρ : md_T} {s d a : Nat} (h : PR κ ρ s d a) (ha : a < cL κ) : OK2 (rOp κ) (mOpn ρ) s a := by
  obtain ⟨u1, u2, u3, h100, u5⟩ := h.up0 ha
  obtain ⟨f1, f2, f3, f4, -, hd4⟩ := h.cS
  have hl : cL κ ≤ 100 := h.1.le.2.2
  have hM0 := h.1.kprp (4 * s) 40
  rcases hM0.num 50 with hf | ⟨e, v, he, hae, hv, e1, e2, e3⟩
  · obtain ⟨f, g1, g2, g3⟩ := hf
    refine OK2.cl ⟨f, g1, ?_, mOpn_fault f2 g1 g3⟩
    rw [rOp_fault (by rw [g2]; exact nI_ne_m1 (by omega))]
    exact g2
  · obtain ⟨q, hq, rfl⟩ := wi_nI (n := 50) (a := v) (hi := 50) rfl ⟨Int32.le_trans (by decide) hv.1, hv.2⟩
    have hq1 : 1 ≤ q := (nI_leI (a := 1) (by decide) (by omega)).mp hv.1
    have hske := skp_le (tx := cb κ) (len := cL κ) he
    have hM1 : MD (pcf κ 7 (nI e)) (prf (prp ρ (4 * s) 40) 6 (nI (skp (cb κ) (cL κ) e))) e := hM0.go he
    have hf3 : cD (pcf κ 7 (nI e)) = d := f3
    rw [rOp, e1]
    by_cases hd : d = 4
    · -- a fifth level
      have hk : rOp1 (pcf κ 7 (nI e)) = pcf (sB (pcf κ 7 (nI e))) 8 (cf (sB (pcf κ 7 (nI e))) 7) := by
        rw [rOp1, if_pos ⟨h.1.1.1, by rw [hf3]; omega⟩]
      have hk8 : cf (rOp1 (pcf κ 7 (nI e))) 8 = nI (skp (cb κ) (cL κ) e) := by
        rw [hk]
        show cf (sB (pcf κ 7 (nI e))) 7 = _
        rw [sB_at hM1.2.1.1]
        rfl
      have hk9 : ¬ cf (rOp1 (pcf κ 7 (nI e))) 8 = -1 := by rw [hk8]; exact nI_ne_m1 (by omega)
      have hr7 : rf (mP2 (mP1 ρ s)) 7 = nI (skp (cb κ) (cL κ) e) := by
        have h11 : rf (mP1 ρ s) 11 = 4 := by
          rw [(mP1_f ρ s).2, h.2.2.2.1.2, hd]
          rfl
        rw [mP2, if_pos h11]
        rcases e3 with ⟨d1, d2, d3⟩ | e3
        · have hk : skp (cb κ) (cL κ) e = e := skp_no (fun z => absurd d2.1 (by rw [z.2]; decide))
          have h7 : rf (mP1 ρ s) 7 = nI e := by rw [mP1, rf_prp]; exact d3
          rw [mFl_fault (by rw [h7]; exact nI_ne_m1 (by omega)), h7, hk]
        · have hp : mP1 ρ s = prp (prf (prp ρ (4 * s) 40) 6 (nI (skp (cb κ) (cL κ) e))) (4 * s + 1) (mNm (prp ρ (4 * s) 40) 50).2 := by rw [mP1, e3]
          rw [hp]
          show (if rf ρ 7 = -1 then nI (skp (cb κ) (cL κ) e) else rf ρ 7) = _
          rw [if_pos h.1.1.2]
      have hr8 : ¬ rf (mP2 (mP1 ρ s)) 7 = -1 := by rw [hr7]; exact nI_ne_m1 (by omega)
      refine OK2.cl ⟨skp (cb κ) (cL κ) e, by omega, ?_, ?_⟩
      · show cf (rOp2 (rB (rOp1 (pcf κ 7 (nI e))) 40 40).1 (nI q)) 8 = _
        rw [rB_fault hk9, rOp2, if_neg (fun z => hk9 z.1)]
        exact hk8
      · rw [mOpn, f2, mTk_fault hr8, mP3_fault hr8]
        exact hr7
    · have hk : rOp1 (pcf κ 7 (nI e)) = pcf κ 7 (nI e) := by
        rw [rOp1, if_neg (fun z => by rw [hf3] at z; omega)]
      show OK2 (rOp2 (rB (rOp1 (pcf κ 7 (nI e))) 40 40).1 (nI q)) (mOpn ρ) s a
      rw [hk]
      have h11 : ¬ rf (mP1 ρ s) 11 = 4 := by
        rw [(mP1_f ρ s).2, h.2.2.2.1.2]
        intro z
        exact hd ((nI_eq (a := d) (b := 4) (by omega) (by decide)).mp z)
      have hm2 : mP2 (mP1 ρ s) = mP1 ρ s := by rw [mP2, if_neg h11]
      rcases e3 with ⟨d1, d2, d3⟩ | e3
      · have h7 : rf (mP1 ρ s) 7 = nI e := by rw [mP1, rf_prp]; exact d3
        have hfa := MD.dig (κ := pcf κ 7 (nI e)) (ρ := mP1 ρ s) (e := e) (sg := 40) h.1.1.1 hM1.2.2.1.1 hM1.2.1.1 d1 d2 (by decide) h7
        refine OK2.cl ?_
        rw [mOpn, f2, hm2, mTk_fault hfa.no.2, mP3_fault hfa.no.2, rOp2, if_neg (fun z => hfa.no.1 z.1)]
        exact hfa
      · have hp : mP1 ρ s = prp (prf (prp ρ (4 * s) 40) 6 (nI (skp (cb κ) (cL κ) e))) (4 * s + 1) (nI q) := by rw [mP1, e3, e2]
        have hM2 := hM1.kprp (4 * s + 1) (nI q)
        rw [← hp] at hM2
        have g11 : rf (mP1 ρ s) 11 = nI d := by rw [(mP1_f ρ s).2]; exact h.2.2.2.1.2
        have grp : rp (mP1 ρ s) = upd (upd (rp ρ) (4 * s) 40) (4 * s + 1) (nI q) := by rw [hp]; rfl
        have gro : ro (mP1 ρ s) = ro ρ := by rw [hp]; rfl
        rw [mOpn, f2, f4, hm2]
        revert hM2 g11 grp gro
        generalize mP1 ρ s = ρ1
        intro hM2 g11 grp gro
        rcases hM2.tk' (tx := cb κ) (len := cL κ) rfl rfl (sg := 40) (by decide) with ⟨b1, b2, b3⟩ | hf
        · rw [b2, b3]
          have hge := skp_ge (tx := cb κ) (len := cL κ) (a := e) he
          have hM3 := hM2.go' (tx := cb κ) (len := cL κ) (y := skp (cb κ) (cL κ) e + 1) rfl rfl (by omega)
          revert b1 hM3 hge
          generalize skp (cb κ) (cL κ) e = p1
          intro b1 hge hM3
          rw [pcf_pcf] at hM3
          rw [pcf_pcf]
          show OK2 (rOp2 (pcf κ 7 (nI (p1 + 1))) (nI q)) (mP3 (prf ρ1 6 (nI (skp (cb κ) (cL κ) (p1 + 1)))) s d) s a
          have hD3 : cD (pcf κ 7 (nI (p1 + 1))) = d := f3
          have h63 : cf (pcf κ 7 (nI (p1 + 1))) 6 = nI s := h.2.2.1.1
          have e8 : cf (pcf (pco (pcf κ 7 (nI (p1 + 1))) d (nI s)) 9 (nI (d + 1))) 8 = -1 := h.1.1.1
          rw [rOp2, hD3, if_pos ⟨h.1.1.1, by omega⟩, h63, aS_ok (κ := pcf (pco (pcf κ 7 (nI (p1 + 1))) d (nI s)) 9 (nI (d + 1))) (s := s) e8 f1 h100, mP3, if_pos hM3.1.2]
          have hM4 := ((((((hM3.kpco d (nI s)).c9 (d := d + 1) (by omega)).arr s 40 0 0 (nI q)).c6 (s := s + 1) (by omega)).kpro d (nI s)).p11 (nI (d + 1))).p9 (nI (s + 1))
          refine h.fin hM4 (by omega) rfl rfl (d' := d + 1) rfl rfl ?_
          refine h.2.2.2.2.opn (q := q) (by omega) rfl ⟨hq1, hq⟩ (me := 0) (r := 0) rfl rfl rfl rfl rfl ?_ (fun j hj => ?_) ?_ ?_
          · show upd (ro ρ1) d (nI s) = upd (ro ρ) d (nI s)
            rw [gro]
          · show rp ρ1 j = rp ρ j
            rw [grp, upd_ne _ _ (by omega), upd_ne _ _ (by omega)]
          · show rp ρ1 (4 * s) = 40
            rw [grp, upd_ne _ _ (by omega), upd_same]
          · show rp ρ1 (4 * s + 1) = nI q
            rw [grp, upd_same]
        · refine OK2.cl ?_
          show FA (rOp2 (rB (pcf κ 7 (nI e)) 40 40).1 (nI q)) _
          rw [mP3_fault hf.no.2, rOp2, if_neg (fun z => hf.no.1 z.1)]
          exact hf
/-- a byte that cannot begin a step -/
theorem PR.bad {κ : sc_T} {ρ : md_T} {s d a : Nat} (h : PR κ ρ s d a) (ha : a < cL κ) (hd : ¬ (48 ≤ cb κ a ∧ cb κ a ≤ 57)) {κ' : sc_T} (hk : cf κ' 8 = nI a) : OK2 κ' (mOpn ρ) s a := by
  obtain ⟨f1, f2, f3, f4, -, hd4⟩ := h.cS
  have hl : cL κ ≤ 100 := h.1.le.2.2
  have hM0 := h.1.kprp (4 * s) 40
  have h1 := hM0.nodig (most := 50) (by rw [h.2.1]; exact fun z => hd z.2)
  rw [h.2.1] at h1
  exact OK2.cl ⟨a, by omega, hk, mOpn_fault f2 (by omega) h1⟩
theorem PR.step {κ : sc_T} {ρ : md_T} {s d a : Nat} (h : PR κ ρ s d a) (ha : a < cL κ) : OK2 (rSt κ) (mSt ρ) s a := by
  obtain ⟨u1, u2, u3, h100, u5⟩ := h.up0 ha
  obtain ⟨f1, f2, f3, f4, -, hd4⟩ := h.cS
  have hl : cL κ ≤ 100 := h.1.le.2.2
  have hA : cA κ = a := h.1.2.1.1
  have hf7 : cf (pcf κ 7 (nI (a + 1))) 7 - 1 = nI a := nI_pred a
  have hbad := fun hd κ' => @PR.bad κ ρ s d a h ha hd κ'
  have hwlc := fun c => @PR.wlc κ ρ s d a h ha c
  rw [rSt, hA, mSt, u1, f4]
  revert hbad
  generalize cb κ a = c
  intro hbad
  by_cases hdg : 48 ≤ c ∧ c ≤ 57
  · rw [if_pos hdg]
    have n1 : ¬ (c = 114 ∨ c = 119 ∨ c = 108 ∨ c = 99 ∨ c = 116) := fun z => (isC_no z).2.2 hdg
    have n2 : ¬ (c = 41 ∧ 0 < d) := fun z => absurd hdg.1 (by rw [z.1]; decide)
    rw [if_neg n1, if_neg n2]
    exact h.par ha
  · rw [if_neg hdg, rSt2]
    by_cases k41 : c = 41
    · subst k41
      rw [if_pos rfl, if_neg (by decide)]
      by_cases h0 : 0 < d
      · rw [if_pos ⟨rfl, h0⟩]
        exact h.clo ha h0
      · rw [if_neg (fun z => h0 z.2)]
        refine hbad hdg _ ?_
        have f3' : cD (pcf κ 7 (nI (a + 1))) = 0 := by
          show cD κ = 0
          omega
        rw [rCs, if_pos f3']
        exact hf7
    · rw [if_neg k41]
      by_cases k114 : c = 114
      · subst k114
        rw [if_pos rfl, if_pos (Or.inl rfl)]
        exact h.rq ha
      · rw [if_neg k114]
        by_cases kw : c = 119 ∨ c = 108 ∨ c = 99
        · have hc : c = 114 ∨ c = 119 ∨ c = 108 ∨ c = 99 ∨ c = 116 := by
            rcases kw with z | z | z
            · exact Or.inr (Or.inl z)
            · exact Or.inr (Or.inr (Or.inl z))
            · exact Or.inr (Or.inr (Or.inr (Or.inl z)))
          rw [if_pos kw, if_pos hc]
          exact hwlc c kw
        · rw [if_neg kw]
          by_cases k116 : c = 116
          · subst k116
            rw [if_pos rfl, if_pos (Or.inr (Or.inr (Or.inr (Or.inr rfl))))]
            exact h.tee ha
          · have hc : ¬ (c = 114 ∨ c = 119 ∨ c = 108 ∨ c = 99 ∨ c = 116) := by
              rintro (z | z | z | z | z)
              · exact k114 z
              · exact kw (Or.inl z)
              · exact kw (Or.inr (Or.inl z))
              · exact kw (Or.inr (Or.inr z))
              · exact k116 z
            rw [if_neg k116, if_neg hc, if_neg (fun z => k41 z.1)]
            exact hbad hdg _ hf7

