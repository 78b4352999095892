/-! ===== both run a script alike ===== -/
theorem Rel.units {F E t : Nat} {σ : hs_T} {m : Nat → Int32} (h : Rel F E t σ m) (x : Int32) : Rel F E t (phf σ 7 x) (upd m 110 x) := by
  obtain ⟨hw, e, c, hN, hM, hR, hSt, hU, hL, hG⟩ := h
  have lo : ∀ j, j ≠ 110 → upd m 110 x j = m j := fun j hj => upd_ne _ _ hj
  obtain ⟨n1, n2, n3, n4, n5, n6, n7, n8, n9, n10⟩ := hN
  refine ⟨hw.put (by omega) _, e, c, ⟨n1, by rw [lo 103 (by omega)]; exact n2, n3, n4, by rw [lo 109 (by omega)]; exact n5, n6, n7, by rw [lo 107 (by omega)]; exact n8, n9, n10⟩, hM.cong rfl (fun j hj => lo j (by omega)), hR.cong rfl (fun j hj => lo j (by omega)), ?_, hU.cong rfl rfl rfl (fun j hj => lo j (by omega)), hL.cong rfl rfl (fun j hj => lo j (by omega)), hG.cong (fun j hj => lo j (by omega))⟩
  obtain ⟨u0, u1, u2, u6, u7, hp, hv⟩ := hSt
  refine ⟨?_, ?_, ?_, ?_, ?_, ?_, ?_⟩
  · rw [lo 100 (by omega)]; exact u0
  · rw [lo 101 (by omega)]; exact u1
  · rw [lo 102 (by omega)]; exact u2
  · rw [lo 106 (by omega)]; exact u6
  · rw [upd_same]; show upd (hf σ) 7 x 7 = x; exact upd_same _ _ _
  · rw [lo 100 (by omega)]; exact hp
  · rw [lo 102 (by omega)]; exact hv
theorem Inv.units {K E : Nat} {σ : hs_T} {m : Nat → Int32} (h : Inv K E σ m) (x : Int32) : Inv K E (phf σ 7 x) (upd m 110 x) := by
  obtain ⟨t, ht, hR⟩ := h
  exact ⟨t, ht, hR.units x⟩
theorem Inv.le {K E : Nat} {σ : hs_T} {m : Nat → Int32} (h : Inv K E σ m) : K ≤ 1000000000 ∧ E ≤ 1000000000 := by
  obtain ⟨t, ht, hR⟩ := h
  obtain ⟨hw, e, c, hN, -⟩ := hR
  have h1 := hN.2.2.2.2.2.2.1
  have h2 := hN.2.2.2.2.2.2.2.2.2
  exact ⟨by omega, h2⟩
theorem KW.kk {κ κ' : sc_T} (h : KW κ κ') : KK κ κ' := ⟨h.2.2.2.2.1, h.2.2.2.2.2.1⟩
theorem ER.kw {κ κ' : sc_T} {ρ : md_T} {k : Nat} (h : ER κ ρ k) (hk : KW κ κ') : ER κ' ρ k := by
  rw [ER, hk.1, hk.2.1, hk.2.2.1, hk.2.2.2.1]
  exact h
section C78
variable {S : List aiS}
theorem call_both (hT : KS S) (hB : MS S 111) {K E k : Nat} {σ : hs_T} {m : Nat → Int32} {κ : sc_T} {ρ : md_T} (h : Inv K E σ m) (hK : K + 30 ≤ 900000000) (hE : E + 1 ≤ 900000000) (hk : k < 100) (hR : ER κ ρ k) (hC : isC (ck κ k)) : ∃ v σ' m', Inv (K + 30) (E + 1) σ' m' ∧ (∀ κ' M J, KW κ κ' → AM G_X6_carryOut [.ref 0, .int (nI k)] S (hs_put 1 σ (sc_put 103 κ' M)) J (some (.int v), S, hs_put 1 σ' (sc_put 103 κ' M), J)) ∧ (∀ L M J, AM G_X7_calls [.ref 111, .int (nI k)] S (md_put 111 (Rm (Rl ρ L) m) M) J (some (.int v), S, md_put 111 (Rm (Rl ρ L) m') M, J)) := by
  obtain ⟨r0, r1⟩ := hR
  have hC0 := hC
  obtain ⟨-, p1, p2, p3⟩ : isC (ck κ k) ∧ (¬ ck κ k = 116 → rp ρ (4 * k + 1) = cm κ k) ∧ (ck κ k = 114 → rp ρ (4 * k + 2) = cr κ k) ∧ (ck κ k = 114 ∨ ck κ k = 116 → rp ρ (4 * k + 3) = cn κ k) := by
    rcases r1 with z | z
    · exact z
    · obtain ⟨n40, n41, -⟩ := isC_no hC
      exact absurd z.1 (fun w => w.elim n40 n41)
  have hCr : isC (rp ρ (4 * k)) := by rw [r0]; exact hC
  rcases hC with z | z | z | z | z
  · obtain ⟨v, σ', m', ⟨b6, b7⟩, hI⟩ := b_request hT hB h (by omega) (by omega) (cm κ k) (cr κ k) (cn κ k)
    refine ⟨v, σ', m', hI, fun κ' M J hw => c_X6_carryOut hT hk (by rw [hw.1]; exact hC0) (fun _ => ?_) (fun w => ?_) (fun w => ?_) (fun w => ?_) (fun w => ?_), fun L M J => c_X7_calls hB hk hCr (fun _ => ?_) (fun w => ?_) (fun w => ?_) (fun w => ?_) (fun w => ?_)⟩
    · rw [hw.2.1, hw.2.2.1, hw.2.2.2.1]
      exact b6 _ J
    · rw [hw.1, z] at w; exact absurd w (by decide)
    · rw [hw.1, z] at w; exact absurd w (by decide)
    · rw [hw.1, z] at w; exact absurd w (by decide)
    · rw [hw.1, z] at w; exact absurd w (by decide)
    · show AM G_X7_request [.ref 111, .int (rp ρ (4 * k + 1)), .int (rp ρ (4 * k + 2)), .int (rp ρ (4 * k + 3))] S (md_put 111 (Rm (Rl ρ L) m) M) J _
      rw [p1 (by rw [z]; decide), p2 z, p3 (Or.inl z)]
      exact b7 _ M J
    · have w' : rp ρ (4 * k) = 119 := w
      rw [r0, z] at w'; exact absurd w' (by decide)
    · have w' : rp ρ (4 * k) = 108 := w
      rw [r0, z] at w'; exact absurd w' (by decide)
    · have w' : rp ρ (4 * k) = 99 := w
      rw [r0, z] at w'; exact absurd w' (by decide)
    · have w' : rp ρ (4 * k) = 116 := w
      rw [r0, z] at w'; exact absurd w' (by decide)
  · obtain ⟨v, σ', m', ⟨b6, b7⟩, hI⟩ := b_withdraw hT hB h (by omega) (by omega) (cm κ k)
    refine ⟨v, σ', m', hI, fun κ' M J hw => c_X6_carryOut hT hk (by rw [hw.1]; exact hC0) (fun w => ?_) (fun _ => ?_) (fun w => ?_) (fun w => ?_) (fun w => ?_), fun L M J => c_X7_calls hB hk hCr (fun w => ?_) (fun _ => ?_) (fun w => ?_) (fun w => ?_) (fun w => ?_)⟩
    · rw [hw.1, z] at w; exact absurd w (by decide)
    · rw [hw.2.1]
      exact b6 _ J
    · rw [hw.1, z] at w; exact absurd w (by decide)
    · rw [hw.1, z] at w; exact absurd w (by decide)
    · rw [hw.1, z] at w; exact absurd w (by decide)
    · have w' : rp ρ (4 * k) = 114 := w
      rw [r0, z] at w'; exact absurd w' (by decide)
    · show AM G_X7_withdraw [.ref 111, .int (rp ρ (4 * k + 1))] S (md_put 111 (Rm (Rl ρ L) m) M) J _
      rw [p1 (by rw [z]; decide)]
      exact b7 _ M J
    · have w' : rp ρ (4 * k) = 108 := w
      rw [r0, z] at w'; exact absurd w' (by decide)
    · have w' : rp ρ (4 * k) = 99 := w
      rw [r0, z] at w'; exact absurd w' (by decide)
    · have w' : rp ρ (4 * k) = 116 := w
      rw [r0, z] at w'; exact absurd w' (by decide)
  · obtain ⟨v, σ', m', ⟨b6, b7⟩, hI⟩ := b_leave hT hB h (by omega) (by omega) (cm κ k)
    refine ⟨v, σ', m', hI, fun κ' M J hw => c_X6_carryOut hT hk (by rw [hw.1]; exact hC0) (fun w => ?_) (fun w => ?_) (fun _ => ?_) (fun w => ?_) (fun w => ?_), fun L M J => c_X7_calls hB hk hCr (fun w => ?_) (fun w => ?_) (fun _ => ?_) (fun w => ?_) (fun w => ?_)⟩
    · rw [hw.1, z] at w; exact absurd w (by decide)
    · rw [hw.1, z] at w; exact absurd w (by decide)
    · rw [hw.2.1]
      exact b6 _ J
    · rw [hw.1, z] at w; exact absurd w (by decide)
    · rw [hw.1, z] at w; exact absurd w (by decide)
    · have w' : rp ρ (4 * k) = 114 := w
      rw [r0, z] at w'; exact absurd w' (by decide)
    · have w' : rp ρ (4 * k) = 119 := w
      rw [r0, z] at w'; exact absurd w' (by decide)
    · show AM G_X7_leave [.ref 111, .int (rp ρ (4 * k + 1))] S (md_put 111 (Rm (Rl ρ L) m) M) J _
      rw [p1 (by rw [z]; decide)]
      exact b7 _ M J
    · have w' : rp ρ (4 * k) = 99 := w
      rw [r0, z] at w'; exact absurd w' (by decide)
    · have w' : rp ρ (4 * k) = 116 := w
      rw [r0, z] at w'; exact absurd w' (by decide)
  · obtain ⟨v, σ', m', ⟨b6, b7⟩, hI⟩ := b_collapse hT hB h (cm κ k)
    refine ⟨v, σ', m', hI.more, fun κ' M J hw => c_X6_carryOut hT hk (by rw [hw.1]; exact hC0) (fun w => ?_) (fun w => ?_) (fun w => ?_) (fun _ => ?_) (fun w => ?_), fun L M J => c_X7_calls hB hk hCr (fun w => ?_) (fun w => ?_) (fun w => ?_) (fun _ => ?_) (fun w => ?_)⟩
    · rw [hw.1, z] at w; exact absurd w (by decide)
    · rw [hw.1, z] at w; exact absurd w (by decide)
    · rw [hw.1, z] at w; exact absurd w (by decide)
    · rw [hw.2.1]
      exact b6 _ J
    · rw [hw.1, z] at w; exact absurd w (by decide)
    · have w' : rp ρ (4 * k) = 114 := w
      rw [r0, z] at w'; exact absurd w' (by decide)
    · have w' : rp ρ (4 * k) = 119 := w
      rw [r0, z] at w'; exact absurd w' (by decide)
    · have w' : rp ρ (4 * k) = 108 := w
      rw [r0, z] at w'; exact absurd w' (by decide)
    · show AM G_X7_collapse [.ref 111, .int (rp ρ (4 * k + 1))] S (md_put 111 (Rm (Rl ρ L) m) M) J _
      rw [p1 (by rw [z]; decide)]
      exact b7 _ M J
    · have w' : rp ρ (4 * k) = 116 := w
      rw [r0, z] at w'; exact absurd w' (by decide)
  · obtain ⟨v, σ', m', ⟨b6, b7⟩, hI⟩ := b_pass hT hB h (by omega) (cn κ k)
    refine ⟨v, σ', m', hI.more, fun κ' M J hw => c_X6_carryOut hT hk (by rw [hw.1]; exact hC0) (fun w => ?_) (fun w => ?_) (fun w => ?_) (fun w => ?_) (fun _ => ?_), fun L M J => c_X7_calls hB hk hCr (fun w => ?_) (fun w => ?_) (fun w => ?_) (fun w => ?_) (fun _ => ?_)⟩
    · rw [hw.1, z] at w; exact absurd w (by decide)
    · rw [hw.1, z] at w; exact absurd w (by decide)
    · rw [hw.1, z] at w; exact absurd w (by decide)
    · rw [hw.1, z] at w; exact absurd w (by decide)
    · rw [hw.2.2.2.1]
      exact b6 _ J
    · have w' : rp ρ (4 * k) = 114 := w
      rw [r0, z] at w'; exact absurd w' (by decide)
    · have w' : rp ρ (4 * k) = 119 := w
      rw [r0, z] at w'; exact absurd w' (by decide)
    · have w' : rp ρ (4 * k) = 108 := w
      rw [r0, z] at w'; exact absurd w' (by decide)
    · have w' : rp ρ (4 * k) = 99 := w
      rw [r0, z] at w'; exact absurd w' (by decide)
    · show AM G_X7_pass [.ref 111, .int (rp ρ (4 * k + 3))] S (md_put 111 (Rm (Rl ρ L) m) M) J _
      rw [p3 (Or.inr z)]
      exact b7 _ M J
/-- the class behind its loop -/
theorem run_fin (hT : KS S) {M : Nat → Nat → Int32} {J : Nat → Int64} {out : aiR} {σ : hs_T} {κ : sc_T} {good x3 : Int32} {x1 x4 : Value} {u : Nat} (hu : cf κ 12 = nI u) (ho : out = (some (.int good), S, hs_put 1 (phf σ 7 (nI u)) (sc_put 103 κ M), J)) : AW G_X6_run out 0 0 73 [.ref 0, x1, .int good, .int x3, x4] [] S (hs_put 1 σ (sc_put 103 κ M)) J := by
  have hS := hT.now
  have hC := hT.script
  rw [hs_sc (by decide)]
  refine e_aload_n dX6_run_73 rfl rfl ?_
  refine e_getr dX6_run_74 fl_6_10 hT.a0 rfl ?_
  refine e_aload_n dX6_run_77 rfl rfl ?_
  refine e_getr dX6_run_78 fl_6_30 hT.a0 rfl ?_
  refine cf_get hC dX6_run_81 fl_6_194 (by decide) ?_
  rw [hu, ← hs_sc (by decide)]
  refine hf_put hS dX6_run_84 fl_6_197 ?_
  refine e_iload_n dX6_run_87 rfl rfl ?_
  exact e_iret dX6_run_88 rfl ho (Nat.le_of_ble_eq_true rfl) (Nat.le_of_ble_eq_true rfl)
theorem run_both (hT : KS S) (hB : MS S 111) {s : Nat} {ρ : md_T} (h9 : rf ρ 9 = nI s) : ∀ (d i K E : Nat) {κ : sc_T} {σ : hs_T} {m L : Nat → Int32} {l k u : Nat} {good : Int32}, 200 - u ≤ d → SP κ (rp ρ) s → (∀ j, j < s → ER κ ρ j) → RN κ s L l k u → i ≤ u → Inv K E σ m → K + 30 * d ≤ 900000000 → E + d ≤ 900000000 →
    ∃ g' σ' m' κ' L', Inv (K + 30 * d) (E + d) σ' m' ∧ KW κ κ' ∧ (∀ M J out x4, out = ((some (.int g'), S, hs_put 1 σ' (sc_put 103 κ' M), J) : aiR) → AW G_X6_run out 0 0 30 [.ref 0, .int (-1), .int good, .int (nI i), x4] [] S (hs_put 1 σ (sc_put 103 κ M)) J) ∧ (∀ M J out x5 x6 x7, out = ((some (.int g'), S, md_put 111 (Rm (Rl ρ L') m') M, J) : aiR) → AW G_X7_run out 0 0 30 [.ref 111, .int (nI u), .int good, .int (nI l), .int (nI k), x5, x6, x7] [] S (md_put 111 (Rm (Rl ρ L) m) M) J) := by
  have hC := hT.script
  intro d
  induction d with
  | zero =>
    intro i K E κ σ m L l k u good hd hp hE hr hi hI hK1 hE1
    have hu := hr.2.2.1.2
    have hu200 : u = 200 := by omega
    have hl4 := hp.len (k := k) hr.1.2
    rw [hr.2.2.2.1] at hl4
    obtain ⟨hni, -, -, -⟩ := hr.ni hp
    rcases nC_sim 1000 (by omega) hp hr with ⟨n, L', l', u', a1, a2, a3, a4, a5, a6⟩ | ⟨n, L', l', k', u', a1, a2, a3, a4, a5, -⟩
    · have a5' : u ≤ u' := a5
      have hu' : u' = u := by omega
      subst hu'
      have hI2 : Inv (K + 30 * 0) (E + 0) (phf σ 7 (nI u')) (upd m 110 (nI u')) := hI.units _
      by_cases hi2 : i = 200
      · refine ⟨good, phf σ 7 (nI u'), upd m 110 (nI u'), κ, L', hI2, KW.refl' κ, fun M J out x4 ho => ?_, fun M J out x5 x6 x7 ho => ?_⟩
        · subst hi2
          refine e_iload_n dX6_run_30 rfl rfl ?_
          refine e_sipush (v := 200) dX6_run_31 (by decide) ?_
          refine e_ge_t (i := 200) (N := 200) 73 dX6_run_34 (by decide) rfl rfl (by omega) (by omega) ?_
          exact run_fin hT hr.2.2.1.1 ho
        · exact run_rch (q := (L, l, k, u')) (q' := (L', l', s, u')) hB h9 n a1 (fun y5 y6 y7 => run_end hB h9 hp.1 ho)
      · refine ⟨good, phf σ 7 (nI u'), upd m 110 (nI u'), (nC 1000 κ).1, L', hI2, a6, fun M J out x4 ho => ?_, fun M J out x5 x6 x7 ho => ?_⟩
        · have hnc := c_X5_nextCall (M := hs_put 1 σ M) (J := J) hC hni
          rw [a2] at hnc
          rw [hs_sc (by decide)]
          refine e_iload_n dX6_run_30 rfl rfl ?_
          refine e_sipush (v := 200) dX6_run_31 (by decide) ?_
          refine e_ge_f (i := i) (N := 200) 73 dX6_run_34 (by decide) rfl rfl (by omega) (by omega) ?_
          refine e_aload_n dX6_run_37 rfl rfl ?_
          refine e_getr dX6_run_38 fl_6_30 hT.a0 rfl ?_
          refine e_cV1 dX6_run_41 ml_6_188 hnc hC.a0 rfl rfl (by decide) (Nat.le_of_ble_eq_true rfl) ⟨rfl, rfl⟩ (Nat.le_of_ble_eq_true rfl) (Nat.le_of_ble_eq_true rfl) ?_
          refine e_istore dX6_run_44 (by decide) rfl ?_
          refine e_iload dX6_run_46 rfl ?_
          refine e_iconst (v := (-1)) dX6_run_48 (by decide) ?_
          refine e_icmp_ne 55 dX6_run_49 (by decide) (fun h49 => ?_) (fun h49 => ?_)
          · exact absurd rfl h49
          · refine e_goto 73 dX6_run_52 (by decide) ?_
            rw [← hs_sc (by decide)]
            exact run_fin hT a3 ho
        · exact run_rch (q := (L, l, k, u')) (q' := (L', l', s, u')) hB h9 n a1 (fun y5 y6 y7 => run_end hB h9 hp.1 ho)
    · have a5' : u ≤ u' := a5
      omega
  | succ d ih =>
    intro i K E κ σ m L l k u good hd hp hE hr hi hI hK1 hE1
    have hu := hr.2.2.1.2
    have hl4 := hp.len (k := k) hr.1.2
    rw [hr.2.2.2.1] at hl4
    obtain ⟨hni, -, -, -⟩ := hr.ni hp
    by_cases hu200 : u = 200
    · obtain ⟨g', σ', m', κ', L', b1, b2, b3, b4⟩ := ih i K E (good := good) (by omega) hp hE hr hi hI (by omega) (by omega)
      exact ⟨g', σ', m', κ', L', b1.more, b2, b3, b4⟩
    · rcases nC_sim 1000 (by omega) hp hr with ⟨n, L', l', u', a1, a2, a3, a4, a5, a6⟩ | ⟨n, L', l', k', u', a1, a2, a3, a4, a5, a6, a7, a8, a9⟩
      · have hI2 : Inv (K + 30 * (d + 1)) (E + (d + 1)) (phf σ 7 (nI u')) (upd m 110 (nI u')) := (hI.units _).more
        refine ⟨good, phf σ 7 (nI u'), upd m 110 (nI u'), (nC 1000 κ).1, L', hI2, a6, fun M J out x4 ho => ?_, fun M J out x5 x6 x7 ho => ?_⟩
        · have hnc := c_X5_nextCall (M := hs_put 1 σ M) (J := J) hC hni
          rw [a2] at hnc
          rw [hs_sc (by decide)]
          refine e_iload_n dX6_run_30 rfl rfl ?_
          refine e_sipush (v := 200) dX6_run_31 (by decide) ?_
          refine e_ge_f (i := i) (N := 200) 73 dX6_run_34 (by decide) rfl rfl (by omega) (by omega) ?_
          refine e_aload_n dX6_run_37 rfl rfl ?_
          refine e_getr dX6_run_38 fl_6_30 hT.a0 rfl ?_
          refine e_cV1 dX6_run_41 ml_6_188 hnc hC.a0 rfl rfl (by decide) (Nat.le_of_ble_eq_true rfl) ⟨rfl, rfl⟩ (Nat.le_of_ble_eq_true rfl) (Nat.le_of_ble_eq_true rfl) ?_
          refine e_istore dX6_run_44 (by decide) rfl ?_
          refine e_iload dX6_run_46 rfl ?_
          refine e_iconst (v := (-1)) dX6_run_48 (by decide) ?_
          refine e_icmp_ne 55 dX6_run_49 (by decide) (fun h49 => ?_) (fun h49 => ?_)
          · exact absurd rfl h49
          · refine e_goto 73 dX6_run_52 (by decide) ?_
            rw [← hs_sc (by decide)]
            exact run_fin hT a3 ho
        · exact run_rch (q := (L, l, k, u)) (q' := (L', l', s, u')) hB h9 n a1 (fun y5 y6 y7 => run_end hB h9 hp.1 ho)
      · have a5' : u ≤ u' := a5
        have hk100 : k' < 100 := by
          have := hp.1
          omega
        obtain ⟨v, σ1, m1, c1, c2, c3⟩ := call_both hT hB hI (by omega) (by omega) hk100 (hE k' a2) a3
        obtain ⟨g', σ', m', κ', L2, b1, b2, b3, b4⟩ := ih (i + 1) (K + 30) (E + 1) (good := good + if v < 0 then 0 else 1) (by omega) (hp.kw a9) (fun j hj => (hE j hj).kw a9) a8 (by omega) c1 (by omega) (by omega)
        have hI2 : Inv (K + 30 * (d + 1)) (E + (d + 1)) σ' m' := by
          rw [show K + 30 * (d + 1) = K + 30 + 30 * d by omega, show E + (d + 1) = E + 1 + d by omega]
          exact b1
        refine ⟨g', σ', m', κ', L2, hI2, a9.trans b2, fun M J out x4 ho => ?_, fun M J out x5 x6 x7 ho => ?_⟩
        · have hnc := c_X5_nextCall (M := hs_put 1 σ M) (J := J) hC hni
          rw [a7] at hnc
          have hco := c2 (nC 1000 κ).1 M J a9
          have hb3 := b3 M J out (.int (nI k')) ho
          rw [hs_sc (by decide)]
          refine e_iload_n dX6_run_30 rfl rfl ?_
          refine e_sipush (v := 200) dX6_run_31 (by decide) ?_
          refine e_ge_f (i := i) (N := 200) 73 dX6_run_34 (by decide) rfl rfl (by omega) (by omega) ?_
          refine e_aload_n dX6_run_37 rfl rfl ?_
          refine e_getr dX6_run_38 fl_6_30 hT.a0 rfl ?_
          refine e_cV1 dX6_run_41 ml_6_188 hnc hC.a0 rfl rfl (by decide) (Nat.le_of_ble_eq_true rfl) ⟨rfl, rfl⟩ (Nat.le_of_ble_eq_true rfl) (Nat.le_of_ble_eq_true rfl) ?_
          refine e_istore dX6_run_44 (by decide) rfl ?_
          refine e_iload dX6_run_46 rfl ?_
          refine e_iconst (v := (-1)) dX6_run_48 (by decide) ?_
          refine e_icmp_ne 55 dX6_run_49 (by decide) (fun h49 => ?_) (fun h49 => ?_)
          · refine e_aload_n dX6_run_55 rfl rfl ?_
            refine e_iload dX6_run_56 rfl ?_
            rw [← hs_sc (by decide)]
            refine e_cV1 dX6_run_58 ml_6_191 hco hT.a0 rfl rfl (by decide) (Nat.le_of_ble_eq_true rfl) ⟨rfl, rfl⟩ (Nat.le_of_ble_eq_true rfl) (Nat.le_of_ble_eq_true rfl) ?_
            refine e_if_lt 67 dX6_run_61 (by decide) (fun h61 => ?_) (fun h61 => ?_)
            · rw [if_pos h61, Int32.add_zero] at hb3
              refine e_iinc dX6_run_67 rfl (ai_inc _) (by decide) rfl ?_
              refine e_goto 30 dX6_run_70 (by decide) ?_
              exact hb3
            · rw [if_neg h61] at hb3
              refine e_iinc dX6_run_64 rfl rfl (by decide) rfl ?_
              refine e_iinc dX6_run_67 rfl (ai_inc _) (by decide) rfl ?_
              refine e_goto 30 dX6_run_70 (by decide) ?_
              exact hb3
          · exact absurd h49 (nI_ne_m1 (by omega))
        · have hrk : isC (rp ρ (4 * k')) := by rw [(hE k' a2).1]; exact a3
          exact run_rch (q := (L, l, k, u)) (q' := (L', l', k', u')) hB h9 n a1 (fun y5 y6 y7 => run_call hB h9 a2 hp.1 a4 a6 hrk (c3 _ M J) (fun z5 z6 z7 => b4 M J out z5 z6 z7 ho))
end C78

