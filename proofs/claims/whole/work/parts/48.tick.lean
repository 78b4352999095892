/-! ===== a tick ===== -/
theorem nI_sb {a b : Nat} (h : b ≤ a) : nI a - nI b = nI (a - b) := by
  have h1 : nI a = nI (a - b) + nI b := by rw [nI_add, Nat.sub_add_cancel h]
  rw [h1, Int32.sub_eq_add_neg, Int32.add_assoc, ← Int32.sub_eq_add_neg, Int32.sub_self, Int32.add_zero]
theorem Rel.time {F E t : Nat} {σ : hs_T} {m : Nat → Int32} (h : Rel F E t σ m) (d : Nat) (ht : t + d ≤ 20600) {x : Int32} (hx : x = nI d) : Rel F E (t + d) (phf σ 5 (hf σ 5 + x)) (upd m 103 (m 103 + x)) := by
  subst hx
  obtain ⟨hw, e, c, hN, hM, hR, hSt, hU, hL, hG⟩ := h
  have lo : ∀ j, j ≠ 103 → upd m 103 (m 103 + nI d) j = m j := fun j hj => upd_ne _ _ hj
  obtain ⟨n1, n2, n3, n4, n5, n6, n7, n8, n9, n10⟩ := hN
  have hM' : RMem t c (phf σ 5 (hf σ 5 + nI d)) (upd m 103 (m 103 + nI d)) := hM.cong rfl (fun j hj => lo j (by omega))
  refine ⟨hw.put (by omega) _, e, c, ⟨?_, ?_, ht, n4, by rw [lo 109 (by omega)]; exact n5, n6, n7, by rw [lo 107 (by omega)]; exact n8, n9, n10⟩, ?_, hR.cong rfl (fun j hj => lo j (by omega)), hSt.cong rfl rfl rfl (fun j hj => lo j (by omega)), hU.cong rfl rfl rfl (fun j hj => lo j (by omega)), hL.cong rfl rfl (fun j hj => lo j (by omega)), hG.cong (fun j hj => lo j (by omega))⟩
  · show hf σ 5 + nI d = _
    rw [n1, nI_add]
  · rw [upd_same, n2, nI_add]
  · intro k hk
    obtain ⟨a, b, hs, q, w⟩ := hM' k hk
    refine ⟨a, b, fun z => ?_, q, w⟩
    obtain ⟨s, s1, s2⟩ := hs z
    exact ⟨s, by omega, s2⟩
theorem Rel.tin {F E t : Nat} {σ : hs_T} {m : Nat → Int32} (h : Rel F E t σ m) {r : Nat} (hr5 : r < 5) (x : Int32) : Rel F E t (phr σ r 6 x) (upd m (85 + r) x) := by
  obtain ⟨hw, e, c, hN, hM, hR, hSt, hU, hL, hG⟩ := h
  have lo : ∀ j, j ≠ 85 + r → upd m (85 + r) x j = m j := fun j hj => upd_ne _ _ hj
  obtain ⟨n1, n2, n3, n4, n5, n6, n7, n8, n9, n10⟩ := hN
  refine ⟨hw.put (by omega) _, e, c, ⟨n1, by rw [lo 103 (by omega)]; exact n2, n3, n4, by rw [lo 109 (by omega)]; exact n5, n6, n7, by rw [lo 107 (by omega)]; exact n8, n9, n10⟩, hM.cong rfl (fun j hj => lo j (by omega)), ?_, hSt.cong rfl rfl rfl (fun j hj => lo j (by omega)), hU.cong rfl rfl rfl (fun j hj => lo j (by omega)), hL.cong rfl rfl (fun j hj => lo j (by omega)), hG.cong (fun j hj => lo j (by omega))⟩
  intro q hq
  obtain ⟨a0, a1, a2, a3, a4, a5, a6, a7, a8, a9, a10⟩ := hR q hq
  have hi : rIns (upd m (85 + r) x) (nI q) = rIns m (nI q) := rIns_cong (fun j hj => lo j (by omega)) _
  have rd : ∀ j, j ≠ 6 → hr (phr σ r 6 x) q j = hr σ q j := fun j hj => by rw [phr_rd, if_neg (by omega)]
  rw [hi, lo (60 + q) (by omega), lo (65 + q) (by omega), lo (70 + q) (by omega), lo (75 + q) (by omega), lo (80 + q) (by omega), lo (90 + q) (by omega), lo (95 + q) (by omega), rd 0 (by omega), rd 1 (by omega), rd 2 (by omega), rd 3 (by omega), rd 4 (by omega), rd 5 (by omega), rd 7 (by omega), rd 8 (by omega)]
  refine ⟨a0, a1, a2, a3, a4, a5, ?_, a7, a8, a9, a10⟩
  rw [phr_rd]
  by_cases hqr : q = r
  · subst hqr
    rw [if_pos ⟨rfl, rfl⟩, upd_same]
  · rw [if_neg (by omega), lo (85 + q) (by omega)]
    exact a6
theorem Rel.tik {F E t : Nat} {σ : hs_T} {m : Nat → Int32} (h : Rel F E t σ m) {k : Nat} (hk : k < 12) {x : Int32} {n : Nat} (hx : x = nI n) (h1 : 1 ≤ n) (h2 : n ≤ 999) : Rel F E t (phm σ k 3 x) (upd m (36 + k) x) := by
  obtain ⟨hw, e, c, hN, hM, hR, hSt, hU, hL, hG⟩ := h
  have lo : ∀ j, j ≠ 36 + k → upd m (36 + k) x j = m j := fun j hj => upd_ne _ _ hj
  obtain ⟨n1, n2, n3, n4, n5, n6, n7, n8, n9, n10⟩ := hN
  refine ⟨hw.put (by omega) _, e, c, ⟨n1, by rw [lo 103 (by omega)]; exact n2, n3, n4, by rw [lo 109 (by omega)]; exact n5, n6, n7, by rw [lo 107 (by omega)]; exact n8, n9, n10⟩, ?_, hR.cong rfl (fun j hj => lo j (by omega)), hSt.cong rfl rfl rfl (fun j hj => lo j (by omega)), hU.cong rfl rfl rfl (fun j hj => lo j (by omega)), hL.cong rfl rfl (fun j hj => lo j (by omega)), hG.cong (fun j hj => lo j (by omega))⟩
  intro q hq
  obtain ⟨⟨a0, a1, a2, a3⟩, b, hs, g, w⟩ := hM q hq
  have rd : ∀ j, j ≠ 3 → hm (phm σ k 3 x) q j = hm σ q j := fun j hj => by rw [phm_rd, if_neg (by omega)]
  rw [lo q (by omega), lo (12 + q) (by omega), lo (24 + q) (by omega), lo (48 + q) (by omega), rd 0 (by omega), rd 1 (by omega), rd 2 (by omega), phm_rd]
  by_cases hqr : q = k
  · subst hqr
    rw [if_pos ⟨rfl, rfl⟩, upd_same]
    exact ⟨⟨a0, a1, a2, rfl⟩, b, hs, g, fun _ => ⟨n, h1, h2, hx⟩⟩
  · rw [if_neg (by omega), lo (36 + q) (by omega)]
    exact ⟨⟨a0, a1, a2, a3⟩, b, hs, g, w⟩
theorem hBe_over (σ : hs_T) (k : Nat) (y s r t x : Int32) : hBe (phm σ k 3 y) k s r t x = hBe σ k s r t x := by
  have h1 : (hBe (phm σ k 3 y) k s r t x).1 = (hBe σ k s r t x).1 := by
    funext q j
    have := hBe_rd (phm σ k 3 y) k s r t x q j
    have h2 := hBe_rd σ k s r t x q j
    show hm (hBe (phm σ k 3 y) k s r t x) q j = hm (hBe σ k s r t x) q j
    rw [this, h2, phm_rd, phm_rd]
    by_cases hq : q = k
    · rw [if_pos hq, if_pos hq]
      by_cases hj : j = 3
      · rw [if_pos hj, if_pos hj]
      · rw [if_neg hj, if_neg hj, if_neg (show ¬ (k = k ∧ j = 3) from fun z => hj z.2)]
    · rw [if_neg hq, if_neg hq, if_neg (fun z => hq z.1)]
  exact Prod.ext h1 rfl
theorem hOut_over (σ : hs_T) (k : Nat) (y kd : Int32) : hOut (phm σ k 3 y) k kd = hOut σ k kd := by
  have h1 : hm (phm σ k 3 y) k 1 = hm σ k 1 := by rw [phm_rd, if_neg (by omega)]
  have h2 : hRn (phm σ k 3 y) k = hRn σ k := by rw [hRn, hRn, h1]
  have h3 : hOutN (phm σ k 3 y) k = hOutN σ k := by
    simp only [hOutN]
    rw [hBe_over, h2]
  rw [hOut_eq, hOut_eq, h3, h1]
theorem rLeaves_over (m : Nat → Int32) (k : Nat) (y : Int32) : rLeaves (upd m (36 + k) y) k = rLeaves m k := by
  funext j
  simp only [rLeaves, upd]
  split
  · rfl
  · rfl
theorem Rel.tkS {F E t : Nat} {σ : hs_T} {m : Nat → Int32} (h : Rel F E t σ m) (hF : F + 1 ≤ 1000000000) {k : Nat} (hk : k < 12) : Rel (F + 1) E t (hTkS σ k) (rTkS m k) := by
  have h0 := h
  obtain ⟨hw, e, c, hN, hM, hR, hSt, hU, hL, hG⟩ := h
  obtain ⟨⟨q0, q1, q2, q3⟩, hs, -, -, hx⟩ := hM k hk
  by_cases h2 : m k = 2
  · obtain ⟨r, hr5, er⟩ := (hw.1 k hk).resolve_left (by rw [h2]; decide)
    have hrn : hRn σ k = r := by rw [hRn, q1, er, nI_clamp (by omega)]
    have hr6 : hr σ r 6 = m (85 + r) := (hR r hr5).2.2.2.2.2.2.1
    obtain ⟨x, x1, x2, x3⟩ := hx (Or.inr h2)
    have h1 := h0.tin hr5 (m (85 + r) + 1)
    have hu : upd m (85 + r) (m (85 + r) + 1) (36 + k) = m (36 + k) := upd_ne _ _ (by omega)
    have e1 : hSp1 σ k = phm (phr σ r 6 (m (85 + r) + 1)) k 3 (m (36 + k) - 1) := by
      simp only [hSp1]
      rw [hrn, hr6]
      show phm _ k 3 (hm σ k 3 - 1) = _
      rw [q3]
    have e2 : hm (hSp1 σ k) k 3 = m (36 + k) - 1 := by rw [e1, phm_rd, if_pos ⟨rfl, rfl⟩]
    have e3 : rTkS m k = if m (36 + k) - 1 = 0 then rLogs (rLeaves (upd (upd m (85 + r) (m (85 + r) + 1)) (36 + k) (m (36 + k) - 1)) k) 2 (nI k) (nI r) else upd (upd m (85 + r) (m (85 + r) + 1)) (36 + k) (m (36 + k) - 1) := by
      simp only [rTkS]
      rw [if_pos h2, er, nI_clamp (by omega), hu, upd_same]
    rw [hTkS, q0, if_pos h2, hSp, e2, e3, e1]
    have h12 : upd m (85 + r) (m (85 + r) + 1) (12 + k) = nI r := by rw [upd_ne _ _ (by omega)]; exact er
    have hk2 : upd m (85 + r) (m (85 + r) + 1) k = 2 := by rw [upd_ne _ _ (by omega)]; exact h2
    by_cases hx1 : x = 1
    · subst hx1
      have hz : m (36 + k) - 1 = 0 := by rw [x3]; rfl
      rw [hz, if_neg (by decide), if_pos rfl, hOut_over, rLeaves_over]
      have h3 := h1.out hF hk (by rw [hk2]; decide) 2
      rw [h12] at h3
      exact h3
    · have hz : m (36 + k) - 1 = nI (x - 1) := by rw [x3]; exact nI_sb x1
      have hp : 0 < nI (x - 1) := by rw [← nI_0]; exact nI_lt (by omega) (by omega)
      rw [hz, if_pos hp, if_neg (nI_ne0 (by omega) (by omega))]
      exact (h1.tik hk rfl (by omega) (by omega)).more
  · have e3 : rTkS m k = if m k = 3 ∧ m 102 ≤ m 103 - m (24 + k) then rLogs (rLeaves m k) 4 (nI k) (m (12 + k)) else m := by
      simp only [rTkS]
      rw [if_neg h2]
    have e4 : hf σ 5 = m 103 := by rw [hN.1, hN.2.1]
    rw [hTkS, q0, if_neg h2, e3, hSt.2.2.1, e4, q2]
    by_cases h3 : m k = 3 ∧ m 102 ≤ m 103 - m (24 + k)
    · rw [if_pos h3, if_pos h3]
      exact h0.out hF hk (by rw [h3.1]; decide) 4
    · rw [if_neg h3, if_neg h3]
      exact h0.more
theorem Rel.tkL {F E t : Nat} {σ : hs_T} {m : Nat → Int32} (h : Rel F E t σ m) : ∀ (n : Nat), n ≤ 12 → F + n ≤ 1000000000 → Rel (F + n) E t (hTkL σ n) (rTkL m n)
  | 0, _, _ => h
  | n + 1, h1, h2 => (Rel.tkL h n (by omega) (by omega)).tkS (by omega) (by omega)
theorem Rel.ln {F E t : Nat} {σ : hs_T} {m : Nat → Int32} (h : Rel F E t σ m) : hLn σ ≤ 12 := by
  obtain ⟨hw, e, c, hN, hM, hR, hSt, hU, hL, hG⟩ := h
  exact hL.1
theorem Rel.tick {F E t : Nat} {σ : hs_T} {m : Nat → Int32} (h : Rel F E t σ m) (hF : F + 40 ≤ 1000000000) (ht : t + 1 ≤ 20600) : ∃ m', rTick 14 m = some m' ∧ Rel (F + 40) E (t + 1) (hTick σ) m' ∧ (rOnce m').2 = false := by
  have h1 := (h.time 1 ht (x := 1) rfl).tkL 12 (by omega) (by omega)
  obtain ⟨m', a, b, c⟩ := Rel.acts 12 (F + 12) h1 h1.ln (by omega)
  exact ⟨m', a, b.more, c⟩
section C48
variable {S : List aiS} {M : Nat → Nat → Int32} {J : Nat → Int64} {h : Nat}
theorem c_X0_tick (hS : HS S h) {F E t : Nat} {σ : hs_T} {m : Nat → Int32} (hR : Rel F E t σ m) (hF : F + 50 ≤ 1000000000) (ht : t + 1 ≤ 20600) : AM G_X0_tick [.ref h] S (hs_put h σ M) J (none, S, hs_put h (hTick σ) M, J) := by
  refine AM_gen (fun out ho => ?_)
  refine AM_of [.ref h, .retAddr 0, .retAddr 0] (by decide) rfl (fun B => (Nat.le_of_ble_eq_true rfl)) ?_
  have hR1 := hR.time 1 ht (x := 1) rfl
  have hend : ∀ y2 : Value, AW G_X0_tick out 0 0 12 [.ref h, .int (nI 12), y2] [] S (hs_put h (hTkL (phf σ 5 (hf σ 5 + 1)) 12) M) J := by
    intro y2
    have hR2 := hR1.tkL 12 (by omega) (by omega)
    have hact := c_X0_act (M := M) (J := J) hS hR2 (by omega)
    refine e_iload_n dX0_tick_12 rfl rfl ?_
    refine e_bipush (v := 12) dX0_tick_13 (by decide) ?_
    refine e_ge_t (i := 12) (N := 12) 79 dX0_tick_15 (by decide) rfl rfl (by omega) (by omega) ?_
    refine e_aload_n dX0_tick_79 rfl rfl ?_
    refine e_cV0 dX0_tick_80 ml_0_109 hact hS.a0 rfl rfl (by decide) (Nat.le_of_ble_eq_true rfl) ⟨rfl, rfl⟩ (Nat.le_of_ble_eq_true rfl) (Nat.le_of_ble_eq_true rfl) ?_
    exact e_vret dX0_tick_83 rfl ho (Nat.le_of_ble_eq_true rfl) (Nat.le_of_ble_eq_true rfl)
  have key : ∀ (d i : Nat) (x2 : Value), i + d = 12 → AW G_X0_tick out 0 0 12 [.ref h, .int (nI i), x2] [] S (hs_put h (hTkL (phf σ 5 (hf σ 5 + 1)) i) M) J := by
    intro d
    induction d with
    | zero =>
      intro i x2 hi
      have hi2 : i = 12 := by omega
      subst hi2
      exact hend x2
    | succ d ih =>
      intro i x2 hi
      have hR2 := hR1.tkL i (by omega) (by omega)
      have ih' := fun y => ih (i + 1) y (by omega)
      rw [hTkL] at ih'
      revert ih'
      generalize hTkL (phf σ 5 (hf σ 5 + 1)) i = τ at hR2 ⊢
      intro ih'
      obtain ⟨hHW, ⟨e, he1, he2, he3⟩, h8, hmm⟩ := hR2.house
      have hw2 := hR2.1
      have hi12 : i < 12 := by omega
      obtain ⟨k0, k1⟩ := hmm i hi12
      have hroom : ¬ hm τ i 0 = 0 → ∃ r, r < 5 ∧ hm τ i 1 = nI r := by
        intro z
        rw [k0] at z
        obtain ⟨r, hr1, hr2⟩ := (hw2.1 i hi12).resolve_left z
        exact ⟨r, hr1, by rw [k1]; exact hr2⟩
      refine e_iload_n dX0_tick_12 rfl rfl ?_
      refine e_bipush (v := 12) dX0_tick_13 (by decide) ?_
      refine e_ge_f (i := i) (N := 12) 79 dX0_tick_15 (by decide) rfl rfl (by omega) (by omega) ?_
      refine e_aload_n dX0_tick_18 rfl rfl ?_
      refine e_getr dX0_tick_19 fl_0_11 hS.a0 rfl ?_
      refine e_iload_n dX0_tick_22 rfl rfl ?_
      refine h_mem i hS dX0_tick_23 rfl (by first | assumption | omega) ?_
      refine e_astore_n dX0_tick_24 rfl (by decide) rfl ?_
      refine e_aload_n dX0_tick_25 rfl rfl ?_
      refine hm_get hS (by first | assumption | omega) dX0_tick_26 fl_0_96 (by decide) ?_
      refine e_iconst (v := 2) dX0_tick_29 (by decide) ?_
      refine e_icmp_ne 41 dX0_tick_30 (by decide) (fun hst => ?_) (fun hst => ?_)
      · refine e_aload_n dX0_tick_41 rfl rfl ?_
        refine hm_get hS (by first | assumption | omega) dX0_tick_42 fl_0_96 (by decide) ?_
        refine e_iconst (v := 3) dX0_tick_45 (by decide) ?_
        refine e_icmp_ne 73 dX0_tick_46 (by decide) (fun h3 => ?_) (fun h3 => ?_)
        · refine e_iinc dX0_tick_73 rfl (ai_inc _) (by decide) rfl ?_
          refine e_goto 12 dX0_tick_76 (by decide) ?_
          have h9 := ih' (.ref (h + 8 + i))
          rw [hTkS, if_neg hst, if_neg (fun z => h3 z.1)] at h9
          exact h9
        · refine e_aload_n dX0_tick_49 rfl rfl ?_
          refine hf_get hS dX0_tick_50 fl_0_41 (by decide) ?_
          refine e_aload_n dX0_tick_53 rfl rfl ?_
          refine hm_get hS (by first | assumption | omega) dX0_tick_54 fl_0_102 (by decide) ?_
          refine e_isub dX0_tick_57 ?_
          refine e_aload_n dX0_tick_58 rfl rfl ?_
          refine e_getr dX0_tick_59 fl_0_37 hS.a0 rfl ?_
          refine e_iconst (v := 2) dX0_tick_62 (by decide) ?_
          refine hu_ld 2 hS dX0_tick_63 (ai_lit 2) (by decide) ?_
          refine e_icmp_lt 73 dX0_tick_64 (by decide) (fun h4 => ?_) (fun h4 => ?_)
          · refine e_iinc dX0_tick_73 rfl (ai_inc _) (by decide) rfl ?_
            refine e_goto 12 dX0_tick_76 (by decide) ?_
            have h9 := ih' (.ref (h + 8 + i))
            rw [hTkS, if_neg hst, if_neg (fun z => absurd z.2 (Int32.not_le.mpr h4))] at h9
            exact h9
          · obtain ⟨r, hr1, hr2⟩ := hroom (by rw [h3]; decide)
            refine e_aload_n dX0_tick_67 rfl rfl ?_
            refine e_iload_n dX0_tick_68 rfl rfl ?_
            refine e_iconst (v := 4) dX0_tick_69 (by decide) ?_
            refine e_cV0 dX0_tick_70 ml_0_105 (c_X0_goOut hS hi12 hr1 hr2 he3 (by omega) 4) hS.a0 rfl rfl (by decide) (Nat.le_of_ble_eq_true rfl) ⟨rfl, rfl⟩ (Nat.le_of_ble_eq_true rfl) (Nat.le_of_ble_eq_true rfl) ?_
            refine e_iinc dX0_tick_73 rfl (ai_inc _) (by decide) rfl ?_
            refine e_goto 12 dX0_tick_76 (by decide) ?_
            have h9 := ih' (.ref (h + 8 + i))
            rw [hTkS, if_neg hst, if_pos ⟨h3, Int32.not_lt.mp h4⟩] at h9
            exact h9
      · obtain ⟨r, hr1, hr2⟩ := hroom (by rw [hst]; decide)
        refine e_aload_n dX0_tick_33 rfl rfl ?_
        refine e_iload_n dX0_tick_34 rfl rfl ?_
        refine e_cV0 dX0_tick_35 ml_0_99 (c_X0_spendTick hS hi12 hr1 hr2 he3 (by omega)) hS.a0 rfl rfl (by decide) (Nat.le_of_ble_eq_true rfl) ⟨rfl, rfl⟩ (Nat.le_of_ble_eq_true rfl) (Nat.le_of_ble_eq_true rfl) ?_
        refine e_goto 73 dX0_tick_38 (by decide) ?_
        refine e_iinc dX0_tick_73 rfl (ai_inc _) (by decide) rfl ?_
        refine e_goto 12 dX0_tick_76 (by decide) ?_
        have h9 := ih' (.ref (h + 8 + i))
        rw [hTkS, if_pos hst] at h9
        exact h9
  refine e_aload_n dX0_tick_0 rfl rfl ?_
  refine e_dup dX0_tick_1 rfl ?_
  refine hf_get hS dX0_tick_2 fl_0_41 (by decide) ?_
  refine e_iconst (v := 1) dX0_tick_5 (by decide) ?_
  refine e_iadd dX0_tick_6 ?_
  refine hf_put hS dX0_tick_7 fl_0_41 ?_
  refine e_iconst (v := 0) dX0_tick_10 (by decide) ?_
  refine e_istore_n dX0_tick_11 rfl (by decide) rfl ?_
  exact key 12 0 _ rfl
end C48

