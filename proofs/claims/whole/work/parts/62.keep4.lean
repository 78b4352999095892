/-! ===== the keeper: what it tells ===== -/
theorem hs_sc {h c : Nat} (hD : h + 25 ≤ c) (σ : hs_T) (κ : sc_T) (M : Nat → Nat → Int32) : hs_put h σ (sc_put c κ M) = sc_put c κ (hs_put h σ M) := bput_comm _ _ _ (Or.inl hD)
theorem line_len {t c : Nat} {σ : hs_T} {m : Nat → Int32} (h : RLine σ m) : hLn σ = fb_ct (fun k => decide (m k = 1)) 12 := by
  rw [line_ct h (fun k => decide (m k = 1)) (fun q _ hq => by simpa using hq)]
  exact (fb_ct_all.mpr (fun i hi => by simpa using (h.2.2.1 i hi).2.2)).symm
theorem line_imp {F E t e c : Nat} {σ : hs_T} {m : Nat → Int32} (hN : RNum F E t e c σ m) (hM : RMem t c σ m) (hSt : RSet σ m) (h : RLine σ m) : fb_ct (fun i => himp σ (hPl σ i)) (hLn σ) = fb_ct (rImp m) 12 := by
  rw [line_ct h (rImp m) (fun q _ hq => by
    simp only [rImp, Bool.and_eq_true, decide_eq_true_eq] at hq
    exact hq.1)]
  exact fb_ct_cong (fun i hi => himp_line hN hM hSt (h.2.2.1 i hi).1 (h.2.2.1 i hi).2.2)
section C62
variable {S : List aiS} {M : Nat → Nat → Int32} {J : Nat → Int64} {σ σ' : hs_T} {m : Nat → Int32} {F E t : Nat}
theorem c_X6_member (hT : KS S) (hR : Rel F E t σ m) {a w v : Int32} (hV : rMemR m a w v) : AM G_X6_member [.ref 0, .int a, .int w] S (hs_put 1 σ M) J (some (.int v), S, hs_put 1 σ M, J) := by
  have hS := hT.now
  have hHW := hR.house.1
  refine AM_gen (fun out ho => ?_)
  refine AM_of [.ref 0, .int a, .int w, .retAddr 0] (by decide) rfl (fun B => (Nat.le_of_ble_eq_true rfl)) ?_
  refine e_iload_n dX6_member_0 rfl rfl ?_
  refine e_cS1 dX6_member_1 ml_6_63 (c_X6_isMember _) rfl rfl (by decide) (Nat.le_of_ble_eq_true rfl) ⟨rfl, rfl⟩ (Nat.le_of_ble_eq_true rfl) (Nat.le_of_ble_eq_true rfl) ?_
  refine e_if_eq 16 dX6_member_4 (by decide) (fun h4 => ?_) (fun h4 => ?_)
  · have hv := hV.1 (fun q => z0 h4 q.1)
    refine e_bipush (v := (-2)) dX6_member_16 (by decide) ?_
    exact e_iret dX6_member_18 rfl (ho.trans (by rw [hv])) (Nat.le_of_ble_eq_true rfl) (Nat.le_of_ble_eq_true rfl)
  · refine e_iload_n dX6_member_7 rfl rfl ?_
    refine e_iconst (v := 0) dX6_member_8 (by decide) ?_
    refine e_iconst (v := 4) dX6_member_9 (by decide) ?_
    refine e_cS1 dX6_member_10 ml_6_38 (c_X6_isWithin _ _ _) rfl rfl (by decide) (Nat.le_of_ble_eq_true rfl) ⟨rfl, rfl⟩ (Nat.le_of_ble_eq_true rfl) (Nat.le_of_ble_eq_true rfl) ?_
    refine e_if_ne 19 dX6_member_13 (by decide) (fun h13 => ?_) (fun h13 => ?_)
    · obtain ⟨k, hk, rfl⟩ := wi_nI (n := 11) rfl (z1 h4)
      obtain ⟨q, hq, rfl⟩ := wi_nI (n := 4) rfl (z1 h13)
      have hv := hV.2 k q (by omega) (by omega) rfl rfl
      have hk12 : k < 12 := by omega
      obtain ⟨s0, s1, s2, s3⟩ := hR.st hk12
      refine e_aload_n dX6_member_19 rfl rfl ?_
      refine e_getr dX6_member_20 fl_6_10 hT.a0 rfl ?_
      refine e_getr dX6_member_23 fl_6_66 hS.a0 rfl ?_
      refine e_iload_n dX6_member_26 rfl rfl ?_
      refine h_mem k hS dX6_member_27 rfl (by first | assumption | omega) ?_
      refine e_astore_n dX6_member_28 rfl (by decide) rfl ?_
      rcases (show q = 0 ∨ q = 1 ∨ q = 2 ∨ q = 3 ∨ q = 4 by omega) with rfl | rfl | rfl | rfl | rfl
      · refine e_iload_n dX6_member_29 rfl rfl ?_
        refine e_tableIn 60 dX6_member_30 (by decide) (by decide) rfl (by decide) ?_
        refine e_aload_n dX6_member_60 rfl rfl ?_
        refine hm_get hS (by first | assumption | omega) dX6_member_61 fl_6_70 (by decide) ?_
        exact e_iret dX6_member_64 rfl (ho.trans (by rw [hv, s0]; rfl)) (Nat.le_of_ble_eq_true rfl) (Nat.le_of_ble_eq_true rfl)
      · refine e_iload_n dX6_member_29 rfl rfl ?_
        refine e_tableIn 65 dX6_member_30 (by decide) (by decide) rfl (by decide) ?_
        refine e_aload_n dX6_member_65 rfl rfl ?_
        refine hm_get hS (by first | assumption | omega) dX6_member_66 fl_6_101 (by decide) ?_
        exact e_iret dX6_member_69 rfl (ho.trans (by rw [hv, s1]; rfl)) (Nat.le_of_ble_eq_true rfl) (Nat.le_of_ble_eq_true rfl)
      · refine e_iload_n dX6_member_29 rfl rfl ?_
        refine e_tableIn 70 dX6_member_30 (by decide) (by decide) rfl (by decide) ?_
        refine e_aload_n dX6_member_70 rfl rfl ?_
        refine hm_get hS (by first | assumption | omega) dX6_member_71 fl_6_85 (by decide) ?_
        exact e_iret dX6_member_74 rfl (ho.trans (by rw [hv, s2]; rfl)) (Nat.le_of_ble_eq_true rfl) (Nat.le_of_ble_eq_true rfl)
      · refine e_iload_n dX6_member_29 rfl rfl ?_
        refine e_tableIn 75 dX6_member_30 (by decide) (by decide) rfl (by decide) ?_
        refine e_aload_n dX6_member_75 rfl rfl ?_
        refine hm_get hS (by first | assumption | omega) dX6_member_76 fl_6_92 (by decide) ?_
        exact e_iret dX6_member_79 rfl (ho.trans (by rw [hv, s3]; rfl)) (Nat.le_of_ble_eq_true rfl) (Nat.le_of_ble_eq_true rfl)
      · refine e_iload_n dX6_member_29 rfl rfl ?_
        refine e_tableOut 80 dX6_member_30 (by decide) (by decide) ?_
        refine e_aload_n dX6_member_80 rfl rfl ?_
        refine e_getr dX6_member_81 fl_6_10 hT.a0 rfl ?_
        refine e_iload_n dX6_member_84 rfl rfl ?_
        refine e_cV1 dX6_member_85 ml_6_114 (c_X0_countBefore hS hHW hk12) hS.a0 rfl rfl (by decide) (Nat.le_of_ble_eq_true rfl) ⟨rfl, rfl⟩ (Nat.le_of_ble_eq_true rfl) (Nat.le_of_ble_eq_true rfl) ?_
        obtain ⟨hw, e, c, hN, hM, hRo, hSt, hU, hL, hG⟩ := hR
        exact e_iret dX6_member_88 rfl (ho.trans (by rw [hv, hCb_line hM hL hk12]; rfl)) (Nat.le_of_ble_eq_true rfl) (Nat.le_of_ble_eq_true rfl)
    · have hv := hV.1 (fun q => z0 h13 q.2)
      refine e_bipush (v := (-2)) dX6_member_16 (by decide) ?_
      exact e_iret dX6_member_18 rfl (ho.trans (by rw [hv])) (Nat.le_of_ble_eq_true rfl) (Nat.le_of_ble_eq_true rfl)
theorem c_X6_room (hT : KS S) (hR : Rel F E t σ m) {a w v : Int32} (hV : rRoomR m a w v) : AM G_X6_room [.ref 0, .int a, .int w] S (hs_put 1 σ M) J (some (.int v), S, hs_put 1 σ M, J) := by
  have hS := hT.now
  have hHW := hR.house.1
  refine AM_gen (fun out ho => ?_)
  refine AM_of [.ref 0, .int a, .int w, .retAddr 0] (by decide) rfl (fun B => (Nat.le_of_ble_eq_true rfl)) ?_
  refine e_iload_n dX6_room_0 rfl rfl ?_
  refine e_cS1 dX6_room_1 ml_6_34 (c_X6_isRoom _) rfl rfl (by decide) (Nat.le_of_ble_eq_true rfl) ⟨rfl, rfl⟩ (Nat.le_of_ble_eq_true rfl) (Nat.le_of_ble_eq_true rfl) ?_
  refine e_if_eq 17 dX6_room_4 (by decide) (fun h4 => ?_) (fun h4 => ?_)
  · have hv := hV.1 (fun q => z0 h4 q.1)
    refine e_bipush (v := (-2)) dX6_room_17 (by decide) ?_
    exact e_iret dX6_room_19 rfl (ho.trans (by rw [hv])) (Nat.le_of_ble_eq_true rfl) (Nat.le_of_ble_eq_true rfl)
  · refine e_iload_n dX6_room_7 rfl rfl ?_
    refine e_iconst (v := 0) dX6_room_8 (by decide) ?_
    refine e_bipush (v := 9) dX6_room_9 (by decide) ?_
    refine e_cS1 dX6_room_11 ml_6_38 (c_X6_isWithin _ _ _) rfl rfl (by decide) (Nat.le_of_ble_eq_true rfl) ⟨rfl, rfl⟩ (Nat.le_of_ble_eq_true rfl) (Nat.le_of_ble_eq_true rfl) ?_
    refine e_if_ne 20 dX6_room_14 (by decide) (fun h14 => ?_) (fun h14 => ?_)
    · obtain ⟨r, hr, rfl⟩ := wi_nI (n := 4) rfl (z1 h4)
      obtain ⟨q, hq, rfl⟩ := wi_nI (n := 9) rfl (z1 h14)
      have hv := hV.2 r q (by omega) (by omega) rfl rfl
      have hr5 : r < 5 := by omega
      obtain ⟨hw, e, c, hN, hM, hRo, hSt, hU, hL, hG⟩ := hR
      obtain ⟨r0, r1, r2, r3, r4, r5, r6, r7, r8, -⟩ := hRo r hr5
      refine e_aload_n dX6_room_20 rfl rfl ?_
      refine e_getr dX6_room_21 fl_6_10 hT.a0 rfl ?_
      refine e_getr dX6_room_24 fl_6_42 hS.a0 rfl ?_
      refine e_iload_n dX6_room_27 rfl rfl ?_
      refine h_rm r hS dX6_room_28 rfl (by first | assumption | omega) ?_
      refine e_astore_n dX6_room_29 rfl (by decide) rfl ?_
      rcases (show q = 0 ∨ q = 1 ∨ q = 2 ∨ q = 3 ∨ q = 4 ∨ q = 5 ∨ q = 6 ∨ q = 7 ∨ q = 8 ∨ q = 9 by omega) with rfl | rfl | rfl | rfl | rfl | rfl | rfl | rfl | rfl | rfl
      · refine e_iload_n dX6_room_30 rfl rfl ?_
        refine e_tableIn 80 dX6_room_31 (by decide) (by decide) rfl (by decide) ?_
        refine e_aload_n dX6_room_80 rfl rfl ?_
        refine hr_get hS (by first | assumption | omega) dX6_room_81 fl_6_46 (by decide) ?_
        exact e_iret dX6_room_84 rfl (ho.trans (by rw [hv, r0]; rfl)) (Nat.le_of_ble_eq_true rfl) (Nat.le_of_ble_eq_true rfl)
      · refine e_iload_n dX6_room_30 rfl rfl ?_
        refine e_tableIn 85 dX6_room_31 (by decide) (by decide) rfl (by decide) ?_
        refine e_aload_n dX6_room_85 rfl rfl ?_
        refine hr_get hS (by first | assumption | omega) dX6_room_86 fl_6_52 (by decide) ?_
        exact e_iret dX6_room_89 rfl (ho.trans (by rw [hv, r1]; rfl)) (Nat.le_of_ble_eq_true rfl) (Nat.le_of_ble_eq_true rfl)
      · refine e_iload_n dX6_room_30 rfl rfl ?_
        refine e_tableIn 90 dX6_room_31 (by decide) (by decide) rfl (by decide) ?_
        refine e_aload_n dX6_room_90 rfl rfl ?_
        refine hr_get hS (by first | assumption | omega) dX6_room_91 fl_6_117 (by decide) ?_
        exact e_iret dX6_room_94 rfl (ho.trans (by rw [hv, r2]; rfl)) (Nat.le_of_ble_eq_true rfl) (Nat.le_of_ble_eq_true rfl)
      · refine e_iload_n dX6_room_30 rfl rfl ?_
        refine e_tableIn 95 dX6_room_31 (by decide) (by decide) rfl (by decide) ?_
        refine e_aload_n dX6_room_95 rfl rfl ?_
        refine hr_get hS (by first | assumption | omega) dX6_room_96 fl_6_120 (by decide) ?_
        exact e_iret dX6_room_99 rfl (ho.trans (by rw [hv, r3]; rfl)) (Nat.le_of_ble_eq_true rfl) (Nat.le_of_ble_eq_true rfl)
      · refine e_iload_n dX6_room_30 rfl rfl ?_
        refine e_tableIn 100 dX6_room_31 (by decide) (by decide) rfl (by decide) ?_
        refine e_aload_n dX6_room_100 rfl rfl ?_
        refine e_getr dX6_room_101 fl_6_10 hT.a0 rfl ?_
        refine e_iload_n dX6_room_104 rfl rfl ?_
        refine e_cV1 dX6_room_105 ml_6_123 (c_X0_countQueue hS hHW _) hS.a0 rfl rfl (by decide) (Nat.le_of_ble_eq_true rfl) ⟨rfl, rfl⟩ (Nat.le_of_ble_eq_true rfl) (Nat.le_of_ble_eq_true rfl) ?_
        exact e_iret dX6_room_108 rfl (ho.trans (by rw [hv, ← rWai_line hM hL]; rfl)) (Nat.le_of_ble_eq_true rfl) (Nat.le_of_ble_eq_true rfl)
      · refine e_iload_n dX6_room_30 rfl rfl ?_
        refine e_tableIn 109 dX6_room_31 (by decide) (by decide) rfl (by decide) ?_
        refine e_aload_n dX6_room_109 rfl rfl ?_
        refine hr_get hS (by first | assumption | omega) dX6_room_110 fl_6_126 (by decide) ?_
        exact e_iret dX6_room_113 rfl (ho.trans (by rw [hv, r4]; rfl)) (Nat.le_of_ble_eq_true rfl) (Nat.le_of_ble_eq_true rfl)
      · refine e_iload_n dX6_room_30 rfl rfl ?_
        refine e_tableIn 114 dX6_room_31 (by decide) (by decide) rfl (by decide) ?_
        refine e_aload_n dX6_room_114 rfl rfl ?_
        refine hr_get hS (by first | assumption | omega) dX6_room_115 fl_6_129 (by decide) ?_
        exact e_iret dX6_room_118 rfl (ho.trans (by rw [hv, r5]; rfl)) (Nat.le_of_ble_eq_true rfl) (Nat.le_of_ble_eq_true rfl)
      · refine e_iload_n dX6_room_30 rfl rfl ?_
        refine e_tableIn 119 dX6_room_31 (by decide) (by decide) rfl (by decide) ?_
        refine e_aload_n dX6_room_119 rfl rfl ?_
        refine hr_get hS (by first | assumption | omega) dX6_room_120 fl_6_132 (by decide) ?_
        exact e_iret dX6_room_123 rfl (ho.trans (by rw [hv, r6]; rfl)) (Nat.le_of_ble_eq_true rfl) (Nat.le_of_ble_eq_true rfl)
      · refine e_iload_n dX6_room_30 rfl rfl ?_
        refine e_tableIn 124 dX6_room_31 (by decide) (by decide) rfl (by decide) ?_
        refine e_aload_n dX6_room_124 rfl rfl ?_
        refine hr_get hS (by first | assumption | omega) dX6_room_125 fl_6_135 (by decide) ?_
        exact e_iret dX6_room_128 rfl (ho.trans (by rw [hv, r7]; rfl)) (Nat.le_of_ble_eq_true rfl) (Nat.le_of_ble_eq_true rfl)
      · refine e_iload_n dX6_room_30 rfl rfl ?_
        refine e_tableOut 129 dX6_room_31 (by decide) (by decide) ?_
        refine e_aload_n dX6_room_129 rfl rfl ?_
        refine hr_get hS (by first | assumption | omega) dX6_room_130 fl_6_138 (by decide) ?_
        exact e_iret dX6_room_133 rfl (ho.trans (by rw [hv, r8]; rfl)) (Nat.le_of_ble_eq_true rfl) (Nat.le_of_ble_eq_true rfl)
    · have hv := hV.1 (fun q => z0 h14 q.2)
      refine e_bipush (v := (-2)) dX6_room_17 (by decide) ?_
      exact e_iret dX6_room_19 rfl (ho.trans (by rw [hv])) (Nat.le_of_ble_eq_true rfl) (Nat.le_of_ble_eq_true rfl)
theorem c_X6_queue (hT : KS S) (hR : Rel F E t σ m) {a i v : Int32} (hV : rQueR m a i v) : AM G_X6_queue [.ref 0, .int a, .int i] S (hs_put 1 σ M) J (some (.int v), S, hs_put 1 σ M, J) := by
  have hS := hT.now
  have hHW := hR.house.1
  refine AM_gen (fun out ho => ?_)
  refine AM_of [.ref 0, .int a, .int i] (by decide) rfl (fun B => (Nat.le_of_ble_eq_true rfl)) ?_
  refine e_iload_n dX6_queue_0 rfl rfl ?_
  refine e_cS1 dX6_queue_1 ml_6_34 (c_X6_isRoom _) rfl rfl (by decide) (Nat.le_of_ble_eq_true rfl) ⟨rfl, rfl⟩ (Nat.le_of_ble_eq_true rfl) (Nat.le_of_ble_eq_true rfl) ?_
  refine e_if_eq 11 dX6_queue_4 (by decide) (fun h4 => ?_) (fun h4 => ?_)
  · have hv := hV.1 (fun q => z0 h4 q.1)
    refine e_bipush (v := (-2)) dX6_queue_11 (by decide) ?_
    exact e_iret dX6_queue_13 rfl (ho.trans (by rw [hv])) (Nat.le_of_ble_eq_true rfl) (Nat.le_of_ble_eq_true rfl)
  · refine e_iload_n dX6_queue_7 rfl rfl ?_
    refine e_if_ge 14 dX6_queue_8 (by decide) (fun h8 => ?_) (fun h8 => ?_)
    · have hv := hV.2 ⟨z1 h4, h8⟩
      obtain ⟨hw, e, c, hN, hM, hRo, hSt, hU, hL, hG⟩ := hR
      refine e_aload_n dX6_queue_14 rfl rfl ?_
      refine e_getr dX6_queue_15 fl_6_10 hT.a0 rfl ?_
      refine e_iload_n dX6_queue_18 rfl rfl ?_
      refine e_iload_n dX6_queue_19 rfl rfl ?_
      refine e_cV1 dX6_queue_20 ml_6_141 (c_X0_inQueue hS hHW _ _) hS.a0 rfl rfl (by decide) (Nat.le_of_ble_eq_true rfl) ⟨rfl, rfl⟩ (Nat.le_of_ble_eq_true rfl) (Nat.le_of_ble_eq_true rfl) ?_
      exact e_iret dX6_queue_23 rfl (ho.trans (by rw [hv, rInq_line hM hL])) (Nat.le_of_ble_eq_true rfl) (Nat.le_of_ble_eq_true rfl)
    · have hv := hV.1 (fun q => h8 q.2)
      refine e_bipush (v := (-2)) dX6_queue_11 (by decide) ?_
      exact e_iret dX6_queue_13 rfl (ho.trans (by rw [hv])) (Nat.le_of_ble_eq_true rfl) (Nat.le_of_ble_eq_true rfl)
theorem c_X6_event (hT : KS S) (hR : Rel F E t σ m) {a w v : Int32} (hV : rEvR m a w v) : AM G_X6_event [.ref 0, .int a, .int w] S (hs_put 1 σ M) J (some (.int v), S, hs_put 1 σ M, J) := by
  have hS := hT.now
  obtain ⟨hw, e, c, hN, hM, hRo, hSt, hU, hL, hG⟩ := hR
  have he1 : he σ 1 = nI e := hN.2.2.2.1
  have hee : e < 2000000000 := by
    have h1 := hN.2.2.2.2.2.1
    have h2 := hN.2.2.2.2.2.2.1
    omega
  refine AM_gen (fun out ho => ?_)
  refine AM_of [.ref 0, .int a, .int w] (by decide) rfl (fun B => (Nat.le_of_ble_eq_true rfl)) ?_
  refine e_iload_n dX6_event_0 rfl rfl ?_
  refine e_if_lt 13 dX6_event_1 (by decide) (fun h1 => ?_) (fun h1 => ?_)
  · have hv := hV.1 (fun q => absurd h1 (Int32.not_lt.mpr q.1))
    refine e_bipush (v := (-2)) dX6_event_13 (by decide) ?_
    exact e_iret dX6_event_15 rfl (ho.trans (by rw [hv])) (Nat.le_of_ble_eq_true rfl) (Nat.le_of_ble_eq_true rfl)
  · refine e_iload_n dX6_event_4 rfl rfl ?_
    refine e_iconst (v := 0) dX6_event_5 (by decide) ?_
    refine e_iconst (v := 3) dX6_event_6 (by decide) ?_
    refine e_cS1 dX6_event_7 ml_6_38 (c_X6_isWithin _ _ _) rfl rfl (by decide) (Nat.le_of_ble_eq_true rfl) ⟨rfl, rfl⟩ (Nat.le_of_ble_eq_true rfl) (Nat.le_of_ble_eq_true rfl) ?_
    refine e_if_ne 16 dX6_event_10 (by decide) (fun h10 => ?_) (fun h10 => ?_)
    · obtain ⟨i, hi, rfl⟩ := nI_of h1
      obtain ⟨q, hq, rfl⟩ := wi_nI (n := 3) rfl (z1 h10)
      have hv := hV.2 i q hi (by omega) rfl rfl
      refine e_aload_n dX6_event_16 rfl rfl ?_
      refine e_getr dX6_event_17 fl_6_10 hT.a0 rfl ?_
      refine e_getr dX6_event_20 fl_6_145 hS.a0 rfl ?_
      refine e_iload_n dX6_event_23 rfl rfl ?_
      refine e_iload_n dX6_event_24 rfl rfl ?_
      refine e_cV1 dX6_event_25 ml_6_149 (c_X2_part hS he1 hee hi (by omega)) hS.a5 rfl rfl (by decide) (Nat.le_of_ble_eq_true rfl) ⟨rfl, rfl⟩ (Nat.le_of_ble_eq_true rfl) (Nat.le_of_ble_eq_true rfl) ?_
      have hval : v = if min e 40 ≤ i then -1 else hg σ ((e - min e 40 + i) % 40 * 4 + q) := by
        rw [hv, hG.1]
        by_cases hz : min e 40 ≤ i
        · rw [if_pos hz, if_pos (nI_le hz hi)]
        · rw [if_neg hz, if_neg (nI_ge (by omega) (by omega)), hG.2 i q (by omega) (by omega)]
      exact e_iret dX6_event_28 rfl (ho.trans (by rw [hval])) (Nat.le_of_ble_eq_true rfl) (Nat.le_of_ble_eq_true rfl)
    · have hv := hV.1 (fun q => z0 h10 q.2)
      refine e_bipush (v := (-2)) dX6_event_13 (by decide) ?_
      exact e_iret dX6_event_15 rfl (ho.trans (by rw [hv])) (Nat.le_of_ble_eq_true rfl) (Nat.le_of_ble_eq_true rfl)
theorem c_X6_unfairness (hT : KS S) (hR : Rel F E t σ m) : AM G_X6_unfairness [.ref 0] S (hs_put 1 σ M) J (some (.int ((rUnf m 5).2.2 - (rUnf m 5).2.1)), S, hs_put 1 σ M, J) := by
  have hS := hT.now
  obtain ⟨hw, e, c, hN, hM, hRo, hSt, hU, hL, hG⟩ := hR
  refine AM_gen (fun out ho => ?_)
  refine AM_of [.ref 0, .retAddr 0, .retAddr 0, .retAddr 0, .retAddr 0, .retAddr 0, .retAddr 0] (by decide) rfl (fun B => (Nat.le_of_ble_eq_true rfl)) ?_
  have key : ∀ (d r n : Nat) (l g : Int32) (x5 x6 : Value), r + d = 5 → rUnf m r = (n, l, g) → AW G_X6_unfairness out 0 0 9 [.ref 0, .int (nI n), .int l, .int g, .int (nI r), x5, x6] [] S (hs_put 1 σ M) J := by
    intro d
    induction d with
    | zero =>
      intro r n l g x5 x6 hrd hu
      have hr2 : r = 5 := by omega
      subst hr2
      refine e_iload dX6_unfairness_9 rfl ?_
      refine e_iconst (v := 5) dX6_unfairness_11 (by decide) ?_
      refine e_ge_t (i := 5) (N := 5) 92 dX6_unfairness_12 (by decide) rfl rfl (by omega) (by omega) ?_
      refine e_iload_n dX6_unfairness_92 rfl rfl ?_
      refine e_iload_n dX6_unfairness_93 rfl rfl ?_
      refine e_isub dX6_unfairness_94 ?_
      exact e_iret dX6_unfairness_95 rfl (ho.trans (by rw [hu])) (Nat.le_of_ble_eq_true rfl) (Nat.le_of_ble_eq_true rfl)
    | succ d ih =>
      intro r n l g x5 x6 hrd hu
      have hnr : n ≤ r := by have := rUnf_le m r; rw [hu] at this; exact this
      have hr5 : r < 5 := by omega
      obtain ⟨r0, r1, r2, r3, r4, r5, r6, r7, r8, r9, r10⟩ := hRo r hr5
      have hby := c_X4_byShare (σ := σ) (M := M) (J := J) hS hr5 (hr σ r 6 * 2520)
      rw [r1, if_pos r10] at hby
      refine e_iload dX6_unfairness_9 rfl ?_
      refine e_iconst (v := 5) dX6_unfairness_11 (by decide) ?_
      refine e_ge_f (i := r) (N := 5) 92 dX6_unfairness_12 (by decide) rfl rfl (by omega) (by omega) ?_
      refine e_aload_n dX6_unfairness_15 rfl rfl ?_
      refine e_getr dX6_unfairness_16 fl_6_10 hT.a0 rfl ?_
      refine e_getr dX6_unfairness_19 fl_6_42 hS.a0 rfl ?_
      refine e_iload dX6_unfairness_22 rfl ?_
      refine h_rm r hS dX6_unfairness_24 rfl (by first | assumption | omega) ?_
      refine e_astore dX6_unfairness_25 (by decide) rfl ?_
      refine e_aload dX6_unfairness_27 rfl ?_
      refine hr_get hS (by first | assumption | omega) dX6_unfairness_29 fl_6_126 (by decide) ?_
      refine e_if_le 86 dX6_unfairness_32 (by decide) (fun h32 => ?_) (fun h32 => ?_)
      · rw [r4] at h32
        refine e_iinc dX6_unfairness_86 rfl (ai_inc _) (by decide) rfl ?_
        refine e_goto 9 dX6_unfairness_89 (by decide) ?_
        exact ih (r + 1) n l g _ _ (by omega) (by rw [rUnf, if_neg (Int32.not_lt.mpr h32)]; exact hu)
      · rw [r4] at h32
        refine e_aload dX6_unfairness_35 rfl ?_
        refine e_aload dX6_unfairness_37 rfl ?_
        refine hr_get hS (by first | assumption | omega) dX6_unfairness_39 fl_6_132 (by decide) ?_
        refine e_sipush (v := 2520) dX6_unfairness_42 (by decide) ?_
        refine e_imul dX6_unfairness_45 ?_
        refine e_cV1 dX6_unfairness_46 ml_6_152 hby (hS.ar hr5) rfl rfl (by decide) (Nat.le_of_ble_eq_true rfl) ⟨rfl, rfl⟩ (Nat.le_of_ble_eq_true rfl) (Nat.le_of_ble_eq_true rfl) ?_
        refine e_istore dX6_unfairness_49 (by decide) rfl ?_
        rw [r6]
        generalize hx : m (85 + r) * 2520 / m (65 + r) = x
        have h75 := Int32.not_le.mp h32
        have hs : rUnf m (r + 1) = (n + 1, if n = 0 ∨ x < l then x else l, if n = 0 ∨ g < x then x else g) := by
          rw [rUnf, if_pos h75, hu, hx]
        have seg2 : ∀ l2 : Int32, l2 = (if n = 0 ∨ x < l then x else l) → AW G_X6_unfairness out 0 0 66 [.ref 0, .int (nI n), .int l, .int g, .int (nI r), .ref (1 + 20 + r), .int x] [.int l2] S (hs_put 1 σ M) J := by
          intro l2 hl2
          have fin : ∀ g2 : Int32, g2 = (if n = 0 ∨ g < x then x else g) → AW G_X6_unfairness out 0 0 82 [.ref 0, .int (nI n), .int l2, .int g, .int (nI r), .ref (1 + 20 + r), .int x] [.int g2] S (hs_put 1 σ M) J := by
            intro g2 hg2
            refine e_istore_n dX6_unfairness_82 rfl (by decide) rfl ?_
            refine e_iinc dX6_unfairness_83 rfl (ai_inc _) (by decide) rfl ?_
            refine e_iinc dX6_unfairness_86 rfl (ai_inc _) (by decide) rfl ?_
            refine e_goto 9 dX6_unfairness_89 (by decide) ?_
            exact ih (r + 1) (n + 1) l2 g2 _ _ (by omega) (by rw [hs, hl2, hg2])
          refine e_istore_n dX6_unfairness_66 rfl (by decide) rfl ?_
          refine e_iload_n dX6_unfairness_67 rfl rfl ?_
          refine e_if_ne 76 dX6_unfairness_68 (by decide) (fun h68 => ?_) (fun h68 => ?_)
          · have h0 : ¬ n = 0 := fun e => h68 (by rw [e]; rfl)
            refine e_iload_n dX6_unfairness_76 rfl rfl ?_
            refine e_iload dX6_unfairness_77 rfl ?_
            refine e_max dX6_unfairness_79 ml_6_160 (by decide) (Nat.le_of_ble_eq_true rfl) (Nat.le_of_ble_eq_true rfl) (Nat.le_of_ble_eq_true rfl) ?_
            exact fin _ (by simp only [h0, false_or])
          · have h0 : n = 0 := by
              rcases Nat.eq_zero_or_pos n with e | e
              · exact e
              · exact absurd h68 (nI_ne0 e (by omega))
            refine e_iload dX6_unfairness_71 rfl ?_
            refine e_goto 82 dX6_unfairness_73 (by decide) ?_
            exact fin x (by rw [if_pos (Or.inl h0)])
        refine e_iload_n dX6_unfairness_51 rfl rfl ?_
        refine e_if_ne 60 dX6_unfairness_52 (by decide) (fun h52 => ?_) (fun h52 => ?_)
        · have h0 : ¬ n = 0 := fun e => h52 (by rw [e]; rfl)
          refine e_iload_n dX6_unfairness_60 rfl rfl ?_
          refine e_iload dX6_unfairness_61 rfl ?_
          refine e_min dX6_unfairness_63 ml_6_155 (by decide) (Nat.le_of_ble_eq_true rfl) (Nat.le_of_ble_eq_true rfl) (Nat.le_of_ble_eq_true rfl) ?_
          exact seg2 _ (by simp only [h0, false_or])
        · have h0 : n = 0 := by
            rcases Nat.eq_zero_or_pos n with e | e
            · exact e
            · exact absurd h52 (nI_ne0 e (by omega))
          refine e_iload dX6_unfairness_55 rfl ?_
          refine e_goto 66 dX6_unfairness_57 (by decide) ?_
          exact seg2 x (by rw [if_pos (Or.inl h0)])
  refine e_iconst (v := 0) dX6_unfairness_0 (by decide) ?_
  refine e_istore_n dX6_unfairness_1 rfl (by decide) rfl ?_
  refine e_iconst (v := 0) dX6_unfairness_2 (by decide) ?_
  refine e_istore_n dX6_unfairness_3 rfl (by decide) rfl ?_
  refine e_iconst (v := 0) dX6_unfairness_4 (by decide) ?_
  refine e_istore_n dX6_unfairness_5 rfl (by decide) rfl ?_
  refine e_iconst (v := 0) dX6_unfairness_6 (by decide) ?_
  refine e_istore dX6_unfairness_7 (by decide) rfl ?_
  exact key 5 0 0 0 0 _ _ rfl rfl
theorem c_X6_count (hT : KS S) (hR : Rel F E t σ m) {κ : sc_T} {a v : Int32} (hV : rCntR m (cf κ 1) a v) : AM G_X6_count [.ref 0, .int a] S (hs_put 1 σ (sc_put 103 κ M)) J (some (.int v), S, hs_put 1 σ (sc_put 103 κ M), J) := by
  have hS := hT.now
  have hC := hT.script
  have hHW := hR.house.1
  obtain ⟨hw, e, c, hN, hM, hRo, hSt, hU, hL, hG⟩ := hR
  have he1 : he σ 1 = nI e := hN.2.2.2.1
  have hee : e < 2000000000 := by
    have h1 := hN.2.2.2.2.2.1
    have h2 := hN.2.2.2.2.2.2.1
    omega
  by_cases hin : 0 ≤ a ∧ a ≤ 14
  · obtain ⟨w, hw14, rfl⟩ := wi_nI (n := 14) rfl hin
    have hv := hV.2 w (by omega) rfl
    rcases (show w = 0 ∨ w = 1 ∨ w = 2 ∨ w = 3 ∨ w = 4 ∨ w = 5 ∨ w = 6 ∨ w = 7 ∨ w = 8 ∨ w = 9 ∨ w = 10 ∨ w = 11 ∨ w = 12 ∨ w = 13 ∨ w = 14 by omega) with rfl | rfl | rfl | rfl | rfl | rfl | rfl | rfl | rfl | rfl | rfl | rfl | rfl | rfl | rfl
    · refine AM_gen (fun out ho => ?_)
      refine AM_of [.ref 0, .int (nI 0)] (by decide) rfl (fun B => (Nat.le_of_ble_eq_true rfl)) ?_
      refine e_iload_n dX6_count_0 rfl rfl ?_
      refine e_tableIn 76 dX6_count_1 (by decide) (by decide) rfl (by decide) ?_
      refine e_aload_n dX6_count_76 rfl rfl ?_
      refine e_getr dX6_count_77 fl_6_10 hT.a0 rfl ?_
      refine hf_get hS dX6_count_80 fl_6_82 (by decide) ?_
      exact e_iret dX6_count_83 rfl (ho.trans (by rw [hv, hN.1, ← hN.2.1]; rfl)) (Nat.le_of_ble_eq_true rfl) (Nat.le_of_ble_eq_true rfl)
    · refine AM_gen (fun out ho => ?_)
      refine AM_of [.ref 0, .int (nI 1)] (by decide) rfl (fun B => (Nat.le_of_ble_eq_true rfl)) ?_
      refine e_iload_n dX6_count_0 rfl rfl ?_
      refine e_tableIn 84 dX6_count_1 (by decide) (by decide) rfl (by decide) ?_
      refine e_aload_n dX6_count_84 rfl rfl ?_
      refine e_getr dX6_count_85 fl_6_10 hT.a0 rfl ?_
      refine e_getr dX6_count_88 fl_6_59 hS.a0 rfl ?_
      refine e_iconst (v := 0) dX6_count_91 (by decide) ?_
      refine hu_ld 0 hS dX6_count_92 (ai_lit 0) (by decide) ?_
      exact e_iret dX6_count_93 rfl (ho.trans (by rw [hv, hSt.1]; rfl)) (Nat.le_of_ble_eq_true rfl) (Nat.le_of_ble_eq_true rfl)
    · refine AM_gen (fun out ho => ?_)
      refine AM_of [.ref 0, .int (nI 2)] (by decide) rfl (fun B => (Nat.le_of_ble_eq_true rfl)) ?_
      refine e_iload_n dX6_count_0 rfl rfl ?_
      refine e_tableIn 94 dX6_count_1 (by decide) (by decide) rfl (by decide) ?_
      refine e_aload_n dX6_count_94 rfl rfl ?_
      refine e_getr dX6_count_95 fl_6_10 hT.a0 rfl ?_
      refine e_getr dX6_count_98 fl_6_59 hS.a0 rfl ?_
      refine e_iconst (v := 1) dX6_count_101 (by decide) ?_
      refine hu_ld 1 hS dX6_count_102 (ai_lit 1) (by decide) ?_
      exact e_iret dX6_count_103 rfl (ho.trans (by rw [hv, hSt.2.1]; rfl)) (Nat.le_of_ble_eq_true rfl) (Nat.le_of_ble_eq_true rfl)
    · refine AM_gen (fun out ho => ?_)
      refine AM_of [.ref 0, .int (nI 3)] (by decide) rfl (fun B => (Nat.le_of_ble_eq_true rfl)) ?_
      refine e_iload_n dX6_count_0 rfl rfl ?_
      refine e_tableIn 104 dX6_count_1 (by decide) (by decide) rfl (by decide) ?_
      refine e_aload_n dX6_count_104 rfl rfl ?_
      refine e_getr dX6_count_105 fl_6_10 hT.a0 rfl ?_
      refine e_getr dX6_count_108 fl_6_59 hS.a0 rfl ?_
      refine e_iconst (v := 2) dX6_count_111 (by decide) ?_
      refine hu_ld 2 hS dX6_count_112 (ai_lit 2) (by decide) ?_
      exact e_iret dX6_count_113 rfl (ho.trans (by rw [hv, hSt.2.2.1]; rfl)) (Nat.le_of_ble_eq_true rfl) (Nat.le_of_ble_eq_true rfl)
    · refine AM_gen (fun out ho => ?_)
      refine AM_of [.ref 0, .int (nI 4)] (by decide) rfl (fun B => (Nat.le_of_ble_eq_true rfl)) ?_
      refine e_iload_n dX6_count_0 rfl rfl ?_
      refine e_tableIn 114 dX6_count_1 (by decide) (by decide) rfl (by decide) ?_
      refine e_aload_n dX6_count_114 rfl rfl ?_
      refine e_getr dX6_count_115 fl_6_10 hT.a0 rfl ?_
      refine hf_get hS dX6_count_118 fl_6_198 (by decide) ?_
      exact e_iret dX6_count_121 rfl (ho.trans (by rw [hv, hU.1]; rfl)) (Nat.le_of_ble_eq_true rfl) (Nat.le_of_ble_eq_true rfl)
    · have hv5 : v = hf σ 9 := by rw [hv, hU.2.2.1]; rfl
      have h01 : hf σ 9 = 0 ∨ hf σ 9 = 1 := by
        rw [hU.2.2.1]
        split
        · exact Or.inl rfl
        · exact hU.2.2.2.2
      refine AM_gen (fun out ho => ?_)
      refine AM_of [.ref 0, .int (nI 5)] (by decide) rfl (fun B => (Nat.le_of_ble_eq_true rfl)) ?_
      refine e_iload_n dX6_count_0 rfl rfl ?_
      refine e_tableIn 122 dX6_count_1 (by decide) (by decide) rfl (by decide) ?_
      refine e_aload_n dX6_count_122 rfl rfl ?_
      refine e_getr dX6_count_123 fl_6_10 hT.a0 rfl ?_
      refine hf_get hS dX6_count_126 fl_6_201 (by decide) ?_
      refine e_if_eq 136 dX6_count_129 (by decide) (fun h129 => ?_) (fun h129 => ?_)
      · refine e_iconst (v := 0) dX6_count_136 (by decide) ?_
        exact e_iret dX6_count_137 rfl (ho.trans (by rw [hv5, h129])) (Nat.le_of_ble_eq_true rfl) (Nat.le_of_ble_eq_true rfl)
      · refine e_iconst (v := 1) dX6_count_132 (by decide) ?_
        refine e_goto 137 dX6_count_133 (by decide) ?_
        exact e_iret dX6_count_137 rfl (ho.trans (by rw [hv5, h01.resolve_left h129])) (Nat.le_of_ble_eq_true rfl) (Nat.le_of_ble_eq_true rfl)
    · refine AM_gen (fun out ho => ?_)
      refine AM_of [.ref 0, .int (nI 6)] (by decide) rfl (fun B => (Nat.le_of_ble_eq_true rfl)) ?_
      refine e_iload_n dX6_count_0 rfl rfl ?_
      refine e_tableIn 138 dX6_count_1 (by decide) (by decide) rfl (by decide) ?_
      refine e_aload_n dX6_count_138 rfl rfl ?_
      refine e_getr dX6_count_139 fl_6_10 hT.a0 rfl ?_
      refine hf_get hS dX6_count_142 fl_6_205 (by decide) ?_
      exact e_iret dX6_count_145 rfl (ho.trans (by rw [hv, hU.2.2.2.1]; rfl)) (Nat.le_of_ble_eq_true rfl) (Nat.le_of_ble_eq_true rfl)
    · refine AM_gen (fun out ho => ?_)
      refine AM_of [.ref 0, .int (nI 7)] (by decide) rfl (fun B => (Nat.le_of_ble_eq_true rfl)) ?_
      refine e_iload_n dX6_count_0 rfl rfl ?_
      refine e_tableIn 146 dX6_count_1 (by decide) (by decide) rfl (by decide) ?_
      refine e_aload_n dX6_count_146 rfl rfl ?_
      refine e_getr dX6_count_147 fl_6_10 hT.a0 rfl ?_
      refine hf_get hS dX6_count_150 fl_6_206 (by decide) ?_
      exact e_iret dX6_count_153 rfl (ho.trans (by rw [hv, hSt.2.2.2.1]; rfl)) (Nat.le_of_ble_eq_true rfl) (Nat.le_of_ble_eq_true rfl)
    · refine AM_gen (fun out ho => ?_)
      refine AM_of [.ref 0, .int (nI 8)] (by decide) rfl (fun B => (Nat.le_of_ble_eq_true rfl)) ?_
      refine e_iload_n dX6_count_0 rfl rfl ?_
      refine e_tableIn 154 dX6_count_1 (by decide) (by decide) rfl (by decide) ?_
      refine e_aload_n dX6_count_154 rfl rfl ?_
      refine e_getr dX6_count_155 fl_6_10 hT.a0 rfl ?_
      refine e_getr dX6_count_158 fl_6_209 hS.a0 rfl ?_
      refine hn_get hS dX6_count_161 fl_6_213 (by decide) ?_
      exact e_iret dX6_count_164 rfl (ho.trans (by rw [hv, hL.2.1, line_len (t := t) (c := c) hL]; rfl)) (Nat.le_of_ble_eq_true rfl) (Nat.le_of_ble_eq_true rfl)
    · refine AM_gen (fun out ho => ?_)
      refine AM_of [.ref 0, .int (nI 9)] (by decide) rfl (fun B => (Nat.le_of_ble_eq_true rfl)) ?_
      refine e_iload_n dX6_count_0 rfl rfl ?_
      refine e_tableIn 165 dX6_count_1 (by decide) (by decide) rfl (by decide) ?_
      refine e_aload_n dX6_count_165 rfl rfl ?_
      refine e_getr dX6_count_166 fl_6_10 hT.a0 rfl ?_
      refine e_cV1 dX6_count_169 ml_6_216 (c_X0_countImpatient hS hHW) hS.a0 rfl rfl (by decide) (Nat.le_of_ble_eq_true rfl) ⟨rfl, rfl⟩ (Nat.le_of_ble_eq_true rfl) (Nat.le_of_ble_eq_true rfl) ?_
      exact e_iret dX6_count_172 rfl (ho.trans (by rw [hv, line_imp hN hM hSt hL]; rfl)) (Nat.le_of_ble_eq_true rfl) (Nat.le_of_ble_eq_true rfl)
    · have hcc : fb_ct (fun k => decide (hm σ k 0 = 3)) 12 = fb_ct (fun k => decide (m k = 3)) 12 := fb_ct_cong (fun k hk => by rw [(hM k hk).1.1])
      refine AM_gen (fun out ho => ?_)
      refine AM_of [.ref 0, .int (nI 10)] (by decide) rfl (fun B => (Nat.le_of_ble_eq_true rfl)) ?_
      refine e_iload_n dX6_count_0 rfl rfl ?_
      refine e_tableIn 173 dX6_count_1 (by decide) (by decide) rfl (by decide) ?_
      refine e_aload_n dX6_count_173 rfl rfl ?_
      refine e_getr dX6_count_174 fl_6_10 hT.a0 rfl ?_
      refine e_cV1 dX6_count_177 ml_6_219 (c_X0_countCollapsed hS) hS.a0 rfl rfl (by decide) (Nat.le_of_ble_eq_true rfl) ⟨rfl, rfl⟩ (Nat.le_of_ble_eq_true rfl) (Nat.le_of_ble_eq_true rfl) ?_
      exact e_iret dX6_count_180 rfl (ho.trans (by rw [hv, hcc]; rfl)) (Nat.le_of_ble_eq_true rfl) (Nat.le_of_ble_eq_true rfl)
    · refine AM_gen (fun out ho => ?_)
      refine AM_of [.ref 0, .int (nI 11)] (by decide) rfl (fun B => (Nat.le_of_ble_eq_true rfl)) ?_
      refine e_iload_n dX6_count_0 rfl rfl ?_
      refine e_tableIn 181 dX6_count_1 (by decide) (by decide) rfl (by decide) ?_
      refine e_aload_n dX6_count_181 rfl rfl ?_
      refine e_getr dX6_count_182 fl_6_10 hT.a0 rfl ?_
      refine e_getr dX6_count_185 fl_6_145 hS.a0 rfl ?_
      refine e_cV1 dX6_count_188 ml_6_222 (c_X2_kept hS he1 hee) hS.a5 rfl rfl (by decide) (Nat.le_of_ble_eq_true rfl) ⟨rfl, rfl⟩ (Nat.le_of_ble_eq_true rfl) (Nat.le_of_ble_eq_true rfl) ?_
      exact e_iret dX6_count_191 rfl (ho.trans (by rw [hv, ← hG.1]; rfl)) (Nat.le_of_ble_eq_true rfl) (Nat.le_of_ble_eq_true rfl)
    · refine AM_gen (fun out ho => ?_)
      refine AM_of [.ref 0, .int (nI 12)] (by decide) rfl (fun B => (Nat.le_of_ble_eq_true rfl)) ?_
      refine e_iload_n dX6_count_0 rfl rfl ?_
      refine e_tableIn 192 dX6_count_1 (by decide) (by decide) rfl (by decide) ?_
      refine e_aload_n dX6_count_192 rfl rfl ?_
      refine e_getr dX6_count_193 fl_6_10 hT.a0 rfl ?_
      refine e_getr dX6_count_196 fl_6_145 hS.a0 rfl ?_
      refine he_get hS dX6_count_199 fl_6_225 (by decide) ?_
      exact e_iret dX6_count_202 rfl (ho.trans (by rw [hv, he1, ← hN.2.2.2.2.1]; rfl)) (Nat.le_of_ble_eq_true rfl) (Nat.le_of_ble_eq_true rfl)
    · rw [hs_sc (by decide)]
      refine AM_gen (fun out ho => ?_)
      refine AM_of [.ref 0, .int (nI 13)] (by decide) rfl (fun B => (Nat.le_of_ble_eq_true rfl)) ?_
      refine e_iload_n dX6_count_0 rfl rfl ?_
      refine e_tableIn 203 dX6_count_1 (by decide) (by decide) rfl (by decide) ?_
      refine e_aload_n dX6_count_203 rfl rfl ?_
      refine e_getr dX6_count_204 fl_6_30 hT.a0 rfl ?_
      refine cf_get hC dX6_count_207 fl_6_175 (by decide) ?_
      exact e_iret dX6_count_210 rfl (ho.trans (by rw [hv]; rfl)) (Nat.le_of_ble_eq_true rfl) (Nat.le_of_ble_eq_true rfl)
    · refine AM_gen (fun out ho => ?_)
      refine AM_of [.ref 0, .int (nI 14)] (by decide) rfl (fun B => (Nat.le_of_ble_eq_true rfl)) ?_
      refine e_iload_n dX6_count_0 rfl rfl ?_
      refine e_tableIn 211 dX6_count_1 (by decide) (by decide) rfl (by decide) ?_
      refine e_aload_n dX6_count_211 rfl rfl ?_
      refine e_getr dX6_count_212 fl_6_10 hT.a0 rfl ?_
      refine hf_get hS dX6_count_215 fl_6_197 (by decide) ?_
      exact e_iret dX6_count_218 rfl (ho.trans (by rw [hv, hSt.2.2.2.2.1]; rfl)) (Nat.le_of_ble_eq_true rfl) (Nat.le_of_ble_eq_true rfl)
  · have hv := hV.1 hin
    refine AM_gen (fun out ho => ?_)
    refine AM_of [.ref 0, .int a] (by decide) rfl (fun B => (Nat.le_of_ble_eq_true rfl)) ?_
    refine e_iload_n dX6_count_0 rfl rfl ?_
    refine e_tableOut 219 dX6_count_1 ?_ (by decide) ?_
    · by_cases h0 : 0 ≤ a
      · right
        have h1 : ¬ a ≤ 14 := fun z => hin ⟨h0, z⟩
        have h2 := Int32.lt_iff_toInt_lt.mp (Int32.not_le.mp h1)
        exact h2
      · left
        have h2 := Int32.lt_iff_toInt_lt.mp (Int32.not_le.mp h0)
        exact h2
    · refine e_bipush (v := (-2)) dX6_count_219 (by decide) ?_
      exact e_iret dX6_count_221 rfl (ho.trans (by rw [hv])) (Nat.le_of_ble_eq_true rfl) (Nat.le_of_ble_eq_true rfl)
end C62

