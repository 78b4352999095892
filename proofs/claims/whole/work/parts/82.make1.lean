/-! ===== constructors: cells S0 ++ L, memory a block at h ===== -/
abbrev ZJ : Nat → Int64 := fun _ => 0
theorem app_get {S0 L : List aiS} {h i : Nat} (hh : S0.length = h) : (S0 ++ L)[h + i]? = L[i]? := by
  rw [List.getElem?_append_right (by omega), show h + i - S0.length = i by omega]
theorem app_set {S0 L : List aiS} {h i : Nat} (x : aiS) (hh : S0.length = h) : (S0 ++ L).set (h + i) x = S0 ++ L.set i x := by
  rw [List.set_append_right _ _ (by omega), show h + i - S0.length = i by omega]
theorem ai_zl_id (a : Nat) : ai_zl ZJ a = ZJ := by
  funext b
  show (if b = a then (0 : Int64) else 0) = 0
  split <;> rfl
theorem ai_z_id {M : Nat → Nat → Int32} {a : Nat} (h : M a = fun _ => 0) : ai_z M a = M := by
  funext b
  show (if b = a then (fun _ => 0) else M b) = M b
  by_cases e : b = a
  · rw [if_pos e, e, h]
  · rw [if_neg e]
theorem ai_u_id {V : Nat → Nat → Int32} {i j : Nat} {x : Int32} (h : V i j = x) : ai_u V i j x = V := by
  funext b
  by_cases e : b = i
  · subst e
    rw [ai_u_at, ← h]
    funext q
    by_cases e2 : q = j
    · rw [e2, upd_same]
    · rw [upd_ne _ _ e2]
  · rw [ai_u_ne _ _ _ e]
theorem bput_same {h N : Nat} {M : Nat → Nat → Int32} (hz : ∀ a, h ≤ a → M a = fun _ => 0) : bput h N (fun _ _ => 0) M = M := by
  funext a
  by_cases hb : h ≤ a ∧ a < h + N
  · simp only [bput, hb, and_self, if_true]
    exact (hz a hb.1).symm
  · simp only [bput, hb, if_false]
theorem bput_cong {h N : Nat} {V V' : Nat → Nat → Int32} (M : Nat → Nat → Int32) (hV : ∀ o, o < N → V o = V' o) : bput h N V M = bput h N V' M := by
  funext a
  by_cases hb : h ≤ a ∧ a < h + N
  · simp only [bput, hb, and_self, if_true]
    exact hV _ (by omega)
  · simp only [bput, hb, if_false]
section AIK
variable {G : aiG} {out : aiR} {k n pc h N l i : Nat} {Lc st : List Value} {S0 L : List aiS} {V M : Nat → Nat → Int32}
theorem k_new {ix ci : Nat} (hd : decode (gB G) pc = .ok (.new ix, 3)) (hw : ai_nw (gY G).cls ix ci) (hk : k + 1 ≤ gMC G) (hn : n + ai_N ci ≤ gMS G) (hh : S0.length = h) (hl : L.length = l) (hlN : l < N) (hV : V l = fun _ => 0) (h1 : AW G out (k + 1) (n + ai_N ci) (pc + 3) Lc (.ref (h + l) :: st) (S0 ++ (L ++ [(ci, 0, List.replicate (ai_N ci) .null)])) (bput h N V M) ZJ) : AW G out k n pc Lc st (S0 ++ L) (bput h N V M) ZJ := by
  have e : (S0 ++ L).length = h + l := by rw [List.length_append, hh, hl]
  refine e_new hd hw hk hn ?_
  rw [e, ai_zl_id, ai_z_id (by rw [bput_at _ _ hlN]; exact hV), List.append_assoc]
  exact h1
theorem k_newarr {kd len : Nat} {at' : ArrayType} {z : Int32} (hd : decode (gB G) pc = .ok (.newarray at', 2)) (hat : (kd = 8 ∧ at' = .int) ∨ (kd = 9 ∧ at' = .boolean)) (hw : Cond.arrayClass (newarray.typeOf at') ∈ ai_T) (hzl : z = nI len) (h31 : len < 65536) (hk : k + 1 ≤ gMC G) (hn : n + len ≤ gMS G) (hh : S0.length = h) (hl : L.length = l) (hlN : l < N) (hV : V l = fun _ => 0) (h1 : AW G out (k + 1) (n + len) (pc + 2) Lc (.ref (h + l) :: st) (S0 ++ (L ++ [(kd, len, [])])) (bput h N V M) ZJ) : AW G out k n pc Lc (.int z :: st) (S0 ++ L) (bput h N V M) ZJ := by
  have e : (S0 ++ L).length = h + l := by rw [List.length_append, hh, hl]
  refine e_newarr hd hat hw hzl h31 hk hn ?_
  rw [e, ai_zl_id, ai_z_id (by rw [bput_at _ _ hlN]; exact hV), List.append_assoc]
  exact h1
theorem k_anew {ix kd len : Nat} {Cn : String} {z : Int32} (hd : decode (gB G) pc = .ok (.anewarray ix, 3)) (hkd : (kd = 10 ∧ Cn = RX0) ∨ (kd = 11 ∧ Cn = RX3) ∨ (kd = 12 ∧ Cn = RX4)) (hw : Cond.classLink (gY G).cls ix Cn ∈ ai_T ∧ ∀ U, ai_X U → va_AO Cn U) (hzl : z = nI len) (h31 : len < 65536) (hk : k + 1 ≤ gMC G) (hn : n + len ≤ gMS G) (hh : S0.length = h) (hl : L.length = l) (hlN : l < N) (hV : V l = fun _ => 0) (h1 : AW G out (k + 1) (n + len) (pc + 3) Lc (.ref (h + l) :: st) (S0 ++ (L ++ [(kd, len, List.replicate len .null)])) (bput h N V M) ZJ) : AW G out k n pc Lc (.int z :: st) (S0 ++ L) (bput h N V M) ZJ := by
  have e : (S0 ++ L).length = h + l := by rw [List.length_append, hh, hl]
  refine e_anew hd hkd hw hzl h31 hk hn ?_
  rw [e, ai_zl_id, ai_z_id (by rw [bput_at _ _ hlN]; exact hV), List.append_assoc]
  exact h1
theorem k_putF {ix ci j len b : Nat} {refs : List Value} (hd : decode (gB G) pc = .ok (.putfield ix, 3)) (hf : ai_fl (gY G).cls ix ci j 2 true) (hnm' : (gY G).name = "<init>") (hown : ∃ q : vw_C, vwCl[ci]? = some q ∧ q.1 = (gY G).cls) (hh : S0.length = h) (hs : L[i]? = some (ci, len, refs)) (hrl : j < refs.length) (h1 : AW G out k n (pc + 3) Lc st (S0 ++ L.set i (ci, len, refs.set j (.ref b))) M ZJ) : AW G out k n pc Lc (.ref b :: .ref (h + i) :: st) (S0 ++ L) M ZJ := by
  refine e_putF hd hf hnm' hown ((app_get hh).trans hs) hrl ?_
  rw [app_set _ hh]
  exact h1
theorem k_puti {ix ci j len : Nat} {refs : List Value} {x : Int32} (hd : decode (gB G) pc = .ok (.putfield ix, 3)) (hf : ai_fl (gY G).cls ix ci j 0 false) (hh : S0.length = h) (hs : L[i]? = some (ci, len, refs)) (hi : i < N) (h1 : AW G out k n (pc + 3) Lc st (S0 ++ L) (bput h N (ai_u V i j x) M) ZJ) : AW G out k n pc Lc (.int x :: .ref (h + i) :: st) (S0 ++ L) (bput h N V M) ZJ := by
  refine e_puti hd hf ((app_get hh).trans hs) ?_
  rw [bput_u _ _ hi]
  exact h1
theorem k_put0 {ix ci j len : Nat} {refs : List Value} {x : Int32} (hd : decode (gB G) pc = .ok (.putfield ix, 3)) (hf : ai_fl (gY G).cls ix ci j 0 false) (hh : S0.length = h) (hs : L[i]? = some (ci, len, refs)) (hi : i < N) (hV : V i j = x) (h1 : AW G out k n (pc + 3) Lc st (S0 ++ L) (bput h N V M) ZJ) : AW G out k n pc Lc (.int x :: .ref (h + i) :: st) (S0 ++ L) (bput h N V M) ZJ := by
  refine k_puti hd hf hh hs hi ?_
  rw [ai_u_id hV]
  exact h1
theorem k_putz {ix ci j len : Nat} {refs : List Value} {x : Int32} (hd : decode (gB G) pc = .ok (.putfield ix, 3)) (hf : ai_fl (gY G).cls ix ci j 1 false) (hi : i < N) (hh : S0.length = h) (hs : L[i]? = some (ci, len, refs)) (hV : V i j = 0) (h1 : AW G out k n (pc + 3) Lc st (S0 ++ L) (bput h N V M) ZJ) (hx : x = 0 := by rfl) : AW G out k n pc Lc (.int x :: .ref (h + i) :: st) (S0 ++ L) (bput h N V M) ZJ := by
  subst hx
  refine e_putz hd hf (Or.inl rfl) ((app_get hh).trans hs) ?_
  rw [bput_u _ _ hi, ai_u_id hV]
  exact h1
theorem k_iast {len : Nat} {refs : List Value} {q x : Int32} (j : Nat) (hd : decode (gB G) pc = .ok (.iastore, 1)) (hh : S0.length = h) (hs : L[i]? = some (8, len, refs)) (hq : q = nI j) (hj : j < len) (hlen : len < 2 ^ 31) (hi : i < N) (h1 : AW G out k n (pc + 1) Lc st (S0 ++ L) (bput h N (ai_u V i j x) M) ZJ) : AW G out k n pc Lc (.int x :: .int q :: .ref (h + i) :: st) (S0 ++ L) (bput h N V M) ZJ := by
  refine e_iast j hd ((app_get hh).trans hs) hq hj hlen ?_
  rw [bput_u _ _ hi]
  exact h1
theorem k_aast {i2 kd ci len lb : Nat} {refs rb : List Value} {q : Int32} (j : Nat) (hd : decode (gB G) pc = .ok (.aastore, 1)) (hh : S0.length = h) (hs : L[i]? = some (kd, len, refs)) (hb : L[i2]? = some (ci, lb, rb)) (hkd : (kd = 10 ∧ ci = 0) ∨ (kd = 11 ∧ ci = 3) ∨ (kd = 12 ∧ ci = 4)) (hq : q = nI j) (hj : j < len) (hlen : len < 2 ^ 31) (hrl : j < refs.length) (h1 : AW G out k n (pc + 1) Lc st (S0 ++ L.set i (kd, len, refs.set j (.ref (h + i2)))) M ZJ) : AW G out k n pc Lc (.ref (h + i2) :: .int q :: .ref (h + i) :: st) (S0 ++ L) M ZJ := by
  refine e_aast j hd ((app_get hh).trans hs) ((app_get hh).trans hb) hkd hq hj hlen hrl ?_
  rw [app_set _ hh]
  exact h1
end AIK
section C82
variable {h N l i : Nat} {S0 L : List aiS} {V M : Nat → Nat → Int32}
theorem c_X1_init (hh : S0.length = h) (hi : L[i]? = some (1, 0, [.null, .null])) (hl : L.length = l) (hlN : l < N) (hil : i < l) (hV : V l = fun _ => 0) (hVi : V i = fun _ => 0) : AM G_X1_init [.ref (h + i)] (S0 ++ L) (bput h N V M) ZJ (none, S0 ++ (L ++ [(8, 12, [])]).set i (1, 0, [.ref (h + l), .null]), bput h N V M, ZJ) := by
  have hi2 : (L ++ [(8, 12, ([] : List Value))])[i]? = some (1, 0, [.null, .null]) := by rw [List.getElem?_append_left (by omega)]; exact hi
  have hi3 : ((L ++ [(8, 12, ([] : List Value))]).set i (1, 0, [.ref (h + l), .null]))[i]? = some (1, 0, [.ref (h + l), .null]) := List.getElem?_set_self (by rw [List.length_append]; omega)
  have hV1 : V i 1 = 0 := by rw [hVi]
  refine AM_gen (fun out ho => ?_)
  refine AM_of [.ref (h + i)] (by decide) rfl (fun B => (Nat.le_of_ble_eq_true rfl)) ?_
  refine e_aload_n dX1_init_0 rfl rfl ?_
  refine e_obj dX1_init_1 ml_1_3 (by decide) (Nat.le_of_ble_eq_true rfl) (Nat.le_of_ble_eq_true rfl) (Nat.le_of_ble_eq_true rfl) ?_
  refine e_aload_n dX1_init_4 rfl rfl ?_
  refine e_bipush (v := 12) dX1_init_5 (by decide) ?_
  refine k_newarr dX1_init_7 (Or.inl ⟨rfl, rfl⟩) aw_int (ai_lit 12) (by decide) (Nat.le_of_ble_eq_true rfl) (Nat.le_of_ble_eq_true rfl) hh hl hlN hV ?_
  refine k_putF (i := i) dX1_init_9 fl_1_9 rfl ⟨_, rfl, rfl⟩ hh hi2 (by decide) ?_
  refine e_aload_n dX1_init_12 rfl rfl ?_
  refine e_iconst (v := 0) dX1_init_13 (by decide) ?_
  refine k_put0 (i := i) dX1_init_14 fl_1_15 hh hi3 (by omega) hV1 ?_
  exact e_vret dX1_init_17 rfl ho (Nat.le_of_ble_eq_true rfl) (Nat.le_of_ble_eq_true rfl)
theorem c_X2_init (hh : S0.length = h) (hi : L[i]? = some (2, 0, [.null, .null])) (hl : L.length = l) (hlN : l < N) (hil : i < l) (hV : V l = fun _ => 0) (hVi : V i = fun _ => 0) : AM G_X2_init [.ref (h + i)] (S0 ++ L) (bput h N V M) ZJ (none, S0 ++ (L ++ [(8, 160, [])]).set i (2, 0, [.ref (h + l), .null]), bput h N V M, ZJ) := by
  have hi2 : (L ++ [(8, 160, ([] : List Value))])[i]? = some (2, 0, [.null, .null]) := by rw [List.getElem?_append_left (by omega)]; exact hi
  have hi3 : ((L ++ [(8, 160, ([] : List Value))]).set i (2, 0, [.ref (h + l), .null]))[i]? = some (2, 0, [.ref (h + l), .null]) := List.getElem?_set_self (by rw [List.length_append]; omega)
  have hV1 : V i 1 = 0 := by rw [hVi]
  refine AM_gen (fun out ho => ?_)
  refine AM_of [.ref (h + i)] (by decide) rfl (fun B => (Nat.le_of_ble_eq_true rfl)) ?_
  refine e_aload_n dX2_init_0 rfl rfl ?_
  refine e_obj dX2_init_1 ml_2_3 (by decide) (Nat.le_of_ble_eq_true rfl) (Nat.le_of_ble_eq_true rfl) (Nat.le_of_ble_eq_true rfl) ?_
  refine e_aload_n dX2_init_4 rfl rfl ?_
  refine e_sipush (v := 160) dX2_init_5 (by decide) ?_
  refine k_newarr dX2_init_8 (Or.inl ⟨rfl, rfl⟩) aw_int (ai_lit 160) (by decide) (Nat.le_of_ble_eq_true rfl) (Nat.le_of_ble_eq_true rfl) hh hl hlN hV ?_
  refine k_putF (i := i) dX2_init_10 fl_2_11 rfl ⟨_, rfl, rfl⟩ hh hi2 (by decide) ?_
  refine e_aload_n dX2_init_13 rfl rfl ?_
  refine e_iconst (v := 0) dX2_init_14 (by decide) ?_
  refine k_put0 (i := i) dX2_init_15 fl_2_15 hh hi3 (by omega) hV1 ?_
  exact e_vret dX2_init_18 rfl ho (Nat.le_of_ble_eq_true rfl) (Nat.le_of_ble_eq_true rfl)
theorem c_X3_init (hh : S0.length = h) (hi : L[i]? = some (3, 0, [.null, .null, .null, .null])) (hiN : i < N) (hVi : V i = fun _ => 0) : AM G_X3_init [.ref (h + i)] (S0 ++ L) (bput h N V M) ZJ (none, S0 ++ L, bput h N (ai_u (ai_u V i 1 (-1)) i 2 (-1)) M, ZJ) := by
  have v0 : V i 0 = 0 := by rw [hVi]
  have v3 : ai_u (ai_u V i 1 (-1)) i 2 (-1) i 3 = 0 := by rw [ai_u_at, ai_u_at, hVi]; rfl
  refine AM_gen (fun out ho => ?_)
  refine AM_of [.ref (h + i)] (by decide) rfl (fun B => (Nat.le_of_ble_eq_true rfl)) ?_
  refine e_aload_n dX3_init_0 rfl rfl ?_
  refine e_obj dX3_init_1 ml_3_3 (by decide) (Nat.le_of_ble_eq_true rfl) (Nat.le_of_ble_eq_true rfl) (Nat.le_of_ble_eq_true rfl) ?_
  refine e_aload_n dX3_init_4 rfl rfl ?_
  refine e_iconst (v := 0) dX3_init_5 (by decide) ?_
  refine k_put0 (i := i) dX3_init_6 fl_3_9 hh hi hiN v0 ?_
  refine e_aload_n dX3_init_9 rfl rfl ?_
  refine e_iconst (v := (-1)) dX3_init_10 (by decide) ?_
  refine k_puti (i := i) dX3_init_11 fl_3_15 hh hi hiN ?_
  refine e_aload_n dX3_init_14 rfl rfl ?_
  refine e_iconst (v := (-1)) dX3_init_15 (by decide) ?_
  refine k_puti (i := i) dX3_init_16 fl_3_18 hh hi hiN ?_
  refine e_aload_n dX3_init_19 rfl rfl ?_
  refine e_iconst (v := 0) dX3_init_20 (by decide) ?_
  refine k_put0 (i := i) dX3_init_21 fl_3_21 hh hi hiN v3 ?_
  exact e_vret dX3_init_24 rfl ho (Nat.le_of_ble_eq_true rfl) (Nat.le_of_ble_eq_true rfl)
theorem c_X4_init (hh : S0.length = h) (hi : L[i]? = some (4, 0, [.null, .null, .null, .null, .null, .null, .null, .null, .null])) (hiN : i < N) (hVi : V i = fun _ => 0) : AM G_X4_init [.ref (h + i)] (S0 ++ L) (bput h N V M) ZJ (none, S0 ++ L, bput h N (ai_u (ai_u V i 0 3) i 1 1) M, ZJ) := by
  have v3 : ∀ j, 2 ≤ j → ai_u (ai_u V i 0 3) i 1 1 i j = 0 := by
    intro j hj
    rw [ai_u_at, ai_u_at, hVi, upd_ne _ _ (by omega), upd_ne _ _ (by omega)]
  refine AM_gen (fun out ho => ?_)
  refine AM_of [.ref (h + i)] (by decide) rfl (fun B => (Nat.le_of_ble_eq_true rfl)) ?_
  refine e_aload_n dX4_init_0 rfl rfl ?_
  refine e_obj dX4_init_1 ml_4_1 (by decide) (Nat.le_of_ble_eq_true rfl) (Nat.le_of_ble_eq_true rfl) (Nat.le_of_ble_eq_true rfl) ?_
  refine e_aload_n dX4_init_4 rfl rfl ?_
  refine e_iconst (v := 3) dX4_init_5 (by decide) ?_
  refine k_puti (i := i) dX4_init_6 fl_4_7 hh hi hiN ?_
  refine e_aload_n dX4_init_9 rfl rfl ?_
  refine e_iconst (v := 1) dX4_init_10 (by decide) ?_
  refine k_puti (i := i) dX4_init_11 fl_4_13 hh hi hiN ?_
  refine e_aload_n dX4_init_14 rfl rfl ?_
  refine e_iconst (v := 0) dX4_init_15 (by decide) ?_
  refine k_put0 (i := i) dX4_init_16 fl_4_16 hh hi hiN (v3 _ (by decide)) ?_
  refine e_aload_n dX4_init_19 rfl rfl ?_
  refine e_iconst (v := 0) dX4_init_20 (by decide) ?_
  refine k_put0 (i := i) dX4_init_21 fl_4_19 hh hi hiN (v3 _ (by decide)) ?_
  refine e_aload_n dX4_init_24 rfl rfl ?_
  refine e_iconst (v := 0) dX4_init_25 (by decide) ?_
  refine k_put0 (i := i) dX4_init_26 fl_4_22 hh hi hiN (v3 _ (by decide)) ?_
  refine e_aload_n dX4_init_29 rfl rfl ?_
  refine e_iconst (v := 0) dX4_init_30 (by decide) ?_
  refine k_put0 (i := i) dX4_init_31 fl_4_25 hh hi hiN (v3 _ (by decide)) ?_
  refine e_aload_n dX4_init_34 rfl rfl ?_
  refine e_iconst (v := 0) dX4_init_35 (by decide) ?_
  refine k_put0 (i := i) dX4_init_36 fl_4_28 hh hi hiN (v3 _ (by decide)) ?_
  refine e_aload_n dX4_init_39 rfl rfl ?_
  refine e_iconst (v := 0) dX4_init_40 (by decide) ?_
  refine k_put0 (i := i) dX4_init_41 fl_4_31 hh hi hiN (v3 _ (by decide)) ?_
  refine e_aload_n dX4_init_44 rfl rfl ?_
  refine e_iconst (v := 0) dX4_init_45 (by decide) ?_
  refine k_put0 (i := i) dX4_init_46 fl_4_34 hh hi hiN (v3 _ (by decide)) ?_
  exact e_vret dX4_init_49 rfl ho (Nat.le_of_ble_eq_true rfl) (Nat.le_of_ble_eq_true rfl)
end C82

