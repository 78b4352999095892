/-! ===== constructors: a house, the script ===== -/
abbrev cM0 : Nat → Int32 := upd (upd (fun _ => 0) 1 (-1)) 2 (-1)
abbrev cR0 : Nat → Int32 := upd (upd (fun _ => 0) 0 3) 1 1
def σ0 : hs_T := (fun _ => cM0, fun _ => cR0, upd (fun _ => 0) 8 (-1), fun _ => 0, fun _ => 0, fun _ => 0, fun _ => 0, upd (upd (upd (fun _ => 0) 0 20) 1 5) 2 10)
def V2 : Nat → Nat → Int32 := ai_u (ai_u (ai_u (ai_u (fun _ _ => 0) 7 0 20) 7 1 5) 7 2 10) 0 8 (-1)
def VM (i : Nat) : Nat → Nat → Int32 := fun o => if 8 ≤ o ∧ o < 8 + i then cM0 else V2 o
def VR (i : Nat) : Nat → Nat → Int32 := fun o => if 20 ≤ o ∧ o < 20 + i then cR0 else VM 12 o
theorem V2_hi {o : Nat} (h : 8 ≤ o) : V2 o = fun _ => 0 := by
  rw [V2, ai_u_ne _ _ _ (by omega), ai_u_ne _ _ _ (by omega), ai_u_ne _ _ _ (by omega), ai_u_ne _ _ _ (by omega)]
theorem VM_0 : VM 0 = V2 := by
  funext o
  rw [VM, if_neg (by omega)]
theorem VM_at {i o : Nat} (h : 8 + i ≤ o) : VM i o = fun _ => 0 := by
  rw [VM, if_neg (by omega)]
  exact V2_hi (by omega)
theorem VM_s (i : Nat) : ai_u (ai_u (VM i) (8 + i) 1 (-1)) (8 + i) 2 (-1) = VM (i + 1) := by
  funext o
  by_cases h : o = 8 + i
  · subst h
    rw [ai_u_at, ai_u_at, VM_at (Nat.le_refl _), VM, if_pos ⟨by omega, by omega⟩]
  · rw [ai_u_ne _ _ _ h, ai_u_ne _ _ _ h, VM, VM]
    by_cases h2 : 8 ≤ o ∧ o < 8 + i
    · rw [if_pos h2, if_pos ⟨h2.1, by omega⟩]
    · rw [if_neg h2, if_neg (by omega)]
theorem VR_0 : VR 0 = VM 12 := by
  funext o
  rw [VR, if_neg (by omega)]
theorem VR_at {i o : Nat} (h : 20 + i ≤ o) : VR i o = fun _ => 0 := by
  rw [VR, if_neg (by omega)]
  exact VM_at (by omega)
theorem VR_s (i : Nat) : ai_u (ai_u (VR i) (20 + i) 0 3) (20 + i) 1 1 = VR (i + 1) := by
  funext o
  by_cases h : o = 20 + i
  · subst h
    rw [ai_u_at, ai_u_at, VR_at (Nat.le_refl _), VR, if_pos ⟨by omega, by omega⟩]
  · rw [ai_u_ne _ _ _ h, ai_u_ne _ _ _ h, VR, VR]
    by_cases h2 : 20 ≤ o ∧ o < 20 + i
    · rw [if_pos h2, if_pos ⟨h2.1, by omega⟩]
    · rw [if_neg h2, if_neg (by omega)]
theorem VR_5 {o : Nat} (ho : o < 25) : VR 5 o = hs_cell σ0 o := by
  by_cases h1 : 20 ≤ o
  · rw [VR, if_pos ⟨h1, by omega⟩, hs_cell, if_neg (by omega), if_pos ⟨h1, by omega⟩]
    rfl
  · rw [VR, if_neg (by omega), VM]
    by_cases h2 : 8 ≤ o
    · rw [if_pos ⟨h2, by omega⟩, hs_cell, if_pos ⟨h2, by omega⟩]
      rfl
    · rw [if_neg (by omega)]
      rcases (show o = 0 ∨ o = 1 ∨ o = 2 ∨ o = 3 ∨ o = 4 ∨ o = 5 ∨ o = 6 ∨ o = 7 by omega) with rfl | rfl | rfl | rfl | rfl | rfl | rfl | rfl <;> rfl
def rfs (b N i : Nat) : List Value := (List.range N).map (fun k => if k < i then Value.ref (b + k) else .null)
theorem rfs_get {b N i k : Nat} (hk : k < N) : (rfs b N i)[k]? = some (if k < i then Value.ref (b + k) else .null) := by
  rw [rfs, List.getElem?_map, List.getElem?_range hk]
  rfl
theorem rfs_len (b N i : Nat) : (rfs b N i).length = N := by rw [rfs, List.length_map, List.length_range]
theorem rfs_s {b N i : Nat} (hi : i < N) : (rfs b N i).set i (.ref (b + i)) = rfs b N (i + 1) := by
  apply List.ext_getElem?
  intro k
  by_cases hk : k < N
  · rw [rfs_get hk]
    by_cases e : k = i
    · subst e
      rw [List.getElem?_set_self (by rw [rfs_len]; exact hk), if_pos (by omega)]
    · rw [List.getElem?_set_ne (Ne.symm e), rfs_get hk]
      by_cases h2 : k < i
      · rw [if_pos h2, if_pos (by omega)]
      · rw [if_neg h2, if_neg (by omega)]
  · rw [List.getElem?_eq_none_iff.mpr (by rw [List.length_set, rfs_len]; omega), List.getElem?_eq_none_iff.mpr (by rw [rfs_len]; omega)]
def LB (h : Nat) (a b : List Value) : List aiS := [(0, 0, [.ref (h + 1), .ref (h + 2), .ref (h + 3), .ref (h + 5), .ref (h + 7), .null, .null, .null, .null, .null, .null]), (11, 12, a), (12, 5, b), (1, 0, [.ref (h + 4), .null]), (8, 12, []), (2, 0, [.ref (h + 6), .null]), (8, 160, []), (8, 3, [])]
def LM (h i : Nat) : List aiS := LB h (rfs (h + 8) 12 i) (List.replicate 5 .null) ++ List.replicate i (3, 0, List.replicate 4 .null)
def LR (h i : Nat) : List aiS := (LB h (rfs (h + 8) 12 12) (rfs (h + 20) 5 i) ++ List.replicate 12 (3, 0, List.replicate 4 .null)) ++ List.replicate i (4, 0, List.replicate 9 .null)
theorem LM_len (h i : Nat) : (LM h i).length = 8 + i := by rw [LM, List.length_append, List.length_replicate]; rfl
theorem LR_len (h i : Nat) : (LR h i).length = 20 + i := by rw [LR, List.length_append, List.length_append, List.length_replicate, List.length_replicate]; rfl
theorem LM_s (h i : Nat) (hi : i < 12) : (LM h i ++ [((3, 0, List.replicate 4 Value.null) : aiS)]).set 1 (11, 12, (rfs (h + 8) 12 i).set i (Value.ref (h + 8 + i))) = LM h (i + 1) := by
  rw [rfs_s hi, LM, LM, List.append_assoc, show List.replicate i ((3, 0, List.replicate 4 Value.null) : aiS) ++ [((3, 0, List.replicate 4 Value.null) : aiS)] = List.replicate (i + 1) ((3, 0, List.replicate 4 Value.null) : aiS) from (List.replicate_succ' ..).symm]
  rfl
theorem LR_s (h i : Nat) (hi : i < 5) : (LR h i ++ [((4, 0, List.replicate 9 Value.null) : aiS)]).set 2 (12, 5, (rfs (h + 20) 5 i).set i (Value.ref (h + 20 + i))) = LR h (i + 1) := by
  rw [rfs_s hi, LR, LR, List.append_assoc, show List.replicate i ((4, 0, List.replicate 9 Value.null) : aiS) ++ [((4, 0, List.replicate 9 Value.null) : aiS)] = List.replicate (i + 1) ((4, 0, List.replicate 9 Value.null) : aiS) from (List.replicate_succ' ..).symm]
  rfl
theorem LM_12 (h : Nat) : LM h 12 = LR h 0 := rfl
theorem LR_5 (h : Nat) : LR h 5 = hs_S h := rfl
theorem LM_1 (h i : Nat) : (LM h i)[1]? = some (11, 12, rfs (h + 8) 12 i) := rfl
theorem LR_2 (h i : Nat) : (LR h i)[2]? = some (12, 5, rfs (h + 20) 5 i) := rfl
section C83
variable {h : Nat} {S0 : List aiS} {M : Nat → Nat → Int32}
theorem c_X0_init (hh : S0.length = h) (hz : ∀ a, h ≤ a → M a = fun _ => 0) : AM G_X0_init [.ref h] (S0 ++ [(0, 0, List.replicate 11 .null)]) M ZJ (none, S0 ++ hs_S h, hs_put h σ0 M, ZJ) := by
  have e0 : M = bput h 25 (fun _ _ => 0) M := (bput_same hz).symm
  rw [show hs_put h σ0 M = bput h 25 (VR 5) M from (bput_cong M (fun o ho => VR_5 ho)).symm]
  refine AM_gen (fun out ho => ?_)
  refine AM_of [.ref h, .retAddr 0] (by decide) rfl (fun B => (Nat.le_of_ble_eq_true rfl)) ?_
  have key2 : ∀ (d i : Nat), i + d = 5 → AW G_X0_init out (19 + i) (244 + 9 * i) 123 [.ref h, .int (nI i)] [] (S0 ++ LR h i) (bput h 25 (VR i) M) ZJ := by
    intro d
    induction d with
    | zero =>
      intro i hi
      have hi2 : i = 5 := by omega
      subst hi2
      rw [LR_5]
      refine e_iload_n dX0_init_123 rfl rfl ?_
      refine e_iconst (v := 5) dX0_init_124 (by decide) ?_
      refine e_ge_t (i := 5) (N := 5) 147 dX0_init_125 (by decide) rfl rfl (by omega) (by omega) ?_
      exact e_vret dX0_init_147 rfl ho (Nat.le_of_ble_eq_true rfl) (Nat.le_of_ble_eq_true rfl)
    | succ d ih =>
      intro i hi
      have hi5 : i < 5 := by omega
      have hl : (LR h i).length = 20 + i := LR_len h i
      have hv : VR i (20 + i) = fun _ => 0 := VR_at (Nat.le_refl _)
      have hnew : (LR h i ++ [(4, 0, List.replicate (ai_N 4) Value.null)])[20 + i]? = some (4, 0, [.null, .null, .null, .null, .null, .null, .null, .null, .null]) := by
        rw [List.getElem?_append_right (by omega), hl, Nat.sub_self]
        rfl
      have hc := c_X4_init (h := h) (N := 25) (i := 20 + i) (L := LR h i ++ [(4, 0, List.replicate (ai_N 4) Value.null)]) (V := VR i) (M := M) hh hnew (by omega) hv
      rw [VR_s] at hc
      have h2 : (LR h i ++ [(4, 0, List.replicate (ai_N 4) Value.null)])[2]? = some (12, 5, rfs (h + 20) 5 i) := by
        rw [List.getElem?_append_left (by omega)]
        exact LR_2 h i
      have ih' := ih (i + 1) (by omega)
      rw [← LR_s h i hi5] at ih'
      refine e_iload_n dX0_init_123 rfl rfl ?_
      refine e_iconst (v := 5) dX0_init_124 (by decide) ?_
      refine e_ge_f (i := i) (N := 5) 147 dX0_init_125 (by decide) rfl rfl (by omega) (by omega) ?_
      refine e_aload_n dX0_init_128 rfl rfl ?_
      refine e_getr dX0_init_129 fl_0_19 ((app_get (i := 0) hh).trans rfl) rfl ?_
      refine e_iload_n dX0_init_132 rfl rfl ?_
      refine k_new dX0_init_133 nw_0_17 (by show 19 + i + 1 ≤ 24; omega) (by show 244 + 9 * i + 9 ≤ 289; omega) hh hl (by omega) hv ?_
      refine e_dup dX0_init_136 rfl ?_
      refine e_callN dX0_init_137 ml_0_62 hc rfl rfl (by decide) (Nat.le_of_ble_eq_true rfl) rfl (by show 19 + i + 1 + 0 ≤ 24; omega) (by show 244 + 9 * i + 9 + 0 ≤ 289; omega) ?_
      refine k_aast (i := 2) (i2 := 20 + i) i dX0_init_140 hh h2 hnew (Or.inr (Or.inr ⟨rfl, rfl⟩)) rfl hi5 (by decide) (by rw [rfs_len]; exact hi5) ?_
      refine e_iinc dX0_init_141 rfl (ai_inc _) (by decide) rfl ?_
      refine e_goto 123 dX0_init_144 (by decide) ?_
      rw [show h + (20 + i) = h + 20 + i by omega]
      exact ih'
  have key1 : ∀ (d i : Nat), i + d = 12 → AW G_X0_init out (7 + i) (196 + 4 * i) 96 [.ref h, .int (nI i)] [] (S0 ++ LM h i) (bput h 25 (VM i) M) ZJ := by
    intro d
    induction d with
    | zero =>
      intro i hi
      have hi2 : i = 12 := by omega
      subst hi2
      have h0 := key2 5 0 rfl
      rw [VR_0, ← LM_12] at h0
      refine e_iload_n dX0_init_96 rfl rfl ?_
      refine e_bipush (v := 12) dX0_init_97 (by decide) ?_
      refine e_ge_t (i := 12) (N := 12) 121 dX0_init_99 (by decide) rfl rfl (by omega) (by omega) ?_
      refine e_iconst (v := 0) dX0_init_121 (by decide) ?_
      refine e_istore_n dX0_init_122 rfl (by decide) rfl ?_
      exact h0
    | succ d ih =>
      intro i hi
      have hi12 : i < 12 := by omega
      have hl : (LM h i).length = 8 + i := LM_len h i
      have hv : VM i (8 + i) = fun _ => 0 := VM_at (Nat.le_refl _)
      have hnew : (LM h i ++ [(3, 0, List.replicate (ai_N 3) Value.null)])[8 + i]? = some (3, 0, [.null, .null, .null, .null]) := by
        rw [List.getElem?_append_right (by omega), hl, Nat.sub_self]
        rfl
      have hc := c_X3_init (h := h) (N := 25) (i := 8 + i) (L := LM h i ++ [(3, 0, List.replicate (ai_N 3) Value.null)]) (V := VM i) (M := M) hh hnew (by omega) hv
      rw [VM_s] at hc
      have h2 : (LM h i ++ [(3, 0, List.replicate (ai_N 3) Value.null)])[1]? = some (11, 12, rfs (h + 8) 12 i) := by
        rw [List.getElem?_append_left (by omega)]
        exact LM_1 h i
      have ih' := ih (i + 1) (by omega)
      rw [← LM_s h i hi12] at ih'
      refine e_iload_n dX0_init_96 rfl rfl ?_
      refine e_bipush (v := 12) dX0_init_97 (by decide) ?_
      refine e_ge_f (i := i) (N := 12) 121 dX0_init_99 (by decide) rfl rfl (by omega) (by omega) ?_
      refine e_aload_n dX0_init_102 rfl rfl ?_
      refine e_getr dX0_init_103 fl_0_11 ((app_get (i := 0) hh).trans rfl) rfl ?_
      refine e_iload_n dX0_init_106 rfl rfl ?_
      refine k_new dX0_init_107 nw_0_9 (by show 7 + i + 1 ≤ 24; omega) (by show 196 + 4 * i + 4 ≤ 289; omega) hh hl (by omega) hv ?_
      refine e_dup dX0_init_110 rfl ?_
      refine e_callN dX0_init_111 ml_0_61 hc rfl rfl (by decide) (Nat.le_of_ble_eq_true rfl) rfl (by show 7 + i + 1 + 0 ≤ 24; omega) (by show 196 + 4 * i + 4 + 0 ≤ 289; omega) ?_
      refine k_aast (i := 1) (i2 := 8 + i) i dX0_init_114 hh h2 hnew (Or.inr (Or.inl ⟨rfl, rfl⟩)) rfl hi12 (by decide) (by rw [rfs_len]; exact hi12) ?_
      refine e_iinc dX0_init_115 rfl (ai_inc _) (by decide) rfl ?_
      refine e_goto 96 dX0_init_118 (by decide) ?_
      rw [show h + (8 + i) = h + 8 + i by omega]
      exact ih'
  have h0 := key1 12 0 rfl
  rw [VM_0] at h0
  rw [e0]
  refine e_aload_n dX0_init_0 rfl rfl ?_
  refine e_obj dX0_init_1 ml_0_3 (by decide) (Nat.le_of_ble_eq_true rfl) (Nat.le_of_ble_eq_true rfl) (Nat.le_of_ble_eq_true rfl) ?_
  refine e_aload_n dX0_init_4 rfl rfl ?_
  refine e_bipush (v := 12) dX0_init_5 (by decide) ?_
  refine k_anew (l := 1) dX0_init_7 (Or.inr (Or.inl ⟨rfl, rfl⟩)) na_0_9 (ai_lit 12) (by decide) (Nat.le_of_ble_eq_true rfl) (Nat.le_of_ble_eq_true rfl) hh rfl (by decide) rfl ?_
  refine k_putF (i := 0) dX0_init_10 fl_0_11 rfl ⟨_, rfl, rfl⟩ hh rfl (Nat.le_of_ble_eq_true rfl) ?_
  refine e_aload_n dX0_init_13 rfl rfl ?_
  refine e_iconst (v := 5) dX0_init_14 (by decide) ?_
  refine k_anew (l := 2) dX0_init_15 (Or.inr (Or.inr ⟨rfl, rfl⟩)) na_0_17 (ai_lit 5) (by decide) (Nat.le_of_ble_eq_true rfl) (Nat.le_of_ble_eq_true rfl) hh rfl (by decide) rfl ?_
  refine k_putF (i := 0) dX0_init_18 fl_0_19 rfl ⟨_, rfl, rfl⟩ hh rfl (Nat.le_of_ble_eq_true rfl) ?_
  refine e_aload_n dX0_init_21 rfl rfl ?_
  refine k_new (l := 3) dX0_init_22 nw_0_23 (Nat.le_of_ble_eq_true rfl) (Nat.le_of_ble_eq_true rfl) hh rfl (by decide) rfl ?_
  refine e_dup dX0_init_25 rfl ?_
  refine e_callN dX0_init_26 ml_0_25 (c_X1_init (i := 3) (l := 4) hh rfl rfl (by decide) (by decide) rfl rfl) rfl rfl (by decide) (Nat.le_of_ble_eq_true rfl) (by rw [List.length_append, List.length_append]; rfl) (Nat.le_of_ble_eq_true rfl) (Nat.le_of_ble_eq_true rfl) ?_
  refine k_putF (i := 0) dX0_init_29 fl_0_26 rfl ⟨_, rfl, rfl⟩ hh rfl (Nat.le_of_ble_eq_true rfl) ?_
  refine e_aload_n dX0_init_32 rfl rfl ?_
  refine k_new (l := 5) dX0_init_33 nw_0_30 (Nat.le_of_ble_eq_true rfl) (Nat.le_of_ble_eq_true rfl) hh rfl (by decide) rfl ?_
  refine e_dup dX0_init_36 rfl ?_
  refine e_callN dX0_init_37 ml_0_32 (c_X2_init (i := 5) (l := 6) hh rfl rfl (by decide) (by decide) rfl rfl) rfl rfl (by decide) (Nat.le_of_ble_eq_true rfl) (by rw [List.length_append, List.length_append]; rfl) (Nat.le_of_ble_eq_true rfl) (Nat.le_of_ble_eq_true rfl) ?_
  refine k_putF (i := 0) dX0_init_40 fl_0_33 rfl ⟨_, rfl, rfl⟩ hh rfl (Nat.le_of_ble_eq_true rfl) ?_
  refine e_aload_n dX0_init_43 rfl rfl ?_
  refine e_iconst (v := 3) dX0_init_44 (by decide) ?_
  refine k_newarr (l := 7) dX0_init_45 (Or.inl ⟨rfl, rfl⟩) aw_int (ai_lit 3) (by decide) (Nat.le_of_ble_eq_true rfl) (Nat.le_of_ble_eq_true rfl) hh rfl (by decide) rfl ?_
  refine e_dup dX0_init_47 rfl ?_
  refine e_iconst (v := 0) dX0_init_48 (by decide) ?_
  refine e_bipush (v := 20) dX0_init_49 (by decide) ?_
  refine k_iast (i := 7) 0 dX0_init_51 hh rfl (ai_lit 0) (by decide) (by decide) (by decide) ?_
  refine e_dup dX0_init_52 rfl ?_
  refine e_iconst (v := 1) dX0_init_53 (by decide) ?_
  refine e_iconst (v := 5) dX0_init_54 (by decide) ?_
  refine k_iast (i := 7) 1 dX0_init_55 hh rfl (ai_lit 1) (by decide) (by decide) (by decide) ?_
  refine e_dup dX0_init_56 rfl ?_
  refine e_iconst (v := 2) dX0_init_57 (by decide) ?_
  refine e_bipush (v := 10) dX0_init_58 (by decide) ?_
  refine k_iast (i := 7) 2 dX0_init_60 hh rfl (ai_lit 2) (by decide) (by decide) (by decide) ?_
  refine k_putF (i := 0) dX0_init_61 fl_0_37 rfl ⟨_, rfl, rfl⟩ hh rfl (Nat.le_of_ble_eq_true rfl) ?_
  refine e_aload_n dX0_init_64 rfl rfl ?_
  refine e_iconst (v := 0) dX0_init_65 (by decide) ?_
  refine k_put0 (i := 0) dX0_init_66 fl_0_41 hh rfl (by decide) rfl ?_
  refine e_aload_n dX0_init_69 rfl rfl ?_
  refine e_iconst (v := 0) dX0_init_70 (by decide) ?_
  refine k_put0 (i := 0) dX0_init_71 fl_0_45 hh rfl (by decide) rfl ?_
  refine e_aload_n dX0_init_74 rfl rfl ?_
  refine e_iconst (v := 0) dX0_init_75 (by decide) ?_
  refine k_put0 (i := 0) dX0_init_76 fl_0_48 hh rfl (by decide) rfl ?_
  refine e_aload_n dX0_init_79 rfl rfl ?_
  refine e_iconst (v := (-1)) dX0_init_80 (by decide) ?_
  refine k_puti (i := 0) dX0_init_81 fl_0_51 hh rfl (by decide) ?_
  refine e_aload_n dX0_init_84 rfl rfl ?_
  refine e_iconst (v := 0) dX0_init_85 (by decide) ?_
  refine k_putz (i := 0) dX0_init_86 fl_0_54 (by decide) hh rfl rfl ?_
  refine e_aload_n dX0_init_89 rfl rfl ?_
  refine e_iconst (v := 0) dX0_init_90 (by decide) ?_
  refine k_put0 (i := 0) dX0_init_91 fl_0_58 hh rfl (by decide) rfl ?_
  refine e_iconst (v := 0) dX0_init_94 (by decide) ?_
  refine e_istore_n dX0_init_95 rfl (by decide) rfl ?_
  exact h0
theorem c_X5_init (hh : S0.length = h) (hz : ∀ a, h ≤ a → M a = fun _ => 0) : AM G_X5_init [.ref h] (S0 ++ [(5, 0, List.replicate 14 .null)]) M ZJ (none, S0 ++ sc_S h, sc_put h (upd (fun _ => 0) 8 (-1), fun _ => 0, fun _ => 0, fun _ => 0, fun _ => 0, fun _ => 0, fun _ => 0, fun _ => 0) M, ZJ) := by
  have e0 : M = bput h 8 (fun _ _ => 0) M := (bput_same hz).symm
  have e1 : sc_put h (upd (fun _ => 0) 8 (-1), fun _ => 0, fun _ => 0, fun _ => 0, fun _ => 0, fun _ => 0, fun _ => 0, fun _ => 0) M = bput h 8 (ai_u (fun _ _ => 0) 0 8 (-1)) M := by
    refine bput_cong M (fun o ho => ?_)
    rcases (show o = 0 ∨ o = 1 ∨ o = 2 ∨ o = 3 ∨ o = 4 ∨ o = 5 ∨ o = 6 ∨ o = 7 by omega) with rfl | rfl | rfl | rfl | rfl | rfl | rfl | rfl <;> rfl
  rw [e1]
  refine AM_gen (fun out ho => ?_)
  refine AM_of [.ref h] (by decide) rfl (fun B => (Nat.le_of_ble_eq_true rfl)) ?_
  rw [e0]
  refine e_aload_n dX5_init_0 rfl rfl ?_
  refine e_obj dX5_init_1 ml_5_3 (by decide) (Nat.le_of_ble_eq_true rfl) (Nat.le_of_ble_eq_true rfl) (Nat.le_of_ble_eq_true rfl) ?_
  refine e_aload_n dX5_init_4 rfl rfl ?_
  refine e_bipush (v := 100) dX5_init_5 (by decide) ?_
  refine k_newarr (l := 1) dX5_init_7 (Or.inl ⟨rfl, rfl⟩) aw_int (ai_lit 100) (by decide) (Nat.le_of_ble_eq_true rfl) (Nat.le_of_ble_eq_true rfl) hh rfl (by decide) rfl ?_
  refine k_putF (i := 0) dX5_init_9 fl_5_11 rfl ⟨_, rfl, rfl⟩ hh rfl (Nat.le_of_ble_eq_true rfl) ?_
  refine e_aload_n dX5_init_12 rfl rfl ?_
  refine e_iconst (v := 0) dX5_init_13 (by decide) ?_
  refine k_put0 (i := 0) dX5_init_14 fl_5_15 hh rfl (by decide) rfl ?_
  refine e_aload_n dX5_init_17 rfl rfl ?_
  refine e_bipush (v := 100) dX5_init_18 (by decide) ?_
  refine k_newarr (l := 2) dX5_init_20 (Or.inl ⟨rfl, rfl⟩) aw_int (ai_lit 100) (by decide) (Nat.le_of_ble_eq_true rfl) (Nat.le_of_ble_eq_true rfl) hh rfl (by decide) rfl ?_
  refine k_putF (i := 0) dX5_init_22 fl_5_19 rfl ⟨_, rfl, rfl⟩ hh rfl (Nat.le_of_ble_eq_true rfl) ?_
  refine e_aload_n dX5_init_25 rfl rfl ?_
  refine e_bipush (v := 100) dX5_init_26 (by decide) ?_
  refine k_newarr (l := 3) dX5_init_28 (Or.inl ⟨rfl, rfl⟩) aw_int (ai_lit 100) (by decide) (Nat.le_of_ble_eq_true rfl) (Nat.le_of_ble_eq_true rfl) hh rfl (by decide) rfl ?_
  refine k_putF (i := 0) dX5_init_30 fl_5_22 rfl ⟨_, rfl, rfl⟩ hh rfl (Nat.le_of_ble_eq_true rfl) ?_
  refine e_aload_n dX5_init_33 rfl rfl ?_
  refine e_bipush (v := 100) dX5_init_34 (by decide) ?_
  refine k_newarr (l := 4) dX5_init_36 (Or.inl ⟨rfl, rfl⟩) aw_int (ai_lit 100) (by decide) (Nat.le_of_ble_eq_true rfl) (Nat.le_of_ble_eq_true rfl) hh rfl (by decide) rfl ?_
  refine k_putF (i := 0) dX5_init_38 fl_5_25 rfl ⟨_, rfl, rfl⟩ hh rfl (Nat.le_of_ble_eq_true rfl) ?_
  refine e_aload_n dX5_init_41 rfl rfl ?_
  refine e_bipush (v := 100) dX5_init_42 (by decide) ?_
  refine k_newarr (l := 5) dX5_init_44 (Or.inl ⟨rfl, rfl⟩) aw_int (ai_lit 100) (by decide) (Nat.le_of_ble_eq_true rfl) (Nat.le_of_ble_eq_true rfl) hh rfl (by decide) rfl ?_
  refine k_putF (i := 0) dX5_init_46 fl_5_28 rfl ⟨_, rfl, rfl⟩ hh rfl (Nat.le_of_ble_eq_true rfl) ?_
  refine e_aload_n dX5_init_49 rfl rfl ?_
  refine e_iconst (v := 0) dX5_init_50 (by decide) ?_
  refine k_put0 (i := 0) dX5_init_51 fl_5_31 hh rfl (by decide) rfl ?_
  refine e_aload_n dX5_init_54 rfl rfl ?_
  refine e_iconst (v := 0) dX5_init_55 (by decide) ?_
  refine k_put0 (i := 0) dX5_init_56 fl_5_34 hh rfl (by decide) rfl ?_
  refine e_aload_n dX5_init_59 rfl rfl ?_
  refine e_iconst (v := (-1)) dX5_init_60 (by decide) ?_
  refine k_puti (i := 0) dX5_init_61 fl_5_37 hh rfl (by decide) ?_
  refine e_aload_n dX5_init_64 rfl rfl ?_
  refine e_iconst (v := 0) dX5_init_65 (by decide) ?_
  refine k_put0 (i := 0) dX5_init_66 fl_5_40 hh rfl (by decide) rfl ?_
  refine e_aload_n dX5_init_69 rfl rfl ?_
  refine e_iconst (v := 4) dX5_init_70 (by decide) ?_
  refine k_newarr (l := 6) dX5_init_71 (Or.inl ⟨rfl, rfl⟩) aw_int (ai_lit 4) (by decide) (Nat.le_of_ble_eq_true rfl) (Nat.le_of_ble_eq_true rfl) hh rfl (by decide) rfl ?_
  refine k_putF (i := 0) dX5_init_73 fl_5_43 rfl ⟨_, rfl, rfl⟩ hh rfl (Nat.le_of_ble_eq_true rfl) ?_
  refine e_aload_n dX5_init_76 rfl rfl ?_
  refine e_iconst (v := 0) dX5_init_77 (by decide) ?_
  refine k_put0 (i := 0) dX5_init_78 fl_5_46 hh rfl (by decide) rfl ?_
  refine e_aload_n dX5_init_81 rfl rfl ?_
  refine e_iconst (v := 0) dX5_init_82 (by decide) ?_
  refine k_put0 (i := 0) dX5_init_83 fl_5_49 hh rfl (by decide) rfl ?_
  refine e_aload_n dX5_init_86 rfl rfl ?_
  refine e_bipush (v := 100) dX5_init_87 (by decide) ?_
  refine k_newarr (l := 7) dX5_init_89 (Or.inl ⟨rfl, rfl⟩) aw_int (ai_lit 100) (by decide) (Nat.le_of_ble_eq_true rfl) (Nat.le_of_ble_eq_true rfl) hh rfl (by decide) rfl ?_
  refine k_putF (i := 0) dX5_init_91 fl_5_52 rfl ⟨_, rfl, rfl⟩ hh rfl (Nat.le_of_ble_eq_true rfl) ?_
  exact e_vret dX5_init_94 rfl ho (Nat.le_of_ble_eq_true rfl) (Nat.le_of_ble_eq_true rfl)
end C83

