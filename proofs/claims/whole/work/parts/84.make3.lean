/-! ===== constructors: the keeper, the reference; the first state ===== -/
section AIZ
variable {G : aiG} {out : aiR} {k n pc l : Nat} {Lc st : List Value} {S : List aiS} {M : Nat → Nat → Int32}
theorem z_new {ix ci : Nat} (hd : decode (gB G) pc = .ok (.new ix, 3)) (hw : ai_nw (gY G).cls ix ci) (hk : k + 1 ≤ gMC G) (hn : n + ai_N ci ≤ gMS G) (hl : S.length = l) (hV : M l = fun _ => 0) (h1 : AW G out (k + 1) (n + ai_N ci) (pc + 3) Lc (.ref l :: st) (S ++ [(ci, 0, List.replicate (ai_N ci) .null)]) M ZJ) : AW G out k n pc Lc st S M ZJ := by
  refine e_new hd hw hk hn ?_
  rw [hl, ai_zl_id, ai_z_id hV]
  exact h1
theorem z_newarr {kd len : Nat} {at' : ArrayType} {z : Int32} (hd : decode (gB G) pc = .ok (.newarray at', 2)) (hat : (kd = 8 ∧ at' = .int) ∨ (kd = 9 ∧ at' = .boolean)) (hw : Cond.arrayClass (newarray.typeOf at') ∈ ai_T) (hzl : z = nI len) (h31 : len < 65536) (hk : k + 1 ≤ gMC G) (hn : n + len ≤ gMS G) (hl : S.length = l) (hV : M l = fun _ => 0) (h1 : AW G out (k + 1) (n + len) (pc + 2) Lc (.ref l :: st) (S ++ [(kd, len, [])]) M ZJ) : AW G out k n pc Lc (.int z :: st) S M ZJ := by
  refine e_newarr hd hat hw hzl h31 hk hn ?_
  rw [hl, ai_zl_id, ai_z_id hV]
  exact h1
theorem z_anew {ix kd len : Nat} {Cn : String} {z : Int32} (hd : decode (gB G) pc = .ok (.anewarray ix, 3)) (hkd : (kd = 10 ∧ Cn = RX0) ∨ (kd = 11 ∧ Cn = RX3) ∨ (kd = 12 ∧ Cn = RX4)) (hw : Cond.classLink (gY G).cls ix Cn ∈ ai_T ∧ ∀ U, ai_X U → va_AO Cn U) (hzl : z = nI len) (h31 : len < 65536) (hk : k + 1 ≤ gMC G) (hn : n + len ≤ gMS G) (hl : S.length = l) (hV : M l = fun _ => 0) (h1 : AW G out (k + 1) (n + len) (pc + 3) Lc (.ref l :: st) (S ++ [(kd, len, List.replicate len .null)]) M ZJ) : AW G out k n pc Lc (.int z :: st) S M ZJ := by
  refine e_anew hd hkd hw hzl h31 hk hn ?_
  rw [hl, ai_zl_id, ai_z_id hV]
  exact h1
end AIZ
def sK (a b c d e : Value) : aiS := (6, 0, [a, b, c, d, e])
abbrev κ0 : sc_T := (upd (fun _ => 0) 8 (-1), fun _ => 0, fun _ => 0, fun _ => 0, fun _ => 0, fun _ => 0, fun _ => 0, fun _ => 0)
def MZ : Nat → Nat → Int32 := fun _ _ => 0
def M1 : Nat → Nat → Int32 := hs_put 1 σ0 MZ
def M2 : Nat → Nat → Int32 := hs_put 26 σ0 M1
def M3 : Nat → Nat → Int32 := hs_put 52 σ0 M2
def M4 : Nat → Nat → Int32 := hs_put 77 σ0 M3
def M5 : Nat → Nat → Int32 := sc_put 103 κ0 M4
theorem M1_z {a : Nat} (h : 26 ≤ a) : M1 a = fun _ => 0 := hs_out _ _ (Or.inr h)
theorem M2_z {a : Nat} (h : 51 ≤ a) : M2 a = fun _ => 0 := (hs_out _ _ (Or.inr h)).trans (M1_z (by omega))
theorem M3_z {a : Nat} (h : 77 ≤ a) : M3 a = fun _ => 0 := (hs_out _ _ (Or.inr h)).trans (M2_z (by omega))
theorem M4_z {a : Nat} (h : 102 ≤ a) : M4 a = fun _ => 0 := (hs_out _ _ (Or.inr h)).trans (M3_z (by omega))
theorem M5_z {a : Nat} (h : 111 ≤ a) : M5 a = fun _ => 0 := (bput_out _ _ (Or.inr h)).trans (M4_z (by omega))
def S2 : List aiS := [sK (.ref 1) (.ref 26) .null .null .null] ++ hs_S 1 ++ hs_S 26
def S3 (a b c d : Value) : List aiS := [sK (.ref 1) (.ref 26) (.ref 51) c d] ++ hs_S 1 ++ hs_S 26 ++ [(10, 2, [a, b])]
def S4 (d e : Value) : List aiS := S3 (.ref 52) (.ref 77) d e ++ hs_S 52 ++ hs_S 77
def SK : List aiS := S4 (.ref 102) (.ref 103) ++ [(9, 2, [])] ++ sc_S 103
theorem hs_len (h : Nat) : (hs_S h).length = 25 := rfl
theorem x6_67 {out : aiR} (ho : out = (none, SK, M5, ZJ)) : AW G_X6_init out 102 1204 67 [.ref 0, .int (nI 2)] [] (S4 (.ref 102) .null ++ [(9, 2, [])]) M4 ZJ := by
  refine e_aload_n dX6_init_67 rfl rfl ?_
  refine z_new (l := 103) dX6_init_68 nw_6_27 (Nat.le_of_ble_eq_true rfl) (Nat.le_of_ble_eq_true rfl) rfl (M4_z (by decide)) ?_
  refine e_dup dX6_init_71 rfl ?_
  refine e_callN dX6_init_72 ml_6_29 (c_X5_init (S0 := S4 (.ref 102) .null ++ [(9, 2, [])]) (h := 103) rfl (fun a ha => M4_z (by omega))) rfl rfl (by decide) (Nat.le_of_ble_eq_true rfl) rfl (Nat.le_of_ble_eq_true rfl) (Nat.le_of_ble_eq_true rfl) ?_
  refine e_putF dX6_init_75 fl_6_30 rfl ⟨_, rfl, rfl⟩ rfl (Nat.le_of_ble_eq_true rfl) ?_
  show AW G_X6_init out _ _ 78 _ _ SK M5 ZJ
  exact e_vret dX6_init_78 rfl ho (Nat.le_of_ble_eq_true rfl) (Nat.le_of_ble_eq_true rfl)
theorem x6_36c {out : aiR} (ho : out = (none, SK, M5, ZJ)) : AW G_X6_init out 101 1202 36 [.ref 0, .int (nI 2)] [] (S4 .null .null) M4 ZJ := by
  refine e_iload_n dX6_init_36 rfl rfl ?_
  refine e_iconst (v := 2) dX6_init_37 (by decide) ?_
  refine e_ge_t (i := 2) (N := 2) 60 dX6_init_38 (by decide) rfl rfl (by decide) (by decide) ?_
  refine e_aload_n dX6_init_60 rfl rfl ?_
  refine e_iconst (v := 2) dX6_init_61 (by decide) ?_
  refine z_newarr (l := 102) dX6_init_62 (Or.inr ⟨rfl, rfl⟩) aw_boolean (ai_lit 2) (by decide) (Nat.le_of_ble_eq_true rfl) (Nat.le_of_ble_eq_true rfl) rfl (M4_z (by decide)) ?_
  refine e_putF dX6_init_64 fl_6_23 rfl ⟨_, rfl, rfl⟩ rfl (Nat.le_of_ble_eq_true rfl) ?_
  exact x6_67 ho
theorem x6_36b {out : aiR} (ho : out = (none, SK, M5, ZJ)) : AW G_X6_init out 76 902 36 [.ref 0, .int (nI 1)] [] (S3 (.ref 52) .null .null .null ++ hs_S 52) M3 ZJ := by
  refine e_iload_n dX6_init_36 rfl rfl ?_
  refine e_iconst (v := 2) dX6_init_37 (by decide) ?_
  refine e_ge_f (i := 1) (N := 2) 60 dX6_init_38 (by decide) rfl rfl (by decide) (by decide) ?_
  refine e_aload_n dX6_init_41 rfl rfl ?_
  refine e_getr dX6_init_42 fl_6_19 rfl rfl ?_
  refine e_iload_n dX6_init_45 rfl rfl ?_
  refine z_new (l := 77) dX6_init_46 nw_6_7 (Nat.le_of_ble_eq_true rfl) (Nat.le_of_ble_eq_true rfl) rfl (M3_z (by decide)) ?_
  refine e_dup dX6_init_49 rfl ?_
  refine e_callI dX6_init_50 ml_6_9 (c_X0_init (S0 := S3 (.ref 52) .null .null .null ++ hs_S 52) (h := 77) rfl (fun a ha => M3_z ha)) rfl rfl (by decide) (Nat.le_of_ble_eq_true rfl) rfl (Nat.le_of_ble_eq_true rfl) (Nat.le_of_ble_eq_true rfl) ?_
  refine e_aast 1 dX6_init_53 rfl rfl (Or.inl ⟨rfl, rfl⟩) rfl (by decide) (by decide) (Nat.le_of_ble_eq_true rfl) ?_
  refine e_iinc dX6_init_54 rfl (ai_inc 1) (by decide) rfl ?_
  refine e_goto 36 dX6_init_57 (by decide) ?_
  exact x6_36c ho
theorem x6_34 {out : aiR} (ho : out = (none, SK, M5, ZJ)) : AW G_X6_init out 51 602 34 [.ref 0, .retAddr 0] [] (S3 .null .null .null .null) M2 ZJ := by
  refine e_iconst (v := 0) dX6_init_34 (by decide) ?_
  refine e_istore_n dX6_init_35 rfl (by decide) rfl ?_
  refine e_iload_n dX6_init_36 rfl rfl ?_
  refine e_iconst (v := 2) dX6_init_37 (by decide) ?_
  refine e_ge_f (i := 0) (N := 2) 60 dX6_init_38 (by decide) rfl rfl (by decide) (by decide) ?_
  refine e_aload_n dX6_init_41 rfl rfl ?_
  refine e_getr dX6_init_42 fl_6_19 rfl rfl ?_
  refine e_iload_n dX6_init_45 rfl rfl ?_
  refine z_new (l := 52) dX6_init_46 nw_6_7 (Nat.le_of_ble_eq_true rfl) (Nat.le_of_ble_eq_true rfl) rfl (M2_z (by decide)) ?_
  refine e_dup dX6_init_49 rfl ?_
  refine e_callI dX6_init_50 ml_6_9 (c_X0_init (S0 := S3 .null .null .null .null) (h := 52) rfl (fun a ha => M2_z (by omega))) rfl rfl (by decide) (Nat.le_of_ble_eq_true rfl) rfl (Nat.le_of_ble_eq_true rfl) (Nat.le_of_ble_eq_true rfl) ?_
  refine e_aast 0 dX6_init_53 rfl rfl (Or.inl ⟨rfl, rfl⟩) rfl (by decide) (by decide) (Nat.le_of_ble_eq_true rfl) ?_
  refine e_iinc dX6_init_54 rfl (ai_inc 0) (by decide) rfl ?_
  refine e_goto 36 dX6_init_57 (by decide) ?_
  exact x6_36b ho
theorem x6_26 {out : aiR} (ho : out = (none, SK, M5, ZJ)) : AW G_X6_init out 50 600 26 [.ref 0, .retAddr 0] [] (S2) M2 ZJ := by
  refine e_aload_n dX6_init_26 rfl rfl ?_
  refine e_iconst (v := 2) dX6_init_27 (by decide) ?_
  refine z_anew (l := 51) dX6_init_28 (Or.inl ⟨rfl, rfl⟩) na_6_7 (ai_lit 2) (by decide) (Nat.le_of_ble_eq_true rfl) (Nat.le_of_ble_eq_true rfl) rfl (M2_z (by decide)) ?_
  refine e_putF dX6_init_31 fl_6_19 rfl ⟨_, rfl, rfl⟩ rfl (Nat.le_of_ble_eq_true rfl) ?_
  exact x6_34 ho
theorem x6_15 {out : aiR} (ho : out = (none, SK, M5, ZJ)) : AW G_X6_init out 25 300 15 [.ref 0, .retAddr 0] [] ([sK (.ref 1) .null .null .null .null] ++ hs_S 1) M1 ZJ := by
  refine e_aload_n dX6_init_15 rfl rfl ?_
  refine z_new (l := 26) dX6_init_16 nw_6_7 (Nat.le_of_ble_eq_true rfl) (Nat.le_of_ble_eq_true rfl) rfl (M1_z (by decide)) ?_
  refine e_dup dX6_init_19 rfl ?_
  refine e_callI dX6_init_20 ml_6_9 (c_X0_init (S0 := [sK (.ref 1) .null .null .null .null] ++ hs_S 1) (h := 26) rfl (fun a ha => M1_z ha)) rfl rfl (by decide) (Nat.le_of_ble_eq_true rfl) rfl (Nat.le_of_ble_eq_true rfl) (Nat.le_of_ble_eq_true rfl) ?_
  refine e_putF dX6_init_23 fl_6_16 rfl ⟨_, rfl, rfl⟩ rfl (Nat.le_of_ble_eq_true rfl) ?_
  exact x6_26 ho
theorem c_X6_init : AM G_X6_init [.ref 0] [(6, 0, List.replicate 5 .null)] MZ ZJ (none, SK, M5, ZJ) := by
  refine AM_gen (fun out ho => ?_)
  refine AM_of [.ref 0, .retAddr 0] (by decide) rfl (fun B => (Nat.le_of_ble_eq_true rfl)) ?_
  refine e_aload_n dX6_init_0 rfl rfl ?_
  refine e_obj dX6_init_1 ml_6_1 (by decide) (Nat.le_of_ble_eq_true rfl) (Nat.le_of_ble_eq_true rfl) (Nat.le_of_ble_eq_true rfl) ?_
  refine e_aload_n dX6_init_4 rfl rfl ?_
  refine z_new (l := 1) dX6_init_5 nw_6_7 (Nat.le_of_ble_eq_true rfl) (Nat.le_of_ble_eq_true rfl) rfl rfl ?_
  refine e_dup dX6_init_8 rfl ?_
  refine e_callI dX6_init_9 ml_6_9 (c_X0_init (S0 := [(6, 0, List.replicate 5 .null)]) (h := 1) rfl (fun a ha => rfl)) rfl rfl (by decide) (Nat.le_of_ble_eq_true rfl) rfl (Nat.le_of_ble_eq_true rfl) (Nat.le_of_ble_eq_true rfl) ?_
  refine e_putF dX6_init_12 fl_6_10 rfl ⟨_, rfl, rfl⟩ rfl (Nat.le_of_ble_eq_true rfl) ?_
  exact x6_15 ho

