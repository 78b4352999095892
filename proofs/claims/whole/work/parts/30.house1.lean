/-! ===== the class: a house; its line, its log, its reads ===== -/
abbrev Hp (σ : hs_T) (x : Nat → Int32) : hs_T := (σ.1, σ.2.1, σ.2.2.1, x, σ.2.2.2.2)
abbrev Hn (σ : hs_T) (x : Nat → Int32) : hs_T := (σ.1, σ.2.1, σ.2.2.1, σ.2.2.2.1, x, σ.2.2.2.2.2)
abbrev Hg (σ : hs_T) (x : Nat → Int32) : hs_T := (σ.1, σ.2.1, σ.2.2.1, σ.2.2.2.1, σ.2.2.2.2.1, x, σ.2.2.2.2.2.2)
abbrev He (σ : hs_T) (x : Nat → Int32) : hs_T := (σ.1, σ.2.1, σ.2.2.1, σ.2.2.2.1, σ.2.2.2.2.1, σ.2.2.2.2.2.1, x, σ.2.2.2.2.2.2.2)
/-- the line holds the members pl 0 .. pl (n - 1), who wait for rooms -/
def HW (σ : hs_T) (n : Nat) (pl : Nat → Nat) : Prop := n ≤ 12 ∧ hn σ 1 = nI n ∧ ∀ i, i < n → pl i < 12 ∧ hp σ i = nI (pl i) ∧ ∃ r, r < 5 ∧ hm σ (pl i) 1 = nI r
def hRem (p : Nat → Int32) (x : Int32) : Nat → (Nat → Int32) × Nat
  | 0 => (p, 0)
  | i + 1 => if (hRem p x i).1 i = x then hRem p x i else (upd (hRem p x i).1 (hRem p x i).2 ((hRem p x i).1 i), (hRem p x i).2 + 1)
theorem hRem_le (p : Nat → Int32) (x : Int32) : ∀ i, (hRem p x i).2 ≤ i
  | 0 => Nat.le_refl 0
  | i + 1 => by
    have := hRem_le p x i
    rw [hRem]
    split
    · omega
    · show (hRem p x i).2 + 1 ≤ i + 1; omega
def hRemS (σ : hs_T) (x : Int32) (n : Nat) : hs_T := phn (Hp σ (hRem (hp σ) x n).1) 1 (nI (hRem (hp σ) x n).2)
def hNoteG (g : Nat → Int32) (e : Nat) (t kd me r : Int32) : Nat → Int32 := upd (upd (upd (upd g (e % 40 * 4) t) (e % 40 * 4 + 1) kd) (e % 40 * 4 + 2) me) (e % 40 * 4 + 3) r
def hNote (σ : hs_T) (e : Nat) (t kd me r : Int32) : hs_T := phe (Hg σ (hNoteG (hg σ) e t kd me r)) 1 (nI (e + 1))
def himp (σ : hs_T) (k : Nat) : Bool := decide (hu σ 0 ≤ hf σ 5 - hm σ k 2)
def hCq (σ : hs_T) (pl : Nat → Nat) (r : Int32) (n : Nat) : Nat := fb_ct (fun i => decide (hm σ (pl i) 1 = r)) n
def hInq (σ : hs_T) (pl : Nat → Nat) (n : Nat) (r place : Int32) : Int32 := (ff (fun i => decide (hm σ (pl i) 1 = r) && decide (nI (hCq σ pl r i) = place)) n).elim (-1) (fun i => nI (pl i))
def hCb (σ : hs_T) (pl : Nat → Nat) (n q : Nat) : Int32 := (ff (fun i => decide (pl i = q)) n).elim (-1) (fun i => nI (hCq σ pl (hm σ q 1) i))
def hGb (σ : hs_T) (r o : Nat) : Bool := decide (hr σ r 2 < hr σ o 2) || (decide (hr σ r 2 = hr σ o 2) && decide (r < o))
def hRn (σ : hs_T) (k : Nat) : Nat := (hm σ k 1).toNatClampNeg
def hNx (σ : hs_T) (pl : Nat → Nat) : Nat → Option Nat
  | 0 => none
  | i + 1 => match hNx σ pl i with
    | none => some (hRn σ (pl i))
    | some b => if hGb σ (hRn σ (pl i)) b then some (hRn σ (pl i)) else some b
def hNext (σ : hs_T) (pl : Nat → Nat) (n : Nat) : Int32 := if n = 0 then -1 else if himp σ (pl 0) then hm σ (pl 0) 1 else oI (hNx σ pl n)
def hCe (σ : hs_T) (q : Nat) (x : Int32) : hs_T :=
  let σ1 := phr σ q 3 (hr σ q 3 + 1)
  let σ2 := phr σ1 q 5 (hr σ1 q 5 + 1)
  let σ3 := phr σ2 q 7 (hr σ2 q 7 + x)
  phr σ3 q 8 (if hr σ3 q 8 < x then x else hr σ3 q 8)
section C30
variable {S : List aiS} {M : Nat → Nat → Int32} {J : Nat → Int64} {h : Nat} {σ : hs_T}
theorem c_X1_append (hS : HS S h) {n : Nat} (hn1 : hn σ 1 = nI n) (hn2 : n < 12) (x : Int32) : AM G_X1_append [.ref (h + 3), .int x] S (hs_put h σ M) J (none, S, hs_put h (phn (php σ n x) 1 (nI (n + 1))) M, J) := by
  refine AM_gen (fun out ho => ?_)
  refine AM_of [.ref (h + 3), .int x] (by decide) rfl (fun B => (Nat.le_of_ble_eq_true rfl)) ?_
  refine e_aload_n dX1_append_0 rfl rfl ?_
  refine hn_get hS dX1_append_1 fl_1_15 (by decide) ?_
  refine e_bipush (v := 12) dX1_append_4 (by decide) ?_
  refine e_ge_f (i := n) (N := 12) 29 dX1_append_6 (by decide) hn1 rfl (by omega) (by omega) ?_
  refine e_aload_n dX1_append_9 rfl rfl ?_
  refine e_getr dX1_append_10 fl_1_9 hS.a3 rfl ?_
  refine e_aload_n dX1_append_13 rfl rfl ?_
  refine hn_get hS dX1_append_14 fl_1_15 (by decide) ?_
  refine e_iload_n dX1_append_17 rfl rfl ?_
  refine hp_st n hS dX1_append_18 hn1 (by first | assumption | omega) ?_
  refine e_aload_n dX1_append_19 rfl rfl ?_
  refine e_dup dX1_append_20 rfl ?_
  refine hn_get hS dX1_append_21 fl_1_15 (by decide) ?_
  refine e_iconst (v := 1) dX1_append_24 (by decide) ?_
  refine e_iadd dX1_append_25 ?_
  refine e_as (nI (n + 1)) (by show hn σ 1 + 1 = nI (n + 1); rw [hn1]; exact nI_1 n) ?_
  refine hn_put hS dX1_append_26 fl_1_15 ?_
  exact e_vret dX1_append_29 rfl ho (Nat.le_of_ble_eq_true rfl) (Nat.le_of_ble_eq_true rfl)
theorem c_X1_remove (hS : HS S h) {n : Nat} (hn1 : hn σ 1 = nI n) (hn2 : n ≤ 12) (x : Int32) : AM G_X1_remove [.ref (h + 3), .int x] S (hs_put h σ M) J (none, S, hs_put h (hRemS σ x n) M, J) := by
  refine AM_gen (fun out ho => ?_)
  refine AM_of [.ref (h + 3), .int x, .retAddr 0, .retAddr 0] (by decide) rfl (fun B => (Nat.le_of_ble_eq_true rfl)) ?_
  have key : ∀ (d i : Nat) (p : Nat → Int32) (c : Nat), i + d = n → hRem (hp σ) x i = (p, c) → AW G_X1_remove out 0 0 4 [.ref (h + 3), .int x, .int (nI c), .int (nI i)] [] S (hs_put h (Hp σ p) M) J := by
    intro d
    induction d with
    | zero =>
      intro i p c hi hpc
      have hi2 : i = n := by omega
      subst hi2
      refine e_iload_n dX1_remove_4 rfl rfl ?_
      refine e_aload_n dX1_remove_5 rfl rfl ?_
      refine hn_get hS dX1_remove_6 fl_1_15 (by decide) ?_
      refine e_ge_t (i := i) (N := i) 43 dX1_remove_9 (by decide) rfl hn1 (by omega) (by omega) ?_
      refine e_aload_n dX1_remove_43 rfl rfl ?_
      refine e_iload_n dX1_remove_44 rfl rfl ?_
      refine hn_put hS dX1_remove_45 fl_1_15 ?_
      exact e_vret dX1_remove_48 rfl (ho.trans (by rw [hRemS, hpc])) (Nat.le_of_ble_eq_true rfl) (Nat.le_of_ble_eq_true rfl)
    | succ d ih =>
      intro i p c hi hpc
      have hci : c ≤ i := by have := hRem_le (hp σ) x i; rw [hpc] at this; exact this
      refine e_iload_n dX1_remove_4 rfl rfl ?_
      refine e_aload_n dX1_remove_5 rfl rfl ?_
      refine hn_get hS dX1_remove_6 fl_1_15 (by decide) ?_
      refine e_ge_f (i := i) (N := n) 43 dX1_remove_9 (by decide) rfl hn1 (by omega) (by omega) ?_
      refine e_aload_n dX1_remove_12 rfl rfl ?_
      refine e_getr dX1_remove_13 fl_1_9 hS.a3 rfl ?_
      refine e_iload_n dX1_remove_16 rfl rfl ?_
      refine hp_ld i hS dX1_remove_17 rfl (by first | assumption | omega) ?_
      refine e_iload_n dX1_remove_18 rfl rfl ?_
      refine e_icmp_eq 37 dX1_remove_19 (by decide) (fun h19 => ?_) (fun h19 => ?_)
      · refine e_iinc dX1_remove_37 rfl (ai_inc _) (by decide) rfl ?_
        refine e_goto 4 dX1_remove_40 (by decide) ?_
        exact ih (i + 1) p c (by omega) (by rw [hRem, hpc]; exact if_pos h19)
      · refine e_aload_n dX1_remove_22 rfl rfl ?_
        refine e_getr dX1_remove_23 fl_1_9 hS.a3 rfl ?_
        refine e_iload_n dX1_remove_26 rfl rfl ?_
        refine e_aload_n dX1_remove_27 rfl rfl ?_
        refine e_getr dX1_remove_28 fl_1_9 hS.a3 rfl ?_
        refine e_iload_n dX1_remove_31 rfl rfl ?_
        refine hp_ld i hS dX1_remove_32 rfl (by first | assumption | omega) ?_
        refine hp_st c hS dX1_remove_33 rfl (by first | assumption | omega) ?_
        refine e_iinc dX1_remove_34 rfl (ai_inc _) (by decide) rfl ?_
        refine e_iinc dX1_remove_37 rfl (ai_inc _) (by decide) rfl ?_
        refine e_goto 4 dX1_remove_40 (by decide) ?_
        exact ih (i + 1) _ (c + 1) (by omega) (by rw [hRem, hpc]; exact if_neg h19)
  refine e_iconst (v := 0) dX1_remove_0 (by decide) ?_
  refine e_istore_n dX1_remove_1 rfl (by decide) rfl ?_
  refine e_iconst (v := 0) dX1_remove_2 (by decide) ?_
  refine e_istore_n dX1_remove_3 rfl (by decide) rfl ?_
  exact key n 0 (hp σ) 0 (by omega) rfl
theorem c_X2_note (hS : HS S h) {e : Nat} (he1 : he σ 1 = nI e) (he2 : e < 2000000000) (t kd me r : Int32) : AM G_X2_note [.ref (h + 5), .int t, .int kd, .int me, .int r] S (hs_put h σ M) J (none, S, hs_put h (hNote σ e t kd me r) M, J) := by
  refine AM_gen (fun out ho => ?_)
  refine AM_of [.ref (h + 5), .int t, .int kd, .int me, .int r, .retAddr 0] (by decide) rfl (fun B => (Nat.le_of_ble_eq_true rfl)) ?_
  refine e_aload_n dX2_note_0 rfl rfl ?_
  refine he_get hS dX2_note_1 fl_2_15 (by decide) ?_
  refine e_bipush (v := 40) dX2_note_4 (by decide) ?_
  refine e_irem dX2_note_6 (by decide) ?_
  refine e_as (nI ((e % 40))) (by rw [he1]; exact pk_rem (a := e) (d := 40) (by omega) (by omega) (by omega)) ?_
  refine e_iconst (v := 4) dX2_note_7 (by decide) ?_
  refine e_imul dX2_note_8 ?_
  refine e_istoreE (nI (((e % 40)) * 4)) (ai_mul rfl (ai_lit 4)) dX2_note_9 (by decide) rfl ?_
  refine e_aload_n dX2_note_11 rfl rfl ?_
  refine e_getr dX2_note_12 fl_2_11 hS.a5 rfl ?_
  refine e_iload dX2_note_15 rfl ?_
  refine e_iload_n dX2_note_17 rfl rfl ?_
  refine hg_st (((e % 40)) * 4) hS dX2_note_18 rfl (by first | assumption | omega) ?_
  refine e_aload_n dX2_note_19 rfl rfl ?_
  refine e_getr dX2_note_20 fl_2_11 hS.a5 rfl ?_
  refine e_iload dX2_note_23 rfl ?_
  refine e_iconst (v := 1) dX2_note_25 (by decide) ?_
  refine e_iadd dX2_note_26 ?_
  refine e_iload_n dX2_note_27 rfl rfl ?_
  refine hg_st ((((e % 40)) * 4) + 1) hS dX2_note_28 (ai_add rfl (ai_lit 1)) (by first | assumption | omega) ?_
  refine e_aload_n dX2_note_29 rfl rfl ?_
  refine e_getr dX2_note_30 fl_2_11 hS.a5 rfl ?_
  refine e_iload dX2_note_33 rfl ?_
  refine e_iconst (v := 2) dX2_note_35 (by decide) ?_
  refine e_iadd dX2_note_36 ?_
  refine e_iload_n dX2_note_37 rfl rfl ?_
  refine hg_st ((((e % 40)) * 4) + 2) hS dX2_note_38 (ai_add rfl (ai_lit 2)) (by first | assumption | omega) ?_
  refine e_aload_n dX2_note_39 rfl rfl ?_
  refine e_getr dX2_note_40 fl_2_11 hS.a5 rfl ?_
  refine e_iload dX2_note_43 rfl ?_
  refine e_iconst (v := 3) dX2_note_45 (by decide) ?_
  refine e_iadd dX2_note_46 ?_
  refine e_iload dX2_note_47 rfl ?_
  refine hg_st ((((e % 40)) * 4) + 3) hS dX2_note_49 (ai_add rfl (ai_lit 3)) (by first | assumption | omega) ?_
  refine e_aload_n dX2_note_50 rfl rfl ?_
  refine e_dup dX2_note_51 rfl ?_
  refine he_get hS dX2_note_52 fl_2_15 (by decide) ?_
  refine e_iconst (v := 1) dX2_note_55 (by decide) ?_
  refine e_iadd dX2_note_56 ?_
  refine e_as (nI (e + 1)) (by show he σ 1 + 1 = nI (e + 1); rw [he1]; exact nI_1 e) ?_
  refine he_put hS dX2_note_57 fl_2_15 ?_
  exact e_vret dX2_note_60 rfl ho (Nat.le_of_ble_eq_true rfl) (Nat.le_of_ble_eq_true rfl)
theorem c_X2_kept (hS : HS S h) {e : Nat} (he1 : he σ 1 = nI e) (he2 : e < 2000000000) : AM G_X2_kept [.ref (h + 5)] S (hs_put h σ M) J (some (.int (nI (min e 40))), S, hs_put h σ M, J) := by
  refine AM_gen (fun out ho => ?_)
  refine AM_of [.ref (h + 5)] (by decide) rfl (fun B => (Nat.le_of_ble_eq_true rfl)) ?_
  refine e_aload_n dX2_kept_0 rfl rfl ?_
  refine he_get hS dX2_kept_1 fl_2_15 (by decide) ?_
  refine e_bipush (v := 40) dX2_kept_4 (by decide) ?_
  refine e_min dX2_kept_6 ml_2_19 (by decide) (Nat.le_of_ble_eq_true rfl) (Nat.le_of_ble_eq_true rfl) (Nat.le_of_ble_eq_true rfl) ?_
  refine e_as (nI (min e 40)) ?_ ?_
  · rw [he1]
    by_cases q : 40 < e
    · rw [if_pos (show (40 : Int32) < nI e from nI_lt (a := 40) (b := e) q (by omega)), show min e 40 = 40 by omega]; rfl
    · rw [if_neg (show ¬ (40 : Int32) < nI e from nI_nlt (a := 40) (b := e) (by omega) (by omega)), show min e 40 = e by omega]
  · exact e_iret dX2_kept_9 rfl ho (Nat.le_of_ble_eq_true rfl) (Nat.le_of_ble_eq_true rfl)
theorem c_X2_part (hS : HS S h) {e i w : Nat} (he1 : he σ 1 = nI e) (he2 : e < 2000000000) (hi : i < 2 ^ 31) (hw : w < 4) : AM G_X2_part [.ref (h + 5), .int (nI i), .int (nI w)] S (hs_put h σ M) J (some (.int (if min e 40 ≤ i then -1 else hg σ ((e - min e 40 + i) % 40 * 4 + w))), S, hs_put h σ M, J) := by
  refine AM_gen (fun out ho => ?_)
  refine AM_of [.ref (h + 5), .int (nI i), .int (nI w), .retAddr 0] (by decide) rfl (fun B => (Nat.le_of_ble_eq_true rfl)) ?_
  refine e_iload_n dX2_part_0 rfl rfl ?_
  refine e_aload_n dX2_part_1 rfl rfl ?_
  refine e_cV1 dX2_part_2 ml_2_25 (c_X2_kept hS he1 he2) hS.a5 rfl rfl (by decide) (Nat.le_of_ble_eq_true rfl) ⟨rfl, rfl⟩ (Nat.le_of_ble_eq_true rfl) (Nat.le_of_ble_eq_true rfl) ?_
  refine e_icmp_lt 10 dX2_part_5 (by decide) (fun h5 => ?_) (fun h5 => ?_)
  · have hlt : i < min e 40 := by
      rcases Nat.lt_or_ge i (min e 40) with q | q
      · exact q
      · exact absurd h5 (nI_nlt q hi)
    refine e_aload_n dX2_part_10 rfl rfl ?_
    refine he_get hS dX2_part_11 fl_2_15 (by decide) ?_
    refine e_aload_n dX2_part_14 rfl rfl ?_
    refine e_cV1 dX2_part_15 ml_2_25 (c_X2_kept hS he1 he2) hS.a5 rfl rfl (by decide) (Nat.le_of_ble_eq_true rfl) ⟨rfl, rfl⟩ (Nat.le_of_ble_eq_true rfl) (Nat.le_of_ble_eq_true rfl) ?_
    refine e_isub dX2_part_18 ?_
    refine e_as (nI ((e - min e 40))) (by rw [he1]; exact pk_sub (by omega)) ?_
    refine e_iload_n dX2_part_19 rfl rfl ?_
    refine e_iadd dX2_part_20 ?_
    refine e_istoreE_n (nI (((e - min e 40)) + i)) (ai_add rfl rfl) dX2_part_21 rfl (by decide) rfl ?_
    refine e_aload_n dX2_part_22 rfl rfl ?_
    refine e_getr dX2_part_23 fl_2_11 hS.a5 rfl ?_
    refine e_iload_n dX2_part_26 rfl rfl ?_
    refine e_bipush (v := 40) dX2_part_27 (by decide) ?_
    refine e_irem dX2_part_29 (by decide) ?_
    refine e_as (nI (((e - min e 40 + i) % 40))) (pk_rem (a := e - min e 40 + i) (d := 40) (by omega) (by omega) (by omega)) ?_
    refine e_iconst (v := 4) dX2_part_30 (by decide) ?_
    refine e_imul dX2_part_31 ?_
    refine e_iload_n dX2_part_32 rfl rfl ?_
    refine e_iadd dX2_part_33 ?_
    refine hg_ld (((((e - min e 40 + i) % 40)) * 4) + w) hS dX2_part_34 (ai_add (ai_mul rfl (ai_lit 4)) rfl) (by first | assumption | omega) ?_
    exact e_iret dX2_part_35 rfl (ho.trans (by rw [if_neg (by omega)])) (Nat.le_of_ble_eq_true rfl) (Nat.le_of_ble_eq_true rfl)
  · have hge : min e 40 ≤ i := by
      rcases Nat.lt_or_ge i (min e 40) with q | q
      · exact absurd (nI_lt q (by omega)) h5
      · exact q
    refine e_iconst (v := (-1)) dX2_part_8 (by decide) ?_
    exact e_iret dX2_part_9 rfl (ho.trans (by rw [if_pos hge])) (Nat.le_of_ble_eq_true rfl) (Nat.le_of_ble_eq_true rfl)
theorem c_X4_byShare (hS : HS S h) {q : Nat} (hq : q < 5) (x : Int32) : AM G_X4_byShare [.ref (h + 20 + q), .int x] S (hs_put h σ M) J (some (.int (if 1 ≤ hr σ q 1 then x / hr σ q 1 else x)), S, hs_put h σ M, J) := by
  refine AM_gen (fun out ho => ?_)
  refine AM_of [.ref (h + 20 + q), .int x] (by decide) rfl (fun B => (Nat.le_of_ble_eq_true rfl)) ?_
  refine e_aload_n dX4_byShare_0 rfl rfl ?_
  refine hr_get hS (by first | assumption | omega) dX4_byShare_1 fl_4_13 (by decide) ?_
  refine e_iconst (v := 1) dX4_byShare_4 (by decide) ?_
  refine e_icmp_ge 12 dX4_byShare_5 (by decide) (fun h5 => ?_) (fun h5 => ?_)
  · refine e_iload_n dX4_byShare_12 rfl rfl ?_
    refine e_aload_n dX4_byShare_13 rfl rfl ?_
    refine hr_get hS (by first | assumption | omega) dX4_byShare_14 fl_4_13 (by decide) ?_
    refine e_idiv dX4_byShare_17 (fun e => by rw [e] at h5; exact absurd h5 (by decide)) ?_
    exact e_iret dX4_byShare_18 rfl (ho.trans (by rw [if_pos h5])) (Nat.le_of_ble_eq_true rfl) (Nat.le_of_ble_eq_true rfl)
  · refine e_iload_n dX4_byShare_8 rfl rfl ?_
    refine e_goto 18 dX4_byShare_9 (by decide) ?_
    exact e_iret dX4_byShare_18 rfl (ho.trans (by rw [if_neg h5])) (Nat.le_of_ble_eq_true rfl) (Nat.le_of_ble_eq_true rfl)
theorem c_X4_countEntry (hS : HS S h) {q : Nat} (hq : q < 5) (x : Int32) : AM G_X4_countEntry [.ref (h + 20 + q), .int x] S (hs_put h σ M) J (none, S, hs_put h (hCe σ q x) M, J) := by
  refine AM_gen (fun out ho => ?_)
  refine AM_of [.ref (h + 20 + q), .int x] (by decide) rfl (fun B => (Nat.le_of_ble_eq_true rfl)) ?_
  refine e_aload_n dX4_countEntry_0 rfl rfl ?_
  refine e_dup dX4_countEntry_1 rfl ?_
  refine hr_get hS (by first | assumption | omega) dX4_countEntry_2 fl_4_19 (by decide) ?_
  refine e_iconst (v := 1) dX4_countEntry_5 (by decide) ?_
  refine e_iadd dX4_countEntry_6 ?_
  refine hr_put hS (by first | assumption | omega) dX4_countEntry_7 fl_4_19 ?_
  refine e_aload_n dX4_countEntry_10 rfl rfl ?_
  refine e_dup dX4_countEntry_11 rfl ?_
  refine hr_get hS (by first | assumption | omega) dX4_countEntry_12 fl_4_25 (by decide) ?_
  refine e_iconst (v := 1) dX4_countEntry_15 (by decide) ?_
  refine e_iadd dX4_countEntry_16 ?_
  refine hr_put hS (by first | assumption | omega) dX4_countEntry_17 fl_4_25 ?_
  refine e_aload_n dX4_countEntry_20 rfl rfl ?_
  refine e_dup dX4_countEntry_21 rfl ?_
  refine hr_get hS (by first | assumption | omega) dX4_countEntry_22 fl_4_31 (by decide) ?_
  refine e_iload_n dX4_countEntry_25 rfl rfl ?_
  refine e_iadd dX4_countEntry_26 ?_
  refine hr_put hS (by first | assumption | omega) dX4_countEntry_27 fl_4_31 ?_
  refine e_aload_n dX4_countEntry_30 rfl rfl ?_
  refine e_aload_n dX4_countEntry_31 rfl rfl ?_
  refine hr_get hS (by first | assumption | omega) dX4_countEntry_32 fl_4_34 (by decide) ?_
  refine e_iload_n dX4_countEntry_35 rfl rfl ?_
  refine e_max dX4_countEntry_36 ml_4_37 (by decide) (Nat.le_of_ble_eq_true rfl) (Nat.le_of_ble_eq_true rfl) (Nat.le_of_ble_eq_true rfl) ?_
  refine hr_put hS (by first | assumption | omega) dX4_countEntry_39 fl_4_34 ?_
  exact e_vret dX4_countEntry_42 rfl ho (Nat.le_of_ble_eq_true rfl) (Nat.le_of_ble_eq_true rfl)
theorem c_X0_countQueue (hS : HS S h) {n : Nat} {pl : Nat → Nat} (hw : HW σ n pl) (r : Int32) : AM G_X0_countQueue [.ref h, .int r] S (hs_put h σ M) J (some (.int (nI (hCq σ pl r n))), S, hs_put h σ M, J) := by
  obtain ⟨hn2, hn1, hpl⟩ := hw
  refine AM_gen (fun out ho => ?_)
  refine AM_of [.ref h, .int r, .retAddr 0, .retAddr 0] (by decide) rfl (fun B => (Nat.le_of_ble_eq_true rfl)) ?_
  have key : ∀ (d i c : Nat), i + d = n → c = hCq σ pl r i → AW G_X0_countQueue out 0 0 4 [.ref h, .int r, .int (nI c), .int (nI i)] [] S (hs_put h σ M) J := by
    intro d
    induction d with
    | zero =>
      intro i c hi hc
      have hi2 : i = n := by omega
      subst hi2
      refine e_iload_n dX0_countQueue_4 rfl rfl ?_
      refine e_aload_n dX0_countQueue_5 rfl rfl ?_
      refine e_getr dX0_countQueue_6 fl_0_26 hS.a0 rfl ?_
      refine hn_get hS dX0_countQueue_9 fl_0_145 (by decide) ?_
      refine e_ge_t (i := i) (N := i) 45 dX0_countQueue_12 (by decide) rfl hn1 (by omega) (by omega) ?_
      refine e_iload_n dX0_countQueue_45 rfl rfl ?_
      exact e_iret dX0_countQueue_46 rfl (ho.trans (by rw [← hc])) (Nat.le_of_ble_eq_true rfl) (Nat.le_of_ble_eq_true rfl)
    | succ d ih =>
      intro i c hi hc
      obtain ⟨hp1, hp2, -⟩ := hpl i (by omega)
      refine e_iload_n dX0_countQueue_4 rfl rfl ?_
      refine e_aload_n dX0_countQueue_5 rfl rfl ?_
      refine e_getr dX0_countQueue_6 fl_0_26 hS.a0 rfl ?_
      refine hn_get hS dX0_countQueue_9 fl_0_145 (by decide) ?_
      refine e_ge_f (i := i) (N := n) 45 dX0_countQueue_12 (by decide) rfl hn1 (by omega) (by omega) ?_
      refine e_aload_n dX0_countQueue_15 rfl rfl ?_
      refine e_getr dX0_countQueue_16 fl_0_11 hS.a0 rfl ?_
      refine e_aload_n dX0_countQueue_19 rfl rfl ?_
      refine e_getr dX0_countQueue_20 fl_0_26 hS.a0 rfl ?_
      refine e_getr dX0_countQueue_23 fl_0_148 hS.a3 rfl ?_
      refine e_iload_n dX0_countQueue_26 rfl rfl ?_
      refine hp_ld i hS dX0_countQueue_27 rfl (by first | assumption | omega) ?_
      refine h_mem ((pl i)) hS dX0_countQueue_28 hp2 hp1 ?_
      refine hm_get hS (by first | assumption | omega) dX0_countQueue_29 fl_0_87 (by decide) ?_
      refine e_iload_n dX0_countQueue_32 rfl rfl ?_
      refine e_icmp_ne 39 dX0_countQueue_33 (by decide) (fun h33 => ?_) (fun h33 => ?_)
      · refine e_iinc dX0_countQueue_39 rfl (ai_inc _) (by decide) rfl ?_
        refine e_goto 4 dX0_countQueue_42 (by decide) ?_
        exact ih (i + 1) c (by omega) (by rw [hCq, fb_ct_succ, ← hCq, ← hc]; simp [h33])
      · refine e_iinc dX0_countQueue_36 rfl (ai_inc _) (by decide) rfl ?_
        refine e_iinc dX0_countQueue_39 rfl (ai_inc _) (by decide) rfl ?_
        refine e_goto 4 dX0_countQueue_42 (by decide) ?_
        exact ih (i + 1) (c + 1) (by omega) (by rw [hCq, fb_ct_succ, ← hCq, ← hc]; simp [h33])
  refine e_iconst (v := 0) dX0_countQueue_0 (by decide) ?_
  refine e_istore_n dX0_countQueue_1 rfl (by decide) rfl ?_
  refine e_iconst (v := 0) dX0_countQueue_2 (by decide) ?_
  refine e_istore_n dX0_countQueue_3 rfl (by decide) rfl ?_
  exact key n 0 0 (by omega) rfl
theorem c_X0_inQueue (hS : HS S h) {n : Nat} {pl : Nat → Nat} (hw : HW σ n pl) (r pc : Int32) : AM G_X0_inQueue [.ref h, .int r, .int pc] S (hs_put h σ M) J (some (.int (hInq σ pl n r pc)), S, hs_put h σ M, J) := by
  obtain ⟨hn2, hn1, hpl⟩ := hw
  refine AM_gen (fun out ho => ?_)
  refine AM_of [.ref h, .int r, .int pc, .retAddr 0, .retAddr 0, .retAddr 0] (by decide) rfl (fun B => (Nat.le_of_ble_eq_true rfl)) ?_
  have key : ∀ (d i c : Nat) (x5 : Value), i + d = n → c = hCq σ pl r i → (∀ j, j < i → (decide (hm σ (pl j) 1 = r) && decide (nI (hCq σ pl r j) = pc)) = false) → AW G_X0_inQueue out 0 0 5 [.ref h, .int r, .int pc, .int (nI c), .int (nI i), x5] [] S (hs_put h σ M) J := by
    intro d
    induction d with
    | zero =>
      intro i c x5 hi hc hno
      have hi2 : i = n := by omega
      subst hi2
      refine e_iload dX0_inQueue_5 rfl ?_
      refine e_aload_n dX0_inQueue_7 rfl rfl ?_
      refine e_getr dX0_inQueue_8 fl_0_26 hS.a0 rfl ?_
      refine hn_get hS dX0_inQueue_11 fl_0_145 (by decide) ?_
      refine e_ge_t (i := i) (N := i) 60 dX0_inQueue_14 (by decide) rfl hn1 (by omega) (by omega) ?_
      refine e_iconst (v := (-1)) dX0_inQueue_60 (by decide) ?_
      exact e_iret dX0_inQueue_61 rfl (ho.trans (by rw [hInq, ff_none hno]; rfl)) (Nat.le_of_ble_eq_true rfl) (Nat.le_of_ble_eq_true rfl)
    | succ d ih =>
      intro i c x5 hi hc hno
      obtain ⟨hp1, hp2, -⟩ := hpl i (by omega)
      refine e_iload dX0_inQueue_5 rfl ?_
      refine e_aload_n dX0_inQueue_7 rfl rfl ?_
      refine e_getr dX0_inQueue_8 fl_0_26 hS.a0 rfl ?_
      refine hn_get hS dX0_inQueue_11 fl_0_145 (by decide) ?_
      refine e_ge_f (i := i) (N := n) 60 dX0_inQueue_14 (by decide) rfl hn1 (by omega) (by omega) ?_
      refine e_aload_n dX0_inQueue_17 rfl rfl ?_
      refine e_getr dX0_inQueue_18 fl_0_26 hS.a0 rfl ?_
      refine e_getr dX0_inQueue_21 fl_0_148 hS.a3 rfl ?_
      refine e_iload dX0_inQueue_24 rfl ?_
      refine hp_ld i hS dX0_inQueue_26 rfl (by first | assumption | omega) ?_
      refine e_istore dX0_inQueue_27 (by decide) rfl ?_
      refine e_aload_n dX0_inQueue_29 rfl rfl ?_
      refine e_getr dX0_inQueue_30 fl_0_11 hS.a0 rfl ?_
      refine e_iload dX0_inQueue_33 rfl ?_
      refine h_mem ((pl i)) hS dX0_inQueue_35 hp2 hp1 ?_
      refine hm_get hS (by first | assumption | omega) dX0_inQueue_36 fl_0_87 (by decide) ?_
      refine e_iload_n dX0_inQueue_39 rfl rfl ?_
      refine e_icmp_ne 54 dX0_inQueue_40 (by decide) (fun h40 => ?_) (fun h40 => ?_)
      · refine e_iinc dX0_inQueue_54 rfl (ai_inc _) (by decide) rfl ?_
        refine e_goto 5 dX0_inQueue_57 (by decide) ?_
        exact ih (i + 1) c _ (by omega) (by rw [hCq, fb_ct_succ, ← hCq, ← hc]; simp [h40]) (lt_s hno (by simp [h40]))
      · refine e_iload_n dX0_inQueue_43 rfl rfl ?_
        refine e_iload_n dX0_inQueue_44 rfl rfl ?_
        refine e_icmp_ne 51 dX0_inQueue_45 (by decide) (fun h45 => ?_) (fun h45 => ?_)
        · refine e_iinc dX0_inQueue_51 rfl (ai_inc _) (by decide) rfl ?_
          refine e_iinc dX0_inQueue_54 rfl (ai_inc _) (by decide) rfl ?_
          refine e_goto 5 dX0_inQueue_57 (by decide) ?_
          exact ih (i + 1) (c + 1) _ (by omega) (by rw [hCq, fb_ct_succ, ← hCq, ← hc]; simp [h40]) (lt_s hno (by rw [← hc]; simp [h45]))
        · refine e_iload dX0_inQueue_48 rfl ?_
          exact e_iret dX0_inQueue_50 rfl (ho.trans (by rw [hInq, ff_some (i := i) (by omega) (by rw [← hc]; simp [h40, h45]) hno]; exact congrArg (fun z => (some (Value.int z), S, hs_put h σ M, J)) hp2.symm)) (Nat.le_of_ble_eq_true rfl) (Nat.le_of_ble_eq_true rfl)
  refine e_iconst (v := 0) dX0_inQueue_0 (by decide) ?_
  refine e_istore_n dX0_inQueue_1 rfl (by decide) rfl ?_
  refine e_iconst (v := 0) dX0_inQueue_2 (by decide) ?_
  refine e_istore dX0_inQueue_3 (by decide) rfl ?_
  exact key n 0 0 _ (by omega) rfl (fun _ q => absurd q (by omega))
theorem c_X0_countBefore (hS : HS S h) {n : Nat} {pl : Nat → Nat} (hw : HW σ n pl) {q : Nat} (hq : q < 12) : AM G_X0_countBefore [.ref h, .int (nI q)] S (hs_put h σ M) J (some (.int (hCb σ pl n q)), S, hs_put h σ M, J) := by
  obtain ⟨hn2, hn1, hpl⟩ := hw
  refine AM_gen (fun out ho => ?_)
  refine AM_of [.ref h, .int (nI q), .retAddr 0, .retAddr 0, .retAddr 0] (by decide) rfl (fun B => (Nat.le_of_ble_eq_true rfl)) ?_
  have key : ∀ (d i c : Nat) (x4 : Value), i + d = n → c = hCq σ pl (hm σ q 1) i → (∀ j, j < i → decide (pl j = q) = false) → AW G_X0_countBefore out 0 0 4 [.ref h, .int (nI q), .int (nI c), .int (nI i), x4] [] S (hs_put h σ M) J := by
    intro d
    induction d with
    | zero =>
      intro i c x4 hi hc hno
      have hi2 : i = n := by omega
      subst hi2
      refine e_iload_n dX0_countBefore_4 rfl rfl ?_
      refine e_aload_n dX0_countBefore_5 rfl rfl ?_
      refine e_getr dX0_countBefore_6 fl_0_26 hS.a0 rfl ?_
      refine hn_get hS dX0_countBefore_9 fl_0_145 (by decide) ?_
      refine e_ge_t (i := i) (N := i) 65 dX0_countBefore_12 (by decide) rfl hn1 (by omega) (by omega) ?_
      refine e_iconst (v := (-1)) dX0_countBefore_65 (by decide) ?_
      exact e_iret dX0_countBefore_66 rfl (ho.trans (by rw [hCb, ff_none hno]; rfl)) (Nat.le_of_ble_eq_true rfl) (Nat.le_of_ble_eq_true rfl)
    | succ d ih =>
      intro i c x4 hi hc hno
      obtain ⟨hp1, hp2, -⟩ := hpl i (by omega)
      refine e_iload_n dX0_countBefore_4 rfl rfl ?_
      refine e_aload_n dX0_countBefore_5 rfl rfl ?_
      refine e_getr dX0_countBefore_6 fl_0_26 hS.a0 rfl ?_
      refine hn_get hS dX0_countBefore_9 fl_0_145 (by decide) ?_
      refine e_ge_f (i := i) (N := n) 65 dX0_countBefore_12 (by decide) rfl hn1 (by omega) (by omega) ?_
      refine e_aload_n dX0_countBefore_15 rfl rfl ?_
      refine e_getr dX0_countBefore_16 fl_0_26 hS.a0 rfl ?_
      refine e_getr dX0_countBefore_19 fl_0_148 hS.a3 rfl ?_
      refine e_iload_n dX0_countBefore_22 rfl rfl ?_
      refine hp_ld i hS dX0_countBefore_23 rfl (by first | assumption | omega) ?_
      refine e_istore dX0_countBefore_24 (by decide) rfl ?_
      refine e_iload dX0_countBefore_26 rfl ?_
      refine e_iload_n dX0_countBefore_28 rfl rfl ?_
      refine e_icmp_ne 34 dX0_countBefore_29 (by decide) (fun h29 => ?_) (fun h29 => ?_)
      · have hne : ¬ pl i = q := fun e => h29 (by rw [hp2, e])
        refine e_aload_n dX0_countBefore_34 rfl rfl ?_
        refine e_getr dX0_countBefore_35 fl_0_11 hS.a0 rfl ?_
        refine e_iload dX0_countBefore_38 rfl ?_
        refine h_mem ((pl i)) hS dX0_countBefore_40 hp2 hp1 ?_
        refine hm_get hS (by first | assumption | omega) dX0_countBefore_41 fl_0_87 (by decide) ?_
        refine e_aload_n dX0_countBefore_44 rfl rfl ?_
        refine e_getr dX0_countBefore_45 fl_0_11 hS.a0 rfl ?_
        refine e_iload_n dX0_countBefore_48 rfl rfl ?_
        refine h_mem q hS dX0_countBefore_49 rfl (by first | assumption | omega) ?_
        refine hm_get hS (by first | assumption | omega) dX0_countBefore_50 fl_0_87 (by decide) ?_
        refine e_icmp_ne 59 dX0_countBefore_53 (by decide) (fun h53 => ?_) (fun h53 => ?_)
        · refine e_iinc dX0_countBefore_59 rfl (ai_inc _) (by decide) rfl ?_
          refine e_goto 4 dX0_countBefore_62 (by decide) ?_
          exact ih (i + 1) c _ (by omega) (by rw [hCq, fb_ct_succ, ← hCq, ← hc]; simp [h53]) (lt_s hno (by simp [hne]))
        · refine e_iinc dX0_countBefore_56 rfl (ai_inc _) (by decide) rfl ?_
          refine e_iinc dX0_countBefore_59 rfl (ai_inc _) (by decide) rfl ?_
          refine e_goto 4 dX0_countBefore_62 (by decide) ?_
          exact ih (i + 1) (c + 1) _ (by omega) (by rw [hCq, fb_ct_succ, ← hCq, ← hc]; simp [h53]) (lt_s hno (by simp [hne]))
      · have heq : pl i = q := by
          rw [hp2] at h29
          exact (nI_eq (by omega) (by omega)).mp h29
        refine e_iload_n dX0_countBefore_32 rfl rfl ?_
        exact e_iret dX0_countBefore_33 rfl (ho.trans (by rw [hCb, ff_some (i := i) (by omega) (by simp [heq]) hno, hc]; rfl)) (Nat.le_of_ble_eq_true rfl) (Nat.le_of_ble_eq_true rfl)
  refine e_iconst (v := 0) dX0_countBefore_0 (by decide) ?_
  refine e_istore_n dX0_countBefore_1 rfl (by decide) rfl ?_
  refine e_iconst (v := 0) dX0_countBefore_2 (by decide) ?_
  refine e_istore_n dX0_countBefore_3 rfl (by decide) rfl ?_
  exact key n 0 0 _ (by omega) rfl (fun _ z => absurd z (by omega))
theorem c_X0_countImpatient (hS : HS S h) {n : Nat} {pl : Nat → Nat} (hw : HW σ n pl) : AM G_X0_countImpatient [.ref h] S (hs_put h σ M) J (some (.int (nI (fb_ct (fun i => himp σ (pl i)) n))), S, hs_put h σ M, J) := by
  obtain ⟨hn2, hn1, hpl⟩ := hw
  refine AM_gen (fun out ho => ?_)
  refine AM_of [.ref h, .retAddr 0, .retAddr 0] (by decide) rfl (fun B => (Nat.le_of_ble_eq_true rfl)) ?_
  have key : ∀ (d i c : Nat), i + d = n → c = fb_ct (fun i => himp σ (pl i)) i → AW G_X0_countImpatient out 0 0 4 [.ref h, .int (nI c), .int (nI i)] [] S (hs_put h σ M) J := by
    intro d
    induction d with
    | zero =>
      intro i c hi hc
      have hi2 : i = n := by omega
      subst hi2
      refine e_iload_n dX0_countImpatient_4 rfl rfl ?_
      refine e_aload_n dX0_countImpatient_5 rfl rfl ?_
      refine e_getr dX0_countImpatient_6 fl_0_26 hS.a0 rfl ?_
      refine hn_get hS dX0_countImpatient_9 fl_0_145 (by decide) ?_
      refine e_ge_t (i := i) (N := i) 40 dX0_countImpatient_12 (by decide) rfl hn1 (by omega) (by omega) ?_
      refine e_iload_n dX0_countImpatient_40 rfl rfl ?_
      exact e_iret dX0_countImpatient_41 rfl (ho.trans (by rw [← hc])) (Nat.le_of_ble_eq_true rfl) (Nat.le_of_ble_eq_true rfl)
    | succ d ih =>
      intro i c hi hc
      obtain ⟨hp1, hp2, -⟩ := hpl i (by omega)
      refine e_iload_n dX0_countImpatient_4 rfl rfl ?_
      refine e_aload_n dX0_countImpatient_5 rfl rfl ?_
      refine e_getr dX0_countImpatient_6 fl_0_26 hS.a0 rfl ?_
      refine hn_get hS dX0_countImpatient_9 fl_0_145 (by decide) ?_
      refine e_ge_f (i := i) (N := n) 40 dX0_countImpatient_12 (by decide) rfl hn1 (by omega) (by omega) ?_
      refine e_aload_n dX0_countImpatient_15 rfl rfl ?_
      refine e_aload_n dX0_countImpatient_16 rfl rfl ?_
      refine e_getr dX0_countImpatient_17 fl_0_26 hS.a0 rfl ?_
      refine e_getr dX0_countImpatient_20 fl_0_148 hS.a3 rfl ?_
      refine e_iload_n dX0_countImpatient_23 rfl rfl ?_
      refine hp_ld i hS dX0_countImpatient_24 rfl (by first | assumption | omega) ?_
      refine e_as (nI ((pl i))) hp2 ?_
      refine e_cV1 dX0_countImpatient_25 ml_0_151 (c_X0_isImpatient hS hp1) hS.a0 rfl rfl (by decide) (Nat.le_of_ble_eq_true rfl) ⟨rfl, rfl⟩ (Nat.le_of_ble_eq_true rfl) (Nat.le_of_ble_eq_true rfl) ?_
      refine e_if_eq 34 dX0_countImpatient_28 (by decide) (fun h28 => ?_) (fun h28 => ?_)
      · refine e_iinc dX0_countImpatient_34 rfl (ai_inc _) (by decide) rfl ?_
        refine e_goto 4 dX0_countImpatient_37 (by decide) ?_
        exact ih (i + 1) c (by omega) (by rw [fb_ct_succ, ← hc]; simp [himp, z0 h28])
      · refine e_iinc dX0_countImpatient_31 rfl (ai_inc _) (by decide) rfl ?_
        refine e_iinc dX0_countImpatient_34 rfl (ai_inc _) (by decide) rfl ?_
        refine e_goto 4 dX0_countImpatient_37 (by decide) ?_
        exact ih (i + 1) (c + 1) (by omega) (by rw [fb_ct_succ, ← hc]; simp [himp, z1 h28])
  refine e_iconst (v := 0) dX0_countImpatient_0 (by decide) ?_
  refine e_istore_n dX0_countImpatient_1 rfl (by decide) rfl ?_
  refine e_iconst (v := 0) dX0_countImpatient_2 (by decide) ?_
  refine e_istore_n dX0_countImpatient_3 rfl (by decide) rfl ?_
  exact key n 0 0 (by omega) rfl
theorem c_X0_countCollapsed (hS : HS S h) : AM G_X0_countCollapsed [.ref h] S (hs_put h σ M) J (some (.int (nI (fb_ct (fun k => decide (hm σ k 0 = 3)) 12))), S, hs_put h σ M, J) := by
  refine AM_gen (fun out ho => ?_)
  refine AM_of [.ref h, .retAddr 0, .retAddr 0] (by decide) rfl (fun B => (Nat.le_of_ble_eq_true rfl)) ?_
  have key : ∀ (d i c : Nat), i + d = 12 → c = fb_ct (fun k => decide (hm σ k 0 = 3)) i → AW G_X0_countCollapsed out 0 0 4 [.ref h, .int (nI c), .int (nI i)] [] S (hs_put h σ M) J := by
    intro d
    induction d with
    | zero =>
      intro i c hi hc
      have hi2 : i = 12 := by omega
      subst hi2
      refine e_iload_n dX0_countCollapsed_4 rfl rfl ?_
      refine e_bipush (v := 12) dX0_countCollapsed_5 (by decide) ?_
      refine e_ge_t (i := 12) (N := 12) 32 dX0_countCollapsed_7 (by decide) rfl rfl (by omega) (by omega) ?_
      refine e_iload_n dX0_countCollapsed_32 rfl rfl ?_
      exact e_iret dX0_countCollapsed_33 rfl (ho.trans (by rw [← hc])) (Nat.le_of_ble_eq_true rfl) (Nat.le_of_ble_eq_true rfl)
    | succ d ih =>
      intro i c hi hc
      refine e_iload_n dX0_countCollapsed_4 rfl rfl ?_
      refine e_bipush (v := 12) dX0_countCollapsed_5 (by decide) ?_
      refine e_ge_f (i := i) (N := 12) 32 dX0_countCollapsed_7 (by decide) rfl rfl (by omega) (by omega) ?_
      refine e_aload_n dX0_countCollapsed_10 rfl rfl ?_
      refine e_getr dX0_countCollapsed_11 fl_0_11 hS.a0 rfl ?_
      refine e_iload_n dX0_countCollapsed_14 rfl rfl ?_
      refine h_mem i hS dX0_countCollapsed_15 rfl (by first | assumption | omega) ?_
      refine hm_get hS (by first | assumption | omega) dX0_countCollapsed_16 fl_0_96 (by decide) ?_
      refine e_iconst (v := 3) dX0_countCollapsed_19 (by decide) ?_
      refine e_icmp_ne 26 dX0_countCollapsed_20 (by decide) (fun h20 => ?_) (fun h20 => ?_)
      · refine e_iinc dX0_countCollapsed_26 rfl (ai_inc _) (by decide) rfl ?_
        refine e_goto 4 dX0_countCollapsed_29 (by decide) ?_
        exact ih (i + 1) c (by omega) (by rw [fb_ct_succ, ← hc]; simp [h20])
      · refine e_iinc dX0_countCollapsed_23 rfl (ai_inc _) (by decide) rfl ?_
        refine e_iinc dX0_countCollapsed_26 rfl (ai_inc _) (by decide) rfl ?_
        refine e_goto 4 dX0_countCollapsed_29 (by decide) ?_
        exact ih (i + 1) (c + 1) (by omega) (by rw [fb_ct_succ, ← hc]; simp [h20])
  refine e_iconst (v := 0) dX0_countCollapsed_0 (by decide) ?_
  refine e_istore_n dX0_countCollapsed_1 rfl (by decide) rfl ?_
  refine e_iconst (v := 0) dX0_countCollapsed_2 (by decide) ?_
  refine e_istore_n dX0_countCollapsed_3 rfl (by decide) rfl ?_
  exact key 12 0 0 rfl rfl
theorem c_X0_isDeserted (hS : HS S h) : AM G_X0_isDeserted [.ref h] S (hs_put h σ M) J (some (.int (if hf σ 8 = -1 ∧ hn σ 1 = 0 then 1 else 0)), S, hs_put h σ M, J) := by
  refine AM_gen (fun out ho => ?_)
  refine AM_of [.ref h] (by decide) rfl (fun B => (Nat.le_of_ble_eq_true rfl)) ?_
  refine e_aload_n dX0_isDeserted_0 rfl rfl ?_
  refine hf_get hS dX0_isDeserted_1 fl_0_51 (by decide) ?_
  refine e_iconst (v := (-1)) dX0_isDeserted_4 (by decide) ?_
  refine e_icmp_ne 22 dX0_isDeserted_5 (by decide) (fun h5 => ?_) (fun h5 => ?_)
  · refine e_iconst (v := 0) dX0_isDeserted_22 (by decide) ?_
    exact e_zret dX0_isDeserted_23 rfl (by decide) (ho.trans (by rw [if_neg (fun q => h5 q.1)])) (Nat.le_of_ble_eq_true rfl) (Nat.le_of_ble_eq_true rfl)
  · refine e_aload_n dX0_isDeserted_8 rfl rfl ?_
    refine e_getr dX0_isDeserted_9 fl_0_26 hS.a0 rfl ?_
    refine hn_get hS dX0_isDeserted_12 fl_0_145 (by decide) ?_
    refine e_if_ne 22 dX0_isDeserted_15 (by decide) (fun h15 => ?_) (fun h15 => ?_)
    · refine e_iconst (v := 0) dX0_isDeserted_22 (by decide) ?_
      exact e_zret dX0_isDeserted_23 rfl (by decide) (ho.trans (by rw [if_neg (fun q => h15 q.2)])) (Nat.le_of_ble_eq_true rfl) (Nat.le_of_ble_eq_true rfl)
    · refine e_iconst (v := 1) dX0_isDeserted_18 (by decide) ?_
      refine e_goto 23 dX0_isDeserted_19 (by decide) ?_
      exact e_zret dX0_isDeserted_23 rfl (by decide) (ho.trans (by rw [if_pos ⟨h5, h15⟩])) (Nat.le_of_ble_eq_true rfl) (Nat.le_of_ble_eq_true rfl)
theorem c_X0_goesBefore (hS : HS S h) {r o : Nat} (hr5 : r < 5) (ho5 : o < 5) : AM G_X0_goesBefore [.ref h, .int (nI r), .int (nI o)] S (hs_put h σ M) J (some (.int (bI (hGb σ r o))), S, hs_put h σ M, J) := by
  refine AM_gen (fun out ho => ?_)
  refine AM_of [.ref h, .int (nI r), .int (nI o), .retAddr 0, .retAddr 0] (by decide) rfl (fun B => (Nat.le_of_ble_eq_true rfl)) ?_
  refine e_aload_n dX0_goesBefore_0 rfl rfl ?_
  refine e_getr dX0_goesBefore_1 fl_0_19 hS.a0 rfl ?_
  refine e_iload_n dX0_goesBefore_4 rfl rfl ?_
  refine h_rm r hS dX0_goesBefore_5 rfl (by first | assumption | omega) ?_
  refine hr_get hS (by first | assumption | omega) dX0_goesBefore_6 fl_0_67 (by decide) ?_
  refine e_istore_n dX0_goesBefore_9 rfl (by decide) rfl ?_
  refine e_aload_n dX0_goesBefore_10 rfl rfl ?_
  refine e_getr dX0_goesBefore_11 fl_0_19 hS.a0 rfl ?_
  refine e_iload_n dX0_goesBefore_14 rfl rfl ?_
  refine h_rm o hS dX0_goesBefore_15 rfl (by first | assumption | omega) ?_
  refine hr_get hS (by first | assumption | omega) dX0_goesBefore_16 fl_0_67 (by decide) ?_
  refine e_istore dX0_goesBefore_19 (by decide) rfl ?_
  refine e_iload_n dX0_goesBefore_21 rfl rfl ?_
  refine e_iload dX0_goesBefore_22 rfl ?_
  refine e_icmp_lt 38 dX0_goesBefore_24 (by decide) (fun h24 => ?_) (fun h24 => ?_)
  · refine e_iconst (v := 1) dX0_goesBefore_38 (by decide) ?_
    refine e_goto 43 dX0_goesBefore_39 (by decide) ?_
    exact e_zret dX0_goesBefore_43 rfl (by decide) (ho.trans (by rw [show hGb σ r o = true by simp [hGb, h24]]; rfl)) (Nat.le_of_ble_eq_true rfl) (Nat.le_of_ble_eq_true rfl)
  · refine e_iload_n dX0_goesBefore_27 rfl rfl ?_
    refine e_iload dX0_goesBefore_28 rfl ?_
    refine e_icmp_ne 42 dX0_goesBefore_30 (by decide) (fun h30 => ?_) (fun h30 => ?_)
    · refine e_iconst (v := 0) dX0_goesBefore_42 (by decide) ?_
      exact e_zret dX0_goesBefore_43 rfl (by decide) (ho.trans (by rw [show hGb σ r o = false by simp [hGb, h24, h30]]; rfl)) (Nat.le_of_ble_eq_true rfl) (Nat.le_of_ble_eq_true rfl)
    · refine e_iload_n dX0_goesBefore_33 rfl rfl ?_
      refine e_iload_n dX0_goesBefore_34 rfl rfl ?_
      refine e_icmp_ge 42 dX0_goesBefore_35 (by decide) (fun h35 => ?_) (fun h35 => ?_)
      · have hlt : ¬ r < o := fun q => absurd h35 (nI_ge q (by omega))
        refine e_iconst (v := 0) dX0_goesBefore_42 (by decide) ?_
        exact e_zret dX0_goesBefore_43 rfl (by decide) (ho.trans (by rw [show hGb σ r o = false by simp [hGb, h24, hlt]]; rfl)) (Nat.le_of_ble_eq_true rfl) (Nat.le_of_ble_eq_true rfl)
      · have hlt : r < o := by
          rcases Nat.lt_or_ge r o with q | q
          · exact q
          · exact absurd (nI_le q (by omega)) h35
        refine e_iconst (v := 1) dX0_goesBefore_38 (by decide) ?_
        refine e_goto 43 dX0_goesBefore_39 (by decide) ?_
        exact e_zret dX0_goesBefore_43 rfl (by decide) (ho.trans (by rw [show hGb σ r o = true by simp [hGb, h30, hlt]]; rfl)) (Nat.le_of_ble_eq_true rfl) (Nat.le_of_ble_eq_true rfl)
end C30

