/-! ===== the reference: slots, numbers, the hash ===== -/
def rNum (m : Nat → Int32) (tl : Int32) (w : Nat) : Int32 :=
  match w with
  | 0 => m 103
  | 1 => m 100
  | 2 => m 101
  | 3 => m 102
  | 4 => rInUse m
  | 5 => if rInUse m = -1 then 0 else m 104
  | 6 => if rInUse m = -1 then 0 else m 105
  | 7 => m 106
  | 8 => nI (fb_ct (fun k => decide (m k = 1)) 12)
  | 9 => nI (fb_ct (rImp m) 12)
  | 10 => nI (fb_ct (fun k => decide (m k = 3)) 12)
  | 11 => m 108
  | 12 => m 109
  | 13 => tl
  | _ => m 110
def rCntR (m : Nat → Int32) (tl : Int32) (a v : Int32) : Prop := (¬ (0 ≤ a ∧ a ≤ 14) → v = -2) ∧ ∀ w, w < 15 → a = nI w → v = rNum m tl w
def mix (h : Int64) (x : Int32) : Int64 := 31 * h + x.toInt64
def mixN (h : Int64) (f : Nat → Int32) : Nat → Int64
  | 0 => h
  | n + 1 => mix (mixN h f n) (f n)
theorem mixN_cong (h : Int64) {f g : Nat → Int32} : ∀ {n : Nat}, (∀ k, k < n → f k = g k) → mixN h f n = mixN h g n
  | 0, _ => rfl
  | n + 1, e => by rw [mixN, mixN, mixN_cong h (fun k hk => e k (by omega)), e n (by omega)]
abbrev Jp (J : Nat → Int64) (b : Nat) (x : Int64) : Nat → Int64 := fun q => if q = b then x else J q
theorem Jp_at (J : Nat → Int64) (b : Nat) (x : Int64) : Jp J b x b = x := by simp [Jp]
theorem Jp_Jp (J : Nat → Int64) (b : Nat) (x y : Int64) : Jp (Jp J b x) b y = Jp J b y := by
  funext q
  simp only [Jp]
  split <;> rfl
def fs (f g : Nat → Int32) (o i : Nat) : Nat → Int32 := fun j => if o ≤ j ∧ j < o + i then f (j - o) else g j
theorem fs_0 (f g : Nat → Int32) (o : Nat) : fs f g o 0 = g := by
  funext j
  simp only [fs]
  rw [if_neg (by omega)]
theorem fs_s (f g : Nat → Int32) (o i : Nat) : upd (fs f g o i) (o + i) (f i) = fs f g o (i + 1) := by
  funext j
  by_cases h : j = o + i
  · subst h
    rw [upd_same]
    simp only [fs]
    rw [if_pos ⟨by omega, by omega⟩, Nat.add_sub_cancel_left]
  · rw [upd_ne _ _ h]
    simp only [fs]
    by_cases h2 : o ≤ j ∧ j < o + i
    · rw [if_pos h2, if_pos ⟨h2.1, by omega⟩]
    · rw [if_neg h2, if_neg (by omega)]
abbrev Rs (ρ : md_T) (x : Nat → Int32) : md_T := (ρ.1, ρ.2.1, ρ.2.2.1, x, ρ.2.2.2.2)
abbrev Ri (ρ : md_T) (x : Nat → Int32) : md_T := (ρ.1, ρ.2.1, ρ.2.2.1, ρ.2.2.2.1, x, ρ.2.2.2.2.2)
theorem rMemR_ok {m : Nat → Int32} {k q : Nat} (hk : k < 12) (hq : q < 5) : rMemR m (nI k) (nI q) (rMemV m k q) := by
  refine ⟨fun h => absurd ⟨⟨nI_pos' (by omega), nI_le (a := k) (b := 11) (by omega) (by omega)⟩, ⟨nI_pos' (by omega), nI_le (a := q) (b := 4) (by omega) (by omega)⟩⟩ h, fun k' q' h1 h2 e1 e2 => ?_⟩
  rw [(nI_eq (by omega) (by omega)).mp e1, (nI_eq (by omega) (by omega)).mp e2]
theorem rRoomR_ok {m : Nat → Int32} {k q : Nat} (hk : k < 5) (hq : q < 10) : rRoomR m (nI k) (nI q) (rRoomV m k q) := by
  refine ⟨fun h => absurd ⟨⟨nI_pos' (by omega), nI_le (a := k) (b := 4) (by omega) (by omega)⟩, ⟨nI_pos' (by omega), nI_le (a := q) (b := 9) (by omega) (by omega)⟩⟩ h, fun k' q' h1 h2 e1 e2 => ?_⟩
  rw [(nI_eq (by omega) (by omega)).mp e1, (nI_eq (by omega) (by omega)).mp e2]
section C25
variable {S : List aiS} {M : Nat → Nat → Int32} {J : Nat → Int64} {b : Nat} {ρ : md_T} {m m' : Nat → Int32}
theorem c_X7_impatient (hB : MS S b) : AM G_X7_impatient [.ref b] S (md_put b (Rm ρ m) M) J (some (.int (nI (fb_ct (rImp m) 12))), S, md_put b (Rm ρ m) M, J) := by
  refine AM_gen (fun out ho => ?_)
  refine AM_of [.ref b, .retAddr 0, .retAddr 0] (by decide) rfl (fun B => (Nat.le_of_ble_eq_true rfl)) ?_
  have key : ∀ (n k c : Nat), k + n = 12 → c = fb_ct (rImp m) k → AW G_X7_impatient out 0 0 4 [.ref b, .int (nI c), .int (nI k)] [] S (md_put b (Rm ρ m) M) J := by
    intro n
    induction n with
    | zero =>
      intro k c hk hc
      have hk2 : k = 12 := by omega
      subst hk2
      refine e_iload_n dX7_impatient_4 rfl rfl ?_
      refine e_bipush (v := 12) dX7_impatient_5 (by decide) ?_
      refine e_ge_t (i := 12) (N := 12) 32 dX7_impatient_7 (by decide) rfl rfl (by omega) (by omega) ?_
      refine e_iload_n dX7_impatient_32 rfl rfl ?_
      exact e_iret dX7_impatient_33 rfl (ho.trans (by rw [← hc])) (Nat.le_of_ble_eq_true rfl) (Nat.le_of_ble_eq_true rfl)
    | succ n ih =>
      intro k c hk hc
      refine e_iload_n dX7_impatient_4 rfl rfl ?_
      refine e_bipush (v := 12) dX7_impatient_5 (by decide) ?_
      refine e_ge_f (i := k) (N := 12) 32 dX7_impatient_7 (by decide) rfl rfl (by omega) (by omega) ?_
      refine e_iload_n dX7_impatient_10 rfl rfl ?_
      refine e_aload_n dX7_impatient_11 rfl rfl ?_
      refine e_iload_n dX7_impatient_12 rfl rfl ?_
      refine e_cV1 dX7_impatient_13 ml_7_47 (c_X7_isImpatient hB (by omega)) hB.a0 rfl rfl (by decide) (Nat.le_of_ble_eq_true rfl) ⟨rfl, rfl⟩ (Nat.le_of_ble_eq_true rfl) (Nat.le_of_ble_eq_true rfl) ?_
      refine e_if_eq 23 dX7_impatient_16 (by decide) (fun h16 => ?_) (fun h16 => ?_)
      · refine e_iconst (v := 0) dX7_impatient_23 (by decide) ?_
        refine e_iadd dX7_impatient_24 ?_
        refine e_istoreE_n (nI (c + 0)) (ai_add rfl (ai_lit 0)) dX7_impatient_25 rfl (by decide) rfl ?_
        refine e_iinc dX7_impatient_26 rfl (ai_inc _) (by decide) rfl ?_
        refine e_goto 4 dX7_impatient_29 (by decide) ?_
        exact ih (k + 1) c (by omega) (by rw [fb_ct_succ, ← hc, bI0 h16]; simp)
      · refine e_iconst (v := 1) dX7_impatient_19 (by decide) ?_
        refine e_goto 24 dX7_impatient_20 (by decide) ?_
        refine e_iadd dX7_impatient_24 ?_
        refine e_istoreE_n (nI (c + 1)) (ai_add rfl (ai_lit 1)) dX7_impatient_25 rfl (by decide) rfl ?_
        refine e_iinc dX7_impatient_26 rfl (ai_inc _) (by decide) rfl ?_
        refine e_goto 4 dX7_impatient_29 (by decide) ?_
        exact ih (k + 1) (c + 1) (by omega) (by rw [fb_ct_succ, ← hc, bI1 h16]; simp)
  refine e_iconst (v := 0) dX7_impatient_0 (by decide) ?_
  refine e_istore_n dX7_impatient_1 rfl (by decide) rfl ?_
  refine e_iconst (v := 0) dX7_impatient_2 (by decide) ?_
  refine e_istore_n dX7_impatient_3 rfl (by decide) rfl ?_
  exact key 12 0 0 rfl rfl
theorem c_X7_inState (hB : MS S b) (s : Int32) : AM G_X7_inState [.ref b, .int s] S (md_put b (Rm ρ m) M) J (some (.int (nI (fb_ct (fun k => decide (m k = s)) 12))), S, md_put b (Rm ρ m) M, J) := by
  refine AM_gen (fun out ho => ?_)
  refine AM_of [.ref b, .int s, .retAddr 0, .retAddr 0] (by decide) rfl (fun B => (Nat.le_of_ble_eq_true rfl)) ?_
  have key : ∀ (n k c : Nat), k + n = 12 → c = fb_ct (fun k => decide (m k = s)) k → AW G_X7_inState out 0 0 4 [.ref b, .int s, .int (nI c), .int (nI k)] [] S (md_put b (Rm ρ m) M) J := by
    intro n
    induction n with
    | zero =>
      intro k c hk hc
      have hk2 : k = 12 := by omega
      subst hk2
      refine e_iload_n dX7_inState_4 rfl rfl ?_
      refine e_bipush (v := 12) dX7_inState_5 (by decide) ?_
      refine e_ge_t (i := 12) (N := 12) 36 dX7_inState_7 (by decide) rfl rfl (by omega) (by omega) ?_
      refine e_iload_n dX7_inState_36 rfl rfl ?_
      exact e_iret dX7_inState_37 rfl (ho.trans (by rw [← hc])) (Nat.le_of_ble_eq_true rfl) (Nat.le_of_ble_eq_true rfl)
    | succ n ih =>
      intro k c hk hc
      refine e_iload_n dX7_inState_4 rfl rfl ?_
      refine e_bipush (v := 12) dX7_inState_5 (by decide) ?_
      refine e_ge_f (i := k) (N := 12) 36 dX7_inState_7 (by decide) rfl rfl (by omega) (by omega) ?_
      refine e_iload_n dX7_inState_10 rfl rfl ?_
      refine e_aload_n dX7_inState_11 rfl rfl ?_
      refine e_getr dX7_inState_12 fl_7_7 hB.a0 rfl ?_
      refine e_iconst (v := 0) dX7_inState_15 (by decide) ?_
      refine e_iload_n dX7_inState_16 rfl rfl ?_
      refine e_iadd dX7_inState_17 ?_
      refine mm_ld k hB dX7_inState_18 (ai_zadd rfl) (by first | assumption | omega) ?_
      refine e_iload_n dX7_inState_19 rfl rfl ?_
      refine e_icmp_ne 27 dX7_inState_20 (by decide) (fun h20 => ?_) (fun h20 => ?_)
      · refine e_iconst (v := 0) dX7_inState_27 (by decide) ?_
        refine e_iadd dX7_inState_28 ?_
        refine e_istoreE_n (nI (c + 0)) (ai_add rfl (ai_lit 0)) dX7_inState_29 rfl (by decide) rfl ?_
        refine e_iinc dX7_inState_30 rfl (ai_inc _) (by decide) rfl ?_
        refine e_goto 4 dX7_inState_33 (by decide) ?_
        exact ih (k + 1) c (by omega) (by rw [fb_ct_succ, ← hc]; simp [h20])
      · refine e_iconst (v := 1) dX7_inState_23 (by decide) ?_
        refine e_goto 28 dX7_inState_24 (by decide) ?_
        refine e_iadd dX7_inState_28 ?_
        refine e_istoreE_n (nI (c + 1)) (ai_add rfl (ai_lit 1)) dX7_inState_29 rfl (by decide) rfl ?_
        refine e_iinc dX7_inState_30 rfl (ai_inc _) (by decide) rfl ?_
        refine e_goto 4 dX7_inState_33 (by decide) ?_
        exact ih (k + 1) (c + 1) (by omega) (by rw [fb_ct_succ, ← hc]; simp [h20])
  refine e_iconst (v := 0) dX7_inState_0 (by decide) ?_
  refine e_istore_n dX7_inState_1 rfl (by decide) rfl ?_
  refine e_iconst (v := 0) dX7_inState_2 (by decide) ?_
  refine e_istore_n dX7_inState_3 rfl (by decide) rfl ?_
  exact key 12 0 0 rfl rfl
theorem c_X7_number (hB : MS S b) {w : Nat} (hw : w < 15) : AM G_X7_number [.ref b, .int (nI w)] S (md_put b (Rm ρ m) M) J (some (.int (rNum m (rf ρ 5) w)), S, md_put b (Rm ρ m) M, J) := by
  refine AM_gen (fun out ho => ?_)
  refine AM_of [.ref b, .int (nI w), .retAddr 0] (by decide) rfl (fun B => (Nat.le_of_ble_eq_true rfl)) ?_
  have tail : ∀ u : Bool, (rInUse m = -1) = (u = false) → AW G_X7_number out 0 0 14 [.ref b, .int (nI w), .int (bI u)] [] S (md_put b (Rm ρ m) M) J := by
    intro u hu
    rcases (show w = 0 ∨ w = 1 ∨ w = 2 ∨ w = 3 ∨ w = 4 ∨ w = 5 ∨ w = 6 ∨ w = 7 ∨ w = 8 ∨ w = 9 ∨ w = 10 ∨ w = 11 ∨ w = 12 ∨ w = 13 ∨ w = 14 by omega) with rfl | rfl | rfl | rfl | rfl | rfl | rfl | rfl | rfl | rfl | rfl | rfl | rfl | rfl | rfl
    · refine e_iload_n dX7_number_14 rfl rfl ?_
      refine e_tableIn 88 dX7_number_15 (by decide) (by decide) rfl (by decide) ?_
      refine e_aload_n dX7_number_88 rfl rfl ?_
      refine e_getr dX7_number_89 fl_7_7 hB.a0 rfl ?_
      refine e_bipush (v := 103) dX7_number_92 (by decide) ?_
      refine mm_ld 103 hB dX7_number_94 (ai_lit 103) (by decide) ?_
      exact e_iret dX7_number_95 rfl ho (Nat.le_of_ble_eq_true rfl) (Nat.le_of_ble_eq_true rfl)
    · refine e_iload_n dX7_number_14 rfl rfl ?_
      refine e_tableIn 187 dX7_number_15 (by decide) (by decide) rfl (by decide) ?_
      refine e_aload_n dX7_number_187 rfl rfl ?_
      refine e_getr dX7_number_188 fl_7_7 hB.a0 rfl ?_
      refine e_bipush (v := 100) dX7_number_191 (by decide) ?_
      refine e_iload_n dX7_number_193 rfl rfl ?_
      refine e_iadd dX7_number_194 ?_
      refine e_iconst (v := 1) dX7_number_195 (by decide) ?_
      refine e_isub dX7_number_196 ?_
      refine mm_ld 100 hB dX7_number_197 (by decide) (by decide) ?_
      exact e_iret dX7_number_198 rfl ho (Nat.le_of_ble_eq_true rfl) (Nat.le_of_ble_eq_true rfl)
    · refine e_iload_n dX7_number_14 rfl rfl ?_
      refine e_tableIn 187 dX7_number_15 (by decide) (by decide) rfl (by decide) ?_
      refine e_aload_n dX7_number_187 rfl rfl ?_
      refine e_getr dX7_number_188 fl_7_7 hB.a0 rfl ?_
      refine e_bipush (v := 100) dX7_number_191 (by decide) ?_
      refine e_iload_n dX7_number_193 rfl rfl ?_
      refine e_iadd dX7_number_194 ?_
      refine e_iconst (v := 1) dX7_number_195 (by decide) ?_
      refine e_isub dX7_number_196 ?_
      refine mm_ld 101 hB dX7_number_197 (by decide) (by decide) ?_
      exact e_iret dX7_number_198 rfl ho (Nat.le_of_ble_eq_true rfl) (Nat.le_of_ble_eq_true rfl)
    · refine e_iload_n dX7_number_14 rfl rfl ?_
      refine e_tableIn 187 dX7_number_15 (by decide) (by decide) rfl (by decide) ?_
      refine e_aload_n dX7_number_187 rfl rfl ?_
      refine e_getr dX7_number_188 fl_7_7 hB.a0 rfl ?_
      refine e_bipush (v := 100) dX7_number_191 (by decide) ?_
      refine e_iload_n dX7_number_193 rfl rfl ?_
      refine e_iadd dX7_number_194 ?_
      refine e_iconst (v := 1) dX7_number_195 (by decide) ?_
      refine e_isub dX7_number_196 ?_
      refine mm_ld 102 hB dX7_number_197 (by decide) (by decide) ?_
      exact e_iret dX7_number_198 rfl ho (Nat.le_of_ble_eq_true rfl) (Nat.le_of_ble_eq_true rfl)
    · refine e_iload_n dX7_number_14 rfl rfl ?_
      refine e_tableIn 96 dX7_number_15 (by decide) (by decide) rfl (by decide) ?_
      refine e_aload_n dX7_number_96 rfl rfl ?_
      refine e_cV1 dX7_number_97 ml_7_65 (c_X7_inUse hB) hB.a0 rfl rfl (by decide) (Nat.le_of_ble_eq_true rfl) ⟨rfl, rfl⟩ (Nat.le_of_ble_eq_true rfl) (Nat.le_of_ble_eq_true rfl) ?_
      exact e_iret dX7_number_100 rfl ho (Nat.le_of_ble_eq_true rfl) (Nat.le_of_ble_eq_true rfl)
    · refine e_iload_n dX7_number_14 rfl rfl ?_
      refine e_tableIn 101 dX7_number_15 (by decide) (by decide) rfl (by decide) ?_
      refine e_iload_n dX7_number_101 rfl rfl ?_
      refine e_if_eq 115 dX7_number_102 (by decide) (fun hz => ?_) (fun hz => ?_)
      · refine e_iconst (v := 0) dX7_number_115 (by decide) ?_
        exact e_iret dX7_number_116 rfl (ho.trans (by rw [rNum]; simp [hu, bI0 hz])) (Nat.le_of_ble_eq_true rfl) (Nat.le_of_ble_eq_true rfl)
      · refine e_aload_n dX7_number_105 rfl rfl ?_
        refine e_getr dX7_number_106 fl_7_7 hB.a0 rfl ?_
        refine e_bipush (v := 104) dX7_number_109 (by decide) ?_
        refine mm_ld 104 hB dX7_number_111 (ai_lit 104) (by decide) ?_
        refine e_goto 116 dX7_number_112 (by decide) ?_
        exact e_iret dX7_number_116 rfl (ho.trans (by rw [rNum]; simp [hu, bI1 hz])) (Nat.le_of_ble_eq_true rfl) (Nat.le_of_ble_eq_true rfl)
    · refine e_iload_n dX7_number_14 rfl rfl ?_
      refine e_tableIn 117 dX7_number_15 (by decide) (by decide) rfl (by decide) ?_
      refine e_iload_n dX7_number_117 rfl rfl ?_
      refine e_if_eq 131 dX7_number_118 (by decide) (fun hz => ?_) (fun hz => ?_)
      · refine e_iconst (v := 0) dX7_number_131 (by decide) ?_
        exact e_iret dX7_number_132 rfl (ho.trans (by rw [rNum]; simp [hu, bI0 hz])) (Nat.le_of_ble_eq_true rfl) (Nat.le_of_ble_eq_true rfl)
      · refine e_aload_n dX7_number_121 rfl rfl ?_
        refine e_getr dX7_number_122 fl_7_7 hB.a0 rfl ?_
        refine e_bipush (v := 105) dX7_number_125 (by decide) ?_
        refine mm_ld 105 hB dX7_number_127 (ai_lit 105) (by decide) ?_
        refine e_goto 132 dX7_number_128 (by decide) ?_
        exact e_iret dX7_number_132 rfl (ho.trans (by rw [rNum]; simp [hu, bI1 hz])) (Nat.le_of_ble_eq_true rfl) (Nat.le_of_ble_eq_true rfl)
    · refine e_iload_n dX7_number_14 rfl rfl ?_
      refine e_tableIn 133 dX7_number_15 (by decide) (by decide) rfl (by decide) ?_
      refine e_aload_n dX7_number_133 rfl rfl ?_
      refine e_getr dX7_number_134 fl_7_7 hB.a0 rfl ?_
      refine e_bipush (v := 106) dX7_number_137 (by decide) ?_
      refine mm_ld 106 hB dX7_number_139 (ai_lit 106) (by decide) ?_
      exact e_iret dX7_number_140 rfl ho (Nat.le_of_ble_eq_true rfl) (Nat.le_of_ble_eq_true rfl)
    · refine e_iload_n dX7_number_14 rfl rfl ?_
      refine e_tableIn 141 dX7_number_15 (by decide) (by decide) rfl (by decide) ?_
      refine e_aload_n dX7_number_141 rfl rfl ?_
      refine e_iconst (v := 1) dX7_number_142 (by decide) ?_
      refine e_cV1 dX7_number_143 ml_7_171 (c_X7_inState hB _) hB.a0 rfl rfl (by decide) (Nat.le_of_ble_eq_true rfl) ⟨rfl, rfl⟩ (Nat.le_of_ble_eq_true rfl) (Nat.le_of_ble_eq_true rfl) ?_
      exact e_iret dX7_number_146 rfl ho (Nat.le_of_ble_eq_true rfl) (Nat.le_of_ble_eq_true rfl)
    · refine e_iload_n dX7_number_14 rfl rfl ?_
      refine e_tableIn 147 dX7_number_15 (by decide) (by decide) rfl (by decide) ?_
      refine e_aload_n dX7_number_147 rfl rfl ?_
      refine e_cV1 dX7_number_148 ml_7_174 (c_X7_impatient hB) hB.a0 rfl rfl (by decide) (Nat.le_of_ble_eq_true rfl) ⟨rfl, rfl⟩ (Nat.le_of_ble_eq_true rfl) (Nat.le_of_ble_eq_true rfl) ?_
      exact e_iret dX7_number_151 rfl ho (Nat.le_of_ble_eq_true rfl) (Nat.le_of_ble_eq_true rfl)
    · refine e_iload_n dX7_number_14 rfl rfl ?_
      refine e_tableIn 152 dX7_number_15 (by decide) (by decide) rfl (by decide) ?_
      refine e_aload_n dX7_number_152 rfl rfl ?_
      refine e_iconst (v := 3) dX7_number_153 (by decide) ?_
      refine e_cV1 dX7_number_154 ml_7_171 (c_X7_inState hB _) hB.a0 rfl rfl (by decide) (Nat.le_of_ble_eq_true rfl) ⟨rfl, rfl⟩ (Nat.le_of_ble_eq_true rfl) (Nat.le_of_ble_eq_true rfl) ?_
      exact e_iret dX7_number_157 rfl ho (Nat.le_of_ble_eq_true rfl) (Nat.le_of_ble_eq_true rfl)
    · refine e_iload_n dX7_number_14 rfl rfl ?_
      refine e_tableIn 158 dX7_number_15 (by decide) (by decide) rfl (by decide) ?_
      refine e_aload_n dX7_number_158 rfl rfl ?_
      refine e_getr dX7_number_159 fl_7_7 hB.a0 rfl ?_
      refine e_bipush (v := 108) dX7_number_162 (by decide) ?_
      refine mm_ld 108 hB dX7_number_164 (ai_lit 108) (by decide) ?_
      exact e_iret dX7_number_165 rfl ho (Nat.le_of_ble_eq_true rfl) (Nat.le_of_ble_eq_true rfl)
    · refine e_iload_n dX7_number_14 rfl rfl ?_
      refine e_tableIn 166 dX7_number_15 (by decide) (by decide) rfl (by decide) ?_
      refine e_aload_n dX7_number_166 rfl rfl ?_
      refine e_getr dX7_number_167 fl_7_7 hB.a0 rfl ?_
      refine e_bipush (v := 109) dX7_number_170 (by decide) ?_
      refine mm_ld 109 hB dX7_number_172 (ai_lit 109) (by decide) ?_
      exact e_iret dX7_number_173 rfl ho (Nat.le_of_ble_eq_true rfl) (Nat.le_of_ble_eq_true rfl)
    · refine e_iload_n dX7_number_14 rfl rfl ?_
      refine e_tableIn 174 dX7_number_15 (by decide) (by decide) rfl (by decide) ?_
      refine e_aload_n dX7_number_174 rfl rfl ?_
      refine rf_get hB dX7_number_175 fl_7_109 (by decide) ?_
      exact e_iret dX7_number_178 rfl ho (Nat.le_of_ble_eq_true rfl) (Nat.le_of_ble_eq_true rfl)
    · refine e_iload_n dX7_number_14 rfl rfl ?_
      refine e_tableIn 179 dX7_number_15 (by decide) (by decide) rfl (by decide) ?_
      refine e_aload_n dX7_number_179 rfl rfl ?_
      refine e_getr dX7_number_180 fl_7_7 hB.a0 rfl ?_
      refine e_bipush (v := 110) dX7_number_183 (by decide) ?_
      refine mm_ld 110 hB dX7_number_185 (ai_lit 110) (by decide) ?_
      exact e_iret dX7_number_186 rfl ho (Nat.le_of_ble_eq_true rfl) (Nat.le_of_ble_eq_true rfl)
  refine e_aload_n dX7_number_0 rfl rfl ?_
  refine e_cV1 dX7_number_1 ml_7_65 (c_X7_inUse hB) hB.a0 rfl rfl (by decide) (Nat.le_of_ble_eq_true rfl) ⟨rfl, rfl⟩ (Nat.le_of_ble_eq_true rfl) (Nat.le_of_ble_eq_true rfl) ?_
  refine e_iconst (v := (-1)) dX7_number_4 (by decide) ?_
  refine e_icmp_eq 12 dX7_number_5 (by decide) (fun h5 => ?_) (fun h5 => ?_)
  · refine e_iconst (v := 0) dX7_number_12 (by decide) ?_
    refine e_istore_n dX7_number_13 rfl (by decide) rfl ?_
    exact tail false (by simp [h5])
  · refine e_iconst (v := 1) dX7_number_8 (by decide) ?_
    refine e_goto 13 dX7_number_9 (by decide) ?_
    refine e_istore_n dX7_number_13 rfl (by decide) rfl ?_
    exact tail true (by simp [h5])
theorem c_X7_count (hB : MS S b) {a v : Int32} (hR : rCntR m (rf ρ 5) a v) : AM G_X7_count [.ref b, .int a] S (md_put b (Rm ρ m) M) J (some (.int v), S, md_put b (Rm ρ m) M, J) := by
  refine AM_gen (fun out ho => ?_)
  refine AM_of [.ref b, .int a] (by decide) rfl (fun B => (Nat.le_of_ble_eq_true rfl)) ?_
  refine e_iload_n dX7_count_0 rfl rfl ?_
  refine e_iconst (v := 0) dX7_count_1 (by decide) ?_
  refine e_bipush (v := 14) dX7_count_2 (by decide) ?_
  refine e_cS1 dX7_count_4 ml_7_39 (c_X7_in _ _ _) rfl rfl (by decide) (Nat.le_of_ble_eq_true rfl) ⟨rfl, rfl⟩ (Nat.le_of_ble_eq_true rfl) (Nat.le_of_ble_eq_true rfl) ?_
  refine e_if_eq 18 dX7_count_7 (by decide) (fun h7 => ?_) (fun h7 => ?_)
  · have hv := hR.1 (z0 h7)
    refine e_bipush (v := (-2)) dX7_count_18 (by decide) ?_
    exact e_iret dX7_count_20 rfl (ho.trans (by rw [hv])) (Nat.le_of_ble_eq_true rfl) (Nat.le_of_ble_eq_true rfl)
  · obtain ⟨w, hw, rfl⟩ := wi_nI (n := 14) rfl (z1 h7)
    have hv := hR.2 w (by omega) rfl
    refine e_aload_n dX7_count_10 rfl rfl ?_
    refine e_iload_n dX7_count_11 rfl rfl ?_
    refine e_cV1 dX7_count_12 ml_7_177 (c_X7_number hB (by omega)) hB.a0 rfl rfl (by decide) (Nat.le_of_ble_eq_true rfl) ⟨rfl, rfl⟩ (Nat.le_of_ble_eq_true rfl) (Nat.le_of_ble_eq_true rfl) ?_
    refine e_goto 20 dX7_count_15 (by decide) ?_
    exact e_iret dX7_count_20 rfl (ho.trans (by rw [hv])) (Nat.le_of_ble_eq_true rfl) (Nat.le_of_ble_eq_true rfl)
theorem c_X7_mixes (hB : MS S b) (v : Int64) : AM G_X7_mixes [.ref b, .long v] S (md_put b ρ M) J (none, S, md_put b ρ M, Jp J b (31 * J b + v)) := by
  refine AM_gen (fun out ho => ?_)
  refine AM_of [.ref b, .long v, .retAddr 0] (by decide) rfl (fun B => (Nat.le_of_ble_eq_true rfl)) ?_
  refine e_aload_n dX7_mixes_0 rfl rfl ?_
  refine e_ldc2 dX7_mixes_1 kc_7_180 ?_
  refine e_aload_n dX7_mixes_4 rfl rfl ?_
  refine e_getl dX7_mixes_5 fl_7_182 hB.a0 ?_
  refine e_lmul dX7_mixes_8 ?_
  refine e_lload_n dX7_mixes_9 rfl rfl ?_
  refine e_ladd dX7_mixes_10 ?_
  refine e_putl dX7_mixes_11 fl_7_182 hB.a0 (by intro i hi; simp only [ai_ft]; repeat (first | split | omega)) ?_
  exact e_vret dX7_mixes_14 rfl ho (Nat.le_of_ble_eq_true rfl) (Nat.le_of_ble_eq_true rfl)
theorem c_X7_save (hB : MS S b) {s : Nat} (hs : s < 2) : AM G_X7_save [.ref b, .int (nI s)] S (md_put b (Rm ρ m) M) J (some (.int (m 103)), S, md_put b (Rm (Ri (Rs ρ (fs m (rs ρ) (271 * s) 271)) (upd (ri ρ) s 1)) m) M, J) := by
  refine AM_gen (fun out ho => ?_)
  refine AM_of [.ref b, .int (nI s), .retAddr 0] (by decide) rfl (fun B => (Nat.le_of_ble_eq_true rfl)) ?_
  have key : ∀ (d i : Nat), i + d = 271 → AW G_X7_save out 0 0 14 [.ref b, .int (nI s), .int (nI i)] [] S (md_put b (Rm (Rs ρ (fs m (rs ρ) (271 * s) i)) m) M) J := by
    intro d
    induction d with
    | zero =>
      intro i hi
      have hi2 : i = 271 := by omega
      subst hi2
      refine e_iload_n dX7_save_14 rfl rfl ?_
      refine e_sipush (v := 271) dX7_save_15 (by decide) ?_
      refine e_ge_t (i := 271) (N := 271) 45 dX7_save_18 (by decide) rfl rfl (by omega) (by omega) ?_
      refine e_aload_n dX7_save_45 rfl rfl ?_
      refine e_getr dX7_save_46 fl_7_19 hB.a0 rfl ?_
      refine e_iload_n dX7_save_49 rfl rfl ?_
      refine e_iconst (v := 1) dX7_save_50 (by decide) ?_
      refine ri_st s hB dX7_save_51 (by decide) rfl (by first | assumption | omega) ?_
      show AW G_X7_save out 0 0 _ _ _ S (md_put b (Rm (Ri (Rs ρ (fs m (rs ρ) (271 * s) 271)) (upd (ri ρ) s 1)) m) M) J
      refine e_aload_n dX7_save_52 rfl rfl ?_
      refine e_getr dX7_save_53 fl_7_7 hB.a0 rfl ?_
      refine e_bipush (v := 103) dX7_save_56 (by decide) ?_
      refine mm_ld 103 hB dX7_save_58 (ai_lit 103) (by decide) ?_
      exact e_iret dX7_save_59 rfl ho (Nat.le_of_ble_eq_true rfl) (Nat.le_of_ble_eq_true rfl)
    | succ d ih =>
      intro i hi
      have ih2 := ih (i + 1) (by omega)
      rw [← fs_s] at ih2
      refine e_iload_n dX7_save_14 rfl rfl ?_
      refine e_sipush (v := 271) dX7_save_15 (by decide) ?_
      refine e_ge_f (i := i) (N := 271) 45 dX7_save_18 (by decide) rfl rfl (by omega) (by omega) ?_
      refine e_aload_n dX7_save_21 rfl rfl ?_
      refine e_getr dX7_save_22 fl_7_16 hB.a0 rfl ?_
      refine e_sipush (v := 271) dX7_save_25 (by decide) ?_
      refine e_iload_n dX7_save_28 rfl rfl ?_
      refine e_imul dX7_save_29 ?_
      refine e_iload_n dX7_save_30 rfl rfl ?_
      refine e_iadd dX7_save_31 ?_
      refine e_aload_n dX7_save_32 rfl rfl ?_
      refine e_getr dX7_save_33 fl_7_7 hB.a0 rfl ?_
      refine e_iload_n dX7_save_36 rfl rfl ?_
      refine mm_ld i hB dX7_save_37 rfl (by first | assumption | omega) ?_
      refine rs_st ((271 * s) + i) hB dX7_save_38 (ai_add (ai_mul (ai_lit 271) rfl) rfl) (by first | assumption | omega) ?_
      refine e_iinc dX7_save_39 rfl (ai_inc _) (by decide) rfl ?_
      refine e_goto 14 dX7_save_42 (by decide) ?_
      exact ih2
  have h0 := key 271 0 rfl
  rw [fs_0] at h0
  refine e_iload_n dX7_save_0 rfl rfl ?_
  refine e_iconst (v := 0) dX7_save_1 (by decide) ?_
  refine e_iconst (v := 1) dX7_save_2 (by decide) ?_
  refine e_cS1 dX7_save_3 ml_7_39 (c_X7_in _ _ _) rfl rfl (by decide) (Nat.le_of_ble_eq_true rfl) ⟨rfl, rfl⟩ (Nat.le_of_ble_eq_true rfl) (Nat.le_of_ble_eq_true rfl) ?_
  refine e_if_ne 12 dX7_save_6 (by decide) (fun h6 => ?_) (fun h6 => ?_)
  · refine e_iconst (v := 0) dX7_save_12 (by decide) ?_
    refine e_istore_n dX7_save_13 rfl (by decide) rfl ?_
    exact h0
  · exact absurd ⟨nI_pos' (by omega), nI_le (a := s) (b := 1) (by omega) (by omega)⟩ (z0 h6)
theorem c_X7_save_bad (hB : MS S b) {a : Int32} (ha : ¬ (0 ≤ a ∧ a ≤ 1)) : AM G_X7_save [.ref b, .int a] S (md_put b ρ M) J (some (.int (-2)), S, md_put b ρ M, J) := by
  refine AM_gen (fun out ho => ?_)
  refine AM_of [.ref b, .int a, .retAddr 0] (by decide) rfl (fun B => (Nat.le_of_ble_eq_true rfl)) ?_
  refine e_iload_n dX7_save_0 rfl rfl ?_
  refine e_iconst (v := 0) dX7_save_1 (by decide) ?_
  refine e_iconst (v := 1) dX7_save_2 (by decide) ?_
  refine e_cS1 dX7_save_3 ml_7_39 (c_X7_in _ _ _) rfl rfl (by decide) (Nat.le_of_ble_eq_true rfl) ⟨rfl, rfl⟩ (Nat.le_of_ble_eq_true rfl) (Nat.le_of_ble_eq_true rfl) ?_
  refine e_if_ne 12 dX7_save_6 (by decide) (fun h6 => ?_) (fun h6 => ?_)
  · exact absurd (z1 h6) ha
  · refine e_bipush (v := (-2)) dX7_save_9 (by decide) ?_
    exact e_iret dX7_save_11 rfl ho (Nat.le_of_ble_eq_true rfl) (Nat.le_of_ble_eq_true rfl)
theorem c_X7_restore (hB : MS S b) {s : Nat} (hs : s < 2) (hsv : ¬ ri ρ s = 0) : AM G_X7_restore [.ref b, .int (nI s)] S (md_put b (Rm ρ m) M) J (some (.int (rs ρ (271 * s + 103))), S, md_put b (Rm ρ (fl (fun j => rs ρ (271 * s + j)) m 271)) M, J) := by
  refine AM_gen (fun out ho => ?_)
  refine AM_of [.ref b, .int (nI s), .retAddr 0] (by decide) rfl (fun B => (Nat.le_of_ble_eq_true rfl)) ?_
  have key : ∀ (d i : Nat), i + d = 271 → AW G_X7_restore out 0 0 26 [.ref b, .int (nI s), .int (nI i)] [] S (md_put b (Rm ρ (fl (fun j => rs ρ (271 * s + j)) m i)) M) J := by
    intro d
    induction d with
    | zero =>
      intro i hi
      have hi2 : i = 271 := by omega
      subst hi2
      refine e_iload_n dX7_restore_26 rfl rfl ?_
      refine e_sipush (v := 271) dX7_restore_27 (by decide) ?_
      refine e_ge_t (i := 271) (N := 271) 57 dX7_restore_30 (by decide) rfl rfl (by omega) (by omega) ?_
      refine e_aload_n dX7_restore_57 rfl rfl ?_
      refine e_getr dX7_restore_58 fl_7_7 hB.a0 rfl ?_
      refine e_bipush (v := 103) dX7_restore_61 (by decide) ?_
      refine mm_ld 103 hB dX7_restore_63 (ai_lit 103) (by decide) ?_
      exact e_iret dX7_restore_64 rfl ho (Nat.le_of_ble_eq_true rfl) (Nat.le_of_ble_eq_true rfl)
    | succ d ih =>
      intro i hi
      have ih2 := ih (i + 1) (by omega)
      rw [← fl_s] at ih2
      refine e_iload_n dX7_restore_26 rfl rfl ?_
      refine e_sipush (v := 271) dX7_restore_27 (by decide) ?_
      refine e_ge_f (i := i) (N := 271) 57 dX7_restore_30 (by decide) rfl rfl (by omega) (by omega) ?_
      refine e_aload_n dX7_restore_33 rfl rfl ?_
      refine e_getr dX7_restore_34 fl_7_7 hB.a0 rfl ?_
      refine e_iload_n dX7_restore_37 rfl rfl ?_
      refine e_aload_n dX7_restore_38 rfl rfl ?_
      refine e_getr dX7_restore_39 fl_7_16 hB.a0 rfl ?_
      refine e_sipush (v := 271) dX7_restore_42 (by decide) ?_
      refine e_iload_n dX7_restore_45 rfl rfl ?_
      refine e_imul dX7_restore_46 ?_
      refine e_iload_n dX7_restore_47 rfl rfl ?_
      refine e_iadd dX7_restore_48 ?_
      refine rs_ld ((271 * s) + i) hB dX7_restore_49 (ai_add (ai_mul (ai_lit 271) rfl) rfl) (by first | assumption | omega) ?_
      refine mm_st i hB dX7_restore_50 rfl (by first | assumption | omega) ?_
      refine e_iinc dX7_restore_51 rfl (ai_inc _) (by decide) rfl ?_
      refine e_goto 26 dX7_restore_54 (by decide) ?_
      exact ih2
  have h0 := key 271 0 rfl
  rw [fl_0] at h0
  refine e_iload_n dX7_restore_0 rfl rfl ?_
  refine e_iconst (v := 0) dX7_restore_1 (by decide) ?_
  refine e_iconst (v := 1) dX7_restore_2 (by decide) ?_
  refine e_cS1 dX7_restore_3 ml_7_39 (c_X7_in _ _ _) rfl rfl (by decide) (Nat.le_of_ble_eq_true rfl) ⟨rfl, rfl⟩ (Nat.le_of_ble_eq_true rfl) (Nat.le_of_ble_eq_true rfl) ?_
  refine e_if_ne 12 dX7_restore_6 (by decide) (fun h6 => ?_) (fun h6 => ?_)
  · refine e_aload_n dX7_restore_12 rfl rfl ?_
    refine e_getr dX7_restore_13 fl_7_19 hB.a0 rfl ?_
    refine e_iload_n dX7_restore_16 rfl rfl ?_
    refine ri_ld s hB dX7_restore_17 rfl (by first | assumption | omega) ?_
    refine e_if_ne 24 dX7_restore_18 (by decide) (fun h18 => ?_) (fun h18 => ?_)
    · refine e_iconst (v := 0) dX7_restore_24 (by decide) ?_
      refine e_istore_n dX7_restore_25 rfl (by decide) rfl ?_
      exact h0
    · exact absurd h18 hsv
  · exact absurd ⟨nI_pos' (by omega), nI_le (a := s) (b := 1) (by omega) (by omega)⟩ (z0 h6)
theorem c_X7_restore_bad (hB : MS S b) {a v : Int32} (ha : ¬ (0 ≤ a ∧ a ≤ 1) → v = -2) (hst : ∀ s, s < 2 → a = nI s → ri ρ s = 0 ∧ v = -3) : AM G_X7_restore [.ref b, .int a] S (md_put b ρ M) J (some (.int v), S, md_put b ρ M, J) := by
  refine AM_gen (fun out ho => ?_)
  refine AM_of [.ref b, .int a, .retAddr 0] (by decide) rfl (fun B => (Nat.le_of_ble_eq_true rfl)) ?_
  refine e_iload_n dX7_restore_0 rfl rfl ?_
  refine e_iconst (v := 0) dX7_restore_1 (by decide) ?_
  refine e_iconst (v := 1) dX7_restore_2 (by decide) ?_
  refine e_cS1 dX7_restore_3 ml_7_39 (c_X7_in _ _ _) rfl rfl (by decide) (Nat.le_of_ble_eq_true rfl) ⟨rfl, rfl⟩ (Nat.le_of_ble_eq_true rfl) (Nat.le_of_ble_eq_true rfl) ?_
  refine e_if_ne 12 dX7_restore_6 (by decide) (fun h6 => ?_) (fun h6 => ?_)
  · obtain ⟨s, hs, rfl⟩ := wi_nI (n := 1) rfl (z1 h6)
    obtain ⟨h1, hv⟩ := hst s (by omega) rfl
    refine e_aload_n dX7_restore_12 rfl rfl ?_
    refine e_getr dX7_restore_13 fl_7_19 hB.a0 rfl ?_
    refine e_iload_n dX7_restore_16 rfl rfl ?_
    refine ri_ld s hB dX7_restore_17 rfl (by first | assumption | omega) ?_
    refine e_if_ne 24 dX7_restore_18 (by decide) (fun h18 => ?_) (fun h18 => ?_)
    · exact absurd h1 h18
    · refine e_bipush (v := (-3)) dX7_restore_21 (by decide) ?_
      exact e_iret dX7_restore_23 rfl (ho.trans (by rw [hv])) (Nat.le_of_ble_eq_true rfl) (Nat.le_of_ble_eq_true rfl)
  · have hv := ha (z0 h6)
    refine e_bipush (v := (-2)) dX7_restore_9 (by decide) ?_
    exact e_iret dX7_restore_11 rfl (ho.trans (by rw [hv])) (Nat.le_of_ble_eq_true rfl) (Nat.le_of_ble_eq_true rfl)
theorem c_X7_type (hB : MS S b) {tl : Nat} (htl : rf ρ 5 = nI tl) (ht4 : tl ≤ 100) {a v : Int32} {ρ' : md_T} (hbad : ¬ (0 ≤ a ∧ a ≤ 127) → v = -2 ∧ ρ' = ρ) (hful : (0 ≤ a ∧ a ≤ 127) → tl = 100 → v = -4 ∧ ρ' = ρ) (hok : (0 ≤ a ∧ a ≤ 127) → tl < 100 → v = nI (tl + 1) ∧ ρ' = prf (prt ρ tl a) 5 (nI (tl + 1))) : AM G_X7_type [.ref b, .int a] S (md_put b ρ M) J (some (.int v), S, md_put b ρ' M, J) := by
  refine AM_gen (fun out ho => ?_)
  refine AM_of [.ref b, .int a] (by decide) rfl (fun B => (Nat.le_of_ble_eq_true rfl)) ?_
  refine e_iload_n dX7_type_0 rfl rfl ?_
  refine e_iconst (v := 0) dX7_type_1 (by decide) ?_
  refine e_bipush (v := 127) dX7_type_2 (by decide) ?_
  refine e_cS1 dX7_type_4 ml_7_39 (c_X7_in _ _ _) rfl rfl (by decide) (Nat.le_of_ble_eq_true rfl) ⟨rfl, rfl⟩ (Nat.le_of_ble_eq_true rfl) (Nat.le_of_ble_eq_true rfl) ?_
  refine e_if_ne 13 dX7_type_7 (by decide) (fun h7 => ?_) (fun h7 => ?_)
  · refine e_aload_n dX7_type_13 rfl rfl ?_
    refine rf_get hB dX7_type_14 fl_7_109 (by decide) ?_
    refine e_bipush (v := 100) dX7_type_17 (by decide) ?_
    refine e_icmp_ne 25 dX7_type_19 (by decide) (fun h19 => ?_) (fun h19 => ?_)
    · have hlt : tl < 100 := by
        rcases Nat.lt_or_ge tl 100 with e | e
        · exact e
        · exact absurd (by rw [htl, show tl = 100 by omega]; rfl) h19
      obtain ⟨hv, hr⟩ := hok (z1 h7) hlt
      refine e_aload_n dX7_type_25 rfl rfl ?_
      refine e_getr dX7_type_26 fl_7_23 hB.a0 rfl ?_
      refine e_aload_n dX7_type_29 rfl rfl ?_
      refine rf_get hB dX7_type_30 fl_7_109 (by decide) ?_
      refine e_iload_n dX7_type_33 rfl rfl ?_
      refine rt_st tl hB dX7_type_34 htl (by first | assumption | omega) ?_
      refine e_aload_n dX7_type_35 rfl rfl ?_
      refine e_dup dX7_type_36 rfl ?_
      refine rf_get hB dX7_type_37 fl_7_109 (by decide) ?_
      refine e_iconst (v := 1) dX7_type_40 (by decide) ?_
      refine e_iadd dX7_type_41 ?_
      refine e_as (nI (tl + 1)) (by show rf ρ 5 + 1 = nI (tl + 1); rw [htl]; exact nI_1 tl) ?_
      refine rf_put hB dX7_type_42 fl_7_109 ?_
      refine e_aload_n dX7_type_45 rfl rfl ?_
      refine rf_get hB dX7_type_46 fl_7_109 (by decide) ?_
      exact e_iret dX7_type_49 rfl (ho.trans (by rw [hv, hr]; rfl)) (Nat.le_of_ble_eq_true rfl) (Nat.le_of_ble_eq_true rfl)
    · have e : tl = 100 := by
        have := h19
        rw [htl] at this
        exact (nI_eq (by omega) (by omega)).mp this
      obtain ⟨hv, hr⟩ := hful (z1 h7) e
      refine e_bipush (v := (-4)) dX7_type_22 (by decide) ?_
      exact e_iret dX7_type_24 rfl (ho.trans (by rw [hv, hr])) (Nat.le_of_ble_eq_true rfl) (Nat.le_of_ble_eq_true rfl)
  · obtain ⟨hv, hr⟩ := hbad (z0 h7)
    refine e_bipush (v := (-2)) dX7_type_10 (by decide) ?_
    exact e_iret dX7_type_12 rfl (ho.trans (by rw [hv, hr])) (Nat.le_of_ble_eq_true rfl) (Nat.le_of_ble_eq_true rfl)
theorem c_X7_clear (hB : MS S b) : AM G_X7_clear [.ref b] S (md_put b ρ M) J (some (.int (rf ρ 5)), S, md_put b (prf ρ 5 0) M, J) := by
  refine AM_gen (fun out ho => ?_)
  refine AM_of [.ref b, .retAddr 0] (by decide) rfl (fun B => (Nat.le_of_ble_eq_true rfl)) ?_
  refine e_aload_n dX7_clear_0 rfl rfl ?_
  refine rf_get hB dX7_clear_1 fl_7_109 (by decide) ?_
  refine e_istore_n dX7_clear_4 rfl (by decide) rfl ?_
  refine e_aload_n dX7_clear_5 rfl rfl ?_
  refine e_iconst (v := 0) dX7_clear_6 (by decide) ?_
  refine rf_put hB dX7_clear_7 fl_7_109 ?_
  refine e_iload_n dX7_clear_10 rfl rfl ?_
  exact e_iret dX7_clear_11 rfl ho (Nat.le_of_ble_eq_true rfl) (Nat.le_of_ble_eq_true rfl)
end C25

