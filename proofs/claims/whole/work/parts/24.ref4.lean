/-! ===== the reference: what it tells, what it foretells ===== -/
def rMemV (m : Nat → Int32) (k w : Nat) : Int32 := if w = 0 then m k else if w = 1 then m (12 + k) else if w = 2 then m (24 + k) else if w = 3 then m (36 + k) else if m k = 1 then nI (rBef m k) else -1
def rRoomV (m : Nat → Int32) (r w : Nat) : Int32 := if w < 3 then m (60 + 5 * w + r) else if w = 3 then nI (rIns m (nI r)) else if w = 4 then nI (rWai m (nI r)) else m (75 + 5 * (w - 5) + r)
def rMemR (m : Nat → Int32) (a w v : Int32) : Prop := (¬ ((0 ≤ a ∧ a ≤ 11) ∧ (0 ≤ w ∧ w ≤ 4)) → v = -2) ∧ ∀ k q, k < 12 → q < 5 → a = nI k → w = nI q → v = rMemV m k q
def rRoomR (m : Nat → Int32) (a w v : Int32) : Prop := (¬ ((0 ≤ a ∧ a ≤ 4) ∧ (0 ≤ w ∧ w ≤ 9)) → v = -2) ∧ ∀ r q, r < 5 → q < 10 → a = nI r → w = nI q → v = rRoomV m r q
def rQueR (m : Nat → Int32) (a i v : Int32) : Prop := (¬ ((0 ≤ a ∧ a ≤ 4) ∧ 0 ≤ i) → v = -2) ∧ ((0 ≤ a ∧ a ≤ 4) ∧ 0 ≤ i → v = rInq m a i)
def rEvR (m : Nat → Int32) (a w v : Int32) : Prop := (¬ (0 ≤ a ∧ (0 ≤ w ∧ w ≤ 3)) → v = -2) ∧ ∀ i q, i < 2 ^ 31 → q < 4 → a = nI i → w = nI q → v = if m 108 ≤ nI i then -1 else m (111 + 4 * i + q)
def rUnf (m : Nat → Int32) : Nat → Nat × Int32 × Int32
  | 0 => (0, 0, 0)
  | r + 1 =>
    if 0 < m (75 + r) then
      ((rUnf m r).1 + 1,
       if (rUnf m r).1 = 0 ∨ m (85 + r) * 2520 / m (65 + r) < (rUnf m r).2.1 then m (85 + r) * 2520 / m (65 + r) else (rUnf m r).2.1,
       if (rUnf m r).1 = 0 ∨ (rUnf m r).2.2 < m (85 + r) * 2520 / m (65 + r) then m (85 + r) * 2520 / m (65 + r) else (rUnf m r).2.2)
    else rUnf m r
theorem rUnf_le (m : Nat → Int32) : ∀ r, (rUnf m r).1 ≤ r
  | 0 => Nat.le_refl 0
  | r + 1 => by
    have := rUnf_le m r
    rw [rUnf]
    split
    · show (rUnf m r).1 + 1 ≤ r + 1; omega
    · omega
def fl {α : Type} (f g : Nat → α) (i : Nat) : Nat → α := fun j => if j < i then f j else g j
theorem fl_0 {α : Type} (f g : Nat → α) : fl f g 0 = g := by funext j; simp [fl]
theorem fl_s (f g : Nat → Int32) (i : Nat) : upd (fl f g i) i (f i) = fl f g (i + 1) := by
  funext j
  by_cases h : j = i
  · subst h; rw [upd_same]; simp [fl]
  · rw [upd_ne _ _ h]
    simp only [fl]
    by_cases h2 : j < i
    · rw [if_pos h2, if_pos (by omega)]
    · rw [if_neg h2, if_neg (by omega)]
abbrev Ra (ρ : md_T) (x : Nat → Int32) : md_T := (ρ.1, ρ.2.1, x, ρ.2.2.2)
def rPre (m : Nat → Int32) : Nat := fb_ct (fun k => decide (0 < m k)) 12
/-- a member enters, with a quota, in so many ticks, or not within 500 -/
def rEi (n : Nat) (m : Nat → Int32) (k : Nat) (q : Int32) (o : Option Nat) : Prop := ∃ (N : Nat) (mN : Nat → Int32), N ≤ 500 ∧ rPass n N (upd m 101 q) = some mN ∧ (∀ T mT, T < N → rPass n T (upd m 101 q) = some mT → mT k = 1) ∧ (N = 500 ∨ ¬ mN k = 1) ∧ o = if mN k = 1 then none else some N
def rEm (n : Nat) (m : Nat → Int32) (o : Option Nat) : Prop := ∃ (N : Nat) (mN : Nat → Int32), N ≤ 500 ∧ rPass n N m = some mN ∧ (∀ T mT, T < N → rPass n T m = some mT → 0 < rPre mT) ∧ (N = 500 ∨ rPre mN = 0) ∧ o = if rPre mN = 0 then some N else none
def rBq (e : Nat → Option Nat) : Nat → Option (Nat × Nat)
  | 0 => none
  | i + 1 => match rBq e i with
    | none => (e (i + 1)).map (fun t => (i + 1, t))
    | some (q, s) => match e (i + 1) with
      | some t => if t < s then some (i + 1, t) else some (q, s)
      | none => some (q, s)
section C24
variable {S : List aiS} {M : Nat → Nat → Int32} {J : Nat → Int64} {b : Nat} {ρ : md_T} {m m' : Nat → Int32}
theorem c_X7_member (hB : MS S b) {a w v : Int32} (hR : rMemR m a w v) : AM G_X7_member [.ref b, .int a, .int w] S (md_put b (Rm ρ m) M) J (some (.int v), S, md_put b (Rm ρ m) M, J) := by
  refine AM_gen (fun out ho => ?_)
  refine AM_of [.ref b, .int a, .int w] (by decide) rfl (fun B => (Nat.le_of_ble_eq_true rfl)) ?_
  refine e_iload_n dX7_member_0 rfl rfl ?_
  refine e_cS1 dX7_member_1 ml_7_91 (c_X7_isMember _) rfl rfl (by decide) (Nat.le_of_ble_eq_true rfl) ⟨rfl, rfl⟩ (Nat.le_of_ble_eq_true rfl) (Nat.le_of_ble_eq_true rfl) ?_
  refine e_if_eq 16 dX7_member_4 (by decide) (fun h4 => ?_) (fun h4 => ?_)
  · have hv := hR.1 (fun q => z0 h4 q.1)
    refine e_bipush (v := (-2)) dX7_member_16 (by decide) ?_
    exact e_iret dX7_member_18 rfl (ho.trans (by rw [hv])) (Nat.le_of_ble_eq_true rfl) (Nat.le_of_ble_eq_true rfl)
  · refine e_iload_n dX7_member_7 rfl rfl ?_
    refine e_iconst (v := 0) dX7_member_8 (by decide) ?_
    refine e_iconst (v := 4) dX7_member_9 (by decide) ?_
    refine e_cS1 dX7_member_10 ml_7_39 (c_X7_in _ _ _) rfl rfl (by decide) (Nat.le_of_ble_eq_true rfl) ⟨rfl, rfl⟩ (Nat.le_of_ble_eq_true rfl) (Nat.le_of_ble_eq_true rfl) ?_
    refine e_if_ne 19 dX7_member_13 (by decide) (fun h13 => ?_) (fun h13 => ?_)
    · obtain ⟨k, hk, rfl⟩ := wi_nI (n := 11) rfl (z1 h4)
      obtain ⟨q, hq, rfl⟩ := wi_nI (n := 4) rfl (z1 h13)
      have hv := hR.2 k q (by omega) (by omega) rfl rfl
      rcases (show q = 0 ∨ q = 1 ∨ q = 2 ∨ q = 3 ∨ q = 4 by omega) with rfl | rfl | rfl | rfl | rfl
      · refine e_iload_n dX7_member_19 rfl rfl ?_
        refine e_tableIn 52 dX7_member_20 (by decide) (by decide) rfl (by decide) ?_
        refine e_aload_n dX7_member_52 rfl rfl ?_
        refine e_getr dX7_member_53 fl_7_7 hB.a0 rfl ?_
        refine e_iconst (v := 0) dX7_member_56 (by decide) ?_
        refine e_iload_n dX7_member_57 rfl rfl ?_
        refine e_iadd dX7_member_58 ?_
        refine mm_ld k hB dX7_member_59 (ai_zadd rfl) (by first | assumption | omega) ?_
        exact e_iret dX7_member_60 rfl (ho.trans (by rw [hv]; rfl)) (Nat.le_of_ble_eq_true rfl) (Nat.le_of_ble_eq_true rfl)
      · refine e_iload_n dX7_member_19 rfl rfl ?_
        refine e_tableIn 61 dX7_member_20 (by decide) (by decide) rfl (by decide) ?_
        refine e_aload_n dX7_member_61 rfl rfl ?_
        refine e_getr dX7_member_62 fl_7_7 hB.a0 rfl ?_
        refine e_bipush (v := 12) dX7_member_65 (by decide) ?_
        refine e_iload_n dX7_member_67 rfl rfl ?_
        refine e_iadd dX7_member_68 ?_
        refine mm_ld (12 + k) hB dX7_member_69 (ai_add (ai_lit 12) rfl) (by first | assumption | omega) ?_
        exact e_iret dX7_member_70 rfl (ho.trans (by rw [hv]; rfl)) (Nat.le_of_ble_eq_true rfl) (Nat.le_of_ble_eq_true rfl)
      · refine e_iload_n dX7_member_19 rfl rfl ?_
        refine e_tableIn 71 dX7_member_20 (by decide) (by decide) rfl (by decide) ?_
        refine e_aload_n dX7_member_71 rfl rfl ?_
        refine e_getr dX7_member_72 fl_7_7 hB.a0 rfl ?_
        refine e_bipush (v := 24) dX7_member_75 (by decide) ?_
        refine e_iload_n dX7_member_77 rfl rfl ?_
        refine e_iadd dX7_member_78 ?_
        refine mm_ld (24 + k) hB dX7_member_79 (ai_add (ai_lit 24) rfl) (by first | assumption | omega) ?_
        exact e_iret dX7_member_80 rfl (ho.trans (by rw [hv]; rfl)) (Nat.le_of_ble_eq_true rfl) (Nat.le_of_ble_eq_true rfl)
      · refine e_iload_n dX7_member_19 rfl rfl ?_
        refine e_tableIn 81 dX7_member_20 (by decide) (by decide) rfl (by decide) ?_
        refine e_aload_n dX7_member_81 rfl rfl ?_
        refine e_getr dX7_member_82 fl_7_7 hB.a0 rfl ?_
        refine e_bipush (v := 36) dX7_member_85 (by decide) ?_
        refine e_iload_n dX7_member_87 rfl rfl ?_
        refine e_iadd dX7_member_88 ?_
        refine mm_ld (36 + k) hB dX7_member_89 (ai_add (ai_lit 36) rfl) (by first | assumption | omega) ?_
        exact e_iret dX7_member_90 rfl (ho.trans (by rw [hv]; rfl)) (Nat.le_of_ble_eq_true rfl) (Nat.le_of_ble_eq_true rfl)
      · refine e_iload_n dX7_member_19 rfl rfl ?_
        refine e_tableOut 91 dX7_member_20 (by decide) (by decide) ?_
        refine e_aload_n dX7_member_91 rfl rfl ?_
        refine e_getr dX7_member_92 fl_7_7 hB.a0 rfl ?_
        refine e_iconst (v := 0) dX7_member_95 (by decide) ?_
        refine e_iload_n dX7_member_96 rfl rfl ?_
        refine e_iadd dX7_member_97 ?_
        refine mm_ld k hB dX7_member_98 (ai_zadd rfl) (by first | assumption | omega) ?_
        refine e_iconst (v := 1) dX7_member_99 (by decide) ?_
        refine e_icmp_ne 111 dX7_member_100 (by decide) (fun h100 => ?_) (fun h100 => ?_)
        · refine e_iconst (v := (-1)) dX7_member_111 (by decide) ?_
          exact e_iret dX7_member_112 rfl (ho.trans (by rw [hv]; simp [rMemV, h100])) (Nat.le_of_ble_eq_true rfl) (Nat.le_of_ble_eq_true rfl)
        · refine e_aload_n dX7_member_103 rfl rfl ?_
          refine e_iload_n dX7_member_104 rfl rfl ?_
          refine e_cV1 dX7_member_105 ml_7_43 (c_X7_before hB (by omega)) hB.a0 rfl rfl (by decide) (Nat.le_of_ble_eq_true rfl) ⟨rfl, rfl⟩ (Nat.le_of_ble_eq_true rfl) (Nat.le_of_ble_eq_true rfl) ?_
          refine e_goto 112 dX7_member_108 (by decide) ?_
          exact e_iret dX7_member_112 rfl (ho.trans (by rw [hv]; simp [rMemV, h100])) (Nat.le_of_ble_eq_true rfl) (Nat.le_of_ble_eq_true rfl)
    · have hv := hR.1 (fun q => z0 h13 q.2)
      refine e_bipush (v := (-2)) dX7_member_16 (by decide) ?_
      exact e_iret dX7_member_18 rfl (ho.trans (by rw [hv])) (Nat.le_of_ble_eq_true rfl) (Nat.le_of_ble_eq_true rfl)
theorem c_X7_room (hB : MS S b) {a w v : Int32} (hR : rRoomR m a w v) : AM G_X7_room [.ref b, .int a, .int w] S (md_put b (Rm ρ m) M) J (some (.int v), S, md_put b (Rm ρ m) M, J) := by
  refine AM_gen (fun out ho => ?_)
  refine AM_of [.ref b, .int a, .int w] (by decide) rfl (fun B => (Nat.le_of_ble_eq_true rfl)) ?_
  refine e_iload_n dX7_room_0 rfl rfl ?_
  refine e_cS1 dX7_room_1 ml_7_88 (c_X7_isRoom _) rfl rfl (by decide) (Nat.le_of_ble_eq_true rfl) ⟨rfl, rfl⟩ (Nat.le_of_ble_eq_true rfl) (Nat.le_of_ble_eq_true rfl) ?_
  refine e_if_eq 17 dX7_room_4 (by decide) (fun h4 => ?_) (fun h4 => ?_)
  · have hv := hR.1 (fun q => z0 h4 q.1)
    refine e_bipush (v := (-2)) dX7_room_17 (by decide) ?_
    exact e_iret dX7_room_19 rfl (ho.trans (by rw [hv])) (Nat.le_of_ble_eq_true rfl) (Nat.le_of_ble_eq_true rfl)
  · refine e_iload_n dX7_room_7 rfl rfl ?_
    refine e_iconst (v := 0) dX7_room_8 (by decide) ?_
    refine e_bipush (v := 9) dX7_room_9 (by decide) ?_
    refine e_cS1 dX7_room_11 ml_7_39 (c_X7_in _ _ _) rfl rfl (by decide) (Nat.le_of_ble_eq_true rfl) ⟨rfl, rfl⟩ (Nat.le_of_ble_eq_true rfl) (Nat.le_of_ble_eq_true rfl) ?_
    refine e_if_ne 20 dX7_room_14 (by decide) (fun h14 => ?_) (fun h14 => ?_)
    · obtain ⟨r, hr, rfl⟩ := wi_nI (n := 4) rfl (z1 h4)
      obtain ⟨q, hq, rfl⟩ := wi_nI (n := 9) rfl (z1 h14)
      have hv := hR.2 r q (by omega) (by omega) rfl rfl
      by_cases h3 : q < 3
      · have t1 : AW G_X7_room out 0 0 56 [.ref b, .int (nI r), .int (nI q)] [] S (md_put b (Rm ρ m) M) J := by
          refine e_aload_n dX7_room_56 rfl rfl ?_
          refine e_getr dX7_room_57 fl_7_7 hB.a0 rfl ?_
          refine e_bipush (v := 60) dX7_room_60 (by decide) ?_
          refine e_iconst (v := 5) dX7_room_62 (by decide) ?_
          refine e_iload_n dX7_room_63 rfl rfl ?_
          refine e_imul dX7_room_64 ?_
          refine e_iadd dX7_room_65 ?_
          refine e_iload_n dX7_room_66 rfl rfl ?_
          refine e_iadd dX7_room_67 ?_
          refine mm_ld ((60 + (5 * q)) + r) hB dX7_room_68 (ai_add (ai_add (ai_lit 60) (ai_mul (ai_lit 5) rfl)) rfl) (by first | assumption | omega) ?_
          exact e_iret dX7_room_69 rfl (ho.trans (by rw [hv, rRoomV, if_pos h3])) (Nat.le_of_ble_eq_true rfl) (Nat.le_of_ble_eq_true rfl)
        rcases (show q = 0 ∨ q = 1 ∨ q = 2 by omega) with rfl | rfl | rfl
        · refine e_iload_n dX7_room_20 rfl rfl ?_
          refine e_tableIn 56 dX7_room_21 (by decide) (by decide) rfl (by decide) ?_
          exact t1
        · refine e_iload_n dX7_room_20 rfl rfl ?_
          refine e_tableIn 56 dX7_room_21 (by decide) (by decide) rfl (by decide) ?_
          exact t1
        · refine e_iload_n dX7_room_20 rfl rfl ?_
          refine e_tableIn 56 dX7_room_21 (by decide) (by decide) rfl (by decide) ?_
          exact t1
      · by_cases h5 : q < 5
        · rcases (show q = 3 ∨ q = 4 by omega) with rfl | rfl
          · refine e_iload_n dX7_room_20 rfl rfl ?_
            refine e_tableIn 70 dX7_room_21 (by decide) (by decide) rfl (by decide) ?_
            refine e_aload_n dX7_room_70 rfl rfl ?_
            refine e_iload_n dX7_room_71 rfl rfl ?_
            refine e_cV1 dX7_room_72 ml_7_75 (c_X7_insideOf hB _) hB.a0 rfl rfl (by decide) (Nat.le_of_ble_eq_true rfl) ⟨rfl, rfl⟩ (Nat.le_of_ble_eq_true rfl) (Nat.le_of_ble_eq_true rfl) ?_
            exact e_iret dX7_room_75 rfl (ho.trans (by rw [hv]; rfl)) (Nat.le_of_ble_eq_true rfl) (Nat.le_of_ble_eq_true rfl)
          · refine e_iload_n dX7_room_20 rfl rfl ?_
            refine e_tableIn 76 dX7_room_21 (by decide) (by decide) rfl (by decide) ?_
            refine e_aload_n dX7_room_76 rfl rfl ?_
            refine e_iload_n dX7_room_77 rfl rfl ?_
            refine e_cV1 dX7_room_78 ml_7_51 (c_X7_waitingFor hB _) hB.a0 rfl rfl (by decide) (Nat.le_of_ble_eq_true rfl) ⟨rfl, rfl⟩ (Nat.le_of_ble_eq_true rfl) (Nat.le_of_ble_eq_true rfl) ?_
            exact e_iret dX7_room_81 rfl (ho.trans (by rw [hv]; rfl)) (Nat.le_of_ble_eq_true rfl) (Nat.le_of_ble_eq_true rfl)
        · have t1 : AW G_X7_room out 0 0 82 [.ref b, .int (nI r), .int (nI q)] [] S (md_put b (Rm ρ m) M) J := by
            refine e_aload_n dX7_room_82 rfl rfl ?_
            refine e_getr dX7_room_83 fl_7_7 hB.a0 rfl ?_
            refine e_bipush (v := 75) dX7_room_86 (by decide) ?_
            refine e_iconst (v := 5) dX7_room_88 (by decide) ?_
            refine e_iload_n dX7_room_89 rfl rfl ?_
            refine e_iconst (v := 5) dX7_room_90 (by decide) ?_
            refine e_isub dX7_room_91 ?_
            refine e_imul dX7_room_92 ?_
            refine e_iadd dX7_room_93 ?_
            refine e_iload_n dX7_room_94 rfl rfl ?_
            refine e_iadd dX7_room_95 ?_
            refine mm_ld ((75 + (5 * ((q - 5)))) + r) hB dX7_room_96 (ai_add (ai_add (ai_lit 75) (ai_mul (ai_lit 5) (pk_sub (a := q) (b := 5) (by omega)))) rfl) (by first | assumption | omega) ?_
            exact e_iret dX7_room_97 rfl (ho.trans (by rw [hv, rRoomV, if_neg h3, if_neg (by omega), if_neg (by omega)])) (Nat.le_of_ble_eq_true rfl) (Nat.le_of_ble_eq_true rfl)
          refine e_iload_n dX7_room_20 rfl rfl ?_
          refine e_tableOut 82 dX7_room_21 (Or.inr ?_) (by decide) t1
          rw [nI_toInt (by omega)]
          omega
    · have hv := hR.1 (fun q => z0 h14 q.2)
      refine e_bipush (v := (-2)) dX7_room_17 (by decide) ?_
      exact e_iret dX7_room_19 rfl (ho.trans (by rw [hv])) (Nat.le_of_ble_eq_true rfl) (Nat.le_of_ble_eq_true rfl)
theorem c_X7_queue (hB : MS S b) {a i v : Int32} (hR : rQueR m a i v) : AM G_X7_queue [.ref b, .int a, .int i] S (md_put b (Rm ρ m) M) J (some (.int v), S, md_put b (Rm ρ m) M, J) := by
  refine AM_gen (fun out ho => ?_)
  refine AM_of [.ref b, .int a, .int i] (by decide) rfl (fun B => (Nat.le_of_ble_eq_true rfl)) ?_
  refine e_iload_n dX7_queue_0 rfl rfl ?_
  refine e_cS1 dX7_queue_1 ml_7_88 (c_X7_isRoom _) rfl rfl (by decide) (Nat.le_of_ble_eq_true rfl) ⟨rfl, rfl⟩ (Nat.le_of_ble_eq_true rfl) (Nat.le_of_ble_eq_true rfl) ?_
  refine e_if_eq 20 dX7_queue_4 (by decide) (fun h4 => ?_) (fun h4 => ?_)
  · have hv := hR.1 (fun q => z0 h4 q.1)
    refine e_bipush (v := (-2)) dX7_queue_20 (by decide) ?_
    exact e_iret dX7_queue_22 rfl (ho.trans (by rw [hv])) (Nat.le_of_ble_eq_true rfl) (Nat.le_of_ble_eq_true rfl)
  · refine e_iload_n dX7_queue_7 rfl rfl ?_
    refine e_if_lt 20 dX7_queue_8 (by decide) (fun h8 => ?_) (fun h8 => ?_)
    · have hv := hR.1 (fun q => absurd h8 (Int32.not_lt.mpr q.2))
      refine e_bipush (v := (-2)) dX7_queue_20 (by decide) ?_
      exact e_iret dX7_queue_22 rfl (ho.trans (by rw [hv])) (Nat.le_of_ble_eq_true rfl) (Nat.le_of_ble_eq_true rfl)
    · have hv := hR.2 ⟨z1 h4, Int32.not_lt.mp h8⟩
      refine e_aload_n dX7_queue_11 rfl rfl ?_
      refine e_iload_n dX7_queue_12 rfl rfl ?_
      refine e_iload_n dX7_queue_13 rfl rfl ?_
      refine e_cV1 dX7_queue_14 ml_7_54 (c_X7_inQueue hB _ _) hB.a0 rfl rfl (by decide) (Nat.le_of_ble_eq_true rfl) ⟨rfl, rfl⟩ (Nat.le_of_ble_eq_true rfl) (Nat.le_of_ble_eq_true rfl) ?_
      refine e_goto 22 dX7_queue_17 (by decide) ?_
      exact e_iret dX7_queue_22 rfl (ho.trans (by rw [hv])) (Nat.le_of_ble_eq_true rfl) (Nat.le_of_ble_eq_true rfl)
theorem c_X7_event (hB : MS S b) {p : Nat} (hp : m 108 = nI p) (hp4 : p ≤ 40) {a w v : Int32} (hR : rEvR m a w v) : AM G_X7_event [.ref b, .int a, .int w] S (md_put b (Rm ρ m) M) J (some (.int v), S, md_put b (Rm ρ m) M, J) := by
  refine AM_gen (fun out ho => ?_)
  refine AM_of [.ref b, .int a, .int w] (by decide) rfl (fun B => (Nat.le_of_ble_eq_true rfl)) ?_
  refine e_iload_n dX7_event_0 rfl rfl ?_
  refine e_if_lt 13 dX7_event_1 (by decide) (fun h1 => ?_) (fun h1 => ?_)
  · have hv := hR.1 (fun q => absurd h1 (Int32.not_lt.mpr q.1))
    refine e_bipush (v := (-2)) dX7_event_13 (by decide) ?_
    exact e_iret dX7_event_15 rfl (ho.trans (by rw [hv])) (Nat.le_of_ble_eq_true rfl) (Nat.le_of_ble_eq_true rfl)
  · refine e_iload_n dX7_event_4 rfl rfl ?_
    refine e_iconst (v := 0) dX7_event_5 (by decide) ?_
    refine e_iconst (v := 3) dX7_event_6 (by decide) ?_
    refine e_cS1 dX7_event_7 ml_7_39 (c_X7_in _ _ _) rfl rfl (by decide) (Nat.le_of_ble_eq_true rfl) ⟨rfl, rfl⟩ (Nat.le_of_ble_eq_true rfl) (Nat.le_of_ble_eq_true rfl) ?_
    refine e_if_ne 16 dX7_event_10 (by decide) (fun h10 => ?_) (fun h10 => ?_)
    · obtain ⟨i, hi, rfl⟩ := nI_of h1
      obtain ⟨q, hq, rfl⟩ := wi_nI (n := 3) rfl (z1 h10)
      have hv := hR.2 i q hi (by omega) rfl rfl
      refine e_iload_n dX7_event_16 rfl rfl ?_
      refine e_aload_n dX7_event_17 rfl rfl ?_
      refine e_getr dX7_event_18 fl_7_7 hB.a0 rfl ?_
      refine e_bipush (v := 108) dX7_event_21 (by decide) ?_
      refine mm_ld 108 hB dX7_event_23 (ai_lit 108) (by decide) ?_
      refine e_icmp_ge 43 dX7_event_24 (by decide) (fun h24 => ?_) (fun h24 => ?_)
      · refine e_iconst (v := (-1)) dX7_event_43 (by decide) ?_
        exact e_iret dX7_event_44 rfl (ho.trans (by rw [hv, if_pos h24])) (Nat.le_of_ble_eq_true rfl) (Nat.le_of_ble_eq_true rfl)
      · have hlt : i < p := by
          rcases Nat.lt_or_ge i p with e | e
          · exact e
          · exact absurd (by rw [hp]; exact nI_le e hi) h24
        refine e_aload_n dX7_event_27 rfl rfl ?_
        refine e_getr dX7_event_28 fl_7_7 hB.a0 rfl ?_
        refine e_bipush (v := 111) dX7_event_31 (by decide) ?_
        refine e_iconst (v := 4) dX7_event_33 (by decide) ?_
        refine e_iload_n dX7_event_34 rfl rfl ?_
        refine e_imul dX7_event_35 ?_
        refine e_iadd dX7_event_36 ?_
        refine e_iload_n dX7_event_37 rfl rfl ?_
        refine e_iadd dX7_event_38 ?_
        refine mm_ld ((111 + (4 * i)) + q) hB dX7_event_39 (ai_add (ai_add (ai_lit 111) (ai_mul (ai_lit 4) rfl)) rfl) (by first | assumption | omega) ?_
        refine e_goto 44 dX7_event_40 (by decide) ?_
        exact e_iret dX7_event_44 rfl (ho.trans (by rw [hv, if_neg h24])) (Nat.le_of_ble_eq_true rfl) (Nat.le_of_ble_eq_true rfl)
    · have hv := hR.1 (fun q => z0 h10 q.2)
      refine e_bipush (v := (-2)) dX7_event_13 (by decide) ?_
      exact e_iret dX7_event_15 rfl (ho.trans (by rw [hv])) (Nat.le_of_ble_eq_true rfl) (Nat.le_of_ble_eq_true rfl)
theorem c_X7_unfairness (hB : MS S b) (hw : RW m) : AM G_X7_unfairness [.ref b] S (md_put b (Rm ρ m) M) J (some (.int ((rUnf m 5).2.2 - (rUnf m 5).2.1)), S, md_put b (Rm ρ m) M, J) := by
  refine AM_gen (fun out ho => ?_)
  refine AM_of [.ref b, .retAddr 0, .retAddr 0, .retAddr 0, .retAddr 0, .retAddr 0] (by decide) rfl (fun B => (Nat.le_of_ble_eq_true rfl)) ?_
  have key : ∀ (d r n : Nat) (l g : Int32) (x5 : Value), r + d = 5 → rUnf m r = (n, l, g) → AW G_X7_unfairness out 0 0 9 [.ref b, .int (nI n), .int l, .int g, .int (nI r), x5] [] S (md_put b (Rm ρ m) M) J := by
    intro d
    induction d with
    | zero =>
      intro r n l g x5 hr hu
      have hr2 : r = 5 := by omega
      subst hr2
      refine e_iload dX7_unfairness_9 rfl ?_
      refine e_iconst (v := 5) dX7_unfairness_11 (by decide) ?_
      refine e_ge_t (i := 5) (N := 5) 98 dX7_unfairness_12 (by decide) rfl rfl (by omega) (by omega) ?_
      refine e_iload_n dX7_unfairness_98 rfl rfl ?_
      refine e_iload_n dX7_unfairness_99 rfl rfl ?_
      refine e_isub dX7_unfairness_100 ?_
      exact e_iret dX7_unfairness_101 rfl (ho.trans (by rw [hu])) (Nat.le_of_ble_eq_true rfl) (Nat.le_of_ble_eq_true rfl)
    | succ d ih =>
      intro r n l g x5 hr hu
      have hnr : n ≤ r := by have := rUnf_le m r; rw [hu] at this; exact this
      have hsh : ¬ m (65 + r) = 0 := hw.2.2.1 r (by omega)
      refine e_iload dX7_unfairness_9 rfl ?_
      refine e_iconst (v := 5) dX7_unfairness_11 (by decide) ?_
      refine e_ge_f (i := r) (N := 5) 98 dX7_unfairness_12 (by decide) rfl rfl (by omega) (by omega) ?_
      refine e_aload_n dX7_unfairness_15 rfl rfl ?_
      refine e_getr dX7_unfairness_16 fl_7_7 hB.a0 rfl ?_
      refine e_bipush (v := 75) dX7_unfairness_19 (by decide) ?_
      refine e_iload dX7_unfairness_21 rfl ?_
      refine e_iadd dX7_unfairness_23 ?_
      refine mm_ld (75 + r) hB dX7_unfairness_24 (ai_add (ai_lit 75) rfl) (by first | assumption | omega) ?_
      refine e_if_le 92 dX7_unfairness_25 (by decide) (fun h25 => ?_) (fun h25 => ?_)
      · refine e_iinc dX7_unfairness_92 rfl (ai_inc _) (by decide) rfl ?_
        refine e_goto 9 dX7_unfairness_95 (by decide) ?_
        exact ih (r + 1) n l g _ (by omega) (by rw [rUnf, if_neg (Int32.not_lt.mpr h25)]; exact hu)
      · refine e_aload_n dX7_unfairness_28 rfl rfl ?_
        refine e_getr dX7_unfairness_29 fl_7_7 hB.a0 rfl ?_
        refine e_bipush (v := 85) dX7_unfairness_32 (by decide) ?_
        refine e_iload dX7_unfairness_34 rfl ?_
        refine e_iadd dX7_unfairness_36 ?_
        refine mm_ld (85 + r) hB dX7_unfairness_37 (ai_add (ai_lit 85) rfl) (by first | assumption | omega) ?_
        refine e_sipush (v := 2520) dX7_unfairness_38 (by decide) ?_
        refine e_imul dX7_unfairness_41 ?_
        refine e_aload_n dX7_unfairness_42 rfl rfl ?_
        refine e_getr dX7_unfairness_43 fl_7_7 hB.a0 rfl ?_
        refine e_bipush (v := 65) dX7_unfairness_46 (by decide) ?_
        refine e_iload dX7_unfairness_48 rfl ?_
        refine e_iadd dX7_unfairness_50 ?_
        refine mm_ld (65 + r) hB dX7_unfairness_51 (ai_add (ai_lit 65) rfl) (by first | assumption | omega) ?_
        refine e_idiv dX7_unfairness_52 hsh ?_
        refine e_istore dX7_unfairness_53 (by decide) rfl ?_
        generalize hx : m (85 + r) * 2520 / m (65 + r) = x
        have h75 := Int32.not_le.mp h25
        have hs : rUnf m (r + 1) = (n + 1, if n = 0 ∨ x < l then x else l, if n = 0 ∨ g < x then x else g) := by
          rw [rUnf, if_pos h75, hu, hx]
        have seg2 : ∀ l2 : Int32, l2 = (if n = 0 ∨ x < l then x else l) → AW G_X7_unfairness out 0 0 72 [.ref b, .int (nI n), .int l2, .int g, .int (nI r), .int x] [] S (md_put b (Rm ρ m) M) J := by
          intro l2 hl2
          have fin : ∀ g2 : Int32, g2 = (if n = 0 ∨ g < x then x else g) → AW G_X7_unfairness out 0 0 89 [.ref b, .int (nI n), .int l2, .int g2, .int (nI r), .int x] [] S (md_put b (Rm ρ m) M) J := by
            intro g2 hg2
            refine e_iinc dX7_unfairness_89 rfl (ai_inc _) (by decide) rfl ?_
            refine e_iinc dX7_unfairness_92 rfl (ai_inc _) (by decide) rfl ?_
            refine e_goto 9 dX7_unfairness_95 (by decide) ?_
            exact ih (r + 1) (n + 1) l2 g2 _ (by omega) (by rw [hs, hl2, hg2])
          refine e_iload_n dX7_unfairness_72 rfl rfl ?_
          refine e_if_eq 82 dX7_unfairness_73 (by decide) (fun h73 => ?_) (fun h73 => ?_)
          · have h0 : n = 0 := by
              rcases Nat.eq_zero_or_pos n with e | e
              · exact e
              · exact absurd h73 (nI_ne0 e (by omega))
            refine e_iload dX7_unfairness_82 rfl ?_
            refine e_goto 88 dX7_unfairness_84 (by decide) ?_
            refine e_istore_n dX7_unfairness_88 rfl (by decide) rfl ?_
            exact fin x (by rw [if_pos (Or.inl h0)])
          · have h0 : ¬ n = 0 := fun e => h73 (by rw [e]; rfl)
            refine e_iload dX7_unfairness_76 rfl ?_
            refine e_iload_n dX7_unfairness_78 rfl rfl ?_
            refine e_icmp_le 87 dX7_unfairness_79 (by decide) (fun h79 => ?_) (fun h79 => ?_)
            · refine e_iload_n dX7_unfairness_87 rfl rfl ?_
              refine e_istore_n dX7_unfairness_88 rfl (by decide) rfl ?_
              exact fin g (by rw [if_neg]; rintro (q | q); exact h0 q; exact absurd q (Int32.not_lt.mpr h79))
            · refine e_iload dX7_unfairness_82 rfl ?_
              refine e_goto 88 dX7_unfairness_84 (by decide) ?_
              refine e_istore_n dX7_unfairness_88 rfl (by decide) rfl ?_
              exact fin x (by rw [if_pos (Or.inr (Int32.not_le.mp h79))])
        refine e_iload_n dX7_unfairness_55 rfl rfl ?_
        refine e_if_eq 65 dX7_unfairness_56 (by decide) (fun h56 => ?_) (fun h56 => ?_)
        · have h0 : n = 0 := by
            rcases Nat.eq_zero_or_pos n with e | e
            · exact e
            · exact absurd h56 (nI_ne0 e (by omega))
          refine e_iload dX7_unfairness_65 rfl ?_
          refine e_goto 71 dX7_unfairness_67 (by decide) ?_
          refine e_istore_n dX7_unfairness_71 rfl (by decide) rfl ?_
          exact seg2 x (by rw [if_pos (Or.inl h0)])
        · have h0 : ¬ n = 0 := fun e => h56 (by rw [e]; rfl)
          refine e_iload dX7_unfairness_59 rfl ?_
          refine e_iload_n dX7_unfairness_61 rfl rfl ?_
          refine e_icmp_ge 70 dX7_unfairness_62 (by decide) (fun h62 => ?_) (fun h62 => ?_)
          · refine e_iload_n dX7_unfairness_70 rfl rfl ?_
            refine e_istore_n dX7_unfairness_71 rfl (by decide) rfl ?_
            exact seg2 l (by rw [if_neg]; rintro (q | q); exact h0 q; exact absurd q (Int32.not_lt.mpr h62))
          · refine e_iload dX7_unfairness_65 rfl ?_
            refine e_goto 71 dX7_unfairness_67 (by decide) ?_
            refine e_istore_n dX7_unfairness_71 rfl (by decide) rfl ?_
            exact seg2 x (by rw [if_pos (Or.inr (Int32.not_le.mp h62))])
  refine e_iconst (v := 0) dX7_unfairness_0 (by decide) ?_
  refine e_istore_n dX7_unfairness_1 rfl (by decide) rfl ?_
  refine e_iconst (v := 0) dX7_unfairness_2 (by decide) ?_
  refine e_istore_n dX7_unfairness_3 rfl (by decide) rfl ?_
  refine e_iconst (v := 0) dX7_unfairness_4 (by decide) ?_
  refine e_istore_n dX7_unfairness_5 rfl (by decide) rfl ?_
  refine e_iconst (v := 0) dX7_unfairness_6 (by decide) ?_
  refine e_istore dX7_unfairness_7 (by decide) rfl ?_
  exact key 5 0 0 0 0 _ rfl rfl
theorem c_X7_keeps (hB : MS S b) : AM G_X7_keeps [.ref b] S (md_put b (Rm ρ m) M) J (none, S, md_put b (Rm (Ra ρ (fl m (ra ρ) 271)) m) M, J) := by
  refine AM_gen (fun out ho => ?_)
  refine AM_of [.ref b, .retAddr 0] (by decide) rfl (fun B => (Nat.le_of_ble_eq_true rfl)) ?_
  have key : ∀ (d i : Nat), i + d = 271 → AW G_X7_keeps out 0 0 2 [.ref b, .int (nI i)] [] S (md_put b (Rm (Ra ρ (fl m (ra ρ) i)) m) M) J := by
    intro d
    induction d with
    | zero =>
      intro i hi
      have hi2 : i = 271 := by omega
      subst hi2
      refine e_iload_n dX7_keeps_2 rfl rfl ?_
      refine e_sipush (v := 271) dX7_keeps_3 (by decide) ?_
      refine e_ge_t (i := 271) (N := 271) 27 dX7_keeps_6 (by decide) rfl rfl (by omega) (by omega) ?_
      exact e_vret dX7_keeps_27 rfl ho (Nat.le_of_ble_eq_true rfl) (Nat.le_of_ble_eq_true rfl)
    | succ d ih =>
      intro i hi
      have ih2 := ih (i + 1) (by omega)
      rw [← fl_s] at ih2
      refine e_iload_n dX7_keeps_2 rfl rfl ?_
      refine e_sipush (v := 271) dX7_keeps_3 (by decide) ?_
      refine e_ge_f (i := i) (N := 271) 27 dX7_keeps_6 (by decide) rfl rfl (by omega) (by omega) ?_
      refine e_aload_n dX7_keeps_9 rfl rfl ?_
      refine e_getr dX7_keeps_10 fl_7_13 hB.a0 rfl ?_
      refine e_iload_n dX7_keeps_13 rfl rfl ?_
      refine e_aload_n dX7_keeps_14 rfl rfl ?_
      refine e_getr dX7_keeps_15 fl_7_7 hB.a0 rfl ?_
      refine e_iload_n dX7_keeps_18 rfl rfl ?_
      refine mm_ld i hB dX7_keeps_19 rfl (by first | assumption | omega) ?_
      refine ra_st i hB dX7_keeps_20 rfl (by first | assumption | omega) ?_
      refine e_iinc dX7_keeps_21 rfl (ai_inc _) (by decide) rfl ?_
      refine e_goto 2 dX7_keeps_24 (by decide) ?_
      exact ih2
  have h0 := key 271 0 rfl
  rw [fl_0] at h0
  refine e_iconst (v := 0) dX7_keeps_0 (by decide) ?_
  refine e_istore_n dX7_keeps_1 rfl (by decide) rfl ?_
  exact h0
theorem c_X7_returns (hB : MS S b) : AM G_X7_returns [.ref b] S (md_put b (Rm ρ m) M) J (none, S, md_put b (Rm ρ (fl (ra ρ) m 271)) M, J) := by
  refine AM_gen (fun out ho => ?_)
  refine AM_of [.ref b, .retAddr 0] (by decide) rfl (fun B => (Nat.le_of_ble_eq_true rfl)) ?_
  have key : ∀ (d i : Nat), i + d = 271 → AW G_X7_returns out 0 0 2 [.ref b, .int (nI i)] [] S (md_put b (Rm ρ (fl (ra ρ) m i)) M) J := by
    intro d
    induction d with
    | zero =>
      intro i hi
      have hi2 : i = 271 := by omega
      subst hi2
      refine e_iload_n dX7_returns_2 rfl rfl ?_
      refine e_sipush (v := 271) dX7_returns_3 (by decide) ?_
      refine e_ge_t (i := 271) (N := 271) 27 dX7_returns_6 (by decide) rfl rfl (by omega) (by omega) ?_
      exact e_vret dX7_returns_27 rfl ho (Nat.le_of_ble_eq_true rfl) (Nat.le_of_ble_eq_true rfl)
    | succ d ih =>
      intro i hi
      have ih2 := ih (i + 1) (by omega)
      rw [← fl_s] at ih2
      refine e_iload_n dX7_returns_2 rfl rfl ?_
      refine e_sipush (v := 271) dX7_returns_3 (by decide) ?_
      refine e_ge_f (i := i) (N := 271) 27 dX7_returns_6 (by decide) rfl rfl (by omega) (by omega) ?_
      refine e_aload_n dX7_returns_9 rfl rfl ?_
      refine e_getr dX7_returns_10 fl_7_7 hB.a0 rfl ?_
      refine e_iload_n dX7_returns_13 rfl rfl ?_
      refine e_aload_n dX7_returns_14 rfl rfl ?_
      refine e_getr dX7_returns_15 fl_7_13 hB.a0 rfl ?_
      refine e_iload_n dX7_returns_18 rfl rfl ?_
      refine ra_ld i hB dX7_returns_19 rfl (by first | assumption | omega) ?_
      refine mm_st i hB dX7_returns_20 rfl (by first | assumption | omega) ?_
      refine e_iinc dX7_returns_21 rfl (ai_inc _) (by decide) rfl ?_
      refine e_goto 2 dX7_returns_24 (by decide) ?_
      exact ih2
  have h0 := key 271 0 rfl
  rw [fl_0] at h0
  refine e_iconst (v := 0) dX7_returns_0 (by decide) ?_
  refine e_istore_n dX7_returns_1 rfl (by decide) rfl ?_
  exact h0
theorem fl_back {m m1 g : Nat → Int32} (h : RW m) (h1 : RW m1) : fl (fl m g 271) m1 271 = m := by
  funext j
  simp only [fl]
  by_cases hj : j < 271
  · rw [if_pos hj, if_pos hj]
  · rw [if_neg hj, h1.2.2.2 j (by omega), h.2.2.2 j (by omega)]
theorem c_X7_entersIn (hB : MS S b) (hw : RW m) {n k : Nat} (hk : k < 12) {q : Int32} {o : Option Nat} (hE : rEi n m k q o) : AM G_X7_entersIn [.ref b, .int (nI k), .int q] S (md_put b (Rm ρ m) M) J (some (.int (oI o)), S, md_put b (Rm (Ra ρ (fl m (ra ρ) 271)) m) M, J) := by
  obtain ⟨N, mN, hN, hrun, hall, hend, hoe⟩ := hE
  have hw0 : RW (upd m 101 q) := hw.put (by omega) _
  have hwN := hw0.pass hrun
  refine AM_gen (fun out ho => ?_)
  refine AM_of [.ref b, .int (nI k), .int q, .retAddr 0, .retAddr 0] (by decide) rfl (fun B => (Nat.le_of_ble_eq_true rfl)) ?_
  have tail : AW G_X7_entersIn out 0 0 43 [.ref b, .int (nI k), .int q, .int (nI N), .retAddr 0] [] S (md_put b (Rm (Ra ρ (fl m (ra ρ) 271)) mN) M) J := by
    have hret := c_X7_returns (S := S) (M := M) (J := J) (b := b) (ρ := Ra ρ (fl m (ra ρ) 271)) (m := mN) hB
    rw [fl_back hw hwN] at hret
    refine e_aload_n dX7_entersIn_43 rfl rfl ?_
    refine e_getr dX7_entersIn_44 fl_7_7 hB.a0 rfl ?_
    refine e_iconst (v := 0) dX7_entersIn_47 (by decide) ?_
    refine e_iload_n dX7_entersIn_48 rfl rfl ?_
    refine e_iadd dX7_entersIn_49 ?_
    refine mm_ld k hB dX7_entersIn_50 (ai_zadd rfl) (by first | assumption | omega) ?_
    refine e_iconst (v := 1) dX7_entersIn_51 (by decide) ?_
    refine e_icmp_eq 59 dX7_entersIn_52 (by decide) (fun h52 => ?_) (fun h52 => ?_)
    · refine e_iconst (v := 0) dX7_entersIn_59 (by decide) ?_
      refine e_istore dX7_entersIn_60 (by decide) rfl ?_
      refine e_aload_n dX7_entersIn_62 rfl rfl ?_
      refine e_cV0 dX7_entersIn_63 ml_7_100 hret hB.a0 rfl rfl (by decide) (Nat.le_of_ble_eq_true rfl) ⟨rfl, rfl⟩ (Nat.le_of_ble_eq_true rfl) (Nat.le_of_ble_eq_true rfl) ?_
      refine e_iload dX7_entersIn_66 rfl ?_
      refine e_if_eq 75 dX7_entersIn_68 (by decide) (fun h68 => ?_) (fun h68 => ?_)
      · refine e_iconst (v := (-1)) dX7_entersIn_75 (by decide) ?_
        exact e_iret dX7_entersIn_76 rfl (ho.trans (by rw [hoe, if_pos h52]; rfl)) (Nat.le_of_ble_eq_true rfl) (Nat.le_of_ble_eq_true rfl)
      · exact absurd rfl h68
    · refine e_iconst (v := 1) dX7_entersIn_55 (by decide) ?_
      refine e_goto 60 dX7_entersIn_56 (by decide) ?_
      refine e_istore dX7_entersIn_60 (by decide) rfl ?_
      refine e_aload_n dX7_entersIn_62 rfl rfl ?_
      refine e_cV0 dX7_entersIn_63 ml_7_100 hret hB.a0 rfl rfl (by decide) (Nat.le_of_ble_eq_true rfl) ⟨rfl, rfl⟩ (Nat.le_of_ble_eq_true rfl) (Nat.le_of_ble_eq_true rfl) ?_
      refine e_iload dX7_entersIn_66 rfl ?_
      refine e_if_eq 75 dX7_entersIn_68 (by decide) (fun h68 => ?_) (fun h68 => ?_)
      · exact absurd h68 (by decide)
      · refine e_iload_n dX7_entersIn_71 rfl rfl ?_
        refine e_goto 76 dX7_entersIn_72 (by decide) ?_
        exact e_iret dX7_entersIn_76 rfl (ho.trans (by rw [hoe, if_neg h52]; rfl)) (Nat.le_of_ble_eq_true rfl) (Nat.le_of_ble_eq_true rfl)
  have key : ∀ (d T : Nat) (mT : Nat → Int32), T + d = N → rPass n T (upd m 101 q) = some mT → AW G_X7_entersIn out 0 0 14 [.ref b, .int (nI k), .int q, .int (nI T), .retAddr 0] [] S (md_put b (Rm (Ra ρ (fl m (ra ρ) 271)) mT) M) J := by
    intro d
    induction d with
    | zero =>
      intro T mT hT hm
      have hT2 : T = N := by omega
      subst hT2
      rw [hrun] at hm
      cases hm
      by_cases h5 : T = 500
      · subst h5
        refine e_iload_n dX7_entersIn_14 rfl rfl ?_
        refine e_sipush (v := 500) dX7_entersIn_15 (by decide) ?_
        refine e_ge_t (i := 500) (N := 500) 43 dX7_entersIn_18 (by decide) rfl rfl (by omega) (by omega) ?_
        exact tail
      · have hne := hend.resolve_left h5
        refine e_iload_n dX7_entersIn_14 rfl rfl ?_
        refine e_sipush (v := 500) dX7_entersIn_15 (by decide) ?_
        refine e_ge_f (i := T) (N := 500) 43 dX7_entersIn_18 (by decide) rfl rfl (by omega) (by omega) ?_
        refine e_aload_n dX7_entersIn_21 rfl rfl ?_
        refine e_getr dX7_entersIn_22 fl_7_7 hB.a0 rfl ?_
        refine e_iconst (v := 0) dX7_entersIn_25 (by decide) ?_
        refine e_iload_n dX7_entersIn_26 rfl rfl ?_
        refine e_iadd dX7_entersIn_27 ?_
        refine mm_ld k hB dX7_entersIn_28 (ai_zadd rfl) (by first | assumption | omega) ?_
        refine e_iconst (v := 1) dX7_entersIn_29 (by decide) ?_
        refine e_icmp_ne 43 dX7_entersIn_30 (by decide) (fun h30 => ?_) (fun h30 => ?_)
        · exact tail
        · exact absurd h30 hne
    | succ d ih =>
      intro T mT hT hm
      obtain ⟨m2, hm2⟩ := rPass_le hrun (t := T + 1) (by omega)
      have hm2' := hm2
      rw [rPass, hm] at hm2'
      refine e_iload_n dX7_entersIn_14 rfl rfl ?_
      refine e_sipush (v := 500) dX7_entersIn_15 (by decide) ?_
      refine e_ge_f (i := T) (N := 500) 43 dX7_entersIn_18 (by decide) rfl rfl (by omega) (by omega) ?_
      refine e_aload_n dX7_entersIn_21 rfl rfl ?_
      refine e_getr dX7_entersIn_22 fl_7_7 hB.a0 rfl ?_
      refine e_iconst (v := 0) dX7_entersIn_25 (by decide) ?_
      refine e_iload_n dX7_entersIn_26 rfl rfl ?_
      refine e_iadd dX7_entersIn_27 ?_
      refine mm_ld k hB dX7_entersIn_28 (ai_zadd rfl) (by first | assumption | omega) ?_
      refine e_iconst (v := 1) dX7_entersIn_29 (by decide) ?_
      refine e_icmp_ne 43 dX7_entersIn_30 (by decide) (fun h30 => ?_) (fun h30 => ?_)
      · exact absurd (hall T mT (by omega) hm) h30
      · refine e_aload_n dX7_entersIn_33 rfl rfl ?_
        refine e_cV0 dX7_entersIn_34 ml_7_94 (c_X7_ticks hB (hw0.pass hm) hm2') hB.a0 rfl rfl (by decide) (Nat.le_of_ble_eq_true rfl) ⟨rfl, rfl⟩ (Nat.le_of_ble_eq_true rfl) (Nat.le_of_ble_eq_true rfl) ?_
        refine e_iinc dX7_entersIn_37 rfl (ai_inc _) (by decide) rfl ?_
        refine e_goto 14 dX7_entersIn_40 (by decide) ?_
        exact ih (T + 1) m2 (by omega) hm2
  refine e_aload_n dX7_entersIn_0 rfl rfl ?_
  refine e_cV0 dX7_entersIn_1 ml_7_97 (c_X7_keeps hB) hB.a0 rfl rfl (by decide) (Nat.le_of_ble_eq_true rfl) ⟨rfl, rfl⟩ (Nat.le_of_ble_eq_true rfl) (Nat.le_of_ble_eq_true rfl) ?_
  refine e_aload_n dX7_entersIn_4 rfl rfl ?_
  refine e_getr dX7_entersIn_5 fl_7_7 hB.a0 rfl ?_
  refine e_bipush (v := 101) dX7_entersIn_8 (by decide) ?_
  refine e_iload_n dX7_entersIn_10 rfl rfl ?_
  refine mm_st 101 hB dX7_entersIn_11 (ai_lit 101) (by decide) ?_
  refine e_iconst (v := 0) dX7_entersIn_12 (by decide) ?_
  refine e_istore_n dX7_entersIn_13 rfl (by decide) rfl ?_
  exact key N 0 _ (by omega) rfl
theorem c_X7_foretell (hB : MS S b) (hw : RW m) {n : Nat} {a v : Int32} (hbad : ¬ (0 ≤ a ∧ a ≤ 11) → v = -2) (hst : ∀ k, k < 12 → a = nI k → ¬ m k = 1 → v = -3) (hok : ∀ k, k < 12 → a = nI k → m k = 1 → ∃ o, rEi n m k (m 101) o ∧ v = oI o) : ∃ g, AM G_X7_foretell [.ref b, .int a] S (md_put b (Rm ρ m) M) J (some (.int v), S, md_put b (Rm (Ra ρ g) m) M, J) := by
  by_cases hm : 0 ≤ a ∧ a ≤ 11
  · obtain ⟨k, hk, rfl⟩ := wi_nI (n := 11) rfl hm
    by_cases h1 : m k = 1
    · obtain ⟨o, hE, hv⟩ := hok k (by omega) rfl h1
      refine ⟨fl m (ra ρ) 271, ?_⟩
      refine AM_gen (fun out ho => ?_)
      refine AM_of [.ref b, .int (nI k)] (by decide) rfl (fun B => (Nat.le_of_ble_eq_true rfl)) ?_
      refine e_iload_n dX7_foretell_0 rfl rfl ?_
      refine e_cS1 dX7_foretell_1 ml_7_91 (c_X7_isMember _) rfl rfl (by decide) (Nat.le_of_ble_eq_true rfl) ⟨rfl, rfl⟩ (Nat.le_of_ble_eq_true rfl) (Nat.le_of_ble_eq_true rfl) ?_
      refine e_if_ne 10 dX7_foretell_4 (by decide) (fun h4 => ?_) (fun h4 => ?_)
      · refine e_aload_n dX7_foretell_10 rfl rfl ?_
        refine e_getr dX7_foretell_11 fl_7_7 hB.a0 rfl ?_
        refine e_iconst (v := 0) dX7_foretell_14 (by decide) ?_
        refine e_iload_n dX7_foretell_15 rfl rfl ?_
        refine e_iadd dX7_foretell_16 ?_
        refine mm_ld k hB dX7_foretell_17 (ai_zadd rfl) (by first | assumption | omega) ?_
        refine e_iconst (v := 1) dX7_foretell_18 (by decide) ?_
        refine e_icmp_ne 37 dX7_foretell_19 (by decide) (fun h19 => ?_) (fun h19 => ?_)
        · exact absurd h1 h19
        · refine e_aload_n dX7_foretell_22 rfl rfl ?_
          refine e_iload_n dX7_foretell_23 rfl rfl ?_
          refine e_aload_n dX7_foretell_24 rfl rfl ?_
          refine e_getr dX7_foretell_25 fl_7_7 hB.a0 rfl ?_
          refine e_bipush (v := 101) dX7_foretell_28 (by decide) ?_
          refine mm_ld 101 hB dX7_foretell_30 (ai_lit 101) (by decide) ?_
          refine e_cV1 dX7_foretell_31 ml_7_103 (c_X7_entersIn hB hw (by omega) hE) hB.a0 rfl rfl (by decide) (Nat.le_of_ble_eq_true rfl) ⟨rfl, rfl⟩ (Nat.le_of_ble_eq_true rfl) (Nat.le_of_ble_eq_true rfl) ?_
          refine e_goto 39 dX7_foretell_34 (by decide) ?_
          exact e_iret dX7_foretell_39 rfl (ho.trans (by rw [hv])) (Nat.le_of_ble_eq_true rfl) (Nat.le_of_ble_eq_true rfl)
      · exact absurd hm (z0 h4)
    · refine ⟨ra ρ, ?_⟩
      have hv := hst k (by omega) rfl h1
      refine AM_gen (fun out ho => ?_)
      refine AM_of [.ref b, .int (nI k)] (by decide) rfl (fun B => (Nat.le_of_ble_eq_true rfl)) ?_
      refine e_iload_n dX7_foretell_0 rfl rfl ?_
      refine e_cS1 dX7_foretell_1 ml_7_91 (c_X7_isMember _) rfl rfl (by decide) (Nat.le_of_ble_eq_true rfl) ⟨rfl, rfl⟩ (Nat.le_of_ble_eq_true rfl) (Nat.le_of_ble_eq_true rfl) ?_
      refine e_if_ne 10 dX7_foretell_4 (by decide) (fun h4 => ?_) (fun h4 => ?_)
      · refine e_aload_n dX7_foretell_10 rfl rfl ?_
        refine e_getr dX7_foretell_11 fl_7_7 hB.a0 rfl ?_
        refine e_iconst (v := 0) dX7_foretell_14 (by decide) ?_
        refine e_iload_n dX7_foretell_15 rfl rfl ?_
        refine e_iadd dX7_foretell_16 ?_
        refine mm_ld k hB dX7_foretell_17 (ai_zadd rfl) (by first | assumption | omega) ?_
        refine e_iconst (v := 1) dX7_foretell_18 (by decide) ?_
        refine e_icmp_ne 37 dX7_foretell_19 (by decide) (fun h19 => ?_) (fun h19 => ?_)
        · refine e_bipush (v := (-3)) dX7_foretell_37 (by decide) ?_
          exact e_iret dX7_foretell_39 rfl (ho.trans (by rw [hv])) (Nat.le_of_ble_eq_true rfl) (Nat.le_of_ble_eq_true rfl)
        · exact absurd h19 h1
      · exact absurd hm (z0 h4)
  · refine ⟨ra ρ, ?_⟩
    have hv := hbad hm
    refine AM_gen (fun out ho => ?_)
    refine AM_of [.ref b, .int a] (by decide) rfl (fun B => (Nat.le_of_ble_eq_true rfl)) ?_
    refine e_iload_n dX7_foretell_0 rfl rfl ?_
    refine e_cS1 dX7_foretell_1 ml_7_91 (c_X7_isMember _) rfl rfl (by decide) (Nat.le_of_ble_eq_true rfl) ⟨rfl, rfl⟩ (Nat.le_of_ble_eq_true rfl) (Nat.le_of_ble_eq_true rfl) ?_
    refine e_if_ne 10 dX7_foretell_4 (by decide) (fun h4 => ?_) (fun h4 => ?_)
    · exact absurd (z1 h4) hm
    · refine e_bipush (v := (-2)) dX7_foretell_7 (by decide) ?_
      exact e_iret dX7_foretell_9 rfl (ho.trans (by rw [hv])) (Nat.le_of_ble_eq_true rfl) (Nat.le_of_ble_eq_true rfl)
theorem c_X7_present (hB : MS S b) : AM G_X7_present [.ref b] S (md_put b (Rm ρ m) M) J (some (.int (nI (rPre m))), S, md_put b (Rm ρ m) M, J) := by
  refine AM_gen (fun out ho => ?_)
  refine AM_of [.ref b, .retAddr 0, .retAddr 0] (by decide) rfl (fun B => (Nat.le_of_ble_eq_true rfl)) ?_
  have key : ∀ (n k c : Nat), k + n = 12 → c = fb_ct (fun k => decide (0 < m k)) k → AW G_X7_present out 0 0 4 [.ref b, .int (nI c), .int (nI k)] [] S (md_put b (Rm ρ m) M) J := by
    intro n
    induction n with
    | zero =>
      intro k c hk hc
      have hk2 : k = 12 := by omega
      subst hk2
      refine e_iload_n dX7_present_4 rfl rfl ?_
      refine e_bipush (v := 12) dX7_present_5 (by decide) ?_
      refine e_ge_t (i := 12) (N := 12) 35 dX7_present_7 (by decide) rfl rfl (by omega) (by omega) ?_
      refine e_iload_n dX7_present_35 rfl rfl ?_
      exact e_iret dX7_present_36 rfl (ho.trans (by rw [rPre, ← hc])) (Nat.le_of_ble_eq_true rfl) (Nat.le_of_ble_eq_true rfl)
    | succ n ih =>
      intro k c hk hc
      refine e_iload_n dX7_present_4 rfl rfl ?_
      refine e_bipush (v := 12) dX7_present_5 (by decide) ?_
      refine e_ge_f (i := k) (N := 12) 35 dX7_present_7 (by decide) rfl rfl (by omega) (by omega) ?_
      refine e_iload_n dX7_present_10 rfl rfl ?_
      refine e_aload_n dX7_present_11 rfl rfl ?_
      refine e_getr dX7_present_12 fl_7_7 hB.a0 rfl ?_
      refine e_iconst (v := 0) dX7_present_15 (by decide) ?_
      refine e_iload_n dX7_present_16 rfl rfl ?_
      refine e_iadd dX7_present_17 ?_
      refine mm_ld k hB dX7_present_18 (ai_zadd rfl) (by first | assumption | omega) ?_
      refine e_if_le 26 dX7_present_19 (by decide) (fun h19 => ?_) (fun h19 => ?_)
      · refine e_iconst (v := 0) dX7_present_26 (by decide) ?_
        refine e_iadd dX7_present_27 ?_
        refine e_istoreE_n (nI (c + 0)) (ai_add rfl (ai_lit 0)) dX7_present_28 rfl (by decide) rfl ?_
        refine e_iinc dX7_present_29 rfl (ai_inc _) (by decide) rfl ?_
        refine e_goto 4 dX7_present_32 (by decide) ?_
        exact ih (k + 1) c (by omega) (by rw [fb_ct_succ, ← hc]; simp [Int32.not_lt.mpr h19])
      · refine e_iconst (v := 1) dX7_present_22 (by decide) ?_
        refine e_goto 27 dX7_present_23 (by decide) ?_
        refine e_iadd dX7_present_27 ?_
        refine e_istoreE_n (nI (c + 1)) (ai_add rfl (ai_lit 1)) dX7_present_28 rfl (by decide) rfl ?_
        refine e_iinc dX7_present_29 rfl (ai_inc _) (by decide) rfl ?_
        refine e_goto 4 dX7_present_32 (by decide) ?_
        exact ih (k + 1) (c + 1) (by omega) (by rw [fb_ct_succ, ← hc]; simp [Int32.not_le.mp h19])
  refine e_iconst (v := 0) dX7_present_0 (by decide) ?_
  refine e_istore_n dX7_present_1 rfl (by decide) rfl ?_
  refine e_iconst (v := 0) dX7_present_2 (by decide) ?_
  refine e_istore_n dX7_present_3 rfl (by decide) rfl ?_
  exact key 12 0 0 rfl rfl
theorem c_X7_empties (hB : MS S b) (hw : RW m) {n : Nat} {o : Option Nat} (hE : rEm n m o) : AM G_X7_empties [.ref b] S (md_put b (Rm ρ m) M) J (some (.int (oI o)), S, md_put b (Rm (Ra ρ (fl m (ra ρ) 271)) m) M, J) := by
  obtain ⟨N, mN, hN, hrun, hall, hend, hoe⟩ := hE
  have hwN := hw.pass hrun
  have hpl : ∀ m : Nat → Int32, rPre m ≤ 12 := fun m => fb_ct_le _ _
  refine AM_gen (fun out ho => ?_)
  refine AM_of [.ref b, .retAddr 0, .retAddr 0] (by decide) rfl (fun B => (Nat.le_of_ble_eq_true rfl)) ?_
  have tail : AW G_X7_empties out 0 0 30 [.ref b, .int (nI N), .retAddr 0] [] S (md_put b (Rm (Ra ρ (fl m (ra ρ) 271)) mN) M) J := by
    have hret := c_X7_returns (S := S) (M := M) (J := J) (b := b) (ρ := Ra ρ (fl m (ra ρ) 271)) (m := mN) hB
    rw [fl_back hw hwN] at hret
    have hl := hpl mN
    refine e_aload_n dX7_empties_30 rfl rfl ?_
    refine e_cV1 dX7_empties_31 ml_7_106 (c_X7_present hB) hB.a0 rfl rfl (by decide) (Nat.le_of_ble_eq_true rfl) ⟨rfl, rfl⟩ (Nat.le_of_ble_eq_true rfl) (Nat.le_of_ble_eq_true rfl) ?_
    refine e_if_ne 41 dX7_empties_34 (by decide) (fun h34 => ?_) (fun h34 => ?_)
    · have h0 : ¬ rPre mN = 0 := fun e => h34 (by rw [e]; rfl)
      refine e_iconst (v := 0) dX7_empties_41 (by decide) ?_
      refine e_istore_n dX7_empties_42 rfl (by decide) rfl ?_
      refine e_aload_n dX7_empties_43 rfl rfl ?_
      refine e_cV0 dX7_empties_44 ml_7_100 hret hB.a0 rfl rfl (by decide) (Nat.le_of_ble_eq_true rfl) ⟨rfl, rfl⟩ (Nat.le_of_ble_eq_true rfl) (Nat.le_of_ble_eq_true rfl) ?_
      refine e_iload_n dX7_empties_47 rfl rfl ?_
      refine e_if_eq 55 dX7_empties_48 (by decide) (fun h48 => ?_) (fun h48 => ?_)
      · refine e_iconst (v := (-1)) dX7_empties_55 (by decide) ?_
        exact e_iret dX7_empties_56 rfl (ho.trans (by rw [hoe, if_neg h0]; rfl)) (Nat.le_of_ble_eq_true rfl) (Nat.le_of_ble_eq_true rfl)
      · exact absurd rfl h48
    · have h0 : rPre mN = 0 := by
        rcases Nat.eq_zero_or_pos (rPre mN) with e | e
        · exact e
        · exact absurd h34 (nI_ne0 e (by omega))
      refine e_iconst (v := 1) dX7_empties_37 (by decide) ?_
      refine e_goto 42 dX7_empties_38 (by decide) ?_
      refine e_istore_n dX7_empties_42 rfl (by decide) rfl ?_
      refine e_aload_n dX7_empties_43 rfl rfl ?_
      refine e_cV0 dX7_empties_44 ml_7_100 hret hB.a0 rfl rfl (by decide) (Nat.le_of_ble_eq_true rfl) ⟨rfl, rfl⟩ (Nat.le_of_ble_eq_true rfl) (Nat.le_of_ble_eq_true rfl) ?_
      refine e_iload_n dX7_empties_47 rfl rfl ?_
      refine e_if_eq 55 dX7_empties_48 (by decide) (fun h48 => ?_) (fun h48 => ?_)
      · exact absurd h48 (by decide)
      · refine e_iload_n dX7_empties_51 rfl rfl ?_
        refine e_goto 56 dX7_empties_52 (by decide) ?_
        exact e_iret dX7_empties_56 rfl (ho.trans (by rw [hoe, if_pos h0]; rfl)) (Nat.le_of_ble_eq_true rfl) (Nat.le_of_ble_eq_true rfl)
  have key : ∀ (d T : Nat) (mT : Nat → Int32), T + d = N → rPass n T m = some mT → AW G_X7_empties out 0 0 6 [.ref b, .int (nI T), .retAddr 0] [] S (md_put b (Rm (Ra ρ (fl m (ra ρ) 271)) mT) M) J := by
    intro d
    induction d with
    | zero =>
      intro T mT hT hm
      have hT2 : T = N := by omega
      subst hT2
      rw [hrun] at hm
      cases hm
      by_cases h5 : T = 500
      · subst h5
        refine e_iload_n dX7_empties_6 rfl rfl ?_
        refine e_sipush (v := 500) dX7_empties_7 (by decide) ?_
        refine e_ge_t (i := 500) (N := 500) 30 dX7_empties_10 (by decide) rfl rfl (by omega) (by omega) ?_
        exact tail
      · have hne := hend.resolve_left h5
        refine e_iload_n dX7_empties_6 rfl rfl ?_
        refine e_sipush (v := 500) dX7_empties_7 (by decide) ?_
        refine e_ge_f (i := T) (N := 500) 30 dX7_empties_10 (by decide) rfl rfl (by omega) (by omega) ?_
        refine e_aload_n dX7_empties_13 rfl rfl ?_
        refine e_cV1 dX7_empties_14 ml_7_106 (c_X7_present hB) hB.a0 rfl rfl (by decide) (Nat.le_of_ble_eq_true rfl) ⟨rfl, rfl⟩ (Nat.le_of_ble_eq_true rfl) (Nat.le_of_ble_eq_true rfl) ?_
        refine e_if_le 30 dX7_empties_17 (by decide) (fun h17 => ?_) (fun h17 => ?_)
        · exact tail
        · exact absurd (by rw [hne]; decide) h17
    | succ d ih =>
      intro T mT hT hm
      obtain ⟨m2, hm2⟩ := rPass_le hrun (t := T + 1) (by omega)
      have hm2' := hm2
      rw [rPass, hm] at hm2'
      have hpos := hall T mT (by omega) hm
      have hl := hpl mT
      refine e_iload_n dX7_empties_6 rfl rfl ?_
      refine e_sipush (v := 500) dX7_empties_7 (by decide) ?_
      refine e_ge_f (i := T) (N := 500) 30 dX7_empties_10 (by decide) rfl rfl (by omega) (by omega) ?_
      refine e_aload_n dX7_empties_13 rfl rfl ?_
      refine e_cV1 dX7_empties_14 ml_7_106 (c_X7_present hB) hB.a0 rfl rfl (by decide) (Nat.le_of_ble_eq_true rfl) ⟨rfl, rfl⟩ (Nat.le_of_ble_eq_true rfl) (Nat.le_of_ble_eq_true rfl) ?_
      refine e_if_le 30 dX7_empties_17 (by decide) (fun h17 => ?_) (fun h17 => ?_)
      · exact absurd h17 (nI_nle hpos (by omega))
      · refine e_aload_n dX7_empties_20 rfl rfl ?_
        refine e_cV0 dX7_empties_21 ml_7_94 (c_X7_ticks hB (hw.pass hm) hm2') hB.a0 rfl rfl (by decide) (Nat.le_of_ble_eq_true rfl) ⟨rfl, rfl⟩ (Nat.le_of_ble_eq_true rfl) (Nat.le_of_ble_eq_true rfl) ?_
        refine e_iinc dX7_empties_24 rfl (ai_inc _) (by decide) rfl ?_
        refine e_goto 6 dX7_empties_27 (by decide) ?_
        exact ih (T + 1) m2 (by omega) hm2
  refine e_aload_n dX7_empties_0 rfl rfl ?_
  refine e_cV0 dX7_empties_1 ml_7_97 (c_X7_keeps hB) hB.a0 rfl rfl (by decide) (Nat.le_of_ble_eq_true rfl) ⟨rfl, rfl⟩ (Nat.le_of_ble_eq_true rfl) (Nat.le_of_ble_eq_true rfl) ?_
  refine e_iconst (v := 0) dX7_empties_4 (by decide) ?_
  refine e_istore_n dX7_empties_5 rfl (by decide) rfl ?_
  exact key N 0 _ (by omega) rfl
end C24

