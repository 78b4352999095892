/-! ===== the class: what a house does ===== -/
def hEv (σ : hs_T) : Nat := (he σ 1).toNatClampNeg
def hLn (σ : hs_T) : Nat := (hn σ 1).toNatClampNeg
def hPl (σ : hs_T) (i : Nat) : Nat := (hp σ i).toNatClampNeg
def hIu (σ : hs_T) : Nat := (hf σ 8).toNatClampNeg
def hNt (σ : hs_T) (t kd me r : Int32) : hs_T := hNote σ (hEv σ) t kd me r
def hOpn1 (σ : hs_T) (r : Nat) : hs_T :=
  let σ1 := phf σ 6 (hr σ r 2)
  let σ2 := phr σ1 r 2 (hr σ1 r 2 + (if 1 ≤ hr σ1 r 1 then 2520 / hr σ1 r 1 else 2520))
  let σ3 := phr σ2 r 4 (hr σ2 r 4 + 1)
  phf (phf (phf σ3 8 (nI r)) 9 1) 10 0
def hOpn (σ : hs_T) (r : Nat) : hs_T := hNt (hOpn1 σ r) (hf (hOpn1 σ r) 5) 0 (-1) (nI r)
def hCl (σ : hs_T) : hs_T := hNt (phf σ 9 0) (hf (phf σ 9 0) 5) 3 (-1) (hf (phf σ 9 0) 8)
def hFd (σ : hs_T) : Int32 := if hf σ 8 = -1 ∨ hf σ 9 = 0 ∨ hr σ (hIu σ) 0 ≤ hr σ (hIu σ) 3 then -1 else hInq σ (hPl σ) (hLn σ) (hf σ 8) 0
def hTo (σ : hs_T) : Bool := ex (fun i => !decide (hm σ (hPl σ i) 1 = hf σ 8) && (decide (hu σ 1 ≤ hf σ 10) || himp σ (hPl σ i))) (hLn σ)
def hLet1 (σ : hs_T) (k : Nat) : hs_T :=
  let σ1 := hCe σ (hRn σ k) (hf σ 5 - hm σ k 2)
  let σ2 := hRemS σ1 (nI k) (hLn σ)
  let σ3 := hBe σ2 k 2 (hm σ2 k 1) (hf σ2 5) (hm σ2 k 3)
  phf σ3 10 (hf σ3 10 + 1)
def hLet (σ : hs_T) (k : Nat) : hs_T := hNt (hLet1 σ k) (hf (hLet1 σ k) 5) 1 (nI k) (hm (hLet1 σ k) k 1)
def hQu (σ : hs_T) (k r : Nat) (t : Int32) : hs_T :=
  let σ1 := if ¬ nI r = hf σ 8 ∧ hCq σ (hPl σ) (nI r) (hLn σ) = 0 then phr σ r 2 (if hr σ r 2 < hf σ 6 then hf σ 6 else hr σ r 2) else σ
  let σ2 := hBe σ1 k 1 (nI r) (hf σ1 5) t
  phn (php σ2 (hLn σ) (nI k)) 1 (nI (hLn σ + 1))
def hGu (σ : hs_T) (k : Nat) : hs_T := hBe (hRemS σ (nI k) (hLn σ)) k 0 (-1) (-1) 0
def hOut1 (σ : hs_T) (k : Nat) (kd : Int32) : hs_T :=
  let σ2 := hBe (hNt σ (hf σ 5) kd (nI k) (hm σ k 1)) k 0 (-1) (-1) 0
  phr σ2 (hRn σ k) 3 (hr σ2 (hRn σ k) 3 - 1)
def hOut (σ : hs_T) (k : Nat) (kd : Int32) : hs_T := if hr (hOut1 σ k kd) (hRn σ k) 3 = 0 then phf (phf (phf (hOut1 σ k kd) 8 (-1)) 9 0) 10 0 else hOut1 σ k kd
def hSp1 (σ : hs_T) (k : Nat) : hs_T :=
  let σ1 := phr σ (hRn σ k) 6 (hr σ (hRn σ k) 6 + 1)
  phm σ1 k 3 (hm σ1 k 3 - 1)
def hSp (σ : hs_T) (k : Nat) : hs_T := if 0 < hm (hSp1 σ k) k 3 then hSp1 σ k else hOut (hSp1 σ k) k 2
def hTkS (σ : hs_T) (k : Nat) : hs_T := if hm σ k 0 = 2 then hSp σ k else if hm σ k 0 = 3 ∧ hu σ 2 ≤ hf σ 5 - hm σ k 2 then hOut σ k 4 else σ
def hTkL (σ : hs_T) : Nat → hs_T
  | 0 => σ
  | k + 1 => hTkS (hTkL σ k) k
def hA1 (σ : hs_T) : hs_T := if hf σ 8 = -1 then (if hNext σ (hPl σ) (hLn σ) = -1 then σ else hOpn σ (hNext σ (hPl σ) (hLn σ)).toNatClampNeg) else if ¬ hFd σ = -1 ∧ hTo σ = true then hCl σ else σ
def hAct : Nat → hs_T → hs_T
  | 0, σ => σ
  | n + 1, σ => if hFd (hA1 σ) = -1 then hA1 σ else hAct n (hLet (hA1 σ) (hFd (hA1 σ)).toNatClampNeg)
def hTick (σ : hs_T) : hs_T := hAct 12 (hTkL (phf σ 5 (hf σ 5 + 1)) 12)
def hTc (σ : hs_T) (k : Nat) : Int32 := if hm σ k 0 = 2 then hm σ k 3 else if hm σ k 0 = 3 then hm σ k 2 + hu σ 2 - hf σ 5 else 1000000
def hQt (σ : hs_T) (x : Int32) : Nat → Int32
  | 0 => x
  | k + 1 => if hTc σ k - 1 < hQt σ x k then hTc σ k - 1 else hQt σ x k
def hSkS (σ : hs_T) (x : Int32) (k : Nat) : hs_T := if hm σ k 0 = 2 then phr (phm σ k 3 (hm σ k 3 - x)) (hRn σ k) 6 (hr (phm σ k 3 (hm σ k 3 - x)) (hRn σ k) 6 + x) else σ
def hSkL (σ : hs_T) (x : Int32) : Nat → hs_T
  | 0 => σ
  | k + 1 => hSkS (hSkL σ x k) x k
def hSkip (σ : hs_T) (most : Int32) : hs_T × Int32 := if 0 < hQt σ most 12 then (hSkL (phf σ 5 (hf σ 5 + hQt σ most 12)) (hQt σ most 12) 12, hQt σ most 12) else (σ, 0)
theorem hBe_rd (σ : hs_T) (k : Nat) (s r t x : Int32) (q j : Nat) : hm (hBe σ k s r t x) q j = if q = k then (if j = 3 then x else if j = 2 then t else if j = 1 then r else if j = 0 then s else hm σ k j) else hm σ q j := by
  simp only [hBe, phm, hm]
  by_cases h : q = k
  · subst h
    simp only [ai_u_at, if_true]
    simp only [upd]
  · rw [ai_u_ne _ _ _ h, ai_u_ne _ _ _ h, ai_u_ne _ _ _ h, ai_u_ne _ _ _ h, if_neg h]
section C31
variable {S : List aiS} {M : Nat → Nat → Int32} {J : Nat → Int64} {h : Nat} {σ : hs_T}
theorem c_X0_nextRoom (hS : HS S h) {n : Nat} {pl : Nat → Nat} (hw : HW σ n pl) : AM G_X0_nextRoom [.ref h] S (hs_put h σ M) J (some (.int (hNext σ pl n)), S, hs_put h σ M, J) := by
  obtain ⟨hn2, hn1, hpl⟩ := hw
  have hroom : ∀ i, i < n → hRn σ (pl i) < 5 ∧ hm σ (pl i) 1 = nI (hRn σ (pl i)) := by
    intro i hi
    obtain ⟨-, -, r, hr1, hr2⟩ := hpl i hi
    rw [hRn, hr2, nI_clamp (by omega)]
    exact ⟨hr1, rfl⟩
  have hnx : ∀ i, i ≤ n → ∀ b, hNx σ pl i = some b → b < 5 := by
    intro i
    induction i with
    | zero => intro _ b hb; simp [hNx] at hb
    | succ i ih =>
      intro hi b hb
      rw [hNx] at hb
      have h5 := (hroom i (by omega)).1
      cases hc : hNx σ pl i with
      | none => rw [hc] at hb; cases hb; exact h5
      | some c =>
        rw [hc] at hb
        have hc5 := ih (by omega) c hc
        by_cases hg : hGb σ (hRn σ (pl i)) c = true
        · simp only [hg, if_true] at hb; cases hb; exact h5
        · simp only [hg, Bool.false_eq_true, if_false] at hb; cases hb; exact hc5
  refine AM_gen (fun out ho => ?_)
  refine AM_of [.ref h, .retAddr 0, .retAddr 0, .retAddr 0, .retAddr 0] (by decide) rfl (fun B => (Nat.le_of_ble_eq_true rfl)) ?_
  have key : ¬ n = 0 → himp σ (pl 0) = false → ∀ (d i : Nat) (o : Option Nat) (x1 : Int32) (x4 : Value), i + d = n → o = hNx σ pl i → AW G_X0_nextRoom out 0 0 44 [.ref h, .int x1, .int (oI o), .int (nI i), x4] [] S (hs_put h σ M) J := by
    intro hn0 him d
    induction d with
    | zero =>
      intro i o x1 x4 hi ho2
      have hi2 : i = n := by omega
      subst hi2
      refine e_iload_n dX0_nextRoom_44 rfl rfl ?_
      refine e_aload_n dX0_nextRoom_45 rfl rfl ?_
      refine e_getr dX0_nextRoom_46 fl_0_26 hS.a0 rfl ?_
      refine hn_get hS dX0_nextRoom_49 fl_0_145 (by decide) ?_
      refine e_ge_t (i := i) (N := i) 98 dX0_nextRoom_52 (by decide) rfl hn1 (by omega) (by omega) ?_
      refine e_iload_n dX0_nextRoom_98 rfl rfl ?_
      exact e_iret dX0_nextRoom_99 rfl (ho.trans (by rw [hNext, if_neg hn0, him, if_neg (by decide), ho2])) (Nat.le_of_ble_eq_true rfl) (Nat.le_of_ble_eq_true rfl)
    | succ d ih =>
      intro i o x1 x4 hi ho2
      obtain ⟨hp1, hp2, -⟩ := hpl i (by omega)
      obtain ⟨hr5, hre⟩ := hroom i (by omega)
      refine e_iload_n dX0_nextRoom_44 rfl rfl ?_
      refine e_aload_n dX0_nextRoom_45 rfl rfl ?_
      refine e_getr dX0_nextRoom_46 fl_0_26 hS.a0 rfl ?_
      refine hn_get hS dX0_nextRoom_49 fl_0_145 (by decide) ?_
      refine e_ge_f (i := i) (N := n) 98 dX0_nextRoom_52 (by decide) rfl hn1 (by omega) (by omega) ?_
      refine e_aload_n dX0_nextRoom_55 rfl rfl ?_
      refine e_getr dX0_nextRoom_56 fl_0_11 hS.a0 rfl ?_
      refine e_aload_n dX0_nextRoom_59 rfl rfl ?_
      refine e_getr dX0_nextRoom_60 fl_0_26 hS.a0 rfl ?_
      refine e_getr dX0_nextRoom_63 fl_0_148 hS.a3 rfl ?_
      refine e_iload_n dX0_nextRoom_66 rfl rfl ?_
      refine hp_ld i hS dX0_nextRoom_67 rfl (by first | assumption | omega) ?_
      refine h_mem ((pl i)) hS dX0_nextRoom_68 hp2 hp1 ?_
      refine hm_get hS (by first | assumption | omega) dX0_nextRoom_69 fl_0_87 (by decide) ?_
      refine e_as (nI ((hRn σ (pl i)))) hre ?_
      cases o with
      | none =>
        refine e_istore dX0_nextRoom_72 (by decide) rfl ?_
        refine e_iload_n dX0_nextRoom_74 rfl rfl ?_
        refine e_iconst (v := (-1)) dX0_nextRoom_75 (by decide) ?_
        refine e_icmp_eq 89 dX0_nextRoom_76 (by decide) (fun h76 => ?_) (fun h76 => ?_)
        · refine e_iload dX0_nextRoom_89 rfl ?_
          refine e_istore_n dX0_nextRoom_91 rfl (by decide) rfl ?_
          refine e_iinc dX0_nextRoom_92 rfl (ai_inc _) (by decide) rfl ?_
          refine e_goto 44 dX0_nextRoom_95 (by decide) ?_
          exact ih (i + 1) (some (hRn σ (pl i))) x1 _ (by omega) (by rw [hNx, ← ho2])
        · exact absurd rfl h76
      | some c =>
        have hc5 := hnx i (by omega) c ho2.symm
        refine e_istore dX0_nextRoom_72 (by decide) rfl ?_
        refine e_iload_n dX0_nextRoom_74 rfl rfl ?_
        refine e_iconst (v := (-1)) dX0_nextRoom_75 (by decide) ?_
        refine e_icmp_eq 89 dX0_nextRoom_76 (by decide) (fun h76 => ?_) (fun h76 => ?_)
        · exact absurd h76 (nI_ne_m1 (k := c) (by omega))
        · refine e_aload_n dX0_nextRoom_79 rfl rfl ?_
          refine e_iload dX0_nextRoom_80 rfl ?_
          refine e_iload_n dX0_nextRoom_82 rfl rfl ?_
          refine e_cV1 dX0_nextRoom_83 ml_0_155 (c_X0_goesBefore hS hr5 hc5) hS.a0 rfl rfl (by decide) (Nat.le_of_ble_eq_true rfl) ⟨rfl, rfl⟩ (Nat.le_of_ble_eq_true rfl) (Nat.le_of_ble_eq_true rfl) ?_
          refine e_if_eq 92 dX0_nextRoom_86 (by decide) (fun h86 => ?_) (fun h86 => ?_)
          · refine e_iinc dX0_nextRoom_92 rfl (ai_inc _) (by decide) rfl ?_
            refine e_goto 44 dX0_nextRoom_95 (by decide) ?_
            exact ih (i + 1) (some c) x1 _ (by omega) (by rw [hNx, ← ho2]; simp [bI0 h86])
          · refine e_iload dX0_nextRoom_89 rfl ?_
            refine e_istore_n dX0_nextRoom_91 rfl (by decide) rfl ?_
            refine e_iinc dX0_nextRoom_92 rfl (ai_inc _) (by decide) rfl ?_
            refine e_goto 44 dX0_nextRoom_95 (by decide) ?_
            exact ih (i + 1) (some (hRn σ (pl i))) x1 _ (by omega) (by rw [hNx, ← ho2]; simp [bI1 h86])
  refine e_aload_n dX0_nextRoom_0 rfl rfl ?_
  refine e_getr dX0_nextRoom_1 fl_0_26 hS.a0 rfl ?_
  refine hn_get hS dX0_nextRoom_4 fl_0_145 (by decide) ?_
  refine e_if_ne 12 dX0_nextRoom_7 (by decide) (fun h7 => ?_) (fun h7 => ?_)
  · have hn0 : ¬ n = 0 := fun e => h7 (by rw [hn1, e]; rfl)
    obtain ⟨hp1, hp2, -⟩ := hpl 0 (by omega)
    refine e_aload_n dX0_nextRoom_12 rfl rfl ?_
    refine e_getr dX0_nextRoom_13 fl_0_26 hS.a0 rfl ?_
    refine e_getr dX0_nextRoom_16 fl_0_148 hS.a3 rfl ?_
    refine e_iconst (v := 0) dX0_nextRoom_19 (by decide) ?_
    refine hp_ld 0 hS dX0_nextRoom_20 (ai_lit 0) (by decide) ?_
    refine e_as (nI ((pl 0))) hp2 ?_
    refine e_istore_n dX0_nextRoom_21 rfl (by decide) rfl ?_
    refine e_aload_n dX0_nextRoom_22 rfl rfl ?_
    refine e_iload_n dX0_nextRoom_23 rfl rfl ?_
    refine e_cV1 dX0_nextRoom_24 ml_0_151 (c_X0_isImpatient hS hp1) hS.a0 rfl rfl (by decide) (Nat.le_of_ble_eq_true rfl) ⟨rfl, rfl⟩ (Nat.le_of_ble_eq_true rfl) (Nat.le_of_ble_eq_true rfl) ?_
    refine e_if_eq 40 dX0_nextRoom_27 (by decide) (fun h27 => ?_) (fun h27 => ?_)
    · refine e_iconst (v := (-1)) dX0_nextRoom_40 (by decide) ?_
      refine e_istore_n dX0_nextRoom_41 rfl (by decide) rfl ?_
      refine e_iconst (v := 0) dX0_nextRoom_42 (by decide) ?_
      refine e_istore_n dX0_nextRoom_43 rfl (by decide) rfl ?_
      exact key hn0 (by simp [himp, z0 h27]) n 0 none _ _ (by omega) rfl
    · refine e_aload_n dX0_nextRoom_30 rfl rfl ?_
      refine e_getr dX0_nextRoom_31 fl_0_11 hS.a0 rfl ?_
      refine e_iload_n dX0_nextRoom_34 rfl rfl ?_
      refine h_mem ((pl 0)) hS dX0_nextRoom_35 rfl (by first | assumption | omega) ?_
      refine hm_get hS (by first | assumption | omega) dX0_nextRoom_36 fl_0_87 (by decide) ?_
      exact e_iret dX0_nextRoom_39 rfl (ho.trans (by rw [hNext, if_neg hn0, if_pos (show himp σ (pl 0) = true by simp [himp, z1 h27])])) (Nat.le_of_ble_eq_true rfl) (Nat.le_of_ble_eq_true rfl)
  · have hn0 : n = 0 := by
      rcases Nat.eq_zero_or_pos n with e | e
      · exact e
      · exact absurd h7 (by rw [hn1]; exact nI_ne0 e (by omega))
    refine e_iconst (v := (-1)) dX0_nextRoom_10 (by decide) ?_
    exact e_iret dX0_nextRoom_11 rfl (ho.trans (by rw [hNext, if_pos hn0])) (Nat.le_of_ble_eq_true rfl) (Nat.le_of_ble_eq_true rfl)
theorem c_X0_openRoom (hS : HS S h) {r e : Nat} (hr5 : r < 5) (he1 : he σ 1 = nI e) (he2 : e < 2000000000) : AM G_X0_openRoom [.ref h, .int (nI r)] S (hs_put h σ M) J (none, S, hs_put h (hOpn σ r) M, J) := by
  have hev : hEv (hOpn1 σ r) = e := by
    show (he σ 1).toNatClampNeg = e
    rw [he1, nI_clamp (by omega)]
  refine AM_gen (fun out ho => ?_)
  refine AM_of [.ref h, .int (nI r), .retAddr 0] (by decide) rfl (fun B => (Nat.le_of_ble_eq_true rfl)) ?_
  refine e_iload_n dX0_openRoom_0 rfl rfl ?_
  refine e_iconst (v := (-1)) dX0_openRoom_1 (by decide) ?_
  refine e_icmp_ne 6 dX0_openRoom_2 (by decide) (fun h2 => ?_) (fun h2 => ?_)
  · refine e_aload_n dX0_openRoom_6 rfl rfl ?_
    refine e_getr dX0_openRoom_7 fl_0_19 hS.a0 rfl ?_
    refine e_iload_n dX0_openRoom_10 rfl rfl ?_
    refine h_rm r hS dX0_openRoom_11 rfl (by first | assumption | omega) ?_
    refine e_astore_n dX0_openRoom_12 rfl (by decide) rfl ?_
    refine e_aload_n dX0_openRoom_13 rfl rfl ?_
    refine e_aload_n dX0_openRoom_14 rfl rfl ?_
    refine hr_get hS (by first | assumption | omega) dX0_openRoom_15 fl_0_67 (by decide) ?_
    refine hf_put hS dX0_openRoom_18 fl_0_45 ?_
    refine e_aload_n dX0_openRoom_21 rfl rfl ?_
    refine e_dup dX0_openRoom_22 rfl ?_
    refine hr_get hS (by first | assumption | omega) dX0_openRoom_23 fl_0_67 (by decide) ?_
    refine e_aload_n dX0_openRoom_26 rfl rfl ?_
    refine e_sipush (v := 2520) dX0_openRoom_27 (by decide) ?_
    refine e_cV1 dX0_openRoom_30 ml_0_159 (c_X4_byShare hS (by omega) _) (hS.ar (by first | assumption | omega)) rfl rfl (by decide) (Nat.le_of_ble_eq_true rfl) ⟨rfl, rfl⟩ (Nat.le_of_ble_eq_true rfl) (Nat.le_of_ble_eq_true rfl) ?_
    refine e_iadd dX0_openRoom_33 ?_
    refine hr_put hS (by first | assumption | omega) dX0_openRoom_34 fl_0_67 ?_
    refine e_aload_n dX0_openRoom_37 rfl rfl ?_
    refine e_dup dX0_openRoom_38 rfl ?_
    refine hr_get hS (by first | assumption | omega) dX0_openRoom_39 fl_0_162 (by decide) ?_
    refine e_iconst (v := 1) dX0_openRoom_42 (by decide) ?_
    refine e_iadd dX0_openRoom_43 ?_
    refine hr_put hS (by first | assumption | omega) dX0_openRoom_44 fl_0_162 ?_
    refine e_aload_n dX0_openRoom_47 rfl rfl ?_
    refine e_iload_n dX0_openRoom_48 rfl rfl ?_
    refine hf_put hS dX0_openRoom_49 fl_0_51 ?_
    refine e_aload_n dX0_openRoom_52 rfl rfl ?_
    refine e_iconst (v := 1) dX0_openRoom_53 (by decide) ?_
    refine hf_putz hS dX0_openRoom_54 fl_0_54 (by decide) ?_
    refine e_aload_n dX0_openRoom_57 rfl rfl ?_
    refine e_iconst (v := 0) dX0_openRoom_58 (by decide) ?_
    refine hf_put hS dX0_openRoom_59 fl_0_58 ?_
    refine e_aload_n dX0_openRoom_62 rfl rfl ?_
    refine e_getr dX0_openRoom_63 fl_0_33 hS.a0 rfl ?_
    refine e_aload_n dX0_openRoom_66 rfl rfl ?_
    refine hf_get hS dX0_openRoom_67 fl_0_41 (by decide) ?_
    refine e_iconst (v := 0) dX0_openRoom_70 (by decide) ?_
    refine e_iconst (v := (-1)) dX0_openRoom_71 (by decide) ?_
    refine e_iload_n dX0_openRoom_72 rfl rfl ?_
    have he1' : he (hOpn1 σ r) 1 = nI e := he1
    show AW G_X0_openRoom out 0 0 _ _ _ S (hs_put h (hOpn1 σ r) M) J
    refine e_cV0 dX0_openRoom_73 ml_0_90 (c_X2_note (σ := hOpn1 σ r) (e := e) hS he1' he2 _ _ _ _) hS.a5 rfl rfl (by decide) (Nat.le_of_ble_eq_true rfl) ⟨rfl, rfl⟩ (Nat.le_of_ble_eq_true rfl) (Nat.le_of_ble_eq_true rfl) ?_
    exact e_vret dX0_openRoom_76 rfl (ho.trans (by rw [hOpn, hNt, hev]; rfl)) (Nat.le_of_ble_eq_true rfl) (Nat.le_of_ble_eq_true rfl)
  · exact absurd h2 (nI_ne_m1 (by omega))
theorem c_X0_openRoom_none (hS : HS S h) : AM G_X0_openRoom [.ref h, .int (-1)] S (hs_put h σ M) J (none, S, hs_put h σ M, J) := by
  refine AM_gen (fun out ho => ?_)
  refine AM_of [.ref h, .int (-1), .retAddr 0] (by decide) rfl (fun B => (Nat.le_of_ble_eq_true rfl)) ?_
  refine e_iload_n dX0_openRoom_0 rfl rfl ?_
  refine e_iconst (v := (-1)) dX0_openRoom_1 (by decide) ?_
  refine e_icmp_ne 6 dX0_openRoom_2 (by decide) (fun h2 => ?_) (fun h2 => ?_)
  · exact absurd rfl h2
  · exact e_vret dX0_openRoom_5 rfl ho (Nat.le_of_ble_eq_true rfl) (Nat.le_of_ble_eq_true rfl)
theorem c_X0_closeDoor (hS : HS S h) {e : Nat} (he1 : he σ 1 = nI e) (he2 : e < 2000000000) : AM G_X0_closeDoor [.ref h] S (hs_put h σ M) J (none, S, hs_put h (hCl σ) M, J) := by
  have hev : hEv (phf σ 9 0) = e := by
    show (he σ 1).toNatClampNeg = e
    rw [he1, nI_clamp (by omega)]
  refine AM_gen (fun out ho => ?_)
  refine AM_of [.ref h] (by decide) rfl (fun B => (Nat.le_of_ble_eq_true rfl)) ?_
  have he1' : he (phf σ 9 0) 1 = nI e := he1
  refine e_aload_n dX0_closeDoor_0 rfl rfl ?_
  refine e_iconst (v := 0) dX0_closeDoor_1 (by decide) ?_
  refine hf_putz hS dX0_closeDoor_2 fl_0_54 (by decide) ?_
  refine e_aload_n dX0_closeDoor_5 rfl rfl ?_
  refine e_getr dX0_closeDoor_6 fl_0_33 hS.a0 rfl ?_
  refine e_aload_n dX0_closeDoor_9 rfl rfl ?_
  refine hf_get hS dX0_closeDoor_10 fl_0_41 (by decide) ?_
  refine e_iconst (v := 3) dX0_closeDoor_13 (by decide) ?_
  refine e_iconst (v := (-1)) dX0_closeDoor_14 (by decide) ?_
  refine e_aload_n dX0_closeDoor_15 rfl rfl ?_
  refine hf_get hS dX0_closeDoor_16 fl_0_51 (by decide) ?_
  refine e_cV0 dX0_closeDoor_19 ml_0_90 (c_X2_note (σ := phf σ 9 0) (e := e) hS he1' he2 _ _ _ _) hS.a5 rfl rfl (by decide) (Nat.le_of_ble_eq_true rfl) ⟨rfl, rfl⟩ (Nat.le_of_ble_eq_true rfl) (Nat.le_of_ble_eq_true rfl) ?_
  exact e_vret dX0_closeDoor_22 rfl (ho.trans (by rw [hCl, hNt, hev])) (Nat.le_of_ble_eq_true rfl) (Nat.le_of_ble_eq_true rfl)
theorem c_X0_firstAtDoor (hS : HS S h) (hw : HW σ (hLn σ) (hPl σ)) (hu8 : hf σ 8 = -1 ∨ ∃ u, u < 5 ∧ hf σ 8 = nI u) : AM G_X0_firstAtDoor [.ref h] S (hs_put h σ M) J (some (.int (hFd σ)), S, hs_put h σ M, J) := by
  refine AM_gen (fun out ho => ?_)
  refine AM_of [.ref h] (by decide) rfl (fun B => (Nat.le_of_ble_eq_true rfl)) ?_
  refine e_aload_n dX0_firstAtDoor_0 rfl rfl ?_
  refine hf_get hS dX0_firstAtDoor_1 fl_0_51 (by decide) ?_
  refine e_iconst (v := (-1)) dX0_firstAtDoor_4 (by decide) ?_
  refine e_icmp_eq 42 dX0_firstAtDoor_5 (by decide) (fun h5 => ?_) (fun h5 => ?_)
  · refine e_iconst (v := (-1)) dX0_firstAtDoor_42 (by decide) ?_
    exact e_iret dX0_firstAtDoor_43 rfl (ho.trans (by rw [hFd, if_pos (Or.inl h5)])) (Nat.le_of_ble_eq_true rfl) (Nat.le_of_ble_eq_true rfl)
  · obtain ⟨u, hu5, hue⟩ := hu8.resolve_left h5
    have hiu : hIu σ = u := by rw [hIu, hue, nI_clamp (by omega)]
    refine e_aload_n dX0_firstAtDoor_8 rfl rfl ?_
    refine hf_get hS dX0_firstAtDoor_9 fl_0_54 (by decide) ?_
    refine e_if_eq 42 dX0_firstAtDoor_12 (by decide) (fun h12 => ?_) (fun h12 => ?_)
    · refine e_iconst (v := (-1)) dX0_firstAtDoor_42 (by decide) ?_
      exact e_iret dX0_firstAtDoor_43 rfl (ho.trans (by rw [hFd, if_pos (Or.inr (Or.inl h12))])) (Nat.le_of_ble_eq_true rfl) (Nat.le_of_ble_eq_true rfl)
    · refine e_aload_n dX0_firstAtDoor_15 rfl rfl ?_
      refine e_getr dX0_firstAtDoor_16 fl_0_19 hS.a0 rfl ?_
      refine e_aload_n dX0_firstAtDoor_19 rfl rfl ?_
      refine hf_get hS dX0_firstAtDoor_20 fl_0_51 (by decide) ?_
      refine h_rm u hS dX0_firstAtDoor_23 hue hu5 ?_
      refine hr_get hS (by first | assumption | omega) dX0_firstAtDoor_24 fl_0_93 (by decide) ?_
      refine e_aload_n dX0_firstAtDoor_27 rfl rfl ?_
      refine e_getr dX0_firstAtDoor_28 fl_0_19 hS.a0 rfl ?_
      refine e_aload_n dX0_firstAtDoor_31 rfl rfl ?_
      refine hf_get hS dX0_firstAtDoor_32 fl_0_51 (by decide) ?_
      refine h_rm u hS dX0_firstAtDoor_35 hue hu5 ?_
      refine hr_get hS (by first | assumption | omega) dX0_firstAtDoor_36 fl_0_165 (by decide) ?_
      refine e_icmp_lt 44 dX0_firstAtDoor_39 (by decide) (fun h39 => ?_) (fun h39 => ?_)
      · refine e_aload_n dX0_firstAtDoor_44 rfl rfl ?_
        refine e_aload_n dX0_firstAtDoor_45 rfl rfl ?_
        refine hf_get hS dX0_firstAtDoor_46 fl_0_51 (by decide) ?_
        refine e_iconst (v := 0) dX0_firstAtDoor_49 (by decide) ?_
        refine e_cV1 dX0_firstAtDoor_50 ml_0_168 (c_X0_inQueue hS hw _ _) hS.a0 rfl rfl (by decide) (Nat.le_of_ble_eq_true rfl) ⟨rfl, rfl⟩ (Nat.le_of_ble_eq_true rfl) (Nat.le_of_ble_eq_true rfl) ?_
        exact e_iret dX0_firstAtDoor_53 rfl (ho.trans (by rw [hFd, if_neg (by rw [hiu]; rintro (q | q | q); exact h5 q; exact h12 q; exact absurd h39 (Int32.not_lt.mpr q))])) (Nat.le_of_ble_eq_true rfl) (Nat.le_of_ble_eq_true rfl)
      · refine e_iconst (v := (-1)) dX0_firstAtDoor_42 (by decide) ?_
        exact e_iret dX0_firstAtDoor_43 rfl (ho.trans (by rw [hFd, if_pos (Or.inr (Or.inr (by rw [hiu]; exact Int32.not_lt.mp h39)))])) (Nat.le_of_ble_eq_true rfl) (Nat.le_of_ble_eq_true rfl)
theorem c_X0_isTurnOfOthers (hS : HS S h) (hw : HW σ (hLn σ) (hPl σ)) : AM G_X0_isTurnOfOthers [.ref h] S (hs_put h σ M) J (some (.int (bI (hTo σ))), S, hs_put h σ M, J) := by
  obtain ⟨hn2, hn1, hpl⟩ := hw
  refine AM_gen (fun out ho => ?_)
  refine AM_of [.ref h, .retAddr 0, .retAddr 0, .retAddr 0] (by decide) rfl (fun B => (Nat.le_of_ble_eq_true rfl)) ?_
  have key : ∀ (t : Bool), t = decide (hu σ 1 ≤ hf σ 10) → ∀ (d i : Nat) (x3 : Value), i + d = hLn σ → (∀ j, j < i → (!decide (hm σ (hPl σ j) 1 = hf σ 8) && (decide (hu σ 1 ≤ hf σ 10) || himp σ (hPl σ j))) = false) → AW G_X0_isTurnOfOthers out 0 0 21 [.ref h, .int (bI t), .int (nI i), x3] [] S (hs_put h σ M) J := by
    intro t ht d
    induction d with
    | zero =>
      intro i x3 hi hno
      have hf0 : hTo σ = false := by
        cases hc : hTo σ with
        | false => rfl
        | true =>
          obtain ⟨k, hk, hk2⟩ := ex_iff.mp hc
          rw [hno k (by omega)] at hk2
          cases hk2
      refine e_iload_n dX0_isTurnOfOthers_21 rfl rfl ?_
      refine e_aload_n dX0_isTurnOfOthers_22 rfl rfl ?_
      refine e_getr dX0_isTurnOfOthers_23 fl_0_26 hS.a0 rfl ?_
      refine hn_get hS dX0_isTurnOfOthers_26 fl_0_145 (by decide) ?_
      refine e_ge_t (i := i) (N := hLn σ) 78 dX0_isTurnOfOthers_29 (by decide) rfl hn1 (by omega) (by omega) ?_
      refine e_iconst (v := 0) dX0_isTurnOfOthers_78 (by decide) ?_
      exact e_zret dX0_isTurnOfOthers_79 rfl (by decide) (ho.trans (by rw [hf0]; rfl)) (Nat.le_of_ble_eq_true rfl) (Nat.le_of_ble_eq_true rfl)
    | succ d ih =>
      intro i x3 hi hno
      obtain ⟨hp1, hp2, -⟩ := hpl i (by omega)
      refine e_iload_n dX0_isTurnOfOthers_21 rfl rfl ?_
      refine e_aload_n dX0_isTurnOfOthers_22 rfl rfl ?_
      refine e_getr dX0_isTurnOfOthers_23 fl_0_26 hS.a0 rfl ?_
      refine hn_get hS dX0_isTurnOfOthers_26 fl_0_145 (by decide) ?_
      refine e_ge_f (i := i) (N := hLn σ) 78 dX0_isTurnOfOthers_29 (by decide) rfl hn1 (by omega) (by omega) ?_
      refine e_aload_n dX0_isTurnOfOthers_32 rfl rfl ?_
      refine e_getr dX0_isTurnOfOthers_33 fl_0_26 hS.a0 rfl ?_
      refine e_getr dX0_isTurnOfOthers_36 fl_0_148 hS.a3 rfl ?_
      refine e_iload_n dX0_isTurnOfOthers_39 rfl rfl ?_
      refine hp_ld i hS dX0_isTurnOfOthers_40 rfl (by first | assumption | omega) ?_
      refine e_as (nI ((hPl σ i))) hp2 ?_
      refine e_istore_n dX0_isTurnOfOthers_41 rfl (by decide) rfl ?_
      refine e_aload_n dX0_isTurnOfOthers_42 rfl rfl ?_
      refine e_getr dX0_isTurnOfOthers_43 fl_0_11 hS.a0 rfl ?_
      refine e_iload_n dX0_isTurnOfOthers_46 rfl rfl ?_
      refine h_mem ((hPl σ i)) hS dX0_isTurnOfOthers_47 rfl (by first | assumption | omega) ?_
      refine hm_get hS (by first | assumption | omega) dX0_isTurnOfOthers_48 fl_0_87 (by decide) ?_
      refine e_aload_n dX0_isTurnOfOthers_51 rfl rfl ?_
      refine hf_get hS dX0_isTurnOfOthers_52 fl_0_51 (by decide) ?_
      refine e_icmp_eq 72 dX0_isTurnOfOthers_55 (by decide) (fun h55 => ?_) (fun h55 => ?_)
      · refine e_iinc dX0_isTurnOfOthers_72 rfl (ai_inc _) (by decide) rfl ?_
        refine e_goto 21 dX0_isTurnOfOthers_75 (by decide) ?_
        exact ih (i + 1) _ (by omega) (lt_s hno (by simp [h55]))
      · refine e_iload_n dX0_isTurnOfOthers_58 rfl rfl ?_
        refine e_if_ne 70 dX0_isTurnOfOthers_59 (by decide) (fun h59 => ?_) (fun h59 => ?_)
        · have ht1 := bI1 h59
          rw [ht1] at ht
          refine e_iconst (v := 1) dX0_isTurnOfOthers_70 (by decide) ?_
          exact e_zret dX0_isTurnOfOthers_71 rfl (by decide) (ho.trans (by rw [show hTo σ = true from ex_iff.mpr ⟨i, by omega, by rw [← ht]; simp [h55]⟩]; rfl)) (Nat.le_of_ble_eq_true rfl) (Nat.le_of_ble_eq_true rfl)
        · have ht0 := bI0 h59
          rw [ht0] at ht
          refine e_aload_n dX0_isTurnOfOthers_62 rfl rfl ?_
          refine e_iload_n dX0_isTurnOfOthers_63 rfl rfl ?_
          refine e_cV1 dX0_isTurnOfOthers_64 ml_0_151 (c_X0_isImpatient hS hp1) hS.a0 rfl rfl (by decide) (Nat.le_of_ble_eq_true rfl) ⟨rfl, rfl⟩ (Nat.le_of_ble_eq_true rfl) (Nat.le_of_ble_eq_true rfl) ?_
          refine e_if_eq 72 dX0_isTurnOfOthers_67 (by decide) (fun h67 => ?_) (fun h67 => ?_)
          · refine e_iinc dX0_isTurnOfOthers_72 rfl (ai_inc _) (by decide) rfl ?_
            refine e_goto 21 dX0_isTurnOfOthers_75 (by decide) ?_
            exact ih (i + 1) _ (by omega) (lt_s hno (by rw [← ht]; simp [himp, z0 h67]))
          · refine e_iconst (v := 1) dX0_isTurnOfOthers_70 (by decide) ?_
            exact e_zret dX0_isTurnOfOthers_71 rfl (by decide) (ho.trans (by rw [show hTo σ = true from ex_iff.mpr ⟨i, by omega, by simp [h55, himp, z1 h67]⟩]; rfl)) (Nat.le_of_ble_eq_true rfl) (Nat.le_of_ble_eq_true rfl)
  refine e_aload_n dX0_isTurnOfOthers_0 rfl rfl ?_
  refine hf_get hS dX0_isTurnOfOthers_1 fl_0_58 (by decide) ?_
  refine e_aload_n dX0_isTurnOfOthers_4 rfl rfl ?_
  refine e_getr dX0_isTurnOfOthers_5 fl_0_37 hS.a0 rfl ?_
  refine e_iconst (v := 1) dX0_isTurnOfOthers_8 (by decide) ?_
  refine hu_ld 1 hS dX0_isTurnOfOthers_9 (ai_lit 1) (by decide) ?_
  refine e_icmp_lt 17 dX0_isTurnOfOthers_10 (by decide) (fun h10 => ?_) (fun h10 => ?_)
  · refine e_iconst (v := 0) dX0_isTurnOfOthers_17 (by decide) ?_
    refine e_istore_n dX0_isTurnOfOthers_18 rfl (by decide) rfl ?_
    refine e_iconst (v := 0) dX0_isTurnOfOthers_19 (by decide) ?_
    refine e_istore_n dX0_isTurnOfOthers_20 rfl (by decide) rfl ?_
    exact key false (by simp [Int32.not_le.mpr h10]) (hLn σ) 0 _ (by omega) (fun _ z => absurd z (by omega))
  · refine e_iconst (v := 1) dX0_isTurnOfOthers_13 (by decide) ?_
    refine e_goto 18 dX0_isTurnOfOthers_14 (by decide) ?_
    refine e_istore_n dX0_isTurnOfOthers_18 rfl (by decide) rfl ?_
    refine e_iconst (v := 0) dX0_isTurnOfOthers_19 (by decide) ?_
    refine e_istore_n dX0_isTurnOfOthers_20 rfl (by decide) rfl ?_
    exact key true (by simp [Int32.not_lt.mp h10]) (hLn σ) 0 _ (by omega) (fun _ z => absurd z (by omega))
theorem c_X0_letIn (hS : HS S h) {k r e : Nat} (hk : k < 12) (hr5 : r < 5) (hrm : hm σ k 1 = nI r) (hn2 : hLn σ ≤ 12) (hn1 : hn σ 1 = nI (hLn σ)) (he1 : he σ 1 = nI e) (he2 : e < 2000000000) : AM G_X0_letIn [.ref h, .int (nI k)] S (hs_put h σ M) J (none, S, hs_put h (hLet σ k) M, J) := by
  have hrn : hRn σ k = r := by rw [hRn, hrm, nI_clamp (by omega)]
  have hev : hEv (hLet1 σ k) = e := by
    show (he σ 1).toNatClampNeg = e
    rw [he1, nI_clamp (by omega)]
  refine AM_gen (fun out ho => ?_)
  refine AM_of [.ref h, .int (nI k), .retAddr 0] (by decide) rfl (fun B => (Nat.le_of_ble_eq_true rfl)) ?_
  have hl1 : hLet1 σ k = phf (hBe (hRemS (hCe σ r (hf σ 5 - hm σ k 2)) (nI k) (hLn σ)) k 2 (hm (hRemS (hCe σ r (hf σ 5 - hm σ k 2)) (nI k) (hLn σ)) k 1) (hf (hRemS (hCe σ r (hf σ 5 - hm σ k 2)) (nI k) (hLn σ)) 5) (hm (hRemS (hCe σ r (hf σ 5 - hm σ k 2)) (nI k) (hLn σ)) k 3)) 10 (hf (hBe (hRemS (hCe σ r (hf σ 5 - hm σ k 2)) (nI k) (hLn σ)) k 2 (hm (hRemS (hCe σ r (hf σ 5 - hm σ k 2)) (nI k) (hLn σ)) k 1) (hf (hRemS (hCe σ r (hf σ 5 - hm σ k 2)) (nI k) (hLn σ)) 5) (hm (hRemS (hCe σ r (hf σ 5 - hm σ k 2)) (nI k) (hLn σ)) k 3)) 10 + 1) := by rw [hLet1, hrn]
  have hn1' : hn (hCe σ r (hf σ 5 - hm σ k 2)) 1 = nI (hLn σ) := hn1
  refine e_aload_n dX0_letIn_0 rfl rfl ?_
  refine e_getr dX0_letIn_1 fl_0_11 hS.a0 rfl ?_
  refine e_iload_n dX0_letIn_4 rfl rfl ?_
  refine h_mem k hS dX0_letIn_5 rfl (by first | assumption | omega) ?_
  refine e_astore_n dX0_letIn_6 rfl (by decide) rfl ?_
  refine e_aload_n dX0_letIn_7 rfl rfl ?_
  refine e_getr dX0_letIn_8 fl_0_19 hS.a0 rfl ?_
  refine e_aload_n dX0_letIn_11 rfl rfl ?_
  refine hm_get hS (by first | assumption | omega) dX0_letIn_12 fl_0_87 (by decide) ?_
  refine h_rm r hS dX0_letIn_15 hrm hr5 ?_
  refine e_aload_n dX0_letIn_16 rfl rfl ?_
  refine hf_get hS dX0_letIn_17 fl_0_41 (by decide) ?_
  refine e_aload_n dX0_letIn_20 rfl rfl ?_
  refine hm_get hS (by first | assumption | omega) dX0_letIn_21 fl_0_102 (by decide) ?_
  refine e_isub dX0_letIn_24 ?_
  refine e_cV0 dX0_letIn_25 ml_0_171 (c_X4_countEntry hS hr5 _) (hS.ar (by first | assumption | omega)) rfl rfl (by decide) (Nat.le_of_ble_eq_true rfl) ⟨rfl, rfl⟩ (Nat.le_of_ble_eq_true rfl) (Nat.le_of_ble_eq_true rfl) ?_
  refine e_aload_n dX0_letIn_28 rfl rfl ?_
  refine e_getr dX0_letIn_29 fl_0_26 hS.a0 rfl ?_
  refine e_iload_n dX0_letIn_32 rfl rfl ?_
  refine e_cV0 dX0_letIn_33 ml_0_84 (c_X1_remove (σ := hCe σ r (hf σ 5 - hm σ k 2)) (n := hLn σ) hS hn1' hn2 _) hS.a3 rfl rfl (by decide) (Nat.le_of_ble_eq_true rfl) ⟨rfl, rfl⟩ (Nat.le_of_ble_eq_true rfl) (Nat.le_of_ble_eq_true rfl) ?_
  refine e_aload_n dX0_letIn_36 rfl rfl ?_
  refine e_iconst (v := 2) dX0_letIn_37 (by decide) ?_
  refine e_aload_n dX0_letIn_38 rfl rfl ?_
  refine hm_get hS (by first | assumption | omega) dX0_letIn_39 fl_0_87 (by decide) ?_
  refine e_aload_n dX0_letIn_42 rfl rfl ?_
  refine hf_get hS dX0_letIn_43 fl_0_41 (by decide) ?_
  refine e_aload_n dX0_letIn_46 rfl rfl ?_
  refine hm_get hS (by first | assumption | omega) dX0_letIn_47 fl_0_115 (by decide) ?_
  refine e_cV0 dX0_letIn_50 ml_0_76 (c_X3_become hS hk _ _ _ _) (hS.am (by first | assumption | omega)) rfl rfl (by decide) (Nat.le_of_ble_eq_true rfl) ⟨rfl, rfl⟩ (Nat.le_of_ble_eq_true rfl) (Nat.le_of_ble_eq_true rfl) ?_
  refine e_aload_n dX0_letIn_53 rfl rfl ?_
  refine e_dup dX0_letIn_54 rfl ?_
  refine hf_get hS dX0_letIn_55 fl_0_58 (by decide) ?_
  refine e_iconst (v := 1) dX0_letIn_58 (by decide) ?_
  refine e_iadd dX0_letIn_59 ?_
  refine hf_put hS dX0_letIn_60 fl_0_58 ?_
  rw [← hl1]
  have he1' : he (hLet1 σ k) 1 = nI e := he1
  refine e_aload_n dX0_letIn_63 rfl rfl ?_
  refine e_getr dX0_letIn_64 fl_0_33 hS.a0 rfl ?_
  refine e_aload_n dX0_letIn_67 rfl rfl ?_
  refine hf_get hS dX0_letIn_68 fl_0_41 (by decide) ?_
  refine e_iconst (v := 1) dX0_letIn_71 (by decide) ?_
  refine e_iload_n dX0_letIn_72 rfl rfl ?_
  refine e_aload_n dX0_letIn_73 rfl rfl ?_
  refine hm_get hS (by first | assumption | omega) dX0_letIn_74 fl_0_87 (by decide) ?_
  refine e_cV0 dX0_letIn_77 ml_0_90 (c_X2_note (σ := hLet1 σ k) (e := e) hS he1' he2 _ _ _ _) hS.a5 rfl rfl (by decide) (Nat.le_of_ble_eq_true rfl) ⟨rfl, rfl⟩ (Nat.le_of_ble_eq_true rfl) (Nat.le_of_ble_eq_true rfl) ?_
  exact e_vret dX0_letIn_80 rfl (ho.trans (by rw [hLet, hNt, hev])) (Nat.le_of_ble_eq_true rfl) (Nat.le_of_ble_eq_true rfl)
theorem c_X0_queueUp (hS : HS S h) (hw : HW σ (hLn σ) (hPl σ)) (hl12 : hLn σ < 12) {k r : Nat} (hk : k < 12) (hr5 : r < 5) (t : Int32) : AM G_X0_queueUp [.ref h, .int (nI k), .int (nI r), .int t] S (hs_put h σ M) J (none, S, hs_put h (hQu σ k r t) M, J) := by
  have hn1 := hw.2.1
  refine AM_gen (fun out ho => ?_)
  refine AM_of [.ref h, .int (nI k), .int (nI r), .int t] (by decide) rfl (fun B => (Nat.le_of_ble_eq_true rfl)) ?_
  have tail : ∀ σ1 : hs_T, hn σ1 = hn σ → hQu σ k r t = phn (php (hBe σ1 k 1 (nI r) (hf σ1 5) t) (hLn σ) (nI k)) 1 (nI (hLn σ + 1)) → AW G_X0_queueUp out 0 0 41 [.ref h, .int (nI k), .int (nI r), .int t] [] S (hs_put h σ1 M) J := by
    intro σ1 hl1 hq
    have hn1' : hn σ1 1 = nI (hLn σ) := by rw [hl1]; exact hn1
    rw [hq] at ho
    have hn1'' : hn (hBe σ1 k 1 (nI r) (hf σ1 5) t) 1 = nI (hLn σ) := hn1'
    refine e_aload_n dX0_queueUp_41 rfl rfl ?_
    refine e_getr dX0_queueUp_42 fl_0_11 hS.a0 rfl ?_
    refine e_iload_n dX0_queueUp_45 rfl rfl ?_
    refine h_mem k hS dX0_queueUp_46 rfl (by first | assumption | omega) ?_
    refine e_iconst (v := 1) dX0_queueUp_47 (by decide) ?_
    refine e_iload_n dX0_queueUp_48 rfl rfl ?_
    refine e_aload_n dX0_queueUp_49 rfl rfl ?_
    refine hf_get hS dX0_queueUp_50 fl_0_41 (by decide) ?_
    refine e_iload_n dX0_queueUp_53 rfl rfl ?_
    refine e_cV0 dX0_queueUp_54 ml_0_76 (c_X3_become hS hk _ _ _ _) (hS.am (by first | assumption | omega)) rfl rfl (by decide) (Nat.le_of_ble_eq_true rfl) ⟨rfl, rfl⟩ (Nat.le_of_ble_eq_true rfl) (Nat.le_of_ble_eq_true rfl) ?_
    refine e_aload_n dX0_queueUp_57 rfl rfl ?_
    refine e_getr dX0_queueUp_58 fl_0_26 hS.a0 rfl ?_
    refine e_iload_n dX0_queueUp_61 rfl rfl ?_
    refine e_cV0 dX0_queueUp_62 ml_0_80 (c_X1_append (σ := hBe σ1 k 1 (nI r) (hf σ1 5) t) (n := hLn σ) hS hn1'' hl12 _) hS.a3 rfl rfl (by decide) (Nat.le_of_ble_eq_true rfl) ⟨rfl, rfl⟩ (Nat.le_of_ble_eq_true rfl) (Nat.le_of_ble_eq_true rfl) ?_
    exact e_vret dX0_queueUp_65 rfl ho (Nat.le_of_ble_eq_true rfl) (Nat.le_of_ble_eq_true rfl)
  refine e_iload_n dX0_queueUp_0 rfl rfl ?_
  refine e_aload_n dX0_queueUp_1 rfl rfl ?_
  refine hf_get hS dX0_queueUp_2 fl_0_51 (by decide) ?_
  refine e_icmp_eq 41 dX0_queueUp_5 (by decide) (fun h5 => ?_) (fun h5 => ?_)
  · exact tail σ rfl (by rw [hQu]; simp only [if_neg (fun q : ¬ nI r = hf σ 8 ∧ hCq σ (hPl σ) (nI r) (hLn σ) = 0 => q.1 h5)])
  · refine e_aload_n dX0_queueUp_8 rfl rfl ?_
    refine e_iload_n dX0_queueUp_9 rfl rfl ?_
    refine e_cV1 dX0_queueUp_10 ml_0_63 (c_X0_countQueue hS hw _) hS.a0 rfl rfl (by decide) (Nat.le_of_ble_eq_true rfl) ⟨rfl, rfl⟩ (Nat.le_of_ble_eq_true rfl) (Nat.le_of_ble_eq_true rfl) ?_
    have hlt : hCq σ (hPl σ) (nI r) (hLn σ) ≤ 12 := Nat.le_trans (fb_ct_le _ _) hw.1
    refine e_if_ne 41 dX0_queueUp_13 (by decide) (fun h13 => ?_) (fun h13 => ?_)
    · have h0 : ¬ hCq σ (hPl σ) (nI r) (hLn σ) = 0 := fun e => h13 (by rw [e]; rfl)
      exact tail σ rfl (by rw [hQu]; simp only [if_neg (fun q : ¬ nI r = hf σ 8 ∧ hCq σ (hPl σ) (nI r) (hLn σ) = 0 => h0 q.2)])
    · have h0 : hCq σ (hPl σ) (nI r) (hLn σ) = 0 := by
        rcases Nat.eq_zero_or_pos (hCq σ (hPl σ) (nI r) (hLn σ)) with e | e
        · exact e
        · exact absurd h13 (nI_ne0 e (by omega))
      refine e_aload_n dX0_queueUp_16 rfl rfl ?_
      refine e_getr dX0_queueUp_17 fl_0_19 hS.a0 rfl ?_
      refine e_iload_n dX0_queueUp_20 rfl rfl ?_
      refine h_rm r hS dX0_queueUp_21 rfl (by first | assumption | omega) ?_
      refine e_aload_n dX0_queueUp_22 rfl rfl ?_
      refine e_getr dX0_queueUp_23 fl_0_19 hS.a0 rfl ?_
      refine e_iload_n dX0_queueUp_26 rfl rfl ?_
      refine h_rm r hS dX0_queueUp_27 rfl (by first | assumption | omega) ?_
      refine hr_get hS (by first | assumption | omega) dX0_queueUp_28 fl_0_67 (by decide) ?_
      refine e_aload_n dX0_queueUp_31 rfl rfl ?_
      refine hf_get hS dX0_queueUp_32 fl_0_45 (by decide) ?_
      refine e_max dX0_queueUp_35 ml_0_70 (by decide) (Nat.le_of_ble_eq_true rfl) (Nat.le_of_ble_eq_true rfl) (Nat.le_of_ble_eq_true rfl) ?_
      refine hr_put hS (by first | assumption | omega) dX0_queueUp_38 fl_0_67 ?_
      exact tail _ rfl (by rw [hQu]; simp only [if_pos (show ¬ nI r = hf σ 8 ∧ hCq σ (hPl σ) (nI r) (hLn σ) = 0 from ⟨h5, h0⟩)])
theorem c_X0_giveUp (hS : HS S h) (hn2 : hLn σ ≤ 12) (hn1 : hn σ 1 = nI (hLn σ)) {k : Nat} (hk : k < 12) : AM G_X0_giveUp [.ref h, .int (nI k)] S (hs_put h σ M) J (none, S, hs_put h (hGu σ k) M, J) := by
  refine AM_gen (fun out ho => ?_)
  refine AM_of [.ref h, .int (nI k)] (by decide) rfl (fun B => (Nat.le_of_ble_eq_true rfl)) ?_
  refine e_aload_n dX0_giveUp_0 rfl rfl ?_
  refine e_getr dX0_giveUp_1 fl_0_26 hS.a0 rfl ?_
  refine e_iload_n dX0_giveUp_4 rfl rfl ?_
  refine e_cV0 dX0_giveUp_5 ml_0_84 (c_X1_remove (n := hLn σ) hS hn1 hn2 _) hS.a3 rfl rfl (by decide) (Nat.le_of_ble_eq_true rfl) ⟨rfl, rfl⟩ (Nat.le_of_ble_eq_true rfl) (Nat.le_of_ble_eq_true rfl) ?_
  refine e_aload_n dX0_giveUp_8 rfl rfl ?_
  refine e_getr dX0_giveUp_9 fl_0_11 hS.a0 rfl ?_
  refine e_iload_n dX0_giveUp_12 rfl rfl ?_
  refine h_mem k hS dX0_giveUp_13 rfl (by first | assumption | omega) ?_
  refine e_iconst (v := 0) dX0_giveUp_14 (by decide) ?_
  refine e_iconst (v := (-1)) dX0_giveUp_15 (by decide) ?_
  refine e_iconst (v := (-1)) dX0_giveUp_16 (by decide) ?_
  refine e_iconst (v := 0) dX0_giveUp_17 (by decide) ?_
  refine e_cV0 dX0_giveUp_18 ml_0_76 (c_X3_become hS hk _ _ _ _) (hS.am (by first | assumption | omega)) rfl rfl (by decide) (Nat.le_of_ble_eq_true rfl) ⟨rfl, rfl⟩ (Nat.le_of_ble_eq_true rfl) (Nat.le_of_ble_eq_true rfl) ?_
  exact e_vret dX0_giveUp_21 rfl ho (Nat.le_of_ble_eq_true rfl) (Nat.le_of_ble_eq_true rfl)
theorem c_X0_goOut (hS : HS S h) {k r e : Nat} (hk : k < 12) (hr5 : r < 5) (hrm : hm σ k 1 = nI r) (he1 : he σ 1 = nI e) (he2 : e < 2000000000) (kd : Int32) : AM G_X0_goOut [.ref h, .int (nI k), .int kd] S (hs_put h σ M) J (none, S, hs_put h (hOut σ k kd) M, J) := by
  have hrn : hRn σ k = r := by rw [hRn, hrm, nI_clamp (by omega)]
  have hev : hEv σ = e := by rw [hEv, he1, nI_clamp (by omega)]
  have e1 : hOut1 σ k kd = phr (hBe (hNote σ e (hf σ 5) kd (nI k) (hm σ k 1)) k 0 (-1) (-1) 0) r 3 (hr (hBe (hNote σ e (hf σ 5) kd (nI k) (hm σ k 1)) k 0 (-1) (-1) 0) r 3 - 1) := by
    rw [hOut1, hrn, hNt, hev]
  rw [hOut, hrn, e1]
  refine AM_gen (fun out ho => ?_)
  refine AM_of [.ref h, .int (nI k), .int kd, .retAddr 0] (by decide) rfl (fun B => (Nat.le_of_ble_eq_true rfl)) ?_
  refine e_aload_n dX0_goOut_0 rfl rfl ?_
  refine e_getr dX0_goOut_1 fl_0_11 hS.a0 rfl ?_
  refine e_iload_n dX0_goOut_4 rfl rfl ?_
  refine h_mem k hS dX0_goOut_5 rfl (by first | assumption | omega) ?_
  refine hm_get hS (by first | assumption | omega) dX0_goOut_6 fl_0_87 (by decide) ?_
  refine e_istore_n dX0_goOut_9 rfl (by decide) rfl ?_
  refine e_aload_n dX0_goOut_10 rfl rfl ?_
  refine e_getr dX0_goOut_11 fl_0_33 hS.a0 rfl ?_
  refine e_aload_n dX0_goOut_14 rfl rfl ?_
  refine hf_get hS dX0_goOut_15 fl_0_41 (by decide) ?_
  refine e_iload_n dX0_goOut_18 rfl rfl ?_
  refine e_iload_n dX0_goOut_19 rfl rfl ?_
  refine e_iload_n dX0_goOut_20 rfl rfl ?_
  refine e_cV0 dX0_goOut_21 ml_0_90 (c_X2_note (σ := σ) (e := e) hS he1 he2 _ _ _ _) hS.a5 rfl rfl (by decide) (Nat.le_of_ble_eq_true rfl) ⟨rfl, rfl⟩ (Nat.le_of_ble_eq_true rfl) (Nat.le_of_ble_eq_true rfl) ?_
  refine e_aload_n dX0_goOut_24 rfl rfl ?_
  refine e_getr dX0_goOut_25 fl_0_11 hS.a0 rfl ?_
  refine e_iload_n dX0_goOut_28 rfl rfl ?_
  refine h_mem k hS dX0_goOut_29 rfl (by first | assumption | omega) ?_
  refine e_iconst (v := 0) dX0_goOut_30 (by decide) ?_
  refine e_iconst (v := (-1)) dX0_goOut_31 (by decide) ?_
  refine e_iconst (v := (-1)) dX0_goOut_32 (by decide) ?_
  refine e_iconst (v := 0) dX0_goOut_33 (by decide) ?_
  refine e_cV0 dX0_goOut_34 ml_0_76 (c_X3_become hS hk _ _ _ _) (hS.am (by first | assumption | omega)) rfl rfl (by decide) (Nat.le_of_ble_eq_true rfl) ⟨rfl, rfl⟩ (Nat.le_of_ble_eq_true rfl) (Nat.le_of_ble_eq_true rfl) ?_
  refine e_aload_n dX0_goOut_37 rfl rfl ?_
  refine e_getr dX0_goOut_38 fl_0_19 hS.a0 rfl ?_
  refine e_iload_n dX0_goOut_41 rfl rfl ?_
  refine h_rm r hS dX0_goOut_42 hrm (by first | assumption | omega) ?_
  refine e_dup dX0_goOut_43 rfl ?_
  refine hr_get hS (by first | assumption | omega) dX0_goOut_44 fl_0_93 (by decide) ?_
  refine e_iconst (v := 1) dX0_goOut_47 (by decide) ?_
  refine e_isub dX0_goOut_48 ?_
  refine hr_put hS (by first | assumption | omega) dX0_goOut_49 fl_0_93 ?_
  refine e_aload_n dX0_goOut_52 rfl rfl ?_
  refine e_getr dX0_goOut_53 fl_0_19 hS.a0 rfl ?_
  refine e_iload_n dX0_goOut_56 rfl rfl ?_
  refine h_rm r hS dX0_goOut_57 hrm (by first | assumption | omega) ?_
  refine hr_get hS (by first | assumption | omega) dX0_goOut_58 fl_0_93 (by decide) ?_
  refine e_if_ne 79 dX0_goOut_61 (by decide) (fun h61 => ?_) (fun h61 => ?_)
  · exact e_vret dX0_goOut_79 rfl (ho.trans (by rw [if_neg h61])) (Nat.le_of_ble_eq_true rfl) (Nat.le_of_ble_eq_true rfl)
  · refine e_aload_n dX0_goOut_64 rfl rfl ?_
    refine e_iconst (v := (-1)) dX0_goOut_65 (by decide) ?_
    refine hf_put hS dX0_goOut_66 fl_0_51 ?_
    refine e_aload_n dX0_goOut_69 rfl rfl ?_
    refine e_iconst (v := 0) dX0_goOut_70 (by decide) ?_
    refine hf_putz hS dX0_goOut_71 fl_0_54 (by decide) ?_
    refine e_aload_n dX0_goOut_74 rfl rfl ?_
    refine e_iconst (v := 0) dX0_goOut_75 (by decide) ?_
    refine hf_put hS dX0_goOut_76 fl_0_58 ?_
    exact e_vret dX0_goOut_79 rfl (ho.trans (by rw [if_pos h61])) (Nat.le_of_ble_eq_true rfl) (Nat.le_of_ble_eq_true rfl)
theorem c_X0_spendTick (hS : HS S h) {k r e : Nat} (hk : k < 12) (hr5 : r < 5) (hrm : hm σ k 1 = nI r) (he1 : he σ 1 = nI e) (he2 : e < 2000000000) : AM G_X0_spendTick [.ref h, .int (nI k)] S (hs_put h σ M) J (none, S, hs_put h (hSp σ k) M, J) := by
  have hrn : hRn σ k = r := by rw [hRn, hrm, nI_clamp (by omega)]
  have e1 : hSp1 σ k = phm (phr σ r 6 (hr σ r 6 + 1)) k 3 (hm (phr σ r 6 (hr σ r 6 + 1)) k 3 - 1) := by rw [hSp1, hrn]
  have hrm1 : hm (phm (phr σ r 6 (hr σ r 6 + 1)) k 3 (hm (phr σ r 6 (hr σ r 6 + 1)) k 3 - 1)) k 1 = nI r := by
    rw [← hrm]
    show ai_u (hm σ) k 3 _ k 1 = hm σ k 1
    rw [ai_u_at]
    exact upd_ne _ _ (by decide)
  rw [hSp, e1]
  refine AM_gen (fun out ho => ?_)
  refine AM_of [.ref h, .int (nI k), .retAddr 0] (by decide) rfl (fun B => (Nat.le_of_ble_eq_true rfl)) ?_
  refine e_aload_n dX0_spendTick_0 rfl rfl ?_
  refine e_getr dX0_spendTick_1 fl_0_11 hS.a0 rfl ?_
  refine e_iload_n dX0_spendTick_4 rfl rfl ?_
  refine h_mem k hS dX0_spendTick_5 rfl (by first | assumption | omega) ?_
  refine e_astore_n dX0_spendTick_6 rfl (by decide) rfl ?_
  refine e_aload_n dX0_spendTick_7 rfl rfl ?_
  refine e_getr dX0_spendTick_8 fl_0_19 hS.a0 rfl ?_
  refine e_aload_n dX0_spendTick_11 rfl rfl ?_
  refine hm_get hS (by first | assumption | omega) dX0_spendTick_12 fl_0_87 (by decide) ?_
  refine h_rm r hS dX0_spendTick_15 hrm hr5 ?_
  refine e_dup dX0_spendTick_16 rfl ?_
  refine hr_get hS (by first | assumption | omega) dX0_spendTick_17 fl_0_112 (by decide) ?_
  refine e_iconst (v := 1) dX0_spendTick_20 (by decide) ?_
  refine e_iadd dX0_spendTick_21 ?_
  refine hr_put hS (by first | assumption | omega) dX0_spendTick_22 fl_0_112 ?_
  refine e_aload_n dX0_spendTick_25 rfl rfl ?_
  refine e_dup dX0_spendTick_26 rfl ?_
  refine hm_get hS (by first | assumption | omega) dX0_spendTick_27 fl_0_115 (by decide) ?_
  refine e_iconst (v := 1) dX0_spendTick_30 (by decide) ?_
  refine e_isub dX0_spendTick_31 ?_
  refine hm_put hS (by first | assumption | omega) dX0_spendTick_32 fl_0_115 ?_
  refine e_aload_n dX0_spendTick_35 rfl rfl ?_
  refine hm_get hS (by first | assumption | omega) dX0_spendTick_36 fl_0_115 (by decide) ?_
  refine e_if_gt 48 dX0_spendTick_39 (by decide) (fun h39 => ?_) (fun h39 => ?_)
  · exact e_vret dX0_spendTick_48 rfl (ho.trans (by rw [if_pos h39])) (Nat.le_of_ble_eq_true rfl) (Nat.le_of_ble_eq_true rfl)
  · refine e_aload_n dX0_spendTick_42 rfl rfl ?_
    refine e_iload_n dX0_spendTick_43 rfl rfl ?_
    refine e_iconst (v := 2) dX0_spendTick_44 (by decide) ?_
    refine e_cV0 dX0_spendTick_45 ml_0_105 (c_X0_goOut hS hk hr5 hrm1 he1 he2 _) hS.a0 rfl rfl (by decide) (Nat.le_of_ble_eq_true rfl) ⟨rfl, rfl⟩ (Nat.le_of_ble_eq_true rfl) (Nat.le_of_ble_eq_true rfl) ?_
    exact e_vret dX0_spendTick_48 rfl (ho.trans (by rw [if_neg h39])) (Nat.le_of_ble_eq_true rfl) (Nat.le_of_ble_eq_true rfl)
theorem c_X0_ticksToChange (hS : HS S h) {k : Nat} (hk : k < 12) (hst : hm σ k 0 = 0 ∨ hm σ k 0 = 1 ∨ hm σ k 0 = 2 ∨ hm σ k 0 = 3) : AM G_X0_ticksToChange [.ref h, .int (nI k)] S (hs_put h σ M) J (some (.int (hTc σ k)), S, hs_put h σ M, J) := by
  refine AM_gen (fun out ho => ?_)
  refine AM_of [.ref h, .int (nI k), .retAddr 0] (by decide) rfl (fun B => (Nat.le_of_ble_eq_true rfl)) ?_
  refine e_aload_n dX0_ticksToChange_0 rfl rfl ?_
  refine e_getr dX0_ticksToChange_1 fl_0_11 hS.a0 rfl ?_
  refine e_iload_n dX0_ticksToChange_4 rfl rfl ?_
  refine h_mem k hS dX0_ticksToChange_5 rfl (by first | assumption | omega) ?_
  refine e_astore_n dX0_ticksToChange_6 rfl (by decide) rfl ?_
  refine e_aload_n dX0_ticksToChange_7 rfl rfl ?_
  refine hm_get hS (by first | assumption | omega) dX0_ticksToChange_8 fl_0_96 (by decide) ?_
  rcases hst with e | e | e | e
  · rw [e]
    refine e_lookup 58 dX0_ticksToChange_11 (by decide) rfl (by decide) ?_
    refine e_ldc dX0_ticksToChange_58 kc_0_124 ?_
    exact e_iret dX0_ticksToChange_60 rfl (ho.trans (by rw [hTc, e]; rfl)) (Nat.le_of_ble_eq_true rfl) (Nat.le_of_ble_eq_true rfl)
  · rw [e]
    refine e_lookup 58 dX0_ticksToChange_11 (by decide) rfl (by decide) ?_
    refine e_ldc dX0_ticksToChange_58 kc_0_124 ?_
    exact e_iret dX0_ticksToChange_60 rfl (ho.trans (by rw [hTc, e]; rfl)) (Nat.le_of_ble_eq_true rfl) (Nat.le_of_ble_eq_true rfl)
  · rw [e]
    refine e_lookup 36 dX0_ticksToChange_11 (by decide) rfl (by decide) ?_
    refine e_aload_n dX0_ticksToChange_36 rfl rfl ?_
    refine hm_get hS (by first | assumption | omega) dX0_ticksToChange_37 fl_0_115 (by decide) ?_
    exact e_iret dX0_ticksToChange_40 rfl (ho.trans (by rw [hTc, if_pos e])) (Nat.le_of_ble_eq_true rfl) (Nat.le_of_ble_eq_true rfl)
  · rw [e]
    refine e_lookup 41 dX0_ticksToChange_11 (by decide) rfl (by decide) ?_
    refine e_aload_n dX0_ticksToChange_41 rfl rfl ?_
    refine hm_get hS (by first | assumption | omega) dX0_ticksToChange_42 fl_0_102 (by decide) ?_
    refine e_aload_n dX0_ticksToChange_45 rfl rfl ?_
    refine e_getr dX0_ticksToChange_46 fl_0_37 hS.a0 rfl ?_
    refine e_iconst (v := 2) dX0_ticksToChange_49 (by decide) ?_
    refine hu_ld 2 hS dX0_ticksToChange_50 (ai_lit 2) (by decide) ?_
    refine e_iadd dX0_ticksToChange_51 ?_
    refine e_aload_n dX0_ticksToChange_52 rfl rfl ?_
    refine hf_get hS dX0_ticksToChange_53 fl_0_41 (by decide) ?_
    refine e_isub dX0_ticksToChange_56 ?_
    exact e_iret dX0_ticksToChange_57 rfl (ho.trans (by rw [hTc, if_neg (by rw [e]; decide), if_pos e])) (Nat.le_of_ble_eq_true rfl) (Nat.le_of_ble_eq_true rfl)
end C31

