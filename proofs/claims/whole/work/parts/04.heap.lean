/-! ===== rules for fields and arrays ===== -/
theorem ai_in0 : ∀ w ∈ u_ws RX0 TX0 11, w ∈ ai_T := by decide +kernel
theorem ai_in1 : ∀ w ∈ u_ws RX1 TX1 2, w ∈ ai_T := by decide +kernel
theorem ai_in2 : ∀ w ∈ u_ws RX2 TX2 2, w ∈ ai_T := by decide +kernel
theorem ai_in3 : ∀ w ∈ u_ws RX3 TX3 4, w ∈ ai_T := by decide +kernel
theorem ai_in4 : ∀ w ∈ u_ws RX4 TX4 9, w ∈ ai_T := by decide +kernel
theorem ai_in5 : ∀ w ∈ u_ws RX5 TX5 14, w ∈ ai_T := by decide +kernel
theorem ai_in6 : ∀ w ∈ u_ws RX6 TX6 5, w ∈ ai_T := by decide +kernel
theorem ai_in7 : ∀ w ∈ u_ws RX7 TX7 14, w ∈ ai_T := by decide +kernel
/-- what is known of each class -/
theorem ai_cls (ci : Nat) (hc : ci < 8) : ∃ (q : vw_C) (ty : Nat → FieldType), vwCl[ci]? = some q ∧ q.2.2 = ai_N ci ∧ (∀ w ∈ u_ws q.1 q.2.1 q.2.2, w ∈ ai_T) ∧ (∀ k, k < q.2.2 → parseFieldDescriptor (q.2.1 k).2.2.1 = some (ty k)) ∧ (∀ a, a < q.2.2 → ∀ b, b < q.2.2 → a ≠ b → (q.2.1 a).2.1 ≠ (q.2.1 b).2.1) ∧ (∀ k, k < q.2.2 → (q.2.1 k).1 = q.1)
    ∧ (∀ k, k < q.2.2 → (ai_ft ci k = 0 → ty k = .int) ∧ (ai_ft ci k = 1 → ty k = .boolean) ∧ (ai_ft ci k = 2 → refKind (ty k) = true) ∧ (ai_ft ci k = 3 → ty k = .long) ∧ ai_ft ci k ≤ 3) := by
  match ci, hc with
  | 0, _ => exact ⟨_, tyX0, rfl, rfl, ai_in0, tyX0_ok, nmX0, by decide +kernel, by decide +kernel⟩
  | 1, _ => exact ⟨_, tyX1, rfl, rfl, ai_in1, tyX1_ok, nmX1, by decide +kernel, by decide +kernel⟩
  | 2, _ => exact ⟨_, tyX2, rfl, rfl, ai_in2, tyX2_ok, nmX2, by decide +kernel, by decide +kernel⟩
  | 3, _ => exact ⟨_, tyX3, rfl, rfl, ai_in3, tyX3_ok, nmX3, by decide +kernel, by decide +kernel⟩
  | 4, _ => exact ⟨_, tyX4, rfl, rfl, ai_in4, tyX4_ok, nmX4, by decide +kernel, by decide +kernel⟩
  | 5, _ => exact ⟨_, tyX5, rfl, rfl, ai_in5, tyX5_ok, nmX5, by decide +kernel, by decide +kernel⟩
  | 6, _ => exact ⟨_, tyX6, rfl, rfl, ai_in6, tyX6_ok, nmX6, by decide +kernel, by decide +kernel⟩
  | 7, _ => exact ⟨_, tyX7, rfl, rfl, ai_in7, tyX7_ok, nmX7, by decide +kernel, by decide +kernel⟩
/-- a field reference of the pool of class 'own': field j of class ci, of type t, final or not -/
def ai_fl (own : String) (ix ci j t : Nat) (fin : Bool) : Prop := ci < 8 ∧ j < ai_N ci ∧ ai_ft ci j = t ∧ ∃ q : vw_C, vwCl[ci]? = some q ∧ (q.2.1 j).2.2.2 = fin ∧ Cond.fieldLink own ix q.1 (q.2.1 j).2.1 (q.2.1 j).2.2.1 ∈ ai_T
theorem ai_fs {B : Nat} {M : Nat → Nat → Int32} {J : Nat → Int64} {a ci : Nat} {sh : aiS} {j : Nat} (hj : j < ai_N ci) : ((List.range (ai_N ci)).map (ai_fld B M J a sh))[j]? = some (ai_fld B M J a sh j) := by
  rw [List.getElem?_map, List.getElem?_range hj]; rfl
theorem ai_fs_set {B : Nat} {M M' : Nat → Nat → Int32} {J J' : Nat → Int64} {a N : Nat} {sh sh' : aiS} {j : Nat} {v : Value} (hv : ai_fld B M' J' a sh' j = v) (ho : ∀ i, i ≠ j → ai_fld B M' J' a sh' i = ai_fld B M J a sh i) : ((List.range N).map (ai_fld B M J a sh)).set j v = (List.range N).map (ai_fld B M' J' a sh') := by
  apply List.ext_getElem?
  intro i
  by_cases hi : i = j
  · subst hi
    by_cases hl : i < N
    · rw [List.getElem?_set_self (by simpa using hl), List.getElem?_map, List.getElem?_range hl]
      simp [hv]
    · rw [List.getElem?_eq_none_iff.mpr (by simp; omega), List.getElem?_eq_none_iff.mpr (by simp; omega)]
  · rw [List.getElem?_set_ne (Ne.symm hi), List.getElem?_map, List.getElem?_map]
    cases h : (List.range N)[i]? with
    | none => rfl
    | some z =>
      have : z = i := by
        have := (List.getElem?_eq_some_iff.mp h).2
        simp at this
        exact this.symm
      subst this
      simp [ho z hi]
theorem ai_cell_o {B : Nat} {cA : Nat → ClassId} {M : Nat → Nat → Int32} {J : Nat → Int64} {a : Nat} {sh : aiS} (h : sh.1 < 8) : ai_cell B cA M J a sh = .inr (sh.1, (List.range (ai_N sh.1)).map (ai_fld B M J a sh)) := by
  simp only [ai_cell, h, if_true]
theorem ai_cell_i {B : Nat} {cA : Nat → ClassId} {M : Nat → Nat → Int32} {J : Nat → Int64} {a : Nat} {sh : aiS} (h : sh.1 = 8 ∨ sh.1 = 9) : ai_cell B cA M J a sh = .inl (cA sh.1, (sh.2.1, .inl (M a))) := by
  have h1 : ¬ sh.1 < 8 := by omega
  have h2 : sh.1 < 10 := by omega
  simp only [ai_cell, h1, h2, if_true, if_false]
theorem ai_cell_q {B : Nat} {cA : Nat → ClassId} {M : Nat → Nat → Int32} {J : Nat → Int64} {a : Nat} {sh : aiS} (h : 10 ≤ sh.1) : ai_cell B cA M J a sh = .inl (cA sh.1, (sh.2.1, .inr (.inr (.inr (.inr (fun i => ai_o B (sh.2.2.getD i .null))))))) := by
  have h1 : ¬ sh.1 < 8 := by omega
  have h2 : ¬ sh.1 < 10 := by omega
  simp only [ai_cell, h1, h2, if_false]
section AIH
variable {G : aiG} {out : aiR} {k n pc : Nat} {L st : List Value} {S : List aiS} {M : Nat → Nat → Int32} {J : Nat → Int64}
theorem e_get {ix ci j t len a : Nat} {fin : Bool} {refs : List Value} (hd : decode (gB G) pc = .ok (.getfield ix, 3)) (hf : ai_fl (gY G).cls ix ci j t fin) (hs : S[a]? = some (ci, len, refs)) (v : Value) (hv : ∀ B, ai_fld B M J a (ci, len, refs) j = ai_v B v) (h : AW G out k n (pc + 3) L (v :: st) S M J) : AW G out k n pc L (.ref a :: st) S M J := by
  intro B dC dI cA p l e s m args below meth c H locs ls C hH hS hz hl
  obtain ⟨h8, hj, ht, q, hq, hfin, hw⟩ := hf
  obtain ⟨q', ty, hq', hN, hin, hty, hnm, hsm, hft⟩ := ai_cls ci h8
  rw [hq] at hq'
  cases hq'
  have hts := C.2.2.2.2.2.2.2.1
  have hat := ai_at (B := B) (cA := cA) (M := M) (J := J) hs
  rw [ai_cell_o (sh := (ci, len, refs)) h8] at hat
  exact va_get (D := (dC, dI)) (ci := ci) (v := ai_v B v) (C := q.1) (T := q.2.1) (N := q.2.2) (rest := st.map (ai_v B)) C.1 C.2.1 hts hin C.2.2.2.2.1 C.2.2.2.2.2.2.2.2.1.1 hH a hat hq j (by rw [hN]; exact hj) (hts _ hw) (fun _ h9 => by rw [hsm j (by rw [hN]; exact hj)] at h9; exact h9) ((ai_fs hj).trans (congrArg some (hv B))) hd (h B dC dI cA p l e s m args below meth c H locs ls C hH hS hz hl)
/-- an int or a boolean of an object -/
theorem e_geti {ix ci j t len a : Nat} {fin : Bool} {refs : List Value} (hd : decode (gB G) pc = .ok (.getfield ix, 3)) (hf : ai_fl (gY G).cls ix ci j t fin) (ht : t ≤ 1) (hs : S[a]? = some (ci, len, refs)) (h : AW G out k n (pc + 3) L (.int (M a j) :: st) S M J) : AW G out k n pc L (.ref a :: st) S M J :=
  e_get hd hf hs (.int (M a j)) (fun B => by
    have h1 : ¬ ai_ft ci j = 2 := by rw [hf.2.2.1]; omega
    have h2 : ¬ ai_ft ci j = 3 := by rw [hf.2.2.1]; omega
    simp only [ai_fld, h1, h2, if_false]; rfl) h
theorem e_getr {ix ci j len a b : Nat} {fin : Bool} {refs : List Value} (hd : decode (gB G) pc = .ok (.getfield ix, 3)) (hf : ai_fl (gY G).cls ix ci j 2 fin) (hs : S[a]? = some (ci, len, refs)) (hb : refs[j]? = some (.ref b)) (h : AW G out k n (pc + 3) L (.ref b :: st) S M J) : AW G out k n pc L (.ref a :: st) S M J :=
  e_get hd hf hs (.ref b) (fun B => by
    simp only [ai_fld, hf.2.2.1, if_true, List.getD_eq_getElem?_getD, hb, Option.getD_some]) h
theorem e_getl {ix ci j len a : Nat} {fin : Bool} {refs : List Value} (hd : decode (gB G) pc = .ok (.getfield ix, 3)) (hf : ai_fl (gY G).cls ix ci j 3 fin) (hs : S[a]? = some (ci, len, refs)) (h : AW G out k n (pc + 3) L (.long (J a) :: st) S M J) : AW G out k n pc L (.ref a :: st) S M J :=
  e_get hd hf hs (.long (J a)) (fun B => by
    have h1 : ¬ ai_ft ci j = 2 := by rw [hf.2.2.1]; omega
    simp only [ai_fld, h1, hf.2.2.1, if_true, if_false]; rfl) h
theorem e_put {ix ci j t len a : Nat} {refs : List Value} (hd : decode (gB G) pc = .ok (.putfield ix, 3)) (hf : ai_fl (gY G).cls ix ci j t false) (hs : S[a]? = some (ci, len, refs)) {v : Value} {M' : Nat → Nat → Int32} {J' : Nat → Int64} {refs' : List Value} (hn : ∀ B ty, (t = 0 → ty = FieldType.int) → (t = 1 → ty = .boolean) → (t = 2 → refKind ty = true) → (t = 3 → ty = .long) → t ≤ 3 → narrow ty (ai_v B v) = ai_v B v ∧ fits ty (ai_v B v) = true) (hM : ∀ b, b ≠ a → M' b = M b) (hJ : ∀ b, b ≠ a → J' b = J b) (hv : ∀ B, ai_fld B M' J' a (ci, len, refs') j = ai_v B v) (ho : ∀ B i, i ≠ j → ai_fld B M' J' a (ci, len, refs') i = ai_fld B M J a (ci, len, refs) i)
    (h : AW G out k n (pc + 3) L st (S.set a (ci, len, refs')) M' J') : AW G out k n pc L (v :: .ref a :: st) S M J := by
  intro B dC dI cA p l e s m args below meth c H locs ls C hH hS hz hl
  obtain ⟨h8, hj, ht, q, hq, hfin, hw⟩ := hf
  obtain ⟨q', ty, hq', hN, hin, hty, hnm, hsm, hft⟩ := ai_cls ci h8
  rw [hq] at hq'
  cases hq'
  have hts := C.2.2.2.2.2.2.2.1
  have hat := ai_at (B := B) (cA := cA) (M := M) (J := J) hs
  rw [ai_cell_o (sh := (ci, len, refs)) h8] at hat
  have hjq : j < q.2.2 := by rw [hN]; exact hj
  obtain ⟨t0, t1, t2, t3, t4⟩ := hft j hjq
  rw [ht] at t0 t1 t2 t3 t4
  obtain ⟨n1, n2⟩ := hn B (ty j) t0 t1 t2 t3 t4
  refine va_put (D := (dC, dI)) (ci := ci) (v := ai_v B v) (ty := ty j) (C := q.1) (T := q.2.1) (N := q.2.2) (rest := st.map (ai_v B)) C.1 C.2.1 hts hin ty hty hnm C.2.2.2.2.1 C.2.2.2.2.2.2.2.2.1.1 hH (ai_D B cA S M J) hS a hat hq j hjq (hts _ hw) (fun _ h9 => by rw [hsm j hjq] at h9; exact h9) hfin (hty j hjq) n1 n2 (by simp only [List.length_map, List.length_range]; exact hj) hd (fun H1 locs1 hP1 hD1 hS1 => ?_)
  rw [ai_fs_set (hv B) (ho B), ai_W_set (sh' := (ci, len, refs')) (M' := M') (J' := J') hs (by rw [ai_cell_o (sh := (ci, len, refs')) h8]) hM hJ] at hP1
  exact h B dC dI cA p l e s m args below meth c H1 locs1 ls C hP1 hS1 (by rw [List.length_set]; exact hz) hl
theorem e_puti {ix ci j len a : Nat} {refs : List Value} {x : Int32} (hd : decode (gB G) pc = .ok (.putfield ix, 3)) (hf : ai_fl (gY G).cls ix ci j 0 false) (hs : S[a]? = some (ci, len, refs)) (h : AW G out k n (pc + 3) L st S (ai_u M a j x) J) : AW G out k n pc L (.int x :: .ref a :: st) S M J := by
  have hft := hf.2.2.1
  refine e_put (v := .int x) (M' := ai_u M a j x) (J' := J) (refs' := refs) hd hf hs (fun B ty h0 _ _ _ _ => ?_) (fun b hb => ai_u_ne M j x hb) (fun _ _ => rfl) (fun B => ?_) (fun B i hi => ?_) (by rw [ai_set_same hs]; exact h)
  · rw [h0 rfl]; exact ⟨rfl, rfl⟩
  · simp only [ai_fld, hft, ai_u_at]
    simp [upd, ai_v]
  · simp only [ai_fld, ai_u_at]
    simp [upd, hi]
theorem e_putz {ix ci j len a : Nat} {refs : List Value} {x : Int32} (hd : decode (gB G) pc = .ok (.putfield ix, 3)) (hf : ai_fl (gY G).cls ix ci j 1 false) (hx : x = 0 ∨ x = 1) (hs : S[a]? = some (ci, len, refs)) (h : AW G out k n (pc + 3) L st S (ai_u M a j x) J) : AW G out k n pc L (.int x :: .ref a :: st) S M J := by
  have hft := hf.2.2.1
  refine e_put (v := .int x) (M' := ai_u M a j x) (J' := J) (refs' := refs) hd hf hs (fun B ty _ h1 _ _ _ => ?_) (fun b hb => ai_u_ne M j x hb) (fun _ _ => rfl) (fun B => ?_) (fun B i hi => ?_) (by rw [ai_set_same hs]; exact h)
  · rw [h1 rfl]
    rcases hx with rfl | rfl
    · exact ⟨rfl, rfl⟩
    · exact ⟨rfl, rfl⟩
  · simp only [ai_fld, hft, ai_u_at]
    simp [upd, ai_v]
  · simp only [ai_fld, ai_u_at]
    simp [upd, hi]
theorem e_putl {ix ci j len a : Nat} {refs : List Value} {x : Int64} (hd : decode (gB G) pc = .ok (.putfield ix, 3)) (hf : ai_fl (gY G).cls ix ci j 3 false) (hs : S[a]? = some (ci, len, refs)) (hone : ∀ i, i ≠ j → ai_ft ci i ≠ 3) (h : AW G out k n (pc + 3) L st S M (fun b => if b = a then x else J b)) : AW G out k n pc L (.long x :: .ref a :: st) S M J := by
  have hft := hf.2.2.1
  refine e_put (v := .long x) (M' := M) (J' := fun b => if b = a then x else J b) (refs' := refs) hd hf hs (fun B ty _ _ _ h3 _ => ?_) (fun _ _ => rfl) (fun b hb => by simp [hb]) (fun B => ?_) (fun B i hi => ?_) (by rw [ai_set_same hs]; exact h)
  · rw [h3 rfl]; exact ⟨rfl, rfl⟩
  · simp only [ai_fld, hft]
    simp [ai_v]
  · simp only [ai_fld]
    simp [hone i hi]
/-- arrays of ints -/
theorem ai_ix {i : Int32} {j N : Nat} (hi : i = nI j) (hj : j < N) (hN : N < 2 ^ 31) : vp_in i N ∧ i.toNatClampNeg = j := by
  subst hi
  exact ⟨vp_in_nI hj hN, nI_clamp (by omega)⟩
theorem e_iald {a len : Nat} {refs : List Value} {i : Int32} (j : Nat) (hd : decode (gB G) pc = .ok (.iaload, 1)) (hs : S[a]? = some (8, len, refs)) (hi : i = nI j) (hj : j < len) (hlen : len < 2 ^ 31) (h : AW G out k n (pc + 1) L (.int (M a j) :: st) S M J) : AW G out k n pc L (.int i :: .ref a :: st) S M J := by
  intro B dC dI cA p l e s m args below meth c H locs ls C hH hS hz hl
  obtain ⟨h1, h2⟩ := ai_ix hi hj hlen
  have hat := ai_at (B := B) (cA := cA) (M := M) (J := J) hs
  rw [ai_cell_i (sh := (8, len, refs)) (Or.inl rfl)] at hat
  refine va_iald (rest := st.map (ai_v B)) C.1 C.2.1 C.2.2.2.2.2.2.2.2.1.1 hH a 0 hat rfl h1 hd ?_
  rw [h2]
  exact h B dC dI cA p l e s m args below meth c H locs ls C hH hS hz hl
theorem e_zald {a len : Nat} {refs : List Value} {i : Int32} (j : Nat) (hd : decode (gB G) pc = .ok (.baload, 1)) (hs : S[a]? = some (9, len, refs)) (hi : i = nI j) (hj : j < len) (hlen : len < 2 ^ 31) (h : AW G out k n (pc + 1) L (.int (M a j) :: st) S M J) : AW G out k n pc L (.int i :: .ref a :: st) S M J := by
  intro B dC dI cA p l e s m args below meth c H locs ls C hH hS hz hl
  obtain ⟨h1, h2⟩ := ai_ix hi hj hlen
  have hat := ai_at (B := B) (cA := cA) (M := M) (J := J) hs
  rw [ai_cell_i (sh := (9, len, refs)) (Or.inr rfl)] at hat
  refine va_zald (rest := st.map (ai_v B)) C.1 C.2.1 C.2.2.2.2.2.2.2.2.1.1 hH a 1 hat rfl h1 hd ?_
  rw [h2]
  exact h B dC dI cA p l e s m args below meth c H locs ls C hH hS hz hl
theorem e_iast {a len : Nat} {refs : List Value} {i x : Int32} (j : Nat) (hd : decode (gB G) pc = .ok (.iastore, 1)) (hs : S[a]? = some (8, len, refs)) (hi : i = nI j) (hj : j < len) (hlen : len < 2 ^ 31) (h : AW G out k n (pc + 1) L st S (ai_u M a j x) J) : AW G out k n pc L (.int x :: .int i :: .ref a :: st) S M J := by
  intro B dC dI cA p l e s m args below meth c H locs ls C hH hS hz hl
  obtain ⟨h1, h2⟩ := ai_ix hi hj hlen
  have hat := ai_at (B := B) (cA := cA) (M := M) (J := J) hs
  rw [ai_cell_i (sh := (8, len, refs)) (Or.inl rfl)] at hat
  refine va_iast (rest := st.map (ai_v B)) C.1 C.2.1 C.2.2.2.2.2.2.2.2.1.1 hH (ai_D B cA S M J) hS a 0 hat rfl h1 hd (fun H1 locs1 hP1 hD1 hS1 => ?_)
  rw [h2, ai_W_set (sh' := (8, len, refs)) (M' := ai_u M a j x) (J' := J) hs (by rw [ai_cell_i (sh := (8, len, refs)) (Or.inl rfl), ai_u_at]) (fun b hb => ai_u_ne M j x hb) (fun _ _ => rfl), ai_set_same hs] at hP1
  exact h B dC dI cA p l e s m args below meth c H1 locs1 ls C hP1 hS1 hz hl
theorem e_zast {a len : Nat} {refs : List Value} {i x : Int32} (j : Nat) (hd : decode (gB G) pc = .ok (.bastore, 1)) (hs : S[a]? = some (9, len, refs)) (hx : x = 0 ∨ x = 1) (hi : i = nI j) (hj : j < len) (hlen : len < 2 ^ 31) (h : AW G out k n (pc + 1) L st S (ai_u M a j x) J) : AW G out k n pc L (.int x :: .int i :: .ref a :: st) S M J := by
  intro B dC dI cA p l e s m args below meth c H locs ls C hH hS hz hl
  obtain ⟨h1, h2⟩ := ai_ix hi hj hlen
  have hat := ai_at (B := B) (cA := cA) (M := M) (J := J) hs
  rw [ai_cell_i (sh := (9, len, refs)) (Or.inr rfl)] at hat
  refine va_zast (rest := st.map (ai_v B)) C.1 C.2.1 C.2.2.2.2.2.2.2.2.1.1 hH (ai_D B cA S M J) hS a 1 hat rfl h1 hd (fun H1 locs1 hP1 hD1 hS1 => ?_)
  have hnx : vp_nar .boolean x = x := by rcases hx with rfl | rfl <;> decide +kernel
  rw [hnx, h2, ai_W_set (sh' := (9, len, refs)) (M' := ai_u M a j x) (J' := J) hs (by rw [ai_cell_i (sh := (9, len, refs)) (Or.inr rfl), ai_u_at]) (fun b hb => ai_u_ne M j x hb) (fun _ _ => rfl), ai_set_same hs] at hP1
  exact h B dC dI cA p l e s m args below meth c H1 locs1 ls C hP1 hS1 hz hl
theorem e_alen {a kd len : Nat} {refs : List Value} {v : Int32} (hd : decode (gB G) pc = .ok (.arraylength, 1)) (hs : S[a]? = some (kd, len, refs)) (hk : kd = 8) (hv : nI len = v) (h : AW G out k n (pc + 1) L (.int v :: st) S M J) : AW G out k n pc L (.ref a :: st) S M J := by
  subst hk
  intro B dC dI cA p l e s m args below meth c H locs ls C hH hS hz hl
  have hat := ai_at (B := B) (cA := cA) (M := M) (J := J) hs
  rw [ai_cell_i (sh := (8, len, refs)) (Or.inl rfl)] at hat
  exact va_alen (rest := st.map (ai_v B)) C.1 C.2.1 C.2.2.2.2.2.2.2.2.1.1 hH a 0 hat rfl hv hd (h B dC dI cA p l e s m args below meth c H locs ls C hH hS hz hl)
/-- arrays of references -/
theorem ai_tyq {cA : Nat → ClassId} {kd : Nat} (h : 10 ≤ kd) (h2 : kd ≤ 12) : ∃ C : String, (ai_tys cA)[kd - 8]? = some (cA kd, .object C) := by
  match kd, h, h2 with
  | 10, _, _ => exact ⟨_, rfl⟩
  | 11, _, _ => exact ⟨_, rfl⟩
  | 12, _, _ => exact ⟨_, rfl⟩
theorem e_aald {a kd len b : Nat} {refs : List Value} {i : Int32} (j : Nat) (hd : decode (gB G) pc = .ok (.aaload, 1)) (hs : S[a]? = some (kd, len, refs)) (hk : 10 ≤ kd) (hk2 : kd ≤ 12) (hi : i = nI j) (hj : j < len) (hlen : len < 2 ^ 31) (hb : refs[j]? = some (.ref b)) (h : AW G out k n (pc + 1) L (.ref b :: st) S M J) : AW G out k n pc L (.int i :: .ref a :: st) S M J := by
  intro B dC dI cA p l e s m args below meth c H locs ls C hH hS hz hl
  obtain ⟨h1, h2⟩ := ai_ix hi hj hlen
  have hat := ai_at (B := B) (cA := cA) (M := M) (J := J) hs
  rw [ai_cell_q (sh := (kd, len, refs)) hk] at hat
  obtain ⟨Cn, hC⟩ := ai_tyq (cA := cA) hk hk2
  refine va_aldq (rest := st.map (ai_v B)) C.1 C.2.1 C.2.2.2.2.2.2.2.2.1.1 hH a (kd - 8) hat hC h1 hd ?_
  have e1 : ai_o B (refs.getD i.toNatClampNeg .null) = some (B + b) := by
    simp only [h2, List.getD_eq_getElem?_getD, hb, Option.getD_some, ai_o]
  show W p l e _ s m args below meth c H locs k n _ (F0 m (pc + 1) ls (va_rf (ai_o B (refs.getD i.toNatClampNeg .null)) :: _))
  rw [e1]
  exact h B dC dI cA p l e s m args below meth c H locs ls C hH hS hz hl
/-- Math.max, Math.min -/
theorem e_max {ix : Nat} {x y : Int32} (hd : decode (gB G) pc = .ok (.invokestatic ix, 3)) (hw : Cond.methodLink (gY G).cls ix Lib.Math.max.name ∈ ai_T ∧ Cond.static Lib.Math.max.name ∈ ai_T ∧ Cond.initialized "java/lang/Math" ∈ ai_T ∧ Cond.code Lib.Math.max.name Lib.Math.max.code 2 (some .int) ∈ ai_T) (hdp : 1 ≤ gD G) (hst : (st.map fun v => v.category).sum ≤ 8) (hk : k ≤ gMC G) (hn : n ≤ gMS G) (h : AW G out k n (pc + 3) L (.int (if x < y then y else x) :: st) S M J) : AW G out k n pc L (.int y :: .int x :: st) S M J := by
  intro B dC dI cA p l e s m args below meth c H locs ls C hH hS hz hl
  have hts := C.2.2.2.2.2.2.2.1
  have hcat : ((st.map (ai_v B)).map fun v => v.category).sum ≤ 8 := by
    rw [List.map_map, show ((fun v : Value => v.category) ∘ ai_v B) = (fun v => v.category) from funext (ai_v_cat B)]; exact hst
  refine va_mmax (rest := st.map (ai_v B)) C.1 C.2.1 (by rw [hl.1]; exact C.2.2.2.1) C.2.2.2.2.1 (hts _ hw.1) (hts _ hw.2.1) (hts _ hw.2.2.1) (hts _ hw.2.2.2) hdp ?_ hk hn hd (h B dC dI cA p l e s m args below meth c H locs ls C hH hS hz hl)
  show _ ≤ 40 * gD G
  omega
theorem e_min {ix : Nat} {x y : Int32} (hd : decode (gB G) pc = .ok (.invokestatic ix, 3)) (hw : Cond.methodLink (gY G).cls ix Lib.Math.min.name ∈ ai_T ∧ Cond.static Lib.Math.min.name ∈ ai_T ∧ Cond.initialized "java/lang/Math" ∈ ai_T ∧ Cond.code Lib.Math.min.name Lib.Math.min.code 2 (some .int) ∈ ai_T) (hdp : 1 ≤ gD G) (hst : (st.map fun v => v.category).sum ≤ 8) (hk : k ≤ gMC G) (hn : n ≤ gMS G) (h : AW G out k n (pc + 3) L (.int (if y < x then y else x) :: st) S M J) : AW G out k n pc L (.int y :: .int x :: st) S M J := by
  intro B dC dI cA p l e s m args below meth c H locs ls C hH hS hz hl
  have hts := C.2.2.2.2.2.2.2.1
  have hcat : ((st.map (ai_v B)).map fun v => v.category).sum ≤ 8 := by
    rw [List.map_map, show ((fun v : Value => v.category) ∘ ai_v B) = (fun v => v.category) from funext (ai_v_cat B)]; exact hst
  refine va_mmin (rest := st.map (ai_v B)) C.1 C.2.1 (by rw [hl.1]; exact C.2.2.2.1) C.2.2.2.2.1 (hts _ hw.1) (hts _ hw.2.1) (hts _ hw.2.2.1) (hts _ hw.2.2.2) hdp ?_ hk hn hd (h B dC dI cA p l e s m args below meth c H locs ls C hH hS hz hl)
  show _ ≤ 40 * gD G
  omega
/-- System.arraycopy(from, 0, to, 0, len) of whole int arrays -/
theorem e_copy {ix a b len la lb : Nat} {ra rb : List Value} {z : Int32} (hd : decode (gB G) pc = .ok (.invokestatic ix, 3)) (hw : Cond.methodLink (gY G).cls ix arraycopyName ∈ ai_T ∧ Cond.native arraycopyName ∈ ai_T ∧ Cond.static arraycopyName ∈ ai_T ∧ Cond.initialized "java/lang/System" ∈ ai_T) (hdp : 1 ≤ gD G) (ha : S[a]? = some (8, la, ra)) (hb : S[b]? = some (8, lb, rb)) (hzl : z = nI len) (h1 : len ≤ la) (h2 : len ≤ lb) (h3 : len < 2 ^ 31) (h : AW G out k n (pc + 3) L [] S (fun q => if q = b then va_cpy (M a) (M b) 0 0 len else M q) J) : AW G out k n pc L [.int z, .int 0, .ref b, .int 0, .ref a] S M J := by
  intro B dC dI cA p l e s m args below meth c H locs ls C hH hS hz hl
  have hts := C.2.2.2.2.2.2.2.1
  have hat := ai_at (B := B) (cA := cA) (M := M) (J := J) ha
  have hbt := ai_at (B := B) (cA := cA) (M := M) (J := J) hb
  rw [ai_cell_i (sh := (8, la, ra)) (Or.inl rfl)] at hat
  rw [ai_cell_i (sh := (8, lb, rb)) (Or.inl rfl)] at hbt
  have hc : z.toNatClampNeg = len := by rw [hzl]; exact nI_clamp h3
  have h0 : (0 : Int32).toNatClampNeg = 0 := by decide +kernel
  refine va_copyi (rest := []) C.1 C.2.1 (by rw [hl.1]; exact C.2.2.2.1) C.2.2.2.2.1 (hts _ hw.1) (hts _ hw.2.1) (hts _ hw.2.2.1) (hts _ hw.2.2.2) C.2.2.2.2.2.2.2.2.1.1 hH (ai_D B cA S M J) hS a b 0 0 hat hbt rfl rfl rfl (by decide) (by decide) (by rw [hzl]; exact nI_pos h3) (by rw [h0, hc]; show 0 + len ≤ la; omega) (by rw [h0, hc]; show 0 + len ≤ lb; omega) (fun _ _ => rfl) hdp ?_ hd (fun H1 locs1 hP1 hD1 hS1 => ?_)
  · show _ ≤ 40 * gD G
    have : (([] : List Value).map fun v => v.category).sum + (nativeFrameWords "java/lang/System" "arraycopy" 5 + 11) ≤ 40 := by decide +kernel
    omega
  · rw [h0, hc, ai_W_set (sh' := (8, lb, rb)) (M' := fun q => if q = b then va_cpy (M a) (M b) 0 0 len else M q) (J' := J) hb (by rw [ai_cell_i (sh := (8, lb, rb)) (Or.inl rfl)]; simp) (fun q hq => by simp [hq]) (fun _ _ => rfl), ai_set_same hb] at hP1
    exact h B dC dI cA p l e s m args below meth c H1 locs1 ls C hP1 hS1 hz hl
end AIH
