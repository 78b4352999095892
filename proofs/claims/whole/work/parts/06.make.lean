/-! ===== rules for what constructors do ===== -/
theorem ai_push {B : Nat} {dC : Nat → ClassId} {dI : Nat → Nat → Nat} {cA : Nat → ClassId} {S : List aiS} {M M' : Nat → Nat → Int32} {J J' : Nat → Int64} {H H1 : Heap} {sh : aiS} (hH : ai_H B dC dI cA S M J H) (hsz : H.size = B + S.length) (hM : ∀ b, b ≠ S.length → M' b = M b) (hJ : ∀ b, b ≠ S.length → J' b = J b) (o1 : ∀ q, q < B + S.length → H1[q]? = H[q]?) (hn : va_at (dC, dI) vwCl (B + S.length, ai_cell B cA M' J' S.length sh) H1) : ai_H B dC dI cA (S ++ [sh]) M' J' H1 := by
  intro i q hq
  obtain ⟨s1, h1, rfl⟩ := ai_W_at hq
  by_cases hl : i < S.length
  · rw [List.getElem?_append_left hl] at h1
    have h2 := hH i _ (ai_at h1)
    rw [← ai_cell_M (M := M) (J := J) (hM i (by omega)).symm (hJ i (by omega)).symm]
    exact h2.kept (o1 _ (by show B + i < B + S.length; omega))
  · rw [List.getElem?_append_right (by omega)] at h1
    have hz := (List.getElem?_eq_some_iff.mp h1).1
    have hi : i = S.length := by simp at hz; omega
    subst hi
    rw [Nat.sub_self] at h1
    cases h1
    exact hn
/-- memory with a fresh cell -/
def ai_z (M : Nat → Nat → Int32) (a : Nat) : Nat → Nat → Int32 := fun b => if b = a then (fun _ => 0) else M b
def ai_zl (J : Nat → Int64) (a : Nat) : Nat → Int64 := fun b => if b = a then 0 else J b
def ai_nw (own : String) (ix ci : Nat) : Prop := ci < 8 ∧ ∃ q : vw_C, vwCl[ci]? = some q ∧ Cond.classLink own ix q.1 ∈ ai_T ∧ Cond.instantiable q.1 q.2.2 ∈ ai_T ∧ Cond.initialized q.1 ∈ ai_T
theorem ai_dflt {ty : FieldType} (h : refKind ty = true) : defaultValue ty = .null := by
  cases ty <;> first | rfl | (simp [refKind] at h)
section AIM
variable {G : aiG} {out : aiR} {k n pc : Nat} {L st : List Value} {S : List aiS} {M : Nat → Nat → Int32} {J : Nat → Int64}
theorem e_new {ix ci : Nat} (hd : decode (gB G) pc = .ok (.new ix, 3)) (hw : ai_nw (gY G).cls ix ci) (hk : k + 1 ≤ gMC G) (hn : n + ai_N ci ≤ gMS G) (h : AW G out (k + 1) (n + ai_N ci) (pc + 3) L (.ref S.length :: st) (S ++ [(ci, 0, List.replicate (ai_N ci) .null)]) (ai_z M S.length) (ai_zl J S.length)) : AW G out k n pc L st S M J := by
  intro B dC dI cA p l e s m args below meth c H locs ls C hH hS hz hl
  refine W.size (fun hle => ?_)
  have hsz := ai_size hH hS hz C.2.2.2.2.2.2.2.2.2 hle
  obtain ⟨h8, q, hq, hw1, hw2, hw3⟩ := hw
  obtain ⟨q', ty, hq', hN, hin, hty, hnm, hsm, hft⟩ := ai_cls ci h8
  rw [hq] at hq'
  cases hq'
  have hts := C.2.2.2.2.2.2.2.1
  have hKn := C.2.2.2.2.2.2.2.2.1.1.1 ci _ hq
  refine W.newcK C.1 C.2.1 C.2.2.2.2.1 (hts _ hw1) (hts _ hw2) (hts _ hw3) rfl hd hk (by rw [hN]; exact hn) hKn.2.1 hsz fun H1 kC hkC e1 z1 o1 => ?_
  rw [hN]
  refine h B dC dI cA p l e s m args below meth c H1 locs ls C ?_ ⟨by rw [z1]; have := hS.1; omega, fun x h1 h2 => (o1 x (Nat.not_le.mp fun z => h2 (Nat.le_trans (Nat.le_add_right B S.length) z))).trans (hS.2.1 x h1 h2), hS.2.2⟩ (by simp; omega) hl
  refine ai_push hH hsz (fun b hb => by simp [ai_z, hb]) (fun b hb => by simp [ai_zl, hb]) o1 ?_
  rw [ai_cell_o (sh := (ci, 0, List.replicate (ai_N ci) .null)) h8]
  refine ⟨_, hq, (u_born ty hts hin hKn hkC e1 hty).to (fun j hj => ?_)⟩
  have hj' : j < ai_N ci := by rw [← hN]; exact hj
  have hvp : vp_V ((List.range (ai_N ci)).map (ai_fld B (ai_z M S.length) (ai_zl J S.length) S.length (ci, 0, List.replicate (ai_N ci) .null))) j = ai_fld B (ai_z M S.length) (ai_zl J S.length) S.length (ci, 0, List.replicate (ai_N ci) .null) j := by
    simp only [vp_V, List.getD_eq_getElem?_getD, ai_fs hj', Option.getD_some]
  show defaultValue (ty j) = vp_V _ j
  rw [hvp]
  obtain ⟨t0, t1, t2, t3, t4⟩ := hft j hj
  have hrep : (List.replicate (ai_N ci) Value.null).getD j .null = .null := by
    simp [List.getD_eq_getElem?_getD, List.getElem?_replicate]
    split <;> rfl
  simp only [ai_fld, hrep, ai_z, ai_zl, if_true]
  by_cases c2 : ai_ft ci j = 2
  · rw [if_pos c2, ai_dflt (t2 c2)]; rfl
  · rw [if_neg c2]
    by_cases c3 : ai_ft ci j = 3
    · rw [if_pos c3, t3 c3]; rfl
    · rw [if_neg c3]
      by_cases c1 : ai_ft ci j = 1
      · rw [t1 c1]; rfl
      · rw [t0 (by omega)]; rfl
theorem e_newarr {kd len : Nat} {at' : ArrayType} {z : Int32} (hd : decode (gB G) pc = .ok (.newarray at', 2)) (hat : (kd = 8 ∧ at' = .int) ∨ (kd = 9 ∧ at' = .boolean)) (hw : Cond.arrayClass (newarray.typeOf at') ∈ ai_T) (hzl : z = nI len) (h31 : len < 65536) (hk : k + 1 ≤ gMC G) (hn : n + len ≤ gMS G) (h : AW G out (k + 1) (n + len) (pc + 2) L (.ref S.length :: st) (S ++ [(kd, len, [])]) (ai_z M S.length) (ai_zl J S.length)) : AW G out k n pc L (.int z :: st) S M J := by
  intro B dC dI cA p l e s m args below meth c H locs ls C hH hS hz hl
  refine W.size (fun hle => ?_)
  have hsz := ai_size hH hS hz C.2.2.2.2.2.2.2.2.2 hle
  have hts := C.2.2.2.2.2.2.2.1
  have hK := C.2.2.2.2.2.2.2.2.1
  refine va_newaK (rest := st.map (ai_v B)) (N := len) C.1 C.2.1 (hts _ hw) rfl hd rfl (by rw [hzl]; exact nI_pos (by omega)) (by rw [hzl]; exact nI_clamp (by omega)) ?_ hk hn hsz fun H1 cA' e1 z1 o1 hAr hNm => ?_
  · rcases hat with ⟨-, rfl⟩ | ⟨-, rfl⟩
    · have : componentBytes (newarray.typeOf .int) = 4 := rfl
      rw [this]; omega
    · have : componentBytes (newarray.typeOf .boolean) = 1 := rfl
      rw [this]; omega
  · refine h B dC dI cA p l e s m args below meth c H1 locs ls C ?_ ⟨by rw [z1]; have := hS.1; omega, fun x h1 h2 => (o1 x (Nat.not_le.mp fun z => h2 (Nat.le_trans (Nat.le_add_right B S.length) z))).trans (hS.2.1 x h1 h2), hS.2.2⟩ (by simp; omega) hl
    refine ai_push hH hsz (fun b hb => by simp [ai_z, hb]) (fun b hb => by simp [ai_zl, hb]) o1 ?_
    rcases hat with ⟨rfl, rfl⟩ | ⟨rfl, rfl⟩
    · have hc : cA' = cA 8 := Option.some.inj (hNm.symm.trans (hK.1.2 0 _ rfl).2)
      rw [ai_cell_i (sh := (8, len, [])) (Or.inl rfl)]
      show H1[B + S.length]? = some (vp_cell (cA 8) (len, .inl (ai_z M S.length S.length)))
      rw [e1, hc, vp_cell_i]
      simp only [ai_z, if_true]
      rfl
    · have hc : cA' = cA 9 := Option.some.inj (hNm.symm.trans (hK.1.2 1 _ rfl).2)
      rw [ai_cell_i (sh := (9, len, [])) (Or.inr rfl)]
      show H1[B + S.length]? = some (vp_cell (cA 9) (len, .inl (ai_z M S.length S.length)))
      rw [e1, hc, vp_cell_i]
      simp only [ai_z, if_true]
      rfl
theorem e_anew {ix kd len : Nat} {Cn : String} {z : Int32} (hd : decode (gB G) pc = .ok (.anewarray ix, 3)) (hkd : (kd = 10 ∧ Cn = RX0) ∨ (kd = 11 ∧ Cn = RX3) ∨ (kd = 12 ∧ Cn = RX4)) (hw : Cond.classLink (gY G).cls ix Cn ∈ ai_T ∧ ∀ U, ai_X U → va_AO Cn U) (hzl : z = nI len) (h31 : len < 65536) (hk : k + 1 ≤ gMC G) (hn : n + len ≤ gMS G) (h : AW G out (k + 1) (n + len) (pc + 3) L (.ref S.length :: st) (S ++ [(kd, len, List.replicate len .null)]) (ai_z M S.length) (ai_zl J S.length)) : AW G out k n pc L (.int z :: st) S M J := by
  intro B dC dI cA p l e s m args below meth c H locs ls C hH hS hz hl
  refine W.size (fun hle => ?_)
  have hsz := ai_size hH hS hz C.2.2.2.2.2.2.2.2.2 hle
  have hts := C.2.2.2.2.2.2.2.1
  have hK := C.2.2.2.2.2.2.2.2.1
  have hcl : z.toNatClampNeg = len := by rw [hzl]; exact nI_clamp (by omega)
  refine W.anew (rest := st.map (ai_v B)) C.1 C.2.1 C.2.2.2.2.1 (hts _ hw.1) (va_AO.use (hw.2 s hK.2)) rfl hd rfl (by rw [hzl]; exact nI_pos (by omega)) (by rw [hcl]; omega) hk (by rw [hcl]; exact hn) fun cA' kA comp f1 f2 f3 f4 => ?_
  generalize hH1 : H.push ({ cls := cA', slots := Array.replicate z.toNatClampNeg .null, vm := .none } : Cell) = H1
  have z1 : H1.size = H.size + 1 := by rw [← hH1, Array.size_push]
  have e1 : H1[H.size]? = some (arrV cA' z.toNatClampNeg (fun _ => .null)) := by rw [← hH1, Array.getElem?_push_size, ← arrV_new]
  have o1 : ∀ q : Nat, q < H.size → H1[q]? = H[q]? := fun q hq => by rw [← hH1, Array.getElem?_push, if_neg (Nat.ne_of_lt hq)]
  rw [hsz] at o1 z1 e1 ⊢
  rw [hcl] at e1 ⊢
  refine h B dC dI cA p l e s m args below meth c H1 locs ls C ?_ ⟨by rw [z1]; have := hS.1; omega, fun x h1 h2 => (o1 x (Nat.not_le.mp fun z => h2 (Nat.le_trans (Nat.le_add_right B S.length) z))).trans (hS.2.1 x h1 h2), hS.2.2⟩ (by simp; omega) hl
  refine ai_push hH hsz (fun b hb => by simp [ai_z, hb]) (fun b hb => by simp [ai_zl, hb]) o1 ?_
  have hrep : ∀ i, ai_o B ((List.replicate len Value.null).getD i .null) = none := by
    intro i
    simp [List.getD_eq_getElem?_getD, List.getElem?_replicate]
    split <;> rfl
  rcases hkd with ⟨rfl, rfl⟩ | ⟨rfl, rfl⟩ | ⟨rfl, rfl⟩
  · obtain ⟨_, _, _, _, _, g⟩ := (hK.1.2 2 _ rfl).2
    have hc : cA' = cA 10 := Option.some.inj (f1.symm.trans g)
    rw [ai_cell_q (sh := (10, len, List.replicate len .null)) (by show 10 ≤ 10; omega)]
    simp only [hrep]
    show H1[B + S.length]? = some (vp_cell (cA 10) (len, .inr (.inr (.inr (.inr (fun _ => none))))))
    rw [e1, hc, vp_cell_q]
    rfl
  · obtain ⟨_, _, _, _, _, g⟩ := (hK.1.2 3 _ rfl).2
    have hc : cA' = cA 11 := Option.some.inj (f1.symm.trans g)
    rw [ai_cell_q (sh := (11, len, List.replicate len .null)) (by show 10 ≤ 11; omega)]
    simp only [hrep]
    show H1[B + S.length]? = some (vp_cell (cA 11) (len, .inr (.inr (.inr (.inr (fun _ => none))))))
    rw [e1, hc, vp_cell_q]
    rfl
  · obtain ⟨_, _, _, _, _, g⟩ := (hK.1.2 4 _ rfl).2
    have hc : cA' = cA 12 := Option.some.inj (f1.symm.trans g)
    rw [ai_cell_q (sh := (12, len, List.replicate len .null)) (by show 10 ≤ 12; omega)]
    simp only [hrep]
    show H1[B + S.length]? = some (vp_cell (cA 12) (len, .inr (.inr (.inr (.inr (fun _ => none))))))
    rw [e1, hc, vp_cell_q]
    rfl
theorem e_aast {a b kd ci len lb : Nat} {refs rb : List Value} {i : Int32} (j : Nat) (hd : decode (gB G) pc = .ok (.aastore, 1)) (hs : S[a]? = some (kd, len, refs)) (hb : S[b]? = some (ci, lb, rb)) (hkd : (kd = 10 ∧ ci = 0) ∨ (kd = 11 ∧ ci = 3) ∨ (kd = 12 ∧ ci = 4)) (hi : i = nI j) (hj : j < len) (hlen : len < 2 ^ 31) (hrl : j < refs.length) (h : AW G out k n (pc + 1) L st (S.set a (kd, len, refs.set j (.ref b))) M J) : AW G out k n pc L (.ref b :: .int i :: .ref a :: st) S M J := by
  intro B dC dI cA p l e s m args below meth c H locs ls C hH hS hz hl
  obtain ⟨h1, h2⟩ := ai_ix hi hj hlen
  have hat := ai_at (B := B) (cA := cA) (M := M) (J := J) hs
  have hbt := ai_at (B := B) (cA := cA) (M := M) (J := J) hb
  rw [ai_cell_q (sh := (kd, len, refs)) (by show 10 ≤ kd; omega)] at hat
  rw [ai_cell_o (sh := (ci, lb, rb)) (by show ci < 8; omega)] at hbt
  have hq : ∃ (r : vw_C), vwCl[ci]? = some r ∧ (ai_tys cA)[kd - 8]? = some (cA kd, .object r.1) := by
    rcases hkd with ⟨rfl, rfl⟩ | ⟨rfl, rfl⟩ | ⟨rfl, rfl⟩ <;> exact ⟨_, rfl, rfl⟩
  obtain ⟨r, hr, hty⟩ := hq
  refine va_astq (rest := st.map (ai_v B)) C.1 C.2.1 C.2.2.2.2.2.2.2.2.1.1 hH (ai_D B cA S M J) hS a (kd - 8) b ci hat hty hbt hr h1 hd (fun H1 locs1 hP1 hD1 hS1 => ?_)
  rw [ai_W_set (sh' := (kd, len, refs.set j (.ref b))) (M' := M) (J' := J) hs ?_ (fun _ _ => rfl) (fun _ _ => rfl)] at hP1
  · exact h B dC dI cA p l e s m args below meth c H1 locs1 ls C hP1 hS1 (by rw [List.length_set]; exact hz) hl
  · rw [ai_cell_q (sh := (kd, len, refs.set j (.ref b))) (by show 10 ≤ kd; omega)]
    congr 7
    funext i'
    rw [h2]
    by_cases e : i' = j
    · subst e
      simp [va_up, List.getD_eq_getElem?_getD, List.getElem?_set_self hrl, ai_o]
    · simp [va_up, e, List.getD_eq_getElem?_getD, List.getElem?_set_ne (Ne.symm e)]
/-- a final reference, in a constructor -/
theorem e_putF {ix ci j len a b : Nat} {refs : List Value} (hd : decode (gB G) pc = .ok (.putfield ix, 3)) (hf : ai_fl (gY G).cls ix ci j 2 true) (hnm' : (gY G).name = "<init>") (hown : ∃ q : vw_C, vwCl[ci]? = some q ∧ q.1 = (gY G).cls) (hs : S[a]? = some (ci, len, refs)) (hrl : j < refs.length)
    (h : AW G out k n (pc + 3) L st (S.set a (ci, len, refs.set j (.ref b))) M J) : AW G out k n pc L (.ref b :: .ref a :: st) S M J := by
  intro B dC dI cA p l e s m args below meth c H locs ls C hH hS hz hl
  obtain ⟨h8, hj, ht, q, hq, hfin, hw⟩ := hf
  obtain ⟨q', ty, hq', hN, hin, hty, hnm, hsm, hft⟩ := ai_cls ci h8
  rw [hq] at hq'
  cases hq'
  obtain ⟨q2, hq2, hqo⟩ := hown
  rw [hq] at hq2
  cases hq2
  have hts := C.2.2.2.2.2.2.2.1
  have hat := ai_at (B := B) (cA := cA) (M := M) (J := J) hs
  rw [ai_cell_o (sh := (ci, len, refs)) h8] at hat
  have hjq : j < q.2.2 := by rw [hN]; exact hj
  obtain ⟨t0, t1, t2, t3, t4⟩ := hft j hjq
  have htr := t2 ht
  have hnn : narrow (ty j) (.ref (B + b)) = .ref (B + b) ∧ fits (ty j) (.ref (B + b)) = true := by
    cases hh : ty j <;> rw [hh] at htr <;> first | exact ⟨rfl, rfl⟩ | (simp [refKind] at htr)
  refine va_putF (D := (dC, dI)) (ci := ci) (v := .ref (B + b)) (ty := ty j) (C := q.1) (T := q.2.1) (N := q.2.2) (rest := st.map (ai_v B)) C.1 C.2.1 hts hin ty hty hnm C.2.2.2.2.1 C.2.2.2.2.2.2.2.2.1.1 hH (ai_D B cA S M J) hS a hat hq j hjq (hts _ hw) (fun _ h9 => by rw [hsm j hjq] at h9; exact h9) hfin (C.2.2.2.2.2.2.1.trans hnm') ((hsm j hjq).trans hqo) (hty j hjq) hnn.1 hnn.2 (by simp only [List.length_map, List.length_range]; exact hj) hd (fun H1 locs1 hP1 hD1 hS1 => ?_)
  rw [ai_fs_set (M' := M) (J' := J) (sh' := (ci, len, refs.set j (.ref b))) ?_ ?_, ai_W_set (sh' := (ci, len, refs.set j (.ref b))) (M' := M) (J' := J) hs (by rw [ai_cell_o (sh := (ci, len, refs.set j (.ref b))) h8]) (fun _ _ => rfl) (fun _ _ => rfl)] at hP1
  · exact h B dC dI cA p l e s m args below meth c H1 locs1 ls C hP1 hS1 (by rw [List.length_set]; exact hz) hl
  · simp only [ai_fld, ht, if_true, List.getD_eq_getElem?_getD, List.getElem?_set_self hrl, Option.getD_some, ai_v]
  · intro i hi
    simp only [ai_fld, List.getD_eq_getElem?_getD, List.getElem?_set_ne (Ne.symm hi)]
theorem e_obj {ix a : Nat} (hd : decode (gB G) pc = .ok (.invokespecial ix, 3)) (hw : Cond.methodLink (gY G).cls ix Lib.objectInit ∈ ai_T ∧ Cond.instanceMethod Lib.objectInit ∈ ai_T ∧ Cond.code Lib.objectInit ⟨#[0xb1]⟩ 1 none ∈ ai_T) (hdp : 1 ≤ gD G) (hcat : (st.map fun v => v.category).sum ≤ 8) (hk : k ≤ gMC G) (hn : n ≤ gMS G) (h : AW G out k n (pc + 3) L st S M J) : AW G out k n pc L (.ref a :: st) S M J := by
  intro B dC dI cA p l e s m args below meth c H locs ls C hH hS hz hl
  have hts := C.2.2.2.2.2.2.2.1
  refine W.objInit (rest := st.map (ai_v B)) C.1 C.2.1 C.2.2.2.2.1 (hts _ hw.1) (hts _ hw.2.1) (hts _ hw.2.2) rfl (by rw [C.2.2.2.1]; exact hl.1) rfl hd hdp ?_ (W.eq (g2 := F0 m (pc + 3) ls (st.map (ai_v B))) rfl (h B dC dI cA p l e s m args below meth c H locs ls C hH hS hz hl))
  have := ai_cat B hcat
  show 2 * 0 + _ + 12 ≤ 40 * gD G
  omega
end AIM
