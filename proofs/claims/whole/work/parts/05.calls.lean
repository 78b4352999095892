/-! ===== rules for calls ===== -/
theorem W.size {p : Program} {l : Launch} {e : Env} {R : Room} {s : State} {m : MethodId} {args : Array Value} {below : List Frame} {meth : Method} {c : Code} {H : Heap} {locs : List Loc} {cells slots : Nat} {Q : State → Prop} {g : JFrame} (h : H.size ≤ s.heap.size + cells → W p l e R s m args below meth c H locs cells slots Q g) : W p l e R s m args below meth c H locs cells slots Q g :=
  fun T hT X => h (by rw [← hT]; exact X.heapSize) T hT X
theorem ai_size {B : Nat} {dC : Nat → ClassId} {dI : Nat → Nat → Nat} {cA : Nat → ClassId} {S : List aiS} {M : Nat → Nat → Int32} {J : Nat → Int64} {H H0 : Heap} {A : Nat → Prop} {locs : List Loc} {k : Nat} (hH : ai_H B dC dI cA S M J H) (hS : va_S A H0 H locs) (hz : H0.size + k = B + S.length) (hB : B ≤ H0.size) (hle : H.size ≤ H0.size + k) : H.size = B + S.length := by
  have h1 := hS.1
  by_cases h0 : S.length = 0
  · omega
  · have hl : S.length - 1 < S.length := by omega
    have h2 := (hH (S.length - 1) _ (ai_at (List.getElem?_eq_getElem hl))).lt
    have h3 : B + (S.length - 1) < H.size := h2
    omega
theorem ai_blind {B : Nat} {dC : Nat → ClassId} {dI : Nat → Nat → Nat} {cA : Nat → ClassId} {as : List Value} {S : List aiS} {M : Nat → Nat → Int32} {J : Nat → Int64} : FrameBlind (ai_Pc B dC dI cA as S M J) :=
  fun a U g mk q => ⟨q.1, q.2.1, q.2.2.1, q.2.2.2.calling⟩
theorem ai_goodIn {w : Cond} (h : w ∈ ai_T) : GoodIn ai_T (w :: ai_T) := by
  intro z hz
  rcases List.mem_cons.mp hz with rfl | hz
  · exact ⟨h, good_of_word (ai_T_good h)⟩
  · exact ⟨hz, good_of_word (ai_T_good hz)⟩
/-- what a call's row of the pool says -/
def ai_mB (own : String) (ix : Nat) (D : aiG) (np : Nat) : Prop := Cond.methodLink own ix (gY D) ∈ ai_T ∧ Cond.initialized (gY D).cls ∈ ai_T ∧ Cond.code (gY D) (gB D) (gL D) (gR D) ∈ ai_T ∧ ((gY D).cls ≠ "java/lang/invoke/MethodHandle" ∧ (gY D).cls ≠ "java/lang/invoke/VarHandle" ∧ (parseMethodDescriptor (gY D).desc).map (fun d => d.parameters.length) = some np) ∧ gL D ≤ 21
def ai_mV (own : String) (ix : Nat) (D : aiG) (np ci : Nat) : Prop := ai_mB own ix D np ∧ Cond.instanceMethod (gY D) ∈ ai_T ∧ Cond.selects (gY D).cls (gY D) (gY D) ∈ ai_T ∧ ci < 8 ∧ ∃ q : vw_C, vwCl[ci]? = some q ∧ q.1 = (gY D).cls
def ai_mS (own : String) (ix : Nat) (D : aiG) (np : Nat) : Prop := ai_mB own ix D np ∧ Cond.static (gY D) ∈ ai_T
def ai_mI (own : String) (ix : Nat) (D : aiG) (np : Nat) : Prop := ai_mB own ix D np ∧ (gY D).name = "<init>" ∧ Cond.instanceMethod (gY D) ∈ ai_T ∧ gR D = none
def ai_mN (own : String) (ix : Nat) (D : aiG) (np : Nat) : Prop := (∃ host : String, ∀ U, ai_X U → va_Nw (.methodLinkNest own ix (gY D) host) U) ∧ Cond.initialized (gY D).cls ∈ ai_T ∧ Cond.code (gY D) (gB D) (gL D) (gR D) ∈ ai_T ∧ ((gY D).cls ≠ "java/lang/invoke/MethodHandle" ∧ (gY D).cls ≠ "java/lang/invoke/VarHandle" ∧ (parseMethodDescriptor (gY D).desc).map (fun d => d.parameters.length) = some np) ∧ gL D ≤ 21 ∧ (gY D).name = "<init>" ∧ Cond.instanceMethod (gY D) ∈ ai_T ∧ gR D = none
section AIC
variable {G D : aiG} {out : aiR} {k n pc : Nat} {L st st0 : List Value} {S S' : List aiS} {M M' : Nat → Nat → Int32} {J J' : Nat → Int64}
/-- behind a call -/
theorem ai_after {B : Nat} {dC : Nat → ClassId} {dI : Nat → Nat → Nat} {cA : Nat → ClassId} {p : Program} {l : Launch} {e : Env} {s : State} {m : MethodId} {args : Array Value} {below : List Frame} {meth : Method} {c : Code} {H : Heap} {locs : List Loc} {ls : Array Slot} {r : Option Value} {aa : Array Value} {stm : List Value}
    (C : ai_C G B dC dI cA p s m args meth c) (hS : va_S (fun q => B ≤ q) s.heap H locs) (hz : s.heap.size + k = B + S.length) (hl : ai_L B ls (gL G) L) (hlen : S'.length = S.length + gMC D)
    (hrun : va_Run p l e (ai_rm G) s m args below meth c H locs k n (gMC D) (gMS D) (F0 m pc ls stm) (st.map (ai_v B)) (ai_Qc B dC dI cA (r, S', M', J') aa) (fun q => B ≤ q))
    (h : AW G out (k + gMC D) (n + gMS D) (pc + 3) L (r.toList ++ st) S' M' J') :
    W p l e (ai_rm G) s m args below meth c H locs k n (MQ below (ai_Qc B dC dI cA out) args s (gMC G) (gMS G) (fun q => B ≤ q)) (F0 m pc ls stm) := by
  intro T hT X
  obtain ⟨v, st₀, t, T', L1, h0, X', hL1, e1, e2, ⟨hv, hH', hK', hF⟩, step⟩ := hrun T hT X
  have hv : v = r.map (ai_v B) := by
    have := hv
    simp only [Outcome.returned.injEq] at this
    exact this
  subst hv
  have hS' : va_S (fun q => B ≤ q) s.heap T'.heap (locs ++ L1) := by
    refine ⟨?_, fun q h1 h2 => ?_, fun q hq => ?_⟩
    · rw [e1]; exact Nat.le_trans hS.1 (by rw [← h0]; exact hF.1)
    · rw [e1, hF.2 q (by rw [h0]; exact Nat.lt_of_lt_of_le h1 hS.1) h2, h0]
      exact hS.2.1 q h1 h2
    · rcases List.mem_append.mp hq with hq | hq
      · exact hS.2.2 q hq
      · exact hL1 q hq
  obtain ⟨t2, a1, b1⟩ := h B dC dI cA p l e s m args below meth c T'.heap (locs ++ L1) ls C (by rw [e1]; exact hH') hS' (by rw [hlen]; omega) hl T' rfl X'
  refine ⟨t2, step t2 ?_, b1⟩
  have e3 : (r.toList ++ st).map (ai_v B) = (r.map (ai_v B)).toList ++ st.map (ai_v B) := by
    cases r <;> simp
  rw [e3] at a1
  exact a1
theorem ai_cat (B : Nat) (h : (st.map fun v => v.category).sum ≤ 8) : ((st.map (ai_v B)).map fun v => v.category).sum ≤ 8 := by
  rw [List.map_map, show ((fun v : Value => v.category) ∘ ai_v B) = (fun v => v.category) from funext (ai_v_cat B)]; exact h
theorem ai_room (hd : gD D + 1 ≤ gD G) (hL : gL D ≤ 21) : (ai_rm D).frames + 1 ≤ (ai_rm G).frames ∧ 8 + (gL D + 11) + (ai_rm D).locals ≤ (ai_rm G).locals := by
  refine ⟨hd, ?_⟩
  show 8 + (gL D + 11) + 40 * gD D ≤ 40 * gD G
  omega
theorem ai_callB {R : Room} {s : State} {args : Array Value} {own : String} {ix np : Nat} (hts : ∀ w ∈ ai_T, w.before args s = true) (hm : ai_mB own ix D np) (hr : (ai_rm D).frames + 1 ≤ R.frames ∧ 8 + (gL D + 11) + (ai_rm D).locals ≤ R.locals) : CallB R s args own ix (gY D) (gB D) (gL D) (gR D) (.code (gY D) (gB D) (gL D) (gR D) :: ai_T) (ai_rm D) (gMC D) (gMS D) np :=
  callB_of np hts (ai_goodIn hm.2.2.1) rfl rfl rfl (hts _ hm.2.1) (hts _ hm.1) hm.2.2.2.1 hr
/-- a method of an object -/
theorem e_callV {ix np ci a len : Nat} {refs as : List Value} {r : Option Value} (hd : decode (gB G) pc = .ok (.invokevirtual ix, 3)) (hm : ai_mV (gY G).cls ix D np ci) (hA : AM D (.ref a :: as) S M J (r, S', M', J')) (hs : S[a]? = some (ci, len, refs)) (hst : st0 = as.reverse ++ .ref a :: st) (hnp : as.length = np) (hdp : gD D + 1 ≤ gD G) (hcat : (st.map fun v => v.category).sum ≤ 8) (hlen : S'.length = S.length + gMC D) (hk : k + gMC D ≤ gMC G) (hn : n + gMS D ≤ gMS G)
    (h : AW G out (k + gMC D) (n + gMS D) (pc + 3) L (r.toList ++ st) S' M' J') : AW G out k n pc L st0 S M J := by
  intro B dC dI cA p l e s m args below meth c H locs ls C hH hS hz hl
  refine W.size (fun hle => ?_)
  have hsz := ai_size hH hS hz C.2.2.2.2.2.2.2.2.2 hle
  have hts := C.2.2.2.2.2.2.2.1
  have hK := C.2.2.2.2.2.2.2.2.1
  obtain ⟨hmB, hmI, hmS, h8, q, hq, hqc⟩ := hm
  have hat := ai_at (B := B) (cA := cA) (M := M) (J := J) hs
  rw [ai_cell_o (sh := (ci, len, refs)) h8] at hat
  have hrecv := va_recv hK.1 hH hq hat
  rw [hqc] at hrecv
  refine ai_after (D := D) C hS hz hl hlen (va_runV (As := as.map (ai_v B)) (rest := st.map (ai_v B)) (b := B + a) ⟨C.1, C.2.1, C.2.2.2.1, C.2.2.2.2.1, hts⟩ (hA l dC dI cA B) ⟨ai_callB hts hmB (ai_room hdp hmB.2.2.2.2), hts _ hmI, hts _ hmS⟩ ⟨ai_blind, hrecv, fun U hU hW => ⟨by simp [ai_v], by rw [hU]; exact hsz, by rw [hU]; exact hH, hK.warm hW⟩⟩ rfl (by rw [List.length_map]; exact hnp) hl.1 ?_ (lv_room (ai_cat B hcat)) hd ⟨hk, hn⟩) h
  rw [hst]
  simp [ai_v]
theorem e_callS {ix np : Nat} {as : List Value} {r : Option Value} (hd : decode (gB G) pc = .ok (.invokestatic ix, 3)) (hm : ai_mS (gY G).cls ix D np) (hA : AM D as S M J (r, S', M', J')) (hst : st0 = as.reverse ++ st) (hnp : as.length = np) (hdp : gD D + 1 ≤ gD G) (hcat : (st.map fun v => v.category).sum ≤ 8) (hlen : S'.length = S.length + gMC D) (hk : k + gMC D ≤ gMC G) (hn : n + gMS D ≤ gMS G)
    (h : AW G out (k + gMC D) (n + gMS D) (pc + 3) L (r.toList ++ st) S' M' J') : AW G out k n pc L st0 S M J := by
  intro B dC dI cA p l e s m args below meth c H locs ls C hH hS hz hl
  refine W.size (fun hle => ?_)
  have hsz := ai_size hH hS hz C.2.2.2.2.2.2.2.2.2 hle
  have hts := C.2.2.2.2.2.2.2.1
  have hK := C.2.2.2.2.2.2.2.2.1
  refine ai_after (D := D) C hS hz hl hlen (va_runS (As := as.map (ai_v B)) (rest := st.map (ai_v B)) ⟨C.1, C.2.1, C.2.2.2.1, C.2.2.2.2.1, hts⟩ (hA l dC dI cA B) ⟨ai_callB hts hm.1 (ai_room hdp hm.1.2.2.2.2), hts _ hm.2⟩ ⟨ai_blind, fun U hU hW => ⟨by simp, by rw [hU]; exact hsz, by rw [hU]; exact hH, hK.warm hW⟩⟩ rfl (by rw [List.length_map]; exact hnp) hl.1 ?_ (lv_room (ai_cat B hcat)) hd ⟨hk, hn⟩) h
  rw [hst]
  simp
theorem e_callI {ix np a : Nat} {as : List Value} (hd : decode (gB G) pc = .ok (.invokespecial ix, 3)) (hm : ai_mI (gY G).cls ix D np) (hA : AM D (.ref a :: as) S M J (none, S', M', J')) (hst : st0 = as.reverse ++ .ref a :: st) (hnp : as.length = np) (hdp : gD D + 1 ≤ gD G) (hcat : (st.map fun v => v.category).sum ≤ 8) (hlen : S'.length = S.length + gMC D) (hk : k + gMC D ≤ gMC G) (hn : n + gMS D ≤ gMS G)
    (h : AW G out (k + gMC D) (n + gMS D) (pc + 3) L st S' M' J') : AW G out k n pc L st0 S M J := by
  intro B dC dI cA p l e s m args below meth c H locs ls C hH hS hz hl
  refine W.size (fun hle => ?_)
  have hsz := ai_size hH hS hz C.2.2.2.2.2.2.2.2.2 hle
  have hts := C.2.2.2.2.2.2.2.1
  have hK := C.2.2.2.2.2.2.2.2.1
  have hcb := ai_callB hts hm.1 (ai_room hdp hm.1.2.2.2.2)
  rw [hm.2.2.2] at hcb
  refine ai_after (D := D) (r := none) C hS hz hl hlen (va_runI (As := as.map (ai_v B)) (rest := st.map (ai_v B)) (b := B + a) ⟨C.1, C.2.1, C.2.2.2.1, C.2.2.2.2.1, hts⟩ (by have := hA l dC dI cA B; rw [hm.2.2.2] at this; exact this) ⟨hcb, hm.2.1, hts _ hm.2.2.1⟩ ⟨ai_blind, fun U hU hW => ⟨by simp [ai_v], by rw [hU]; exact hsz, by rw [hU]; exact hH, hK.warm hW⟩⟩ rfl (by rw [List.length_map]; exact hnp) hl.1 ?_ (lv_room (ai_cat B hcat)) hd ⟨hk, hn⟩) h
  rw [hst]
  simp [ai_v]
theorem e_callN {ix np a : Nat} {as : List Value} (hd : decode (gB G) pc = .ok (.invokespecial ix, 3)) (hm : ai_mN (gY G).cls ix D np) (hA : AM D (.ref a :: as) S M J (none, S', M', J')) (hst : st0 = as.reverse ++ .ref a :: st) (hnp : as.length = np) (hdp : gD D + 1 ≤ gD G) (hcat : (st.map fun v => v.category).sum ≤ 8) (hlen : S'.length = S.length + gMC D) (hk : k + gMC D ≤ gMC G) (hn : n + gMS D ≤ gMS G)
    (h : AW G out (k + gMC D) (n + gMS D) (pc + 3) L st S' M' J') : AW G out k n pc L st0 S M J := by
  intro B dC dI cA p l e s m args below meth c H locs ls C hH hS hz hl
  refine W.size (fun hle => ?_)
  have hsz := ai_size hH hS hz C.2.2.2.2.2.2.2.2.2 hle
  have hts := C.2.2.2.2.2.2.2.1
  have hK := C.2.2.2.2.2.2.2.2.1
  obtain ⟨⟨host, hlk⟩, hini, hcd, hds, hLe, hnm, him, hR⟩ := hm
  have hgi := ai_goodIn hcd
  have hAA := hA l dC dI cA B
  rw [hR] at hgi hAA
  refine ai_after (D := D) (r := none) C hS hz hl hlen (va_runIN (As := as.map (ai_v B)) (rest := st.map (ai_v B)) (b := B + a) ⟨C.1, C.2.1, C.2.2.2.1, C.2.2.2.2.1, hts⟩ hAA ⟨va_cnB np hts hgi rfl rfl rfl (hlk s hK.2) (hts _ hini) hds (ai_room hdp hLe), hnm, hts _ him⟩ ⟨ai_blind, fun U hU hW => ⟨by simp [ai_v], by rw [hU]; exact hsz, by rw [hU]; exact hH, hK.warm hW⟩⟩ rfl (by rw [List.length_map]; exact hnp) hl.1 ?_ (lv_room (ai_cat B hcat)) hd ⟨hk, hn⟩) h
  rw [hst]
  simp [ai_v]
end AIC
