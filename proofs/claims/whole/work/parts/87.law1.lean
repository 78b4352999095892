/-! THE CLAIM OUT OF ONE WALK OF THE LAW'S BODY. Your part is whole_start (and what it stands on); all else here is the same for every law, but numbers. -/
def R_law : String := "RoomKeeperLaw"
def lw_P (b : Addr) (xs : List Int32) (args : Array Value) (s : State) : Prop := args = #[.ref b] ∧ s.IntsAt b xs ∧ xs.length ≤ 2048 ∧ (Jvm.Cond.and given_1 narrow_1).before args s = true
def lw_Q (_ : Array Value) (s : State) (o : Outcome) (t : State) : Prop := o = .returned (some (.int 1)) ∧ Framed s o t [] 600000 7302250
def lw_Z (below : List Frame) (a : Array Value) (s : State) : State → Prop := fun t => ∃ o, t.status = .running ∧ Ended t below o ∧ lw_Q a s o t
/-- the law's own end, with 1 on the stack, nothing written that was there before, its room as the claim has it -/
theorem lw_ret {p : Program} {l : Launch} {e : Env} {s : State} {m : MethodId} {below : List Frame} {meth : Method} {c : Code} {b : Nat} (hx : p.tables.exec = Jvm.exec) (hb : c.code = code) (hr : meth.sig.returnType = ret) (hlocks : meth.locks = false) {pc : Nat} {H : Heap} {ls : Array Slot} (hdg : decode code pc = .ok (.ireturn, 1)) : W p l e room_1 s m #[Value.ref b] below meth c H [] 600000 7302250 (lw_Z below #[Value.ref b] s) (F0 m pc ls [.int 1]) := by
  intro T hT X
  obtain ⟨fs, hret, hrun, hended, hW, hframe⟩ := X.leave (v := some (.int 1)) (hlocks := hlocks) (fun h => by rw [hr] at h; cases h)
  have hmeth' : T.vm.method? m = some meth := X.method'
  refine ⟨T.setFrames fs, ?_, .returned (some (.int 1)), hrun, hended, rfl, ⟨_, rfl⟩, hW, hframe⟩
  jvm_step X.here [X.here.top, hx, hb, hdg, hmeth', hr, ret, narrow_b1]
  (try refine ⟨rfl, ?_⟩); (try refine ⟨rfl, ?_⟩)
  first | (intro acts; rw [hret _ acts rfl rfl rfl]) | rw [hret _ _ rfl rfl rfl]
  exact Steps.refl _
/-- what holds at the law's entry: the machine, the code, the tables' words (any of lw_tbl by 'hts w (by decide +kernel)'), the script of L ints xs at the cell b, what the Statement gives of the start (any of its parts by flat_of_before) -/
def lw_At (p : Program) (s : State) (m : MethodId) (meth : Method) (c : Code) (b L : Nat) (xs : Nat → Int32) : Prop :=
  p.tables.exec = Jvm.exec ∧ c.code = code ∧ meth.sig.returnType = ret ∧ c.maxLocals = 4 ∧ s.vm.findClass R_law = some m.cls ∧ (∀ w ∈ lw_tbl, w.before #[Value.ref b] s = true) ∧ va_X b L xs s s.heap ∧ b < s.heap.size ∧ meth.locks = false ∧ (Jvm.Cond.and given_1 narrow_1).before #[Value.ref b] s = true

/-! ===== the law's frame over the abstract memory ===== -/
def LW (p : Program) (l : Launch) (e : Env) (s : State) (m : MethodId) (below : List Frame) (meth : Method) (c : Code) (b : Nat) (dC : Nat → ClassId) (dI : Nat → Nat → Nat) (cA : Nat → ClassId) (k n pc : Nat) (lv : List (Nat × Value)) (st : List Value) (S : List aiS) (M : Nat → Nat → Int32) (J : Nat → Int64) : Prop :=
  ∀ (H : Heap) (locs : List Loc) (ls : Array Slot), ai_H s.heap.size dC dI cA S M J H → va_S (fun q => s.heap.size ≤ q) s.heap H locs → k = S.length → lv_has ls 4 lv →
    W p l e room_1 s m #[Value.ref b] below meth c H locs k n (lw_Z below #[Value.ref b] s) (F0 m pc ls st)
section LAW
variable {p : Program} {l : Launch} {e : Env} {s : State} {m : MethodId} {below : List Frame} {meth : Method} {c : Code} {b Ls : Nat} {xs : Nat → Int32} {dC : Nat → ClassId} {dI : Nat → Nat → Nat} {cA : Nat → ClassId}
variable {k n pc : Nat} {lv lv' : List (Nat × Value)} {st st0 : List Value} {S S' : List aiS} {M M' : Nat → Nat → Int32} {J J' : Nat → Int64} {D : aiG}
theorem lw_hts (C0 : lw_At p s m meth c b Ls xs) : ∀ w ∈ ai_T, w.before #[Value.ref b] s = true := fun w hw => C0.2.2.2.2.2.1 w (ai_T_in hw)
theorem law_after {H : Heap} {locs : List Loc} {ls : Array Slot} {r : Option Value} {aa : Array Value} {stm : List Value} (hS : va_S (fun q => s.heap.size ≤ q) s.heap H locs) (hz : k = S.length) (hl : lv_has ls 4 lv) (hlen : S'.length = S.length + gMC D)
    (hrun : va_Run p l e room_1 s m #[Value.ref b] below meth c H locs k n (gMC D) (gMS D) (F0 m pc ls stm) st (ai_Qc s.heap.size dC dI cA (r, S', M', J') aa) (fun q => s.heap.size ≤ q))
    (h : LW p l e s m below meth c b dC dI cA (k + gMC D) (n + gMS D) (pc + 3) lv ((r.map (ai_v s.heap.size)).toList ++ st) S' M' J') :
    W p l e room_1 s m #[Value.ref b] below meth c H locs k n (lw_Z below #[Value.ref b] s) (F0 m pc ls stm) := by
  intro T hT X
  obtain ⟨v, st₀, t, T', L1, h0, X', hL1, e1, e2, ⟨hv, hH', hK', hF⟩, step⟩ := hrun T hT X
  have hv : v = r.map (ai_v s.heap.size) := by
    have := hv
    simp only [Outcome.returned.injEq] at this
    exact this
  subst hv
  have hS' : va_S (fun q => s.heap.size ≤ q) s.heap T'.heap (locs ++ L1) := by
    refine ⟨?_, fun q h1 h2 => ?_, fun q hq => ?_⟩
    · rw [e1]; exact Nat.le_trans hS.1 (by rw [← h0]; exact hF.1)
    · rw [e1, hF.2 q (by rw [h0]; exact Nat.lt_of_lt_of_le h1 hS.1) h2, h0]
      exact hS.2.1 q h1 h2
    · rcases List.mem_append.mp hq with hq | hq
      · exact hS.2.2 q hq
      · exact hL1 q hq
  obtain ⟨t2, a1, b1⟩ := h T'.heap (locs ++ L1) ls (by rw [e1]; exact hH') hS' (by rw [hlen]; omega) hl T' rfl X'
  exact ⟨t2, step t2 a1, b1⟩
theorem l_callV {ix np ci a len : Nat} {refs as : List Value} {v : Value} (C0 : lw_At p s m meth c b Ls xs) (hK : ai_K dC dI cA s) (hd : decode code pc = .ok (.invokevirtual ix, 3)) (hm : ai_mV RL ix D np ci) (hA : AM D (.ref a :: as) S M J (some v, S, M', J')) (hs : S[a]? = some (ci, len, refs)) (hst : st0 = (as.map (ai_v s.heap.size)).reverse ++ .ref (s.heap.size + a) :: st) (hnp : as.length = np) (hdp : gD D + 1 ≤ 12 ∧ 8 + (gL D + 11) + 40 * gD D ≤ 452) (hcat : (st.map fun v => v.category).sum ≤ 8) (hz : gMC D = 0 ∧ gMS D = 0) (hk : k ≤ 600000) (hn : n ≤ 7302250) (h : LW p l e s m below meth c b dC dI cA k n (pc + 3) lv (ai_v s.heap.size v :: st) S M' J') : LW p l e s m below meth c b dC dI cA k n pc lv st0 S M J := by
  intro H locs ls hH hS hkz hl
  refine W.size (fun hle => ?_)
  have hsz := ai_size hH hS (by rw [hkz]) (Nat.le_refl _) hle
  have hts := lw_hts C0
  obtain ⟨hmB, hmI, hmS, h8, q, hq, hqc⟩ := hm
  have hat := ai_at (B := s.heap.size) (cA := cA) (M := M) (J := J) hs
  rw [ai_cell_o (sh := (ci, len, refs)) h8] at hat
  have hrecv := va_recv hK.1 hH hq hat
  rw [hqc] at hrecv
  refine law_after (D := D) (r := some v) hS hkz hl (by rw [hz.1]; rfl) (va_runV (As := as.map (ai_v s.heap.size)) (rest := st) (b := s.heap.size + a) ⟨C0.1, C0.2.1, C0.2.2.2.1, C0.2.2.2.2.1, hts⟩ (hA l dC dI cA s.heap.size) ⟨ai_callB hts hmB hdp, hts _ hmI, hts _ hmS⟩ ⟨ai_blind, hrecv, fun U hU hW => ⟨by simp [ai_v], by rw [hU]; exact hsz, by rw [hU]; exact hH, hK.warm hW⟩⟩ rfl (by rw [List.length_map]; exact hnp) hl.1 hst (lv_room hcat) hd ⟨by rw [hz.1]; exact hk, by rw [hz.2]; exact hn⟩) ?_
  rw [hz.1, hz.2]
  exact h
theorem l_callI {ix np a : Nat} {as : List Value} (C0 : lw_At p s m meth c b Ls xs) (hK : ai_K dC dI cA s) (hd : decode code pc = .ok (.invokespecial ix, 3)) (hm : ai_mI RL ix D np) (hA : AM D (.ref a :: as) S M J (none, S', M', J')) (hst : st0 = (as.map (ai_v s.heap.size)).reverse ++ .ref (s.heap.size + a) :: st) (hnp : as.length = np) (hdp : gD D + 1 ≤ 12 ∧ 8 + (gL D + 11) + 40 * gD D ≤ 452) (hcat : (st.map fun v => v.category).sum ≤ 8) (hlen : S'.length = S.length + gMC D) (hk : k + gMC D ≤ 600000) (hn : n + gMS D ≤ 7302250) (h : LW p l e s m below meth c b dC dI cA (k + gMC D) (n + gMS D) (pc + 3) lv st S' M' J') : LW p l e s m below meth c b dC dI cA k n pc lv st0 S M J := by
  intro H locs ls hH hS hkz hl
  refine W.size (fun hle => ?_)
  have hsz := ai_size hH hS (by rw [hkz]) (Nat.le_refl _) hle
  have hts := lw_hts C0
  have hcb := ai_callB hts hm.1 (R := room_1) hdp
  rw [hm.2.2.2] at hcb
  exact law_after (D := D) (r := none) hS hkz hl hlen (va_runI (As := as.map (ai_v s.heap.size)) (rest := st) (b := s.heap.size + a) ⟨C0.1, C0.2.1, C0.2.2.2.1, C0.2.2.2.2.1, hts⟩ (by have := hA l dC dI cA s.heap.size; rw [hm.2.2.2] at this; exact this) ⟨hcb, hm.2.1, hts _ hm.2.2.1⟩ ⟨ai_blind, fun U hU hW => ⟨by simp [ai_v], by rw [hU]; exact hsz, by rw [hU]; exact hH, hK.warm hW⟩⟩ rfl (by rw [List.length_map]; exact hnp) hl.1 hst (lv_room hcat) hd ⟨hk, hn⟩) h
theorem l_new {ix ci : Nat} (C0 : lw_At p s m meth c b Ls xs) (hK : ai_K dC dI cA s) (hd : decode code pc = .ok (.new ix, 3)) (hw : ai_nw RL ix ci) (hk : k + 1 ≤ 600000) (hn : n + ai_N ci ≤ 7302250) (h : LW p l e s m below meth c b dC dI cA (k + 1) (n + ai_N ci) (pc + 3) lv (.ref (s.heap.size + S.length) :: st) (S ++ [(ci, 0, List.replicate (ai_N ci) .null)]) (ai_z M S.length) (ai_zl J S.length)) : LW p l e s m below meth c b dC dI cA k n pc lv st S M J := by
  intro H locs ls hH hS hkz hl
  refine W.size (fun hle => ?_)
  have hsz := ai_size hH hS (by rw [hkz]) (Nat.le_refl _) hle
  obtain ⟨h8, q, hq, hw1, hw2, hw3⟩ := hw
  obtain ⟨q', ty, hq', hN, hin, hty, hnm, hsm, hft⟩ := ai_cls ci h8
  rw [hq] at hq'
  cases hq'
  have hts := lw_hts C0
  have hKn := hK.1.1 ci _ hq
  refine W.newcK C0.1 C0.2.1 C0.2.2.2.2.1 (hts _ hw1) (hts _ hw2) (hts _ hw3) rfl hd hk (by rw [hN]; exact hn) hKn.2.1 hsz fun H1 kC hkC e1 z1 o1 => ?_
  rw [hN]
  refine h H1 locs ls ?_ ⟨by rw [z1]; have := hS.1; omega, fun x h1 h2 => (o1 x (Nat.not_le.mp fun z => h2 (Nat.le_trans (Nat.le_add_right s.heap.size S.length) z))).trans (hS.2.1 x h1 h2), hS.2.2⟩ (by simp; omega) hl
  refine ai_push hH hsz (fun b hb => by simp [ai_z, hb]) (fun b hb => by simp [ai_zl, hb]) o1 ?_
  rw [ai_cell_o (sh := (ci, 0, List.replicate (ai_N ci) .null)) h8]
  refine ⟨_, hq, (u_born ty hts hin hKn hkC e1 hty).to (fun j hj => ?_)⟩
  have hj' : j < ai_N ci := by rw [← hN]; exact hj
  have hvp : vp_V ((List.range (ai_N ci)).map (ai_fld s.heap.size (ai_z M S.length) (ai_zl J S.length) S.length (ci, 0, List.replicate (ai_N ci) .null))) j = ai_fld s.heap.size (ai_z M S.length) (ai_zl J S.length) S.length (ci, 0, List.replicate (ai_N ci) .null) j := by
    simp only [vp_V, List.getD_eq_getElem?_getD, ai_fs hj', Option.getD_some]
  show defaultValue (ty j) = vp_V _ j
  rw [hvp]
  obtain ⟨t0, t1, t2, t3, t4⟩ := hft j hj
  have hrep : (List.replicate (ai_N ci) Value.null).getD j .null = .null := by
    simp [List.getD_eq_getElem?_getD, List.getElem?_replicate]
    split <;> rfl
  simp only [ai_fld, hrep, ai_z, ai_zl, if_true]
  by_cases c2 : ai_ft ci j = 2
  · rw [if_pos c2, ai_dflt (t2 c2)]; rfl
  · rw [if_neg c2]
    by_cases c3 : ai_ft ci j = 3
    · rw [if_pos c3, t3 c3]; rfl
    · rw [if_neg c3]
      by_cases c1 : ai_ft ci j = 1
      · rw [t1 c1]; rfl
      · rw [t0 (by omega)]; rfl
theorem l_dup {v : Value} (C0 : lw_At p s m meth c b Ls xs) (hd : decode code pc = .ok (.dup, 1)) (hc : v.category = 1) (h : LW p l e s m below meth c b dC dI cA k n (pc + 1) lv (v :: v :: st) S M J) : LW p l e s m below meth c b dC dI cA k n pc lv (v :: st) S M J :=
  fun H locs ls hH hS hkz hl => lv_dup C0.1 C0.2.1 hd hc (h H locs ls hH hS hkz hl)
theorem l_aload {f : Fin 4} {i x : Nat} (C0 : lw_At p s m meth c b Ls xs) (hd : decode code pc = .ok (.aload_n f, 1)) (hi : (f : Nat) = i) (hx : (i, Value.ref x) ∈ lv) (h : LW p l e s m below meth c b dC dI cA k n (pc + 1) lv (.ref x :: st) S M J) : LW p l e s m below meth c b dC dI cA k n pc lv st S M J :=
  fun H locs ls hH hS hkz hl => lv_aload_n C0.1 C0.2.1 hd hi (hl.2.2 _ hx) (h H locs ls hH hS hkz hl)
theorem l_iload {f : Fin 4} {i : Nat} {x : Int32} (C0 : lw_At p s m meth c b Ls xs) (hd : decode code pc = .ok (.iload_n f, 1)) (hi : (f : Nat) = i) (hx : (i, Value.int x) ∈ lv) (h : LW p l e s m below meth c b dC dI cA k n (pc + 1) lv (.int x :: st) S M J) : LW p l e s m below meth c b dC dI cA k n pc lv st S M J :=
  fun H locs ls hH hS hkz hl => lv_iload_n C0.1 C0.2.1 hd hi (hl.2.2 _ hx) (h H locs ls hH hS hkz hl)
theorem l_iconst {i : Int} {v : Int32} (C0 : lw_At p s m meth c b Ls xs) (hd : decode code pc = .ok (.iconst i, 1)) (hv : Int32.ofInt i = v) (h : LW p l e s m below meth c b dC dI cA k n (pc + 1) lv (.int v :: st) S M J) : LW p l e s m below meth c b dC dI cA k n pc lv st S M J :=
  fun H locs ls hH hS hkz hl => lv_iconst C0.1 C0.2.1 hd hv (h H locs ls hH hS hkz hl)
theorem l_bipush {i : Int} {v : Int32} (C0 : lw_At p s m meth c b Ls xs) (hd : decode code pc = .ok (.bipush i, 2)) (hv : (Int8.ofInt i).toInt32 = v) (h : LW p l e s m below meth c b dC dI cA k n (pc + 2) lv (.int v :: st) S M J) : LW p l e s m below meth c b dC dI cA k n pc lv st S M J :=
  fun H locs ls hH hS hkz hl => lv_bipush C0.1 C0.2.1 hd hv (h H locs ls hH hS hkz hl)
theorem l_iadd {x y z : Int32} (C0 : lw_At p s m meth c b Ls xs) (hd : decode code pc = .ok (.iadd, 1)) (hz : x + y = z) (h : LW p l e s m below meth c b dC dI cA k n (pc + 1) lv (.int z :: st) S M J) : LW p l e s m below meth c b dC dI cA k n pc lv (.int y :: .int x :: st) S M J := by
  subst hz
  exact fun H locs ls hH hS hkz hl => lv_iadd C0.1 C0.2.1 hd (h H locs ls hH hS hkz hl)
theorem l_isub {x y : Int32} (C0 : lw_At p s m meth c b Ls xs) (hd : decode code pc = .ok (.isub, 1)) (h : LW p l e s m below meth c b dC dI cA k n (pc + 1) lv (.int (x - y) :: st) S M J) : LW p l e s m below meth c b dC dI cA k n pc lv (.int y :: .int x :: st) S M J :=
  fun H locs ls hH hS hkz hl => lv_isub C0.1 C0.2.1 hd (h H locs ls hH hS hkz hl)
theorem l_iand {x y : Int32} (C0 : lw_At p s m meth c b Ls xs) (hd : decode code pc = .ok (.iand, 1)) (h : LW p l e s m below meth c b dC dI cA k n (pc + 1) lv (.int (x &&& y) :: st) S M J) : LW p l e s m below meth c b dC dI cA k n pc lv (.int y :: .int x :: st) S M J :=
  fun H locs ls hH hS hkz hl => lv_iand C0.1 C0.2.1 hd (h H locs ls hH hS hkz hl)
theorem l_astore {f : Fin 4} {i x : Nat} (C0 : lw_At p s m meth c b Ls xs) (hd : decode code pc = .ok (.astore_n f, 1)) (hi : (f : Nat) = i) (hn : i < 4) (hl' : (i, Value.ref x) :: lv.filter (fun q => !(q.1 == i) && !(q.1 + 1 == i && q.2.category == 2)) = lv') (h : LW p l e s m below meth c b dC dI cA k n (pc + 1) lv' st S M J) : LW p l e s m below meth c b dC dI cA k n pc lv (.ref x :: st) S M J :=
  fun H locs ls hH hS hkz hl => lv_astore_n C0.1 C0.2.1 hd hi hl hn hl' (fun ls1 hl1 => h H locs ls1 hH hS hkz hl1)
theorem l_istore {f : Fin 4} {i : Nat} {x : Int32} (C0 : lw_At p s m meth c b Ls xs) (hd : decode code pc = .ok (.istore_n f, 1)) (hi : (f : Nat) = i) (hn : i < 4) (hl' : (i, Value.int x) :: lv.filter (fun q => !(q.1 == i) && !(q.1 + 1 == i && q.2.category == 2)) = lv') (h : LW p l e s m below meth c b dC dI cA k n (pc + 1) lv' st S M J) : LW p l e s m below meth c b dC dI cA k n pc lv (.int x :: st) S M J :=
  fun H locs ls hH hS hkz hl => lv_istore_n C0.1 C0.2.1 hd hi hl hn hl' (fun ls1 hl1 => h H locs ls1 hH hS hkz hl1)
theorem l_iinc {i j : Nat} {z : Int} {x v : Int32} (C0 : lw_At p s m meth c b Ls xs) (hd : decode code pc = .ok (.iinc i z, 3)) (hj : lv[j]? = some (i, .int x)) (hv : x + Int32.ofInt z = v) (hn : i < 4) (hl' : (i, Value.int v) :: lv.filter (fun q => !(q.1 == i) && !(q.1 + 1 == i && q.2.category == 2)) = lv') (h : LW p l e s m below meth c b dC dI cA k n (pc + 3) lv' st S M J) : LW p l e s m below meth c b dC dI cA k n pc lv st S M J :=
  fun H locs ls hH hS hkz hl => lv_iinc C0.1 C0.2.1 hd hl hj hv hn hl' (fun ls1 hl1 => h H locs ls1 hH hS hkz hl1)
theorem l_goto {off : Int} (tgt : Nat) (C0 : lw_At p s m meth c b Ls xs) (hd : decode code pc = .ok (.goto off, 3)) (ht : (pc : Int) + off = (tgt : Int)) (h : LW p l e s m below meth c b dC dI cA k n tgt lv st S M J) : LW p l e s m below meth c b dC dI cA k n pc lv st S M J :=
  fun H locs ls hH hS hkz hl => lv_goto C0.1 C0.2.1 hd ht (h H locs ls hH hS hkz hl)
theorem l_icmp_gt {x y : Int32} {off : Int} (tgt : Nat) (C0 : lw_At p s m meth c b Ls xs) (hd : decode code pc = .ok (.if_icmp .gt off, 3)) (ht : (pc : Int) + off = (tgt : Int)) (h1 : y < x → LW p l e s m below meth c b dC dI cA k n tgt lv st S M J) (h2 : ¬ y < x → LW p l e s m below meth c b dC dI cA k n (pc + 3) lv st S M J) : LW p l e s m below meth c b dC dI cA k n pc lv (.int y :: .int x :: st) S M J :=
  fun H locs ls hH hS hkz hl => lv_icmp_gt C0.1 C0.2.1 hd ht (fun q => h1 q H locs ls hH hS hkz hl) (fun q => h2 q H locs ls hH hS hkz hl)
theorem l_same {x : Int32} {off : Int} (tgt : Nat) (C0 : lw_At p s m meth c b Ls xs) (hd : decode code pc = .ok (.if_icmp .eq off, 3)) (ht : (pc : Int) + off = (tgt : Int)) (h1 : LW p l e s m below meth c b dC dI cA k n tgt lv st S M J) : LW p l e s m below meth c b dC dI cA k n pc lv (.int x :: .int x :: st) S M J :=
  fun H locs ls hH hS hkz hl => lv_icmp_eq C0.1 C0.2.1 hd ht (fun q => h1 H locs ls hH hS hkz hl) (fun q => absurd rfl q)
theorem lg_cmp_same (x : Int64) : lg_cmp x x = 0 := by
  simp [lg_cmp]
theorem l_sameL {x : Int64} {off : Int} (tgt : Nat) (C0 : lw_At p s m meth c b Ls xs) (hd0 : decode code pc = .ok (.lcmp, 1)) (hd : decode code (pc + 1) = .ok (.ifCond .eq off, 3)) (ht : ((pc + 1 : Nat) : Int) + off = (tgt : Int)) (h1 : LW p l e s m below meth c b dC dI cA k n tgt lv st S M J) : LW p l e s m below meth c b dC dI cA k n pc lv (.long x :: .long x :: st) S M J := by
  intro H locs ls hH hS hkz hl
  refine W.lcmp C0.1 C0.2.1 hd0 ?_
  rw [lg_cmp_same]
  exact lv_if_eq C0.1 C0.2.1 hd ht (fun q => h1 H locs ls hH hS hkz hl) (fun q => absurd rfl q)
theorem l_tableIn {dflt lo hi : Int} {offs : Array Int} {len : Nat} {x : Int32} {off : Int} (tgt : Nat) (C0 : lw_At p s m meth c b Ls xs) (hd : decode code pc = .ok (.tableswitch dflt lo hi offs, len)) (h1 : ¬ x.toInt < lo) (h2 : ¬ hi < x.toInt) (ho : offs[(x.toInt - lo).toNat]? = some off) (ht : (pc : Int) + off = (tgt : Int)) (h : LW p l e s m below meth c b dC dI cA k n tgt lv st S M J) : LW p l e s m below meth c b dC dI cA k n pc lv (.int x :: st) S M J :=
  fun H locs ls hH hS hkz hl => lv_tableIn C0.1 C0.2.1 hd h1 h2 ho ht (h H locs ls hH hS hkz hl)
theorem l_tableOut {dflt lo hi : Int} {offs : Array Int} {len : Nat} {x : Int32} (tgt : Nat) (C0 : lw_At p s m meth c b Ls xs) (hd : decode code pc = .ok (.tableswitch dflt lo hi offs, len)) (h1 : x.toInt < lo ∨ hi < x.toInt) (ht : (pc : Int) + dflt = (tgt : Int)) (h : LW p l e s m below meth c b dC dI cA k n tgt lv st S M J) : LW p l e s m below meth c b dC dI cA k n pc lv (.int x :: st) S M J :=
  fun H locs ls hH hS hkz hl => lv_tableOut C0.1 C0.2.1 hd h1 ht (h H locs ls hH hS hkz hl)
theorem l_sld {i : Nat} (C0 : lw_At p s m meth c b Ls xs) (hd : decode code pc = .ok (.iaload, 1)) (hi : i < Ls) (hL : Ls < 2 ^ 31) (h : LW p l e s m below meth c b dC dI cA k n (pc + 1) lv (.int (xs i) :: st) S M J) : LW p l e s m below meth c b dC dI cA k n pc lv (.int (nI i) :: .ref b :: st) S M J := by
  intro H locs ls hH hS hkz hl
  refine va_sld C0.1 C0.2.1 C0.2.2.2.2.2.2.1 C0.2.2.2.2.2.2.2.1 (A := fun q => s.heap.size ≤ q) (Nat.not_le.mpr C0.2.2.2.2.2.2.2.1) hS (vp_in_nI hi hL) hd ?_
  rw [nI_clamp (by omega)]
  exact h H locs ls hH hS hkz hl
theorem l_slen (C0 : lw_At p s m meth c b Ls xs) (hd : decode code pc = .ok (.arraylength, 1)) (h : LW p l e s m below meth c b dC dI cA k n (pc + 1) lv (.int (nI Ls) :: st) S M J) : LW p l e s m below meth c b dC dI cA k n pc lv (.ref b :: st) S M J :=
  fun H locs ls hH hS hkz hl => va_slen C0.1 C0.2.1 C0.2.2.2.2.2.2.1 C0.2.2.2.2.2.2.2.1 (A := fun q => s.heap.size ≤ q) (Nat.not_le.mpr C0.2.2.2.2.2.2.2.1) hS hd (h H locs ls hH hS hkz hl)
theorem l_end (C0 : lw_At p s m meth c b Ls xs) (hd : decode code pc = .ok (.ireturn, 1)) (hk : k ≤ 600000) (hn : n ≤ 7302250) : LW p l e s m below meth c b dC dI cA k n pc lv [.int 1] S M J := by
  intro H locs ls hH hS hkz hl
  refine va_forget hS.2.2 (W.widen hk hn ?_)
  exact lw_ret C0.1 C0.2.1 C0.2.2.1 C0.2.2.2.2.2.2.2.2.1 hd
/-- an argument: script[i + q] -/
theorem l_arg {i q : Nat} {z : Int} (C0 : lw_At p s m meth c b Ls xs) (h0 : (0, Value.ref b) ∈ lv) (h3 : (3, Value.int (nI i)) ∈ lv) (hd0 : decode code pc = .ok (.aload_n 0, 1)) (hd1 : decode code (pc + 1) = .ok (.iload_n 3, 1)) (hd2 : decode code (pc + 2) = .ok (.iconst z, 1)) (hd3 : decode code (pc + 3) = .ok (.iadd, 1)) (hd4 : decode code (pc + 4) = .ok (.iaload, 1)) (hz : Int32.ofInt z = nI q) (hi : i + q < Ls) (hL : Ls < 2 ^ 31) (h : LW p l e s m below meth c b dC dI cA k n (pc + 5) lv (.int (xs (i + q)) :: st) S M J) : LW p l e s m below meth c b dC dI cA k n pc lv st S M J :=
  l_aload C0 hd0 rfl h0 (l_iload C0 hd1 rfl h3 (l_iconst C0 hd2 hz (l_iadd C0 hd3 (nI_add i q) (l_sld C0 hd4 hi hL h))))
end LAW

