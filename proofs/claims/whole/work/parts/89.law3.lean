/-! ===== the law from its entry ===== -/
theorem start_cls {s : State} {args : Array Value} (hts : ∀ w ∈ ai_T, w.before args s = true) (ci : Nat) : ∃ (cC : ClassId) (iS : Nat → Nat), ∀ q : vw_C, vwCl[ci]? = some q → u_Kn s q.1 q.2.1 q.2.2 cC iS := by
  by_cases hc : ci < 8
  · obtain ⟨q, ty, hq, hN, hin, -⟩ := ai_cls ci hc
    have hi : ∃ n, Cond.instantiable q.1 n ∈ ai_T := by
      match ci, hc, hq with
      | 0, _, hq => cases hq; exact ⟨11, ai_T_of (List.mem_of_getElem? (i := 75) (by decide +kernel)) rfl⟩
      | 1, _, hq => cases hq; exact ⟨2, ai_T_of (List.mem_of_getElem? (i := 85) (by decide +kernel)) rfl⟩
      | 2, _, hq => cases hq; exact ⟨2, ai_T_of (List.mem_of_getElem? (i := 102) (by decide +kernel)) rfl⟩
      | 3, _, hq => cases hq; exact ⟨4, ai_T_of (List.mem_of_getElem? (i := 115) (by decide +kernel)) rfl⟩
      | 4, _, hq => cases hq; exact ⟨9, ai_T_of (List.mem_of_getElem? (i := 141) (by decide +kernel)) rfl⟩
      | 5, _, hq => cases hq; exact ⟨14, ai_T_of (List.mem_of_getElem? (i := 235) (by decide +kernel)) rfl⟩
      | 6, _, hq => cases hq; exact ⟨5, ai_T_of (List.mem_of_getElem? (i := 67) (by decide +kernel)) rfl⟩
      | 7, _, hq => cases hq; exact ⟨14, ai_T_of (List.mem_of_getElem? (i := 656) (by decide +kernel)) rfl⟩
    obtain ⟨n, hn⟩ := hi
    obtain ⟨cC, iS, h⟩ := u_known (C := q.1) (T := q.2.1) (N := q.2.2) (n := n) hts hin (hts _ hn)
    refine ⟨cC, iS, fun q2 h2 => ?_⟩
    rw [hq] at h2
    cases h2
    exact h
  · refine ⟨0, fun _ => 0, fun q h => ?_⟩
    have : vwCl[ci]? = none := List.getElem?_eq_none_iff.mpr (by show 8 ≤ ci; omega)
    rw [this] at h
    cases h
theorem start_prim {s : State} {args : Array Value} {ty : FieldType} (h : (Cond.arrayClass ty).before args s = true) (hty : ∀ (cA : ClassId), s.vm.findClass ("[" ++ ty.toString) = some cA → va_RA s cA ty) : ∃ cA, ArrOfT s cA ty ∧ va_RA s cA ty := by
  obtain ⟨cA, kA, comp, h1, h2, h3⟩ := Cond.arrayClass_spec h
  exact ⟨cA, fun n z => ⟨(fun k h => by cases h), kA, h2, comp, h3⟩, hty cA h1⟩
theorem start_ref {s : State} {C : String} (h : va_AO C s) : ∃ cA, ArrOfT s cA (.object C) ∧ va_RA s cA (.object C) := by
  obtain ⟨comp, cA, kA, h1, h2, h3, h4, h5⟩ := Cond.arrayOver_spec h
  exact ⟨cA, fun n z => ⟨(fun k h => by cases h), kA, h3, comp, h4⟩, kA, comp, h3, h4, h1, h5⟩
theorem start_K {p : Program} {s : State} {m : MethodId} {meth : Method} {c : Code} {b Ls : Nat} {xs : Nat → Int32} (C0 : lw_At p s m meth c b Ls xs) : ∃ (dC : Nat → ClassId) (dI : Nat → Nat → Nat) (cA : Nat → ClassId), ai_K dC dI cA s := by
  have hts := lw_hts C0
  have htl : ∀ w ∈ lw_tbl, w.before #[Value.ref b] s = true := C0.2.2.2.2.2.1
  have a0 : va_AO RX0 s := va_AO.of (htl (.arrayOver (.object RX0)) (List.mem_of_getElem? (i := 233) (by decide +kernel)))
  have a3 : va_AO RX3 s := va_AO.of (htl (.arrayOver (.object RX3)) (List.mem_of_getElem? (i := 81) (by decide +kernel)))
  have a4 : va_AO RX4 s := va_AO.of (htl (.arrayOver (.object RX4)) (List.mem_of_getElem? (i := 83) (by decide +kernel)))
  have n1 : va_Nw (.methodLinkNest RX0 25 yX1_init "RoomKeeper") s := va_Nw.of rfl (htl _ (List.mem_of_getElem? (i := 86) (by decide +kernel)))
  have n2 : va_Nw (.methodLinkNest RX0 32 yX2_init "RoomKeeper") s := va_Nw.of rfl (htl _ (List.mem_of_getElem? (i := 103) (by decide +kernel)))
  have n3 : va_Nw (.methodLinkNest RX0 61 yX3_init "RoomKeeper") s := va_Nw.of rfl (htl _ (List.mem_of_getElem? (i := 116) (by decide +kernel)))
  have n4 : va_Nw (.methodLinkNest RX0 62 yX4_init "RoomKeeper") s := va_Nw.of rfl (htl _ (List.mem_of_getElem? (i := 142) (by decide +kernel)))
  have n5 : va_Nw (.methodLinkNest RX6 29 yX5_init "RoomKeeper") s := va_Nw.of rfl (htl _ (List.mem_of_getElem? (i := 236) (by decide +kernel)))
  obtain ⟨c8, h8⟩ := start_prim (ty := .int) (hts _ aw_int) (fun cA h => h)
  obtain ⟨c9, h9⟩ := start_prim (ty := .boolean) (hts _ aw_boolean) (fun cA h => h)
  obtain ⟨c10, h10⟩ := start_ref a0
  obtain ⟨c11, h11⟩ := start_ref a3
  obtain ⟨c12, h12⟩ := start_ref a4
  refine ⟨fun ci => Classical.choose (start_cls hts ci), fun ci => Classical.choose (Classical.choose_spec (start_cls hts ci)), fun k => if k = 8 then c8 else if k = 9 then c9 else if k = 10 then c10 else if k = 11 then c11 else c12, ⟨fun ci q hq => Classical.choose_spec (Classical.choose_spec (start_cls hts ci)) q hq, fun k q hq => ?_⟩, a0, a3, a4, n1, n2, n3, n4, n5⟩
  match k, hq with
  | 0, hq => cases hq; exact h8
  | 1, hq => cases hq; exact h9
  | 2, hq => cases hq; exact h10
  | 3, hq => cases hq; exact h11
  | 4, hq => cases hq; exact h12
  | k + 5, hq => cases hq
theorem law_start {p : Program} {l : Launch} {e : Env} {s : State} {m : MethodId} {below : List Frame} {meth : Method} {c : Code} {b Ls : Nat} {xs : Nat → Int32} {dC : Nat → ClassId} {dI : Nat → Nat → Nat} {cA : Nat → ClassId} (C0 : lw_At p s m meth c b Ls xs) (hK : ai_K dC dI cA s) (hL : Ls ≤ 2048) : LW p l e s m below meth c b dC dI cA 0 0 0 [(0, .ref b)] [] [] MZ ZJ := by
  have hloop := law_loop (l := l) (e := e) (below := below) C0 hK hL 512 0 σ0 σ0 σ0 σ0 κ0 ρz m0 MZ ZJ (by omega) (by omega) wi0
  rw [← world0] at hloop
  refine l_new C0 hK dL_law_0 nw_L_7 (Nat.le_of_ble_eq_true rfl) (Nat.le_of_ble_eq_true rfl) ?_
  rw [ai_zl_id, ai_z_id (M := MZ) rfl]
  refine l_dup C0 dL_law_3 rfl ?_
  refine l_callI (a := 0) (as := []) (st := [.ref (s.heap.size + 0)]) C0 hK dL_law_4 ml_L_9 c_X6_init rfl rfl (by decide) (Nat.le_of_ble_eq_true rfl) rfl (Nat.le_of_ble_eq_true rfl) (Nat.le_of_ble_eq_true rfl) ?_
  refine l_astore (lv' := [(1, .ref (s.heap.size + 0)), (0, .ref b)]) C0 dL_law_7 rfl (by decide) rfl ?_
  refine l_new C0 hK dL_law_8 nw_L_10 (Nat.le_of_ble_eq_true rfl) (Nat.le_of_ble_eq_true rfl) ?_
  rw [ai_zl_id, show SK.length = 111 from rfl, ai_z_id (M := M5) (M5_z (Nat.le_refl _))]
  refine l_dup C0 dL_law_11 rfl ?_
  refine l_callI (a := 111) (as := []) (st := [.ref (s.heap.size + 111)]) C0 hK dL_law_12 ml_L_12 (c_X7_init (S0 := SK) (b := 111) (M := M5) rfl (fun a ha => M5_z ha)) rfl rfl (by decide) (Nat.le_of_ble_eq_true rfl) rfl (Nat.le_of_ble_eq_true rfl) (Nat.le_of_ble_eq_true rfl) ?_
  refine l_astore (lv' := [(2, .ref (s.heap.size + 111)), (1, .ref (s.heap.size + 0)), (0, .ref b)]) C0 dL_law_15 rfl (by decide) rfl ?_
  refine l_iconst (v := nI 0) C0 dL_law_16 rfl ?_
  refine l_istore (lv' := lvL s b 0) C0 dL_law_17 rfl (by decide) rfl ?_
  exact hloop
/-- from the entry, for every script of at most 2048 ints, the law comes to its end with true -/
theorem whole_start {p : Program} {e : Env} {s : State} {m : MethodId} {below : List Frame} {meth : Method} {c : Code} (l : Launch) (hflags : l.flags = flags0) {b L : Nat} {xs : Nat → Int32} (hL : L ≤ 2048) (C0 : lw_At p s m meth c b L xs) : W p l e room_1 s m #[Value.ref b] below meth c s.heap [] 0 0 (lw_Z below #[Value.ref b] s) (entryFrame m ([Value.ref b] : List Value).toArray 4) := by
  obtain ⟨dC, dI, cA, hK⟩ := start_K C0
  have hl := lv_entry ([.ref b]) (n := 4) (Nat.le_of_ble_eq_true rfl)
  rw [lg_entry_eq]
  exact law_start (l := l) (e := e) (below := below) C0 hK hL s.heap [] _ (fun k q h => by simp [ai_W] at h) va_S.rf rfl hl

