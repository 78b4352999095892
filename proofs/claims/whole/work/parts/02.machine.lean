/-! ===== THE ABSTRACT MACHINE: a memory of ints over a shape of references; judgements AW (a frame comes to its end), AM (a method) ===== -/
/-- the words of the tables that stay true along a run -/
def ai_T : List Cond := lw_tbl.filter goodWord
theorem ai_T_of {w : Cond} (h : w ∈ lw_tbl) (hg : goodWord w = true) : w ∈ ai_T := List.mem_filter.mpr ⟨h, hg⟩
theorem ai_T_in {w : Cond} (h : w ∈ ai_T) : w ∈ lw_tbl := (List.mem_filter.mp h).1
theorem ai_T_good {w : Cond} (h : w ∈ ai_T) : goodWord w = true := (List.mem_filter.mp h).2
/-- a cell's shape: its kind (0 to 7 a class, 8 ints, 9 booleans, 10 to 12 references), its length, its references -/
abbrev aiS : Type := Nat × Nat × List Value
/-- a method: depth, cells, slots, name, bytes, locals, return type -/
abbrev aiG : Type := Nat × Nat × Nat × MethodName × ByteArray × Nat × Option FieldType
/-- how a method ends: its answer, and the memory -/
abbrev aiR : Type := Option Value × List aiS × (Nat → Nat → Int32) × (Nat → Int64)
abbrev gD (G : aiG) : Nat := G.1
abbrev gMC (G : aiG) : Nat := G.2.1
abbrev gMS (G : aiG) : Nat := G.2.2.1
abbrev gY (G : aiG) : MethodName := G.2.2.2.1
abbrev gB (G : aiG) : ByteArray := G.2.2.2.2.1
abbrev gL (G : aiG) : Nat := G.2.2.2.2.2.1
abbrev gR (G : aiG) : Option FieldType := G.2.2.2.2.2.2
def ai_v (B : Nat) (v : Value) : Value := match v with
  | .ref o => .ref (B + o)
  | w => w
def ai_o (B : Nat) (v : Value) : Option Nat := match v with
  | .ref o => some (B + o)
  | _ => none
def ai_N (k : Nat) : Nat := match k with
  | 0 => 11
  | 1 => 2
  | 2 => 2
  | 3 => 4
  | 4 => 9
  | 5 => 14
  | 6 => 5
  | _ => 14
/-- the type of a field: 0 int, 1 boolean, 2 a reference, 3 long -/
def ai_ft (k j : Nat) : Nat := match k with
  | 0 => if j < 5 then 2 else if j = 9 then 1 else 0
  | 1 => if j = 0 then 2 else 0
  | 2 => if j = 0 then 2 else 0
  | 3 => 0
  | 4 => 0
  | 5 => if j = 1 ∨ j = 6 ∨ j = 7 ∨ j = 8 ∨ j = 9 ∨ j = 11 ∨ j = 12 then 0 else 2
  | 6 => 2
  | _ => if j < 5 then 2 else if j < 8 then 0 else if j = 8 then 2 else if j = 9 then 0 else if j = 10 then 2 else if j = 11 then 0 else if j = 12 then 2 else if j = 13 then 3 else 0
def ai_fld (B : Nat) (M : Nat → Nat → Int32) (J : Nat → Int64) (a : Nat) (sh : aiS) (j : Nat) : Value :=
  if ai_ft sh.1 j = 2 then ai_v B (sh.2.2.getD j .null) else if ai_ft sh.1 j = 3 then .long (J a) else .int (M a j)
def ai_cell (B : Nat) (cA : Nat → ClassId) (M : Nat → Nat → Int32) (J : Nat → Int64) (a : Nat) (sh : aiS) : va_E :=
  if sh.1 < 8 then .inr (sh.1, (List.range (ai_N sh.1)).map (ai_fld B M J a sh))
  else if sh.1 < 10 then .inl (cA sh.1, (sh.2.1, .inl (M a)))
  else .inl (cA sh.1, (sh.2.1, .inr (.inr (.inr (.inr (fun i => ai_o B (sh.2.2.getD i .null)))))))
def ai_W (B : Nat) (cA : Nat → ClassId) (S : List aiS) (M : Nat → Nat → Int32) (J : Nat → Int64) : va_W := S.mapIdx (fun a sh => (B + a, ai_cell B cA M J a sh))
def ai_tys (cA : Nat → ClassId) : List (ClassId × FieldType) := [(cA 8, .int), (cA 9, .boolean), (cA 10, .object RX0), (cA 11, .object RX3), (cA 12, .object RX4)]
def ai_H (B : Nat) (dC : Nat → ClassId) (dI : Nat → Nat → Nat) (cA : Nat → ClassId) (S : List aiS) (M : Nat → Nat → Int32) (J : Nat → Int64) (H : Heap) : Prop :=
  va_P (dC, dI) vwCl (ai_W B cA S M J) H
def ai_L (B : Nat) (ls : Array Slot) (nL : Nat) (L : List Value) : Prop := ls.size = nL ∧ lv_wf ls ∧ ∀ (i : Nat) (v : Value), L[i]? = some v → (∀ z, v ≠ .retAddr z) → ls[i]? = some (.val (ai_v B v))
/-- what the constructors' instructions rest on, that no word of ai_T says -/
def ai_X (U : State) : Prop := va_AO RX0 U ∧ va_AO RX3 U ∧ va_AO RX4 U ∧ va_Nw (.methodLinkNest RX0 25 yX1_init "RoomKeeper") U ∧ va_Nw (.methodLinkNest RX0 32 yX2_init "RoomKeeper") U ∧ va_Nw (.methodLinkNest RX0 61 yX3_init "RoomKeeper") U ∧ va_Nw (.methodLinkNest RX0 62 yX4_init "RoomKeeper") U ∧ va_Nw (.methodLinkNest RX6 29 yX5_init "RoomKeeper") U
def ai_K (dC : Nat → ClassId) (dI : Nat → Nat → Nat) (cA : Nat → ClassId) (U : State) : Prop := va_K (dC, dI) vwCl (ai_tys cA) U ∧ ai_X U
theorem ai_K.warm {dC : Nat → ClassId} {dI : Nat → Nat → Nat} {cA : Nat → ClassId} {s U : State} (hW : s.WarmedH U.vm) (h : ai_K dC dI cA s) : ai_K dC dI cA U := by
  obtain ⟨hk, a1, a2, a3, n1, n2, n3, n4, n5⟩ := h
  exact ⟨va_K.moved hW.alike hk, a1.moved hW.alike, a2.moved hW.alike, a3.moved hW.alike, n1.warmM hW, n2.warmM hW, n3.warmM hW, n4.warmM hW, n5.warmM hW⟩
theorem ai_K.calling {dC : Nat → ClassId} {dI : Nat → Nat → Nat} {cA : Nat → ClassId} {U : State} {g : JFrame} {mk : MethodId} {a : Array Value} (h : ai_K dC dI cA U) : ai_K dC dI cA (U.calling g mk a) := by
  obtain ⟨hk, a1, a2, a3, n1, n2, n3, n4, n5⟩ := h
  have hv : U.vm = (U.calling g mk a).vm := rfl
  exact ⟨va_K.moved (u := U) (U := U.calling g mk a) (Vm.Alike.refl U.vm) hk, a1.moved (u := U) (U := U.calling g mk a) (Vm.Alike.refl U.vm), a2.moved (u := U) (U := U.calling g mk a) (Vm.Alike.refl U.vm), a3.moved (u := U) (U := U.calling g mk a) (Vm.Alike.refl U.vm), n1.same rfl hv, n2.same rfl hv, n3.same rfl hv, n4.same rfl hv, n5.same rfl hv⟩
def ai_rm (G : aiG) : Room := { frames := gD G, cells := gMC G, slots := gMS G, locals := 40 * gD G }
def ai_Pc (B : Nat) (dC : Nat → ClassId) (dI : Nat → Nat → Nat) (cA : Nat → ClassId) (as : List Value) (S : List aiS) (M : Nat → Nat → Int32) (J : Nat → Int64) : Array Value → State → Prop :=
  fun v U => v = (as.map (ai_v B)).toArray ∧ U.heap.size = B + S.length ∧ ai_H B dC dI cA S M J U.heap ∧ ai_K dC dI cA U
def ai_Qc (B : Nat) (dC : Nat → ClassId) (dI : Nat → Nat → Nat) (cA : Nat → ClassId) (out : aiR) : Array Value → State → Outcome → State → Prop :=
  fun _ st oc t => oc = .returned (out.1.map (ai_v B)) ∧ ai_H B dC dI cA out.2.1 out.2.2.1 out.2.2.2 t.heap ∧ ai_K dC dI cA t ∧ va_F (fun q => B ≤ q) st t
/-- a method's contract -/
def AM (G : aiG) (as : List Value) (S : List aiS) (M : Nat → Nat → Int32) (J : Nat → Int64) (out : aiR) : Prop :=
  ∀ (l : Launch) (dC : Nat → ClassId) (dI : Nat → Nat → Nat) (cA : Nat → ClassId) (B : Nat),
    Met l (gY G) (.code (gY G) (gB G) (gL G) (gR G) :: ai_T) (ai_rm G) (ai_Pc B dC dI cA as S M J) (ai_Qc B dC dI cA out) (gMC G) (gMS G) (fun q => B ≤ q)
def ai_C (G : aiG) (B : Nat) (dC : Nat → ClassId) (dI : Nat → Nat → Nat) (cA : Nat → ClassId) (p : Program) (s : State) (m : MethodId) (args : Array Value) (meth : Method) (c : Code) : Prop :=
  p.tables.exec = Jvm.exec ∧ c.code = gB G ∧ meth.sig.returnType = gR G ∧ c.maxLocals = gL G ∧ s.vm.findClass (gY G).cls = some m.cls ∧ meth.locks = false ∧ meth.name = (gY G).name ∧ (∀ w ∈ ai_T, w.before args s = true) ∧ ai_K dC dI cA s ∧ B ≤ s.heap.size
/-- a frame of a method comes to the method's end 'out'; k cells of n slots are made so far -/
def AW (G : aiG) (out : aiR) (k n pc : Nat) (L st : List Value) (S : List aiS) (M : Nat → Nat → Int32) (J : Nat → Int64) : Prop :=
  ∀ (B : Nat) (dC : Nat → ClassId) (dI : Nat → Nat → Nat) (cA : Nat → ClassId) (p : Program) (l : Launch) (e : Env) (s : State) (m : MethodId) (args : Array Value) (below : List Frame) (meth : Method) (c : Code) (H : Heap) (locs : List Loc) (ls : Array Slot),
    ai_C G B dC dI cA p s m args meth c → ai_H B dC dI cA S M J H → va_S (fun q => B ≤ q) s.heap H locs → s.heap.size + k = B + S.length → ai_L B ls (gL G) L →
    W p l e (ai_rm G) s m args below meth c H locs k n (MQ below (ai_Qc B dC dI cA out) args s (gMC G) (gMS G) (fun q => B ≤ q)) (F0 m pc ls (st.map (ai_v B)))
/-- one int of the memory -/
def ai_u (M : Nat → Nat → Int32) (a j : Nat) (x : Int32) : Nat → Nat → Int32 := fun a' => if a' = a then upd (M a) j x else M a'
theorem ai_u_at (M : Nat → Nat → Int32) (a j : Nat) (x : Int32) : ai_u M a j x a = upd (M a) j x := by simp [ai_u]
theorem ai_u_ne (M : Nat → Nat → Int32) {a b : Nat} (j : Nat) (x : Int32) (h : b ≠ a) : ai_u M a j x b = M b := by simp [ai_u, h]
/-- the world's cells -/
theorem ai_at {B : Nat} {cA : Nat → ClassId} {S : List aiS} {M : Nat → Nat → Int32} {J : Nat → Int64} {a : Nat} {sh : aiS} (h : S[a]? = some sh) : (ai_W B cA S M J)[a]? = some (B + a, ai_cell B cA M J a sh) := by
  simp [ai_W, List.getElem?_mapIdx, h]
theorem ai_W_at {B : Nat} {cA : Nat → ClassId} {S : List aiS} {M : Nat → Nat → Int32} {J : Nat → Int64} {a : Nat} {q : Nat × va_E} (h : (ai_W B cA S M J)[a]? = some q) : ∃ sh, S[a]? = some sh ∧ q = (B + a, ai_cell B cA M J a sh) := by
  rw [ai_W, List.getElem?_mapIdx] at h
  cases hs : S[a]? with
  | none => rw [hs] at h; cases h
  | some sh => rw [hs] at h; exact ⟨sh, rfl, (Option.some.inj h).symm⟩
theorem ai_D (B : Nat) (cA : Nat → ClassId) (S : List aiS) (M : Nat → Nat → Int32) (J : Nat → Int64) : va_D (fun q => B ≤ q) (ai_W B cA S M J) := by
  refine ⟨fun i j p q hi hj hpq => ?_, fun k q hk => ?_⟩
  · obtain ⟨s1, -, rfl⟩ := ai_W_at hi
    obtain ⟨s2, -, rfl⟩ := ai_W_at hj
    have : B + i = B + j := hpq
    omega
  · obtain ⟨s1, -, rfl⟩ := ai_W_at hk
    show B ≤ B + k
    omega
theorem ai_cell_M {B : Nat} {cA : Nat → ClassId} {M M' : Nat → Nat → Int32} {J J' : Nat → Int64} {a : Nat} {sh : aiS} (h : M a = M' a) (hJ : J a = J' a) : ai_cell B cA M J a sh = ai_cell B cA M' J' a sh := by
  have hf : ai_fld B M J a sh = ai_fld B M' J' a sh := by
    funext j
    simp only [ai_fld, h, hJ]
  simp only [ai_cell, h, hf]
/-- one cell of the world is another -/
theorem ai_W_set {B : Nat} {cA : Nat → ClassId} {S : List aiS} {M M' : Nat → Nat → Int32} {J J' : Nat → Int64} {a : Nat} {sh sh' : aiS} {e : va_E} (h : S[a]? = some sh) (he : e = ai_cell B cA M' J' a sh') (hM : ∀ b, b ≠ a → M' b = M b) (hJ : ∀ b, b ≠ a → J' b = J b) : (ai_W B cA S M J).set a (B + a, e) = ai_W B cA (S.set a sh') M' J' := by
  have hl := (List.getElem?_eq_some_iff.mp h).1
  apply List.ext_getElem?
  intro i
  by_cases hi : i = a
  · subst hi
    rw [List.getElem?_set_self (by simpa [ai_W] using hl), ai_at (sh := sh') (List.getElem?_set_self hl), he]
  · rw [List.getElem?_set_ne (Ne.symm hi)]
    cases hs : S[i]? with
    | none =>
      rw [List.getElem?_eq_none_iff.mpr (by simpa [ai_W] using (List.getElem?_eq_none_iff.mp hs)), List.getElem?_eq_none_iff.mpr (by simpa [ai_W] using (List.getElem?_eq_none_iff.mp hs))]
    | some s2 =>
      rw [ai_at hs, ai_at (sh := s2) (by rw [List.getElem?_set_ne (Ne.symm hi)]; exact hs), ai_cell_M (hM i hi).symm (hJ i hi).symm]
theorem ai_set_same {S : List aiS} {a : Nat} {sh : aiS} (h : S[a]? = some sh) : S.set a sh = S := by
  apply List.ext_getElem?
  intro i
  by_cases hi : i = a
  · subst hi
    rw [List.getElem?_set_self (List.getElem?_eq_some_iff.mp h).1, h]
  · rw [List.getElem?_set_ne (Ne.symm hi)]
/-- the locals -/
def ai_prs (B : Nat) (L : List Value) : List (Nat × Value) := (List.range L.length).filterMap (fun j => match L[j]? with
  | some (Value.retAddr _) => none
  | some v => some (j, ai_v B v)
  | none => none)
theorem ai_prs_mem {B : Nat} {L : List Value} {j : Nat} {v : Value} (h : L[j]? = some v) (hv : ∀ z, v ≠ .retAddr z) : (j, ai_v B v) ∈ ai_prs B L := by
  refine List.mem_filterMap.mpr ⟨j, List.mem_range.mpr (List.getElem?_eq_some_iff.mp h).1, ?_⟩
  rw [h]
  cases v with
  | retAddr z => exact absurd rfl (hv z)
  | _ => rfl
theorem ai_mem_prs {B : Nat} {L : List Value} {q : Nat × Value} (h : q ∈ ai_prs B L) : ∃ v, L[q.1]? = some v ∧ (∀ z, v ≠ .retAddr z) ∧ q.2 = ai_v B v := by
  obtain ⟨j, -, hj⟩ := List.mem_filterMap.mp h
  cases hv : L[j]? with
  | none => rw [hv] at hj; cases hj
  | some v =>
    rw [hv] at hj
    cases v with
    | retAddr z => cases hj
    | int x => cases hj; exact ⟨_, hv, (fun z e => by cases e), rfl⟩
    | long x => cases hj; exact ⟨_, hv, (fun z e => by cases e), rfl⟩
    | float x => cases hj; exact ⟨_, hv, (fun z e => by cases e), rfl⟩
    | double x => cases hj; exact ⟨_, hv, (fun z e => by cases e), rfl⟩
    | null => cases hj; exact ⟨_, hv, (fun z e => by cases e), rfl⟩
    | ref x => cases hj; exact ⟨_, hv, (fun z e => by cases e), rfl⟩
theorem ai_L.has {B : Nat} {ls : Array Slot} {nL : Nat} {L : List Value} (h : ai_L B ls nL L) : lv_has ls nL (ai_prs B L) := by
  refine ⟨h.1, h.2.1, fun q hq => ?_⟩
  obtain ⟨v, h1, h2, h3⟩ := ai_mem_prs hq
  rw [h3]
  exact h.2.2 q.1 v h1 h2
theorem ai_v_cat (B : Nat) (v : Value) : (ai_v B v).category = v.category := by cases v <;> rfl
/-- the local before place i is no long -/
def ai_nl (L : List Value) (i : Nat) : Bool := match i with
  | 0 => true
  | j + 1 => match L[j]? with
    | some v => v.category == 1
    | none => true
theorem ai_of_store {B : Nat} {ls : Array Slot} {nL : Nat} {L : List Value} {i : Nat} {v : Value} (h : lv_has ls nL ((i, ai_v B v) :: (ai_prs B L).filter (fun q => !(q.1 == i) && !(q.1 + 1 == i && q.2.category == 2)))) (hn : ai_nl L i = true) : ai_L B ls nL (L.set i v) := by
  refine ⟨h.1, h.2.1, fun j w hj hw => ?_⟩
  by_cases hi : j = i
  · subst hi
    have hl : j < L.length := by
      have := (List.getElem?_eq_some_iff.mp hj).1
      simpa using this
    rw [List.getElem?_set_self hl] at hj
    cases hj
    exact h.2.2 (j, ai_v B v) List.mem_cons_self
  · rw [List.getElem?_set_ne (Ne.symm hi)] at hj
    refine h.2.2 (j, ai_v B w) (List.mem_cons_of_mem _ (List.mem_filter.mpr ⟨ai_prs_mem hj hw, ?_⟩))
    by_cases h1 : j + 1 = i
    · subst h1
      simp only [ai_nl, hj, beq_iff_eq] at hn
      simp [ai_v_cat, hn]
    · simp [hi, h1]
theorem ai_of_store2 {B : Nat} {ls : Array Slot} {nL : Nat} {L : List Value} {i : Nat} {v : Value} (h : lv_has ls nL ((i, ai_v B v) :: (ai_prs B L).filter (fun q => !(q.1 == i) && (!(q.1 == i + 1) && !(q.1 + 1 == i && q.2.category == 2))))) (hn : ai_nl L i = true) : ai_L B ls nL ((L.set i v).set (i + 1) (.retAddr 0)) := by
  refine ⟨h.1, h.2.1, fun j w hj hw => ?_⟩
  by_cases h2 : j = i + 1
  · subst h2
    have hl : i + 1 < (L.set i v).length := by
      have := (List.getElem?_eq_some_iff.mp hj).1
      simpa using this
    rw [List.getElem?_set_self hl] at hj
    cases hj
    exact absurd rfl (hw 0)
  · rw [List.getElem?_set_ne (Ne.symm h2)] at hj
    by_cases hi : j = i
    · subst hi
      have hl : j < L.length := by
        have := (List.getElem?_eq_some_iff.mp hj).1
        simpa using this
      rw [List.getElem?_set_self hl] at hj
      cases hj
      exact h.2.2 (j, ai_v B v) List.mem_cons_self
    · rw [List.getElem?_set_ne (Ne.symm hi)] at hj
      refine h.2.2 (j, ai_v B w) (List.mem_cons_of_mem _ (List.mem_filter.mpr ⟨ai_prs_mem hj hw, ?_⟩))
      by_cases h1 : j + 1 = i
      · subst h1
        simp only [ai_nl, hj, beq_iff_eq] at hn
        simp [ai_v_cat, hn]
        omega
      · simp [hi, h1, h2]
/-- the locals at a method's entry -/
def ai_ent : List Value → List Value
  | [] => []
  | v :: vs => if v.category = 2 then v :: .retAddr 0 :: ai_ent vs else v :: ai_ent vs
theorem ai_ent_args (B : Nat) : ∀ (vs : List Value) (k i : Nat) (v : Value), (ai_ent vs)[i]? = some v → (∀ z, v ≠ .retAddr z) → (k + i, ai_v B v) ∈ lv_args k (vs.map (ai_v B))
  | [], k, i, v, h, _ => by simp [ai_ent] at h
  | w :: vs, k, i, v, h, hv => by
    simp only [List.map_cons, lv_args, ai_v_cat]
    by_cases hc : w.category = 2
    · simp only [ai_ent, hc, if_true] at h ⊢
      match i, h with
      | 0, h =>
        rw [List.getElem?_cons_zero] at h
        cases h
        exact List.mem_cons_self
      | 1, h =>
        rw [List.getElem?_cons_succ, List.getElem?_cons_zero] at h
        cases h
        exact absurd rfl (hv 0)
      | i + 2, h =>
        rw [List.getElem?_cons_succ, List.getElem?_cons_succ] at h
        have := ai_ent_args B vs (k + 2) i v h hv
        rw [show k + (i + 2) = k + 2 + i by omega]
        exact List.mem_cons_of_mem _ this
    · simp only [ai_ent, hc, if_false] at h ⊢
      match i, h with
      | 0, h =>
        rw [List.getElem?_cons_zero] at h
        cases h
        exact List.mem_cons_self
      | i + 1, h =>
        rw [List.getElem?_cons_succ] at h
        have := ai_ent_args B vs (k + 1) i v h hv
        rw [show k + (i + 1) = k + 1 + i by omega]
        exact List.mem_cons_of_mem _ this
theorem ai_pad {xs : List Value} {n i : Nat} {v : Value} (h : (xs ++ List.replicate n (Value.retAddr 0))[i]? = some v) (hv : ∀ z, v ≠ .retAddr z) : xs[i]? = some v := by
  by_cases hl : i < xs.length
  · rwa [List.getElem?_append_left hl] at h
  · rw [List.getElem?_append_right (by omega), List.getElem?_replicate] at h
    split at h
    · cases h
      exact absurd rfl (hv 0)
    · cases h
/-- a method's contract out of the walk of its body -/
theorem AM_of {G : aiG} {as : List Value} {S : List aiS} {M : Nat → Nat → Int32} {J : Nat → Int64} {out : aiR} (L : List Value) (hy : plainName (gY G).cls = true) (hL : L = ai_ent as ++ List.replicate (gL G - (ai_ent as).length) (.retAddr 0)) (hn : ∀ B, (lg_sl (as.map (ai_v B))).length ≤ gL G)
    (h : AW G out 0 0 0 L [] S M J) : AM G as S M J out := by
  intro l dC dI cA B
  refine Met.ofW (cc := gB G) (maxL := gL G) (ret := gR G) hy rfl ?_
  intro p e s m args below meth c s₁ Bd hml hv
  obtain ⟨rfl, hz, hH, hK⟩ := hv
  have hts := atoms_spec (ws := .code (gY G) (gB G) (gL G) (gR G) :: ai_T) Bd.pre
  have hown : s.vm.findClass (gY G).cls = some m.cls := findClass_of_methodNamed Bd.named
  have hle := lv_entry (as.map (ai_v B)) (n := gL G) (hn B)
  rw [lg_entry_eq]
  refine h B dC dI cA p l e s m _ below meth c s.heap [] _ ⟨Bd.exec, Bd.bytes, Bd.returns, hml, hown, Bd.notSynchronized, (name_of_methodNamed Bd.named Bd.method).1, fun w hw => hts w (List.mem_cons_of_mem _ hw), hK, ?_⟩ hH va_S.rf hz ?_
  · omega
  · refine ⟨hle.1, hle.2.1, fun i v hi hv => ?_⟩
    rw [hL] at hi
    have h1 := ai_ent_args B as 0 i v (ai_pad hi hv) hv
    rw [Nat.zero_add] at h1
    exact hle.2.2 _ h1
