/-! ===== the reference: what its methods do to m ===== -/
def rLeaves (m : Nat → Int32) (k : Nat) : Nat → Int32 := upd (upd (upd (upd m k 0) (12 + k) (-1)) (24 + k) (-1)) (36 + k) 0
def rShift (m : Nat → Int32) : Nat → (Nat → Int32)
  | 0 => m
  | i + 1 => upd (rShift m i) (111 + i) (rShift m i (111 + i + 4))
def rPush (m : Nat → Int32) (q : Nat) (kd me r : Int32) : Nat → Int32 :=
  let m4 := upd (upd (upd (upd m (111 + 4 * q) (m 103)) (111 + 4 * q + 1) kd) (111 + 4 * q + 2) me) (111 + 4 * q + 3) r
  let m5 := upd m4 108 (m4 108 + 1)
  upd m5 109 (m5 109 + 1)
def rLogs (m : Nat → Int32) (kd me r : Int32) : Nat → Int32 :=
  if m 108 = 40 then rPush (upd (rShift m 156) 108 39) 39 kd me r else rPush m (m 108).toNatClampNeg kd me r
def rInUse (m : Nat → Int32) : Int32 := (ff (fun k => decide (1 < m k)) 12).elim (-1) (fun k => m (12 + k))
def rIns (m : Nat → Int32) (r : Int32) : Nat := fb_ct (fun k => decide (1 < m k) && decide (m (12 + k) = r)) 12
def rWai (m : Nat → Int32) (r : Int32) : Nat := fb_ct (fun k => decide (m k = 1) && decide (m (12 + k) = r)) 12
def rImp (m : Nat → Int32) (k : Nat) : Bool := decide (m k = 1) && decide (m 100 ≤ m 103 - m (24 + k))
def rBef (m : Nat → Int32) (k : Nat) : Nat := fb_ct (fun j => decide (m j = 1) && (decide (m (12 + j) = m (12 + k)) && decide (m (48 + j) < m (48 + k)))) 12
def rInq (m : Nat → Int32) (r place : Int32) : Int32 := oI (ff (fun k => decide (m k = 1) && (decide (m (12 + k) = r) && decide (nI (rBef m k) = place))) 12)
def rNf (m : Nat → Int32) : Nat → Option Nat
  | 0 => none
  | k + 1 => match rNf m k with
    | none => if rImp m k then some k else none
    | some f => if rImp m k && decide (m (48 + k) < m (48 + f)) then some k else some f
def rNb (m : Nat → Int32) : Nat → Option Nat
  | 0 => none
  | r + 1 => match rNb m r with
    | none => if 0 < rWai m (nI r) then some r else none
    | some f => if decide (0 < rWai m (nI r)) && decide (m (70 + r) < m (70 + f)) then some r else some f
def rNext (m : Nat → Int32) : Int32 := (rNf m 12).elim (oI (rNb m 5)) (fun k => m (12 + k))
def rEnt1 (m : Nat → Int32) (r k : Nat) : Nat → Int32 :=
  let w := m 103 - m (24 + k)
  let m1 := upd m k 2
  let m2 := upd m1 (24 + k) (m1 103)
  let m3 := upd m2 105 (m2 105 + 1)
  let m4 := upd m3 (80 + r) (m3 (80 + r) + 1)
  let m5 := upd m4 (90 + r) (m4 (90 + r) + w)
  upd m5 (95 + r) (if w ≤ m5 (95 + r) then m5 (95 + r) else w)
def rEnt (m : Nat → Int32) (r k : Nat) : Nat → Int32 := rLogs (rEnt1 m r k) 1 (nI k) (nI r)
def rOpn1 (m : Nat → Int32) (r : Nat) : Nat → Int32 :=
  let m1 := upd m 106 (m (70 + r))
  let m2 := upd m1 (70 + r) (m1 (70 + r) + 2520 / m1 (65 + r))
  let m3 := upd m2 104 1
  let m4 := upd m3 105 0
  upd m4 (75 + r) (m4 (75 + r) + 1)
def rOpn (m : Nat → Int32) (r : Nat) : Nat → Int32 := rLogs (rOpn1 m r) 0 (-1) (nI r)
def rOth (m : Nat → Int32) (r : Int32) (k : Nat) : Bool := decide (m k = 1) && !decide (m (12 + k) = r)
def rDue (m : Nat → Int32) (r : Int32) : Bool := ex (rOth m r) 12 && (ex (fun k => rOth m r k && rImp m k) 12 || decide (m 101 ≤ m 105))
theorem rShift_lo (m : Nat → Int32) {j : Nat} (hj : j < 111) : ∀ i, rShift m i j = m j
  | 0 => rfl
  | i + 1 => by rw [rShift, upd_ne _ _ (by omega), rShift_lo m hj i]
theorem rPush_lo (m : Nat → Int32) (q : Nat) (kd me r : Int32) {j : Nat} (hj : j < 108 ∨ j = 110) : rPush m q kd me r j = m j := by
  simp only [rPush]
  rw [upd_ne _ _ (by omega), upd_ne _ _ (by omega), upd_ne _ _ (by omega), upd_ne _ _ (by omega), upd_ne _ _ (by omega), upd_ne _ _ (by omega)]
theorem rLogs_lo (m : Nat → Int32) (kd me r : Int32) {j : Nat} (hj : j < 108 ∨ j = 110) : rLogs m kd me r j = m j := by
  rw [rLogs]
  split
  · rw [rPush_lo _ _ _ _ _ hj, upd_ne _ _ (by omega), rShift_lo m (by omega)]
  · rw [rPush_lo _ _ _ _ _ hj]
theorem rPush_108 (m : Nat → Int32) (q : Nat) (kd me r : Int32) : rPush m q kd me r 108 = m 108 + 1 := by
  simp only [rPush]
  rw [upd_ne _ _ (by omega), upd_same, upd_ne _ _ (by omega), upd_ne _ _ (by omega), upd_ne _ _ (by omega), upd_ne _ _ (by omega)]
theorem rPush_109 (m : Nat → Int32) (q : Nat) (kd me r : Int32) : rPush m q kd me r 109 = m 109 + 1 := by
  simp only [rPush]
  rw [upd_same, upd_ne _ _ (by omega), upd_ne _ _ (by omega), upd_ne _ _ (by omega), upd_ne _ _ (by omega), upd_ne _ _ (by omega)]
theorem rLogs_109 (m : Nat → Int32) (kd me r : Int32) : rLogs m kd me r 109 = m 109 + 1 := by
  rw [rLogs]
  split
  · rw [rPush_109, upd_ne _ _ (by omega), rShift_lo m (by omega)]
  · rw [rPush_109]
theorem rLogs_108 {m : Nat → Int32} {p : Nat} (hp : m 108 = nI p) (hp4 : p ≤ 40) (kd me r : Int32) : ∃ p', p' ≤ 40 ∧ rLogs m kd me r 108 = nI p' := by
  rw [rLogs]
  split
  · exact ⟨40, by omega, by rw [rPush_108, upd_same]; rfl⟩
  · rename_i h
    have : p ≠ 40 := fun e => h (by rw [hp, e]; rfl)
    exact ⟨p + 1, by omega, by rw [rPush_108, hp, nI_1]⟩
/-- what keeps the reference within its arrays -/
def RW (m : Nat → Int32) : Prop := (∀ k, k < 12 → m k = 0 ∨ ∃ r, r < 5 ∧ m (12 + k) = nI r) ∧ (∃ p, p ≤ 40 ∧ m 108 = nI p) ∧ (∀ r, r < 5 → ¬ m (65 + r) = 0) ∧ ∀ j, 271 ≤ j → m j = 0
theorem RW.cong {m m' : Nat → Int32} (h : RW m) (he : ∀ j, j < 24 ∨ (65 ≤ j ∧ j < 70) ∨ 271 ≤ j → m' j = m j) (h8 : ∃ p, p ≤ 40 ∧ m' 108 = nI p) : RW m' := by
  refine ⟨fun k hk => ?_, h8, fun r hr => ?_, fun j hj => ?_⟩
  · rw [he k (by omega), he (12 + k) (by omega)]; exact h.1 k hk
  · rw [he (65 + r) (by omega)]; exact h.2.2.1 r hr
  · rw [he j (by omega)]; exact h.2.2.2 j hj
theorem rShift_hi (m : Nat → Int32) {j : Nat} (hj : 271 ≤ j) : ∀ i, i ≤ 156 → rShift m i j = m j
  | 0, _ => rfl
  | i + 1, hi => by rw [rShift, upd_ne _ _ (by omega), rShift_hi m hj i (by omega)]
theorem rPush_hi (m : Nat → Int32) {q : Nat} (hq : q < 40) (kd me r : Int32) {j : Nat} (hj : 271 ≤ j) : rPush m q kd me r j = m j := by
  simp only [rPush]
  rw [upd_ne _ _ (by omega), upd_ne _ _ (by omega), upd_ne _ _ (by omega), upd_ne _ _ (by omega), upd_ne _ _ (by omega), upd_ne _ _ (by omega)]
theorem rLogs_hi {m : Nat → Int32} {p : Nat} (hp : m 108 = nI p) (hp4 : p ≤ 40) (kd me r : Int32) {j : Nat} (hj : 271 ≤ j) : rLogs m kd me r j = m j := by
  rw [rLogs]
  split
  · rw [rPush_hi _ (by omega) _ _ _ hj, upd_ne _ _ (by omega), rShift_hi m hj _ (by omega)]
  · rename_i h
    have hne : p ≠ 40 := fun e => h (by rw [hp, e]; rfl)
    rw [hp, nI_clamp (by omega), rPush_hi _ (by omega) _ _ _ hj]
theorem RW.logs {m : Nat → Int32} (h : RW m) (kd me r : Int32) : RW (rLogs m kd me r) := by
  obtain ⟨p, hp4, hp⟩ := h.2.1
  refine h.cong (fun j hj => ?_) (rLogs_108 hp hp4 kd me r)
  by_cases q : j < 108
  · exact rLogs_lo m kd me r (Or.inl q)
  · exact rLogs_hi hp hp4 kd me r (by omega)
theorem RW.put {m : Nat → Int32} (h : RW m) {j : Nat} (hj : 24 ≤ j ∧ j < 65 ∨ 70 ≤ j ∧ j ≠ 108 ∧ j < 271) (x : Int32) : RW (upd m j x) :=
  h.cong (fun i hi => upd_ne _ _ (by omega)) (by rw [upd_ne _ _ (by omega)]; exact h.2.1)
theorem RW.state {m : Nat → Int32} (h : RW m) {k : Nat} (hk : k < 12) (hm : ¬ m k = 0) (x : Int32) : RW (upd m k x) := by
  refine ⟨fun j hj => ?_, by rw [upd_ne _ _ (by omega)]; exact h.2.1, fun r hr => by rw [upd_ne _ _ (by omega)]; exact h.2.2.1 r hr, fun j hj => by rw [upd_ne _ _ (by omega)]; exact h.2.2.2 j hj⟩
  by_cases e : j = k
  · subst e
    right
    rw [upd_ne _ _ (by omega)]
    exact (h.1 j hj).resolve_left hm
  · rw [upd_ne _ _ e, upd_ne _ _ (by omega)]
    exact h.1 j hj
theorem RW.leaves {m : Nat → Int32} (h : RW m) {k : Nat} (hk : k < 12) : RW (rLeaves m k) := by
  refine ⟨fun j hj => ?_, ?_, fun r hr => ?_, fun j hj => ?_⟩
  · simp only [rLeaves]
    by_cases e : j = k
    · subst e
      left
      rw [upd_ne _ _ (by omega), upd_ne _ _ (by omega), upd_ne _ _ (by omega), upd_same]
    · rw [upd_ne _ _ (by omega), upd_ne _ _ (by omega), upd_ne _ _ (by omega), upd_ne _ _ (by omega), upd_ne _ _ (by omega), upd_ne _ _ (by omega), upd_ne _ _ (by omega), upd_ne _ _ (by omega)]
      exact h.1 j hj
  · simp only [rLeaves]
    rw [upd_ne _ _ (by omega), upd_ne _ _ (by omega), upd_ne _ _ (by omega), upd_ne _ _ (by omega)]
    exact h.2.1
  · simp only [rLeaves]
    rw [upd_ne _ _ (by omega), upd_ne _ _ (by omega), upd_ne _ _ (by omega), upd_ne _ _ (by omega)]
    exact h.2.2.1 r hr
  · simp only [rLeaves]
    rw [upd_ne _ _ (by omega), upd_ne _ _ (by omega), upd_ne _ _ (by omega), upd_ne _ _ (by omega)]
    exact h.2.2.2 j hj
/-- a least one among those that hold -/
theorem i32_min (p : Nat → Bool) (f : Nat → Int32) : ∀ n, (∃ k, k < n ∧ p k = true) → ∃ k, k < n ∧ p k = true ∧ ∀ j, j < n → p j = true → ¬ f j < f k
  | 0, h => by obtain ⟨k, hk, _⟩ := h; omega
  | n + 1, h => by
    by_cases hx : ∃ k, k < n ∧ p k = true
    · obtain ⟨k, hk, hp, hmin⟩ := i32_min p f n hx
      by_cases hn : p n = true ∧ f n < f k
      · refine ⟨n, by omega, hn.1, fun j hj hpj => ?_⟩
        by_cases e : j = n
        · subst e; exact Int32.lt_irrefl
        · intro hlt
          exact hmin j (by omega) hpj (Int32.lt_trans hlt hn.2)
      · refine ⟨k, by omega, hp, fun j hj hpj => ?_⟩
        by_cases e : j = n
        · subst e; exact fun hlt => hn ⟨hpj, hlt⟩
        · exact hmin j (by omega) hpj
    · obtain ⟨k, hk, hp⟩ := h
      have e : k = n := by
        by_cases e : k = n
        · exact e
        · exact absurd ⟨k, by omega, hp⟩ hx
      subst e
      refine ⟨k, by omega, hp, fun j hj hpj => ?_⟩
      by_cases e : j = k
      · subst e; exact Int32.lt_irrefl
      · exact absurd ⟨j, by omega, hpj⟩ hx
theorem rInq_ex {m : Nat → Int32} {r : Int32} (h : ¬ rWai m r = 0) : ∃ k, k < 12 ∧ rInq m r 0 = nI k ∧ m k = 1 ∧ m (12 + k) = r := by
  have hpos : 0 < rWai m r := by omega
  obtain ⟨k0, hk0, hp0⟩ := fb_ct_pos.mp hpos
  obtain ⟨k, hk, hp, hmin⟩ := i32_min (fun k => decide (m k = 1) && decide (m (12 + k) = r)) (fun k => m (48 + k)) 12 ⟨k0, hk0, hp0⟩
  simp only [Bool.and_eq_true, decide_eq_true_eq] at hp
  have hb : rBef m k = 0 := by
    rw [rBef, fb_ct_zero]
    intro j hj
    by_cases hj1 : m j = 1 ∧ m (12 + j) = m (12 + k)
    · have := hmin j hj (by simp [hj1.1, hj1.2, hp.2])
      simp [this]
    · by_cases h1 : m j = 1
      · have h2 : ¬ m (12 + j) = m (12 + k) := fun e => hj1 ⟨h1, e⟩
        simp [h2]
      · simp [h1]
  rw [rInq]
  cases hff : ff (fun k => decide (m k = 1) && (decide (m (12 + k) = r) && decide (nI (rBef m k) = 0))) 12 with
  | none =>
    have := ff_no hff k hk
    simp [hp.1, hp.2, hb, nI_0] at this
  | some q =>
    obtain ⟨h1, h2, -⟩ := ff_is hff
    simp only [Bool.and_eq_true, decide_eq_true_eq] at h2
    exact ⟨q, h1, rfl, h2.1, h2.2.1⟩
theorem rInUse_is {m : Nat → Int32} (h : RW m) : rInUse m = -1 ∨ ∃ r, r < 5 ∧ rInUse m = nI r := by
  rw [rInUse]
  cases hff : ff (fun k => decide (1 < m k)) 12 with
  | none => exact Or.inl rfl
  | some k =>
    obtain ⟨h1, h2, -⟩ := ff_is hff
    simp only [decide_eq_true_eq] at h2
    right
    refine (h.1 k h1).resolve_left (fun e => ?_)
    rw [e] at h2
    exact absurd h2 (by decide)
theorem rNf_is {m : Nat → Int32} : ∀ {n f : Nat}, rNf m n = some f → f < n ∧ rImp m f = true
  | 0, f, h => by simp [rNf] at h
  | n + 1, f, h => by
    rw [rNf] at h
    cases hf : rNf m n with
    | none =>
      rw [hf] at h
      by_cases hi : rImp m n = true
      · simp [hi] at h
        subst h
        exact ⟨by omega, hi⟩
      · simp [hi] at h
    | some g =>
      rw [hf] at h
      obtain ⟨h1, h2⟩ := rNf_is hf
      by_cases hi : (rImp m n && decide (m (48 + n) < m (48 + g))) = true
      · simp only [hi, if_true, Option.some.injEq] at h
        subst h
        simp only [Bool.and_eq_true] at hi
        exact ⟨by omega, hi.1⟩
      · simp only [hi, Bool.false_eq_true, if_false, Option.some.injEq] at h
        subst h
        exact ⟨by omega, h2⟩
theorem rNb_is {m : Nat → Int32} : ∀ {n f : Nat}, rNb m n = some f → f < n ∧ 0 < rWai m (nI f)
  | 0, f, h => by simp [rNb] at h
  | n + 1, f, h => by
    rw [rNb] at h
    cases hf : rNb m n with
    | none =>
      rw [hf] at h
      by_cases hi : 0 < rWai m (nI n)
      · simp [hi] at h
        subst h
        exact ⟨by omega, hi⟩
      · simp [hi] at h
    | some g =>
      rw [hf] at h
      obtain ⟨h1, h2⟩ := rNb_is hf
      by_cases hi : (decide (0 < rWai m (nI n)) && decide (m (70 + n) < m (70 + g))) = true
      · simp only [hi, if_true, Option.some.injEq] at h
        subst h
        simp only [Bool.and_eq_true, decide_eq_true_eq] at hi
        exact ⟨by omega, hi.1⟩
      · simp only [hi, Bool.false_eq_true, if_false, Option.some.injEq] at h
        subst h
        exact ⟨by omega, h2⟩
theorem rWai_pos {m : Nat → Int32} {k : Nat} {r : Int32} (hk : k < 12) (h1 : m k = 1) (h2 : m (12 + k) = r) : ¬ rWai m r = 0 := by
  have : 0 < rWai m r := fb_ct_pos.mpr ⟨k, hk, by simp [h1, h2]⟩
  omega
theorem rNext_is {m : Nat → Int32} (h : RW m) : rNext m = -1 ∨ ∃ r, r < 5 ∧ rNext m = nI r ∧ ¬ rWai m (nI r) = 0 := by
  rw [rNext]
  cases hf : rNf m 12 with
  | some k =>
    obtain ⟨h1, h2⟩ := rNf_is hf
    simp only [rImp, Bool.and_eq_true, decide_eq_true_eq] at h2
    right
    obtain ⟨r, hr, hr2⟩ := (h.1 k h1).resolve_left (fun e => by rw [e] at h2; exact absurd h2.1 (by decide))
    exact ⟨r, hr, hr2, rWai_pos h1 h2.1 hr2⟩
  | none =>
    cases hb : rNb m 5 with
    | none => exact Or.inl rfl
    | some r =>
      obtain ⟨h1, h2⟩ := rNb_is hb
      exact Or.inr ⟨r, h1, rfl, by omega⟩
theorem rWai_cong {m m' : Nat → Int32} (h : ∀ j, j < 24 → m' j = m j) (r : Int32) : rWai m' r = rWai m r :=
  fb_ct_cong (fun k hk => by rw [h k (by omega), h (12 + k) (by omega)])
theorem rOpn1_lo (m : Nat → Int32) {r j : Nat} (hr : r < 5) (hj : j < 70 ∨ j = 108 ∨ 271 ≤ j) : rOpn1 m r j = m j := by
  simp only [rOpn1]
  rw [upd_ne _ _ (by omega), upd_ne _ _ (by omega), upd_ne _ _ (by omega), upd_ne _ _ (by omega), upd_ne _ _ (by omega)]
theorem rOpn_lo (m : Nat → Int32) {r j : Nat} (hr : r < 5) (hj : j < 70) : rOpn m r j = m j := by
  rw [rOpn, rLogs_lo _ _ _ _ (by omega), rOpn1_lo m hr (by omega)]
theorem RW.opn {m : Nat → Int32} (h : RW m) {r : Nat} (hr : r < 5) : RW (rOpn m r) := by
  rw [rOpn]
  exact (h.cong (fun j hj => rOpn1_lo m hr (by omega)) (by rw [rOpn1_lo m hr (by omega)]; exact h.2.1)).logs _ _ _
theorem RW.ent {m : Nat → Int32} (h : RW m) {r k : Nat} (hr : r < 5) (hk : k < 12) (hm : ¬ m k = 0) : RW (rEnt m r k) := by
  rw [rEnt, rEnt1]
  exact (((((((h.state hk hm 2).put (by omega) _).put (by omega) _).put (by omega) _).put (by omega) _).put (by omega) _)).logs _ _ _
/-- one round of acting, and whether it did something -/
def rOnce (m : Nat → Int32) : (Nat → Int32) × Bool :=
  if rInUse m = -1 then
    if rNext m = -1 then (m, false)
    else (rEnt (rOpn m (rNext m).toNatClampNeg) (rNext m).toNatClampNeg (rInq (rOpn m (rNext m).toNatClampNeg) (rNext m) 0).toNatClampNeg, true)
  else if m 104 = 0 ∨ rWai m (rInUse m) = 0 ∨ m (60 + (rInUse m).toNatClampNeg) ≤ nI (rIns m (rInUse m)) then (m, false)
  else if rDue m (rInUse m) = true then (rLogs (upd m 104 0) 3 (-1) (rInUse m), true)
  else (rEnt m (rInUse m).toNatClampNeg (rInq m (rInUse m) 0).toNatClampNeg, true)
theorem RW.once {m : Nat → Int32} (h : RW m) : RW (rOnce m).1 := by
  rw [rOnce]
  split
  · split
    · exact h
    · rename_i h1 h2
      obtain ⟨r, hr, er, hw⟩ := (rNext_is h).resolve_left h2
      rw [er, nI_clamp (by omega)]
      have hw2 : ¬ rWai (rOpn m r) (nI r) = 0 := by rw [rWai_cong (fun j hj => rOpn_lo m hr (by omega))]; exact hw
      obtain ⟨k, hk, ek, hk1, -⟩ := rInq_ex hw2
      rw [ek, nI_clamp (by omega)]
      exact (h.opn hr).ent hr hk (by rw [hk1]; decide)
  · split
    · exact h
    · rename_i h1 h2
      obtain ⟨r, hr, er⟩ := (rInUse_is h).resolve_left h1
      split
      · exact (h.put (by omega) _).logs _ _ _
      · have hw : ¬ rWai m (rInUse m) = 0 := fun e => h2 (Or.inr (Or.inl e))
        obtain ⟨k, hk, ek, hk1, -⟩ := rInq_ex hw
        rw [er] at ek ⊢
        rw [ek, nI_clamp (by omega), nI_clamp (by omega)]
        exact h.ent hr hk (by rw [hk1]; decide)
def rActs : Nat → (Nat → Int32) → Option (Nat → Int32)
  | 0, _ => none
  | n + 1, m => if (rOnce m).2 = true then rActs n (rOnce m).1 else some m
theorem RW.acts : ∀ {n : Nat} {m m' : Nat → Int32}, RW m → rActs n m = some m' → RW m'
  | 0, m, m', _, h => by simp [rActs] at h
  | n + 1, m, m', hw, h => by
    rw [rActs] at h
    split at h
    · exact RW.acts hw.once h
    · cases h; exact hw
def rTkS (m : Nat → Int32) (k : Nat) : Nat → Int32 :=
  let r := (m (12 + k)).toNatClampNeg
  if m k = 2 then
    let m2 := upd (upd m (85 + r) (m (85 + r) + 1)) (36 + k) (upd m (85 + r) (m (85 + r) + 1) (36 + k) - 1)
    if m2 (36 + k) = 0 then rLogs (rLeaves m2 k) 2 (nI k) (m (12 + k)) else m2
  else if m k = 3 ∧ m 102 ≤ m 103 - m (24 + k) then rLogs (rLeaves m k) 4 (nI k) (m (12 + k)) else m
def rTkL (m : Nat → Int32) : Nat → (Nat → Int32)
  | 0 => m
  | k + 1 => rTkS (rTkL m k) k
def rTick (n : Nat) (m : Nat → Int32) : Option (Nat → Int32) := rActs n (rTkL (upd m 103 (m 103 + 1)) 12)
theorem RW.tkS {m : Nat → Int32} (h : RW m) {k : Nat} (hk : k < 12) : RW (rTkS m k) := by
  simp only [rTkS]
  split
  · rename_i h2
    obtain ⟨r, hr, er⟩ := (h.1 k hk).resolve_left (by rw [h2]; decide)
    rw [er, nI_clamp (by omega)]
    have h3 := (h.put (j := 85 + r) (by omega) (m (85 + r) + 1)).put (j := 36 + k) (by omega) (upd m (85 + r) (m (85 + r) + 1) (36 + k) - 1)
    split
    · exact (h3.leaves hk).logs _ _ _
    · exact h3
  · split
    · exact (h.leaves hk).logs _ _ _
    · exact h
theorem RW.tkL {m : Nat → Int32} (h : RW m) : ∀ {k : Nat}, k ≤ 12 → RW (rTkL m k)
  | 0, _ => h
  | k + 1, hk => (RW.tkL h (by omega)).tkS (by omega)
theorem RW.tick {n : Nat} {m m' : Nat → Int32} (h : RW m) (ht : rTick n m = some m') : RW m' :=
  RW.acts (RW.tkL (h.put (by omega) _) (Nat.le_refl 12)) ht
theorem rOnce_false {m : Nat → Int32} (h : (rOnce m).2 = false) : (rOnce m).1 = m := by
  rw [rOnce] at h ⊢
  split
  · split
    · rfl
    · rename_i h1 h2
      rw [if_pos h1, if_neg h2] at h
      exact Bool.noConfusion h
  · split
    · rfl
    · rename_i h1 h2
      rw [if_neg h1, if_neg h2] at h
      split
      · rename_i h3
        rw [if_pos h3] at h
        exact Bool.noConfusion h
      · rename_i h3
        rw [if_neg h3] at h
        exact Bool.noConfusion h
theorem rActs_step (n : Nat) (m : Nat → Int32) : rActs (n + 1) m = if (rOnce m).2 = true then rActs n (rOnce m).1 else some m := rfl
/-- so many ticks -/
def rPass (n : Nat) : Nat → (Nat → Int32) → Option (Nat → Int32)
  | 0, m => some m
  | T + 1, m => (rPass n T m).bind (rTick n)
theorem RW.pass {n : Nat} {m : Nat → Int32} (h : RW m) : ∀ {T : Nat} {m' : Nat → Int32}, rPass n T m = some m' → RW m'
  | 0, m', e => by cases e; exact h
  | T + 1, m', e => by
    rw [rPass] at e
    obtain ⟨m1, h1, h2⟩ := Option.bind_eq_some_iff.mp e
    exact (RW.pass h h1).tick h2
theorem rPass_le {n : Nat} {m : Nat → Int32} : ∀ {T : Nat} {m' : Nat → Int32}, rPass n T m = some m' → ∀ {t : Nat}, t ≤ T → ∃ m1, rPass n t m = some m1
  | 0, m', e, t, ht => ⟨m, by rw [show t = 0 by omega]; rfl⟩
  | T + 1, m', e, t, ht => by
    by_cases h : t = T + 1
    · exact ⟨m', by rw [h]; exact e⟩
    · rw [rPass] at e
      obtain ⟨m1, h1, h2⟩ := Option.bind_eq_some_iff.mp e
      exact rPass_le h1 (by omega)

