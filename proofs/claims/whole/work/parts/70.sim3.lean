/-! ===== both read alike: one step ===== -/
theorem MD.kprp {κ : sc_T} {ρ : md_T} {x : Nat} (h : MD κ ρ x) (j : Nat) (y : Int32) : MD κ (prp ρ j y) x := h
theorem MD.p9 {κ : sc_T} {ρ : md_T} {x : Nat} (h : MD κ ρ x) (y : Int32) : MD κ (prf ρ 9 y) x := h
theorem MD.p11 {κ : sc_T} {ρ : md_T} {x : Nat} (h : MD κ ρ x) (y : Int32) : MD κ (prf ρ 11 y) x := h
theorem MD.kpro {κ : sc_T} {ρ : md_T} {x : Nat} (h : MD κ ρ x) (j : Nat) (y : Int32) : MD κ (pro ρ j y) x := h
theorem MD.arr {κ : sc_T} {ρ : md_T} {x : Nat} (h : MD κ ρ x) (s : Nat) (k me r n : Int32) : MD (pcn (pcr (pcm (pck κ s k) s me) s r) s n) ρ x := h
theorem MD.kpco {κ : sc_T} {ρ : md_T} {x : Nat} (h : MD κ ρ x) (j : Nat) (y : Int32) : MD (pco κ j y) ρ x := h
theorem MD.c6 {κ : sc_T} {ρ : md_T} {x s : Nat} (h : MD κ ρ x) (hs : s ≤ 100) : MD (pcf κ 6 (nI s)) ρ x := ⟨h.1, h.2.1, ⟨h.2.2.1.1.stp hs, h.2.2.1.2⟩, h.2.2.2.1, h.2.2.2.2⟩
theorem MD.c9 {κ : sc_T} {ρ : md_T} {x d : Nat} (h : MD κ ρ x) (hd : d ≤ 4) : MD (pcf κ 9 (nI d)) ρ x := ⟨h.1, h.2.1, ⟨h.2.2.1.1.dep hd, h.2.2.1.2⟩, h.2.2.2.1, h.2.2.2.2⟩
theorem aS_ok {κ : sc_T} {s : Nat} {k me r n : Int32} (h8 : cf κ 8 = -1) (hs : cS κ = s) (h : s < 100) : aS κ k me r n = pcf (pcn (pcr (pcm (pck κ s k) s me) s r) s n) 6 (nI (s + 1)) := by
  rw [aS, hs, if_pos ⟨h8, h⟩]
theorem pcf_c7 (κ : sc_T) (j : Nat) (hj : j ≠ 7) (e z y : Int32) : pcf (pcf (pcf κ 7 e) j z) 7 y = pcf (pcf κ j z) 7 y := by
  refine Prod.ext ?_ rfl
  funext i
  show (if i = 7 then y else if i = j then z else if i = 7 then e else cf κ i) = if i = 7 then y else if i = j then z else cf κ i
  by_cases h : i = 7
  · rw [if_pos h, if_pos h]
  · rw [if_neg h, if_neg h, if_neg h]
theorem PR.mk' {κ : sc_T} {ρ : md_T} {s d y : Nat} (h : MD κ ρ y) (h6 : cf κ 6 = nI s) (h9 : rf ρ 9 = nI s) (hs : s ≤ y) (hd : cf κ 9 = nI d) (hd2 : rf ρ 11 = nI d) (hst : ST κ ρ s d) : PR (sB κ) ρ s d (skp (cb κ) (cL κ) y) := by
  have hle := h.le
  have hl := h.2.2.1.1.1.2
  have e : sB κ = pcf κ 7 (nI (skp (cb κ) (cL κ) y)) := sB_at h.2.1.1
  have hk := skp_skp (tx := cb κ) h.2.1.2.2
  rw [e]
  refine ⟨⟨h.1, ⟨cA_put κ (by omega), ?_, hle.2.1⟩, ⟨h.2.2.1.1.at hle.2.1, h.2.2.1.2⟩, h.2.2.2.1, h.2.2.2.2⟩, hk, ⟨h6, h9, by omega⟩, ⟨hd, hd2⟩, hst⟩
  show mA ρ = skp (cb κ) (cL κ) (skp (cb κ) (cL κ) y)
  rw [hk]
  exact h.2.1.2.1
theorem MD.on' {κ : sc_T} {ρ : md_T} {x : Nat} {tx : Nat → Int32} {len : Nat} (h : MD κ ρ x) (ht : cb κ = tx) (hl : cL κ = len) {lo hi : Int32} (hlo : ¬ lo ≤ -1) : (skp tx len x < len ∧ rB κ lo hi = (pcf κ 7 (nI (skp tx len x + 1)), tx (skp tx len x)) ∧ mOn ρ lo hi = (prf ρ 6 (nI (skp tx len (skp tx len x + 1))), tx (skp tx len x) - lo)) ∨ (FA (rB κ lo hi).1 (mOn ρ lo hi).1) := by
  subst ht; subst hl; exact h.on hlo
theorem MD.tk' {κ : sc_T} {ρ : md_T} {x : Nat} {tx : Nat → Int32} {len : Nat} (h : MD κ ρ x) (ht : cb κ = tx) (hl : cL κ = len) {sg : Int32} (hsg : ¬ sg = -1) : (skp tx len x < len ∧ rB κ sg sg = (pcf κ 7 (nI (skp tx len x + 1)), sg) ∧ mTk ρ sg = prf ρ 6 (nI (skp tx len (skp tx len x + 1)))) ∨ (FA (rB κ sg sg).1 (mTk ρ sg)) := by
  subst ht; subst hl
  rcases h.tk hsg with ⟨a, b, c, -⟩ | z
  · exact Or.inl ⟨a, b, c⟩
  · exact Or.inr z
theorem MD.go' {κ : sc_T} {ρ : md_T} {x y : Nat} {tx : Nat → Int32} {len : Nat} (h : MD κ ρ x) (ht : cb κ = tx) (hl : cL κ = len) (hy : y ≤ len) : MD (pcf κ 7 (nI y)) (prf ρ 6 (nI (skp tx len y))) y := by
  subst ht; subst hl; exact h.go hy
/-- a number and a semicolon -/
theorem MD.numS {κ : sc_T} {ρ : md_T} {x : Nat} {tx : Nat → Int32} {len : Nat} (h : MD κ ρ x) (ht : cb κ = tx) (hl : cL κ = len) {most k me r : Int32} {s : Nat} (hs : cS κ = s) (h100 : s < 100) (j : Nat) : FA (rB (aS (rN κ most).1 k me r (rN κ most).2) 59 59).1 (mTk (prp (mNm ρ most).1 j (mNm ρ most).2) 59) ∨ ∃ y v, x < y ∧ y ≤ len ∧ (rB (aS (rN κ most).1 k me r (rN κ most).2) 59 59).1 = pcf (pcf (pcn (pcr (pcm (pck κ s k) s me) s r) s v) 6 (nI (s + 1))) 7 (nI y) ∧ mTk (prp (mNm ρ most).1 j (mNm ρ most).2) 59 = prf (prp ρ j v) 6 (nI (skp tx len y)) := by
  subst ht; subst hl
  rcases h.num most with hf | ⟨e, v, he, hxe, hv, e1, e2, e3⟩
  · left
    exact (((hf.aS _ _ _ _).rB 59 59).kprp j _).mTk 59
  · have h8 : cf (pcf κ 7 (nI e)) 8 = -1 := h.1.1
    have hc : cS (pcf κ 7 (nI e)) = s := hs
    have hg := h.go he
    have hA : aS (pcf κ 7 (nI e)) k me r v = pcf (pcn (pcr (pcm (pck (pcf κ 7 (nI e)) s k) s me) s r) s v) 6 (nI (s + 1)) := aS_ok h8 hc h100
    have hM2 := (hg.arr s k me r v).c6 (s := s + 1) (by omega)
    rw [e1, e2]
    show FA (rB (aS (pcf κ 7 (nI e)) k me r v) 59 59).1 _ ∨ ∃ y v', _ ∧ _ ∧ (rB (aS (pcf κ 7 (nI e)) k me r v) 59 59).1 = _ ∧ _
    rw [hA]
    rcases e3 with ⟨d1, d2, d3⟩ | e3
    · left
      have hq := MD.dig (κ := pcf (pcn (pcr (pcm (pck (pcf κ 7 (nI e)) s k) s me) s r) s v) 6 (nI (s + 1))) (ρ := prp (mNm ρ most).1 j v) (e := e) (sg := 59) h8 hM2.2.2.1.1 hM2.2.1.1 d1 d2 (by decide) d3
      exact hq.mTk 59
    · rw [e3]
      have hM3 := hM2.kprp j v
      rcases hM3.tk' (tx := cb κ) (len := cL κ) rfl rfl (sg := 59) (by decide) with ⟨b1, b2, b3⟩ | hf
      · right
        refine ⟨skp (cb κ) (cL κ) e + 1, v, ?_, by omega, ?_, ?_⟩
        · have := skp_ge (tx := cb κ) he
          omega
        · rw [b2]
          exact pcf_c7 (pcn (pcr (pcm (pck κ s k) s me) s r) s v) 6 (by decide) (nI e) (nI (s + 1)) _
        · rw [b3]
          exact prf_prf (prp ρ j v) 6 _ _
      · left
        exact hf
def OK2 (κ : sc_T) (ρ : md_T) (s a : Nat) : Prop := (∃ d' a', a < a' ∧ PR (sB κ) ρ (s + 1) d' a') ∨ FA (sB κ) ρ
theorem OK2.no {κ : sc_T} {ρ : md_T} {s a : Nat} (h : FA κ ρ) (y : Int32) : OK2 κ (prf ρ 9 y) s a := Or.inr h
theorem PR.up0 {κ : sc_T} {ρ : md_T} {s d a : Nat} (h : PR κ ρ s d a) (ha : a < cL κ) : nxt ρ = cb κ a ∧ mUp ρ = prf ρ 6 (nI (skp (cb κ) (cL κ) (a + 1))) ∧ MD (pcf κ 7 (nI (a + 1))) (mUp ρ) (a + 1) ∧ s < 100 ∧ mA ρ = a := by
  have e1 : nxt ρ = cb κ a := by rw [h.1.nx, h.2.1, if_pos ha]
  have e2 : mUp ρ = prf ρ 6 (nI (skp (cb κ) (cL κ) (a + 1))) := by
    have := h.1.up (by rw [h.2.1]; exact ha)
    rw [h.2.1] at this
    exact this
  have hl := h.1.le
  have hs := h.2.2.1.2.2
  exact ⟨e1, e2, by rw [e2]; exact h.1.go (by omega), by omega, by rw [h.1.2.1.2.1, h.2.1]⟩
theorem PR.fin {κ κ' : sc_T} {ρ ρ' : md_T} {s d a y : Nat} (h : PR κ ρ s d a) (hM : MD κ' ρ' y) (hy : a < y) (h6 : cf κ' 6 = nI (s + 1)) (h9 : rf ρ' 9 = nI (s + 1)) {d' : Nat} (hd : cf κ' 9 = nI d') (hd2 : rf ρ' 11 = nI d') (hst : ST κ' ρ' (s + 1) d') : OK2 κ' ρ' s a := by
  have hs := h.2.2.1.2.2
  have hle := hM.le
  exact Or.inl ⟨d', _, by omega, PR.mk' hM h6 h9 (by omega) hd hd2 hst⟩
theorem PR.wlc {κ : sc_T} {ρ : md_T} {s d a : Nat} (h : PR κ ρ s d a) (ha : a < cL κ) {c : Int32} (hc : c = 119 ∨ c = 108 ∨ c = 99) : OK2 (rWlc (pcf κ 7 (nI (a + 1))) c) (mCl ρ c) s a := by
  obtain ⟨u1, u2, u3, h100, u5⟩ := h.up0 ha
  obtain ⟨f1, f2, f3, f4, -, hd4⟩ := h.cS
  have n116 : ¬ c = 116 := by rcases hc with rfl | rfl | rfl <;> decide
  have n114 : ¬ c = 114 := by rcases hc with rfl | rfl | rfl <;> decide
  have hcC : isC c := by
    rcases hc with rfl | rfl | rfl
    · exact Or.inr (Or.inl rfl)
    · exact Or.inr (Or.inr (Or.inl rfl))
    · exact Or.inr (Or.inr (Or.inr (Or.inl rfl)))
  have hM0 := u3.kprp (4 * s) c
  have hl : cL κ ≤ 100 := h.1.le.2.2
  rw [rWlc, mCl, f2, mC4, mC3, if_neg n116]
  rcases hM0.on' (tx := cb κ) (len := cL κ) rfl rfl (lo := 97) (hi := 108) (by decide) with ⟨b1, b2, b3⟩ | hf
  · rw [b2, b3]
    have hM1 := hM0.go' (tx := cb κ) (len := cL κ) (y := skp (cb κ) (cL κ) (a + 1) + 1) rfl rfl (by omega)
    have hge := skp_ge (tx := cb κ) (len := cL κ) (a := a + 1) (by omega)
    revert b1 hM1 hge
    generalize skp (cb κ) (cL κ) (a + 1) = p1
    intro b1 hM1 hge
    rw [pcf_pcf] at hM1
    rw [pcf_pcf]
    generalize cb κ p1 = v0
    show OK2 (rB (aS (pcf κ 7 (nI (p1 + 1))) c (v0 - 97) 0 0) 59 59).1 (mC7 (mC6 (mC5 (prp (prf (prp (mUp ρ) (4 * s) c) 6 (nI (skp (cb κ) (cL κ) (p1 + 1)))) (4 * s + 1) (v0 - 97)) s c) s c) s) s a
    rw [mC5, if_neg n114, mC6, if_neg (fun z => z.2.elim n114 n116), mC7, aS_ok (κ := pcf κ 7 (nI (p1 + 1))) (s := s) h.1.1.1 f1 h100]
    have hM2 := ((hM1.arr s c (v0 - 97) 0 0).c6 (s := s + 1) (by omega)).kprp (4 * s + 1) (v0 - 97)
    rcases hM2.tk' (tx := cb κ) (len := cL κ) rfl rfl (sg := 59) (by decide) with ⟨g1, g2, g3⟩ | hf
    · rw [g2, g3]
      have hM3 := hM2.go' (tx := cb κ) (len := cL κ) (y := skp (cb κ) (cL κ) (p1 + 1) + 1) rfl rfl (by omega)
      have hge2 := skp_ge (tx := cb κ) (len := cL κ) (a := p1 + 1) (by omega)
      refine h.fin (hM3.p9 (nI (s + 1))) (by omega) rfl rfl h.2.2.2.1.1 h.2.2.2.1.2 ?_
      refine h.2.2.2.2.call hcC (me := v0 - 97) (r := 0) (n := 0) rfl rfl rfl rfl rfl rfl (fun j hj => ?_) ?_ (fun _ => ?_) (fun z => absurd z n114) (fun z => absurd z (fun w => w.elim n114 n116))
      · show upd (upd (rp ρ) (4 * s) c) (4 * s + 1) (v0 - 97) j = rp ρ j
        rw [upd_ne _ _ (by omega), upd_ne _ _ (by omega)]
      · show upd (upd (rp ρ) (4 * s) c) (4 * s + 1) (v0 - 97) (4 * s) = c
        rw [upd_ne _ _ (by omega), upd_same]
      · show upd (upd (rp ρ) (4 * s) c) (4 * s + 1) (v0 - 97) (4 * s + 1) = v0 - 97
        rw [upd_same]
    · exact OK2.no hf _
  · have g := ((hf.aS c ((rB (pcf κ 7 (nI (a + 1))) 97 108).2 - 97) 0 0).rB 59 59).kprp (4 * s + 1) (mOn (prp (mUp ρ) (4 * s) c) 97 108).2
    have g2 := g.mTk 59
    have e6 : ∀ ρ5 : md_T, mC6 (mC5 ρ5 s c) s c = ρ5 := fun ρ5 => by rw [mC5, if_neg n114, mC6, if_neg (fun z => z.2.elim n114 n116)]
    rw [e6, mC7]
    exact OK2.no g2 _
theorem PR.tee {κ : sc_T} {ρ : md_T} {s d a : Nat} (h : PR κ ρ s d a) (ha : a < cL κ) : OK2 (rTt (pcf κ 7 (nI (a + 1)))) (mCl ρ 116) s a := by
  obtain ⟨u1, u2, u3, h100, u5⟩ := h.up0 ha
  obtain ⟨f1, f2, f3, f4, -, hd4⟩ := h.cS
  have hM0 := (u3.kprp (4 * s) 116).kprp (4 * s + 1) 0
  have hl : cL κ ≤ 100 := h.1.le.2.2
  rw [rTt, mCl, f2, mC4, mC3, if_pos rfl]
  show OK2 _ (mC7 (mC6 (mC5 (prp (prp (mUp ρ) (4 * s) 116) (4 * s + 1) 0) s 116) s 116) s) s a
  rw [mC5, if_neg (by decide), mC6, if_pos ⟨u3.1.2, Or.inr rfl⟩, mC7]
  rcases hM0.numS (tx := cb κ) (len := cL κ) rfl rfl (most := 999) (k := 116) (me := 0) (r := 0) (s := s) f1 h100 (4 * s + 3) with hf | ⟨y, v, y1, y2, y3, y4⟩
  · exact OK2.no hf _
  · rw [y3, y4]
    have hM1 := ((hM0.arr s 116 0 0 v).c6 (s := s + 1) (by omega)).kprp (4 * s + 3) v
    have hM2 := hM1.go' (tx := cb κ) (len := cL κ) (y := y) rfl rfl y2
    refine h.fin (hM2.p9 (nI (s + 1))) (by omega) rfl rfl h.2.2.2.1.1 h.2.2.2.1.2 ?_
    refine h.2.2.2.2.call (x := 116) (Or.inr (Or.inr (Or.inr (Or.inr rfl)))) (me := 0) (r := 0) (n := v) rfl rfl rfl rfl rfl rfl (fun j hj => ?_) ?_ (fun z => absurd rfl z) (fun z => absurd z (by decide)) (fun _ => ?_)
    · show upd (upd (upd (rp ρ) (4 * s) 116) (4 * s + 1) 0) (4 * s + 3) v j = rp ρ j
      rw [upd_ne _ _ (by omega), upd_ne _ _ (by omega), upd_ne _ _ (by omega)]
    · show upd (upd (upd (rp ρ) (4 * s) 116) (4 * s + 1) 0) (4 * s + 3) v (4 * s) = 116
      rw [upd_ne _ _ (by omega), upd_ne _ _ (by omega), upd_same]
    · show upd (upd (upd (rp ρ) (4 * s) 116) (4 * s + 1) 0) (4 * s + 3) v (4 * s + 3) = v
      rw [upd_same]

