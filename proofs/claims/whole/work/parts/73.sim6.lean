/-! ===== both read alike: the whole text ===== -/
def KK (κ κ' : sc_T) : Prop := cb κ' = cb κ ∧ cf κ' 1 = cf κ 1
theorem KK.trans {a b c : sc_T} (h : KK a b) (h2 : KK b c) : KK a c := ⟨h2.1.trans h.1, h2.2.trans h.2⟩
theorem KK.refl' (a : sc_T) : KK a a := ⟨rfl, rfl⟩
theorem KK.p (κ : sc_T) (j : Nat) (hj : j ≠ 1) (x : Int32) : KK κ (pcf κ j x) := by
  refine ⟨rfl, ?_⟩
  show (if 1 = j then x else cf κ 1) = cf κ 1
  rw [if_neg (fun z => hj z.symm)]
theorem KK.xB (κ : sc_T) : KK κ (sB κ) := KK.p κ 7 (by decide) _
theorem KK.xR (κ : sc_T) (lo hi : Int32) : KK κ (rB κ lo hi).1 := by
  rw [rB]
  split
  · split
    · exact (KK.xB κ).trans (KK.p _ 7 (by decide) _)
    · exact (KK.xB κ).trans (KK.p _ 8 (by decide) _)
  · exact KK.refl' κ
theorem KK.xN (κ : sc_T) (most : Int32) : KK κ (rN κ most).1 := by
  rw [rN]
  split
  · show KK κ (if _ then _ else _)
    split
    · exact (KK.xB κ).trans (KK.p _ 7 (by decide) _)
    · exact ((KK.xB κ).trans (KK.p _ 7 (by decide) _)).trans (KK.p _ 8 (by decide) _)
  · exact KK.refl' κ
theorem KK.xA (κ : sc_T) (k me r n : Int32) : KK κ (aS κ k me r n) := by
  rw [aS]
  split
  · exact ⟨rfl, rfl⟩
  · exact KK.refl' κ
theorem KK.xO1 (κ : sc_T) : KK κ (rOp1 κ) := by
  rw [rOp1]
  split
  · exact (KK.xB κ).trans (KK.p _ 8 (by decide) _)
  · exact KK.refl' κ
theorem KK.xO2 (κ : sc_T) (v : Int32) : KK κ (rOp2 κ v) := by
  rw [rOp2]
  split
  · have h1 : KK κ (pcf (pco κ (cD κ) (cf κ 6)) 9 (nI (cD κ + 1))) := ⟨rfl, rfl⟩
    exact h1.trans (KK.xA _ _ _ _ _)
  · exact KK.refl' κ
theorem KK.xO (κ : sc_T) : KK κ (rOp κ) := by
  rw [rOp]
  exact (((KK.xN κ 50).trans (KK.xO1 _)).trans (KK.xR _ _ _)).trans (KK.xO2 _ _)
theorem KK.xC (κ : sc_T) : KK κ (rCs κ) := by
  rw [rCs]
  split
  · exact KK.p _ 8 (by decide) _
  · exact (KK.p _ 9 (by decide) _).trans (KK.xA _ _ _ _ _)
theorem KK.xQ (κ : sc_T) : KK κ (rRq κ) := by
  rw [rRq]
  exact (((((KK.xR κ 97 108).trans (KK.xR _ 48 52)).trans (KK.xR _ 44 44)).trans (KK.xN _ 999)).trans (KK.xA _ _ _ _ _)).trans (KK.xR _ 59 59)
theorem KK.xS2 (κ : sc_T) (k : Int32) : KK κ (rSt2 κ k) := by
  rw [rSt2]
  split
  · exact KK.xC κ
  · split
    · exact KK.xQ κ
    · split
      · rw [rWlc]
        exact ((KK.xR κ 97 108).trans (KK.xA _ _ _ _ _)).trans (KK.xR _ 59 59)
      · split
        · rw [rTt]
          exact ((KK.xN κ 999).trans (KK.xA _ _ _ _ _)).trans (KK.xR _ 59 59)
        · exact KK.p _ 8 (by decide) _
theorem KK.xS (κ : sc_T) : KK κ (rSt κ) := by
  rw [rSt]
  split
  · exact KK.xO κ
  · exact (KK.p κ 7 (by decide) _).trans (KK.xS2 _ _)
theorem KK.xL : ∀ (i : Nat) (κ : sc_T), KK κ (rLoop i κ)
  | 0, κ => KK.refl' κ
  | i + 1, κ => by
    rw [rLoop]
    split
    · exact ((KK.xS κ).trans (KK.xB _)).trans (KK.xL i _)
    · exact KK.refl' κ
theorem KK.xE (κ : sc_T) : KK κ (rEnd κ) := by
  rw [rEnd]
  split
  · exact KK.p _ 8 (by decide) _
  · exact KK.refl' κ
theorem KK.xRd (κ : sc_T) : KK κ (rRead κ) := by
  rw [rRead]
  have h0 : KK κ (rBegin κ) := (((KK.p κ 7 (by decide) 0).trans (KK.p _ 8 (by decide) (-1))).trans (KK.p _ 9 (by decide) 0)).trans (KK.p _ 6 (by decide) 0)
  exact ((h0.trans (KK.xB _)).trans (KK.xL _ _)).trans (KK.xE _)
def KM (ρ ρ' : md_T) : Prop := rf ρ' 5 = rf ρ 5 ∧ rm ρ' = rm ρ ∧ ra ρ' = ra ρ ∧ rs ρ' = rs ρ ∧ ri ρ' = ri ρ ∧ rt ρ' = rt ρ
theorem KM.trans {a b c : md_T} (h : KM a b) (h2 : KM b c) : KM a c := ⟨h2.1.trans h.1, h2.2.1.trans h.2.1, h2.2.2.1.trans h.2.2.1, h2.2.2.2.1.trans h.2.2.2.1, h2.2.2.2.2.1.trans h.2.2.2.2.1, h2.2.2.2.2.2.trans h.2.2.2.2.2⟩
theorem KM.refl' (a : md_T) : KM a a := ⟨rfl, rfl, rfl, rfl, rfl, rfl⟩
theorem MK.toKM {a b : md_T} (h : MK a b) : KM a b := by
  obtain ⟨h1, -, -, h4⟩ := h
  refine ⟨h1, ?_, ?_, ?_, ?_, ?_⟩
  · show b.2.1 = a.2.1; rw [h4]
  · show b.2.2.1 = a.2.2.1; rw [h4]
  · show b.2.2.2.1 = a.2.2.2.1; rw [h4]
  · show b.2.2.2.2.1 = a.2.2.2.2.1; rw [h4]
  · show b.2.2.2.2.2.1 = a.2.2.2.2.2.1; rw [h4]
theorem KM.q (ρ : md_T) (j : Nat) (x : Int32) : KM ρ (prp ρ j x) := ⟨rfl, rfl, rfl, rfl, rfl, rfl⟩
theorem KM.o (ρ : md_T) (j : Nat) (x : Int32) : KM ρ (pro ρ j x) := ⟨rfl, rfl, rfl, rfl, rfl, rfl⟩
theorem KM.p (ρ : md_T) (j : Nat) (hj : j ≠ 5) (x : Int32) : KM ρ (prf ρ j x) := by
  refine ⟨?_, rfl, rfl, rfl, rfl, rfl⟩
  show (if 5 = j then x else rf ρ 5) = rf ρ 5
  rw [if_neg (fun z => hj z.symm)]
theorem KM.xUp (ρ : md_T) : KM ρ (mUp ρ) := (KM.p ρ 6 (by decide) _).trans (MK.kSk _).toKM
theorem KM.xCl (ρ : md_T) (c : Int32) : KM ρ (mCl ρ c) := by
  rw [mCl]
  have h3 : ∀ ρ : md_T, KM ρ (mC3 ρ c).1 := fun ρ => by
    rw [mC3]
    split
    · exact KM.refl' ρ
    · exact (MK.kOn ρ 97 108).toKM
  have h4 : ∀ ρ : md_T, KM ρ (mC4 ρ (mS ρ) c) := fun ρ => by
    rw [mC4]
    exact ((KM.q ρ _ _).trans (h3 _)).trans (KM.q _ _ _)
  have h4' : ∀ (ρ : md_T) (s : Nat), KM ρ (mC4 ρ s c) := fun ρ s => by
    rw [mC4]
    exact ((KM.q ρ _ _).trans (h3 _)).trans (KM.q _ _ _)
  have h5 : ∀ (ρ : md_T) (s : Nat), KM ρ (mC5 ρ s c) := fun ρ s => by
    rw [mC5]
    split
    · exact ((MK.kOn ρ 48 52).toKM.trans (KM.q _ _ _)).trans (MK.kTk _ _).toKM
    · exact KM.refl' ρ
  have h6 : ∀ (ρ : md_T) (s : Nat), KM ρ (mC6 ρ s c) := fun ρ s => by
    rw [mC6]
    split
    · exact (MK.kNm ρ 999).toKM.trans (KM.q _ _ _)
    · exact KM.refl' ρ
  have h7 : ∀ (ρ : md_T) (s : Nat), KM ρ (mC7 ρ s) := fun ρ s => by
    rw [mC7]
    exact (MK.kTk ρ 59).toKM.trans (KM.p _ 9 (by decide) _)
  exact ((((KM.xUp ρ).trans (h4' _ _)).trans (h5 _ _)).trans (h6 _ _)).trans (h7 _ _)
theorem KM.xSt (ρ : md_T) : KM ρ (mSt ρ) := by
  rw [mSt]
  split
  · exact KM.xCl ρ _
  · split
    · rw [mCls]
      exact (((((KM.p ρ 11 (by decide) _).trans (KM.q _ _ _)).trans (KM.q _ _ _)).trans (KM.p _ 9 (by decide) _)).trans (KM.p _ 6 (by decide) _)).trans (MK.kSk _).toKM
    · rw [mOpn]
      have h1 : KM ρ (mP1 ρ (mS ρ)) := by
        rw [mP1]
        exact ((KM.q ρ _ _).trans (MK.kNm _ 50).toKM).trans (KM.q _ _ _)
      have h2 : ∀ ρ : md_T, KM ρ (mP2 ρ) := fun ρ => by
        rw [mP2]
        split
        · exact (MK.kFl ρ _).toKM
        · exact KM.refl' ρ
      have h3 : ∀ (ρ : md_T) (s d : Nat), KM ρ (mP3 ρ s d) := fun ρ s d => by
        rw [mP3]
        split
        · exact ((KM.o ρ _ _).trans (KM.p _ 11 (by decide) _)).trans (KM.p _ 9 (by decide) _)
        · exact KM.refl' ρ
      exact ((h1.trans (h2 _)).trans (MK.kTk _ 40).toKM).trans (h3 _ _ _)
theorem KM.xL : ∀ {n : Nat} {ρ ρ' : md_T}, mLoop n ρ ρ' → KM ρ ρ'
  | 0, ρ, ρ', h => absurd h (by simp [mLoop])
  | n + 1, ρ, ρ', h => by
    obtain ⟨h1, h2, h3⟩ := h
    by_cases hc : mA ρ < mL ρ ∧ rf ρ 7 = -1
    · exact (KM.xSt ρ).trans (KM.xL (h2 hc).2)
    · rw [h3 hc]
      exact KM.refl' ρ
theorem KM.xE (ρ : md_T) : KM ρ (mEnd ρ) := by
  rw [mEnd]
  split
  · exact (MK.kFl ρ _).toKM
  · exact KM.refl' ρ
theorem KM.xRd {n : Nat} {ρ ρ' : md_T} (h : mLoop n (mSk (mBegin ρ)) ρ') : KM ρ (mEnd ρ') := by
  have h0 : KM ρ (mBegin ρ) := (((KM.p ρ 6 (by decide) 0).trans (KM.p _ 7 (by decide) (-1))).trans (KM.p _ 9 (by decide) 0)).trans (KM.p _ 11 (by decide) 0)
  exact ((h0.trans (MK.kSk _).toKM).trans (KM.xL h)).trans (KM.xE _)
theorem TI.p9 {ρ : md_T} (h : TI ρ) (x : Int32) : TI (prf ρ 9 x) := h
theorem TI.p11 {ρ : md_T} (h : TI ρ) (x : Int32) : TI (prf ρ 11 x) := h
theorem TI.po {ρ : md_T} (h : TI ρ) (j : Nat) (x : Int32) : TI (pro ρ j x) := h
theorem TI.kSt {ρ : md_T} (h : TI ρ) (ha : mA ρ < mL ρ) : TI (mSt ρ) := by
  rw [mSt]
  split
  · rw [mCl, mC7]
    exact (((((h.kUp ha).kC4 _ _).kC5 _ _).kC6 _ _).kTk (by decide)).p9 _
  · split
    · rw [mCls]
      exact ((((((h.p11 _).kp _ _).kp _ _).p9 _).at (by show _ ≤ mL ρ; omega))).kSk
    · rw [mOpn, mP3]
      have h1 := ((h.kP1 (mS ρ)).kP2).kTk (sg := 40) (by decide)
      split
      · exact ((h1.po _ _).p11 _).p9 _
      · exact h1
theorem PR.pm {κ : sc_T} {ρ : md_T} {s d a : Nat} (h : PR κ ρ s d a) (ha : a < cL κ) : PM ρ ∧ mA ρ < mL ρ := by
  obtain ⟨u1, u2, u3, h100, u5⟩ := h.up0 ha
  obtain ⟨f1, f2, f3, f4, -, hd4⟩ := h.cS
  refine ⟨⟨h.1.2.2.1.2, by rw [f2]; exact h.2.2.1.2.1, by rw [f2]; omega, by rw [f4]; exact h.2.2.2.1.2, by rw [f4]; exact hd4⟩, ?_⟩
  rw [u5, h.1.2.2.2.1]
  exact ha
theorem rLoop_fault {κ : sc_T} (h : ¬ cf κ 8 = -1) : ∀ i, rLoop i κ = κ
  | 0 => rfl
  | i + 1 => by rw [rLoop, if_neg (fun z => h z.2)]
theorem loop_sim : ∀ (i : Nat) {κ : sc_T} {ρ : md_T} {s d a : Nat}, cL κ - a ≤ i → PR κ ρ s d a → ∃ n ρ', mLoop n ρ ρ' ∧ (FA (rLoop i κ) ρ' ∨ ∃ s' d', PR (rLoop i κ) ρ' s' d' (cL κ)) := by
  have stop : ∀ (i : Nat) {κ : sc_T} {ρ : md_T} {s d a : Nat}, ¬ a < cL κ → PR κ ρ s d a → ∃ n ρ', mLoop n ρ ρ' ∧ (FA (rLoop i κ) ρ' ∨ ∃ s' d', PR (rLoop i κ) ρ' s' d' (cL κ)) := by
    intro i κ ρ s d a hn h
    have ha : a = cL κ := by
      have := h.1.2.1.2.2
      omega
    have hm : ¬ mA ρ < mL ρ := by
      rw [h.1.2.1.2.1, h.1.2.2.2.1, h.2.1]
      exact hn
    have e : rLoop i κ = κ := by
      cases i with
      | zero => rfl
      | succ i => rw [rLoop, if_neg (fun z => hn (by rw [← h.1.2.1.1]; exact z.1))]
    refine ⟨1, ρ, ⟨h.1.2.2.1.2, fun z => absurd z.1 hm, fun _ => rfl⟩, Or.inr ⟨s, d, ?_⟩⟩
    rw [e, ← ha]
    exact h
  intro i
  induction i with
  | zero =>
    intro κ ρ s d a hi h
    exact stop 0 (by omega) h
  | succ i ih =>
    intro κ ρ s d a hi h
    by_cases ha : a < cL κ
    · obtain ⟨hpm, hml⟩ := h.pm ha
      have hc : cA κ < cL κ ∧ cf κ 8 = -1 := ⟨by rw [h.1.2.1.1]; exact ha, h.1.1.1⟩
      have hkk := (KK.xS κ).trans (KK.xB _)
      have hcl : cL (sB (rSt κ)) = cL κ := by rw [cL, cL, hkk.2]
      rw [rLoop, if_pos hc]
      rcases h.step ha with ⟨d', a', haa, hp⟩ | hf
      · obtain ⟨n, ρ', hl, hr⟩ := ih (by rw [hcl]; omega) hp
        rw [hcl] at hr
        exact ⟨n + 1, ρ', ⟨h.1.2.2.1.2, fun _ => ⟨hpm, hl⟩, fun z => absurd ⟨hml, h.1.1.2⟩ z⟩, hr⟩
      · refine ⟨2, mSt ρ, ⟨h.1.2.2.1.2, fun _ => ⟨hpm, h.1.2.2.1.2.kSt hml, fun z => absurd z.2 hf.no.2, fun _ => rfl⟩, fun z => absurd ⟨hml, h.1.1.2⟩ z⟩, Or.inl ?_⟩
        rw [rLoop_fault hf.no.1]
        exact hf
    · exact stop (i + 1) ha h
/-- both texts are the same -/
def TX (κ : sc_T) (ρ : md_T) : Prop := cf κ 1 = nI (cL κ) ∧ cL κ ≤ 100 ∧ rf ρ 5 = nI (cL κ) ∧ ∀ i, i < cL κ → rt ρ i = cb κ i
theorem read_sim {κ : sc_T} {ρ : md_T} (h : TX κ ρ) : ∃ n ρ', mLoop n (mSk (mBegin ρ)) ρ' ∧ ((∃ f, f ≤ 100 ∧ cf (rRead κ) 8 = nI f ∧ rf (mEnd ρ') 7 = nI f) ∨ (cf (rRead κ) 8 = -1 ∧ rf (mEnd ρ') 7 = -1 ∧ ∃ s, s ≤ 100 ∧ cf (rRead κ) 6 = nI s ∧ rf (mEnd ρ') 9 = nI s ∧ ST (rRead κ) (mEnd ρ') s 0)) := by
  obtain ⟨t1, t2, t3, t4⟩ := h
  have hmL : mL ρ = cL κ := by rw [mL, t3, nI_clamp (by omega)]
  have hskr : skp (rt ρ) (mL ρ) 0 = skp (cb κ) (cL κ) 0 := by
    rw [hmL]
    exact skp_cong t4 _ 0 (Nat.le_refl _)
  have hk0 := skp_le (tx := cb κ) (len := cL κ) (a := 0) (Nat.zero_le _)
  have hTI : TI (mBegin ρ) := ⟨⟨by show rf ρ 5 = nI (mL ρ); rw [hmL]; exact t3, by show mL ρ ≤ 100; omega⟩, rfl, Nat.zero_le _⟩
  have hSI : SI (rBegin κ) := ⟨⟨t1, t2⟩, ⟨rfl, Nat.zero_le _⟩, ⟨rfl, Nat.zero_le _⟩, ⟨rfl, Nat.zero_le _⟩⟩
  have hM : MD (rBegin κ) (mSk (mBegin ρ)) 0 := by
    refine ⟨⟨rfl, rfl⟩, ⟨rfl, ?_, Nat.zero_le _⟩, ⟨hSI, hTI.kSk⟩, hmL, t4⟩
    show (nI (skp (rt ρ) (mL ρ) 0)).toNatClampNeg = skp (cb κ) (cL κ) 0
    rw [hskr, nI_clamp (by omega)]
  have hST : ST (rBegin κ) (mSk (mBegin ρ)) 0 0 := ⟨fun k hk => absurd hk (by omega), ⟨rfl, by omega⟩, fun i hi => absurd hi (by omega)⟩
  have hP := PR.mk' hM (s := 0) (d := 0) rfl rfl (Nat.le_refl _) rfl rfl hST
  have hcl : cL (sB (rBegin κ)) = cL κ := rfl
  obtain ⟨n, ρ', hl, hr⟩ := loop_sim 100 (by rw [hcl]; omega) hP
  rw [hcl] at hr
  refine ⟨n, ρ', hl, ?_⟩
  rw [rRead]
  revert hr
  generalize rLoop 100 (sB (rBegin κ)) = κ1
  intro hr
  rcases hr with hf | ⟨s, d, hp⟩
  · left
    obtain ⟨f, f1, f2, f3⟩ := hf
    refine ⟨f, f1, ?_, ?_⟩
    · rw [rEnd, if_neg (fun z => by rw [f2] at z; exact nI_ne_m1 (by omega) z.1)]
      exact f2
    · rw [mEnd]
      split
      · rw [mFl_fault (by rw [f3]; exact nI_ne_m1 (by omega))]
        exact f3
      · exact f3
  · obtain ⟨f1, f2, f3, f4, hs1, hd4⟩ := hp.cS
    by_cases hd : d = 0
    · right
      subst hd
      have e1 : rEnd κ1 = κ1 := by rw [rEnd, if_neg (fun z => by omega)]
      have e2 : mEnd ρ' = ρ' := by
        rw [mEnd, if_neg]
        rw [hp.2.2.2.1.2]
        decide
      rw [e1, e2]
      exact ⟨hp.1.1.1, hp.1.1.2, s, hs1, hp.2.2.1.1, hp.2.2.1.2.1, hp.2.2.2.2⟩
    · left
      have e0 : cf κ1 1 = nI (cL κ1) := hp.1.2.2.1.1.1.1
      have e3 : rf ρ' 5 = nI (cL κ1) := by
        have := hp.1.2.2.1.2.1.1
        rw [hp.1.2.2.2.1] at this
        exact this
      refine ⟨cL κ1, hp.1.2.2.1.1.1.2, ?_, ?_⟩
      · rw [rEnd, if_pos ⟨hp.1.1.1, by omega⟩]
        exact e0
      · have h11 : 0 < rf ρ' 11 := by
          rw [hp.2.2.2.1.2]
          exact nI_lt (a := 0) (by omega) (by omega)
        rw [mEnd, if_pos h11]
        show (if rf ρ' 7 = -1 then rf ρ' 5 else rf ρ' 7) = _
        rw [if_pos hp.1.1.2]
        exact e3

