/-! ===== the class reads a text: functions of the script's state ===== -/
/-- the first place from a on that holds no blank, or the end -/
def skf (tx : Nat → Int32) (len : Nat) : Nat → Nat → Nat
  | 0, a => a
  | d + 1, a => if a < len ∧ tx a = 32 then skf tx len d (a + 1) else a
def skp (tx : Nat → Int32) (len a : Nat) : Nat := skf tx len (len - a) a
theorem skp_yes {tx : Nat → Int32} {len a : Nat} (h : a < len) (h2 : tx a = 32) : skp tx len a = skp tx len (a + 1) := by
  rw [skp, show len - a = (len - (a + 1)) + 1 by omega, skf, if_pos ⟨h, h2⟩, skp]
theorem skp_no {tx : Nat → Int32} {len a : Nat} (h : ¬ (a < len ∧ tx a = 32)) : skp tx len a = a := by
  rw [skp]
  by_cases h1 : a < len
  · rw [show len - a = (len - (a + 1)) + 1 by omega, skf, if_neg h]
  · rw [show len - a = 0 by omega, skf]
theorem skp_is {tx : Nat → Int32} {len : Nat} : ∀ (d a : Nat), len - a ≤ d → a ≤ len → a ≤ skp tx len a ∧ skp tx len a ≤ len ∧ ¬ (skp tx len a < len ∧ tx (skp tx len a) = 32)
  | 0, a, h, ha => by
    have : ¬ (a < len ∧ tx a = 32) := by omega
    rw [skp_no this]
    exact ⟨Nat.le_refl _, ha, this⟩
  | d + 1, a, h, ha => by
    by_cases hb : a < len ∧ tx a = 32
    · rw [skp_yes hb.1 hb.2]
      obtain ⟨h1, h2, h3⟩ := skp_is (tx := tx) (len := len) d (a + 1) (by omega) (by omega)
      exact ⟨by omega, h2, h3⟩
    · rw [skp_no hb]
      exact ⟨Nat.le_refl _, ha, hb⟩
theorem skp_ge {tx : Nat → Int32} {len a : Nat} (h : a ≤ len) : a ≤ skp tx len a := (skp_is (len - a) a (Nat.le_refl _) h).1
theorem skp_le {tx : Nat → Int32} {len a : Nat} (h : a ≤ len) : skp tx len a ≤ len := (skp_is (len - a) a (Nat.le_refl _) h).2.1
theorem skp_nb {tx : Nat → Int32} {len a : Nat} (h : a ≤ len) : ¬ (skp tx len a < len ∧ tx (skp tx len a) = 32) := (skp_is (len - a) a (Nat.le_refl _) h).2.2
theorem skp_skp {tx : Nat → Int32} {len a : Nat} (h : a ≤ len) : skp tx len (skp tx len a) = skp tx len a := skp_no (skp_nb h)
theorem skp_cong {tx tx' : Nat → Int32} {len : Nat} (h : ∀ i, i < len → tx' i = tx i) : ∀ (d a : Nat), len - a ≤ d → skp tx' len a = skp tx len a
  | 0, a, hd => by rw [skp_no (by omega), skp_no (by omega)]
  | d + 1, a, hd => by
    by_cases hb : a < len ∧ tx a = 32
    · rw [skp_yes hb.1 hb.2, skp_yes hb.1 (by rw [h a hb.1]; exact hb.2)]
      exact skp_cong h d (a + 1) (by omega)
    · rw [skp_no hb, skp_no (fun z => hb ⟨z.1, by rw [← h a z.1]; exact z.2⟩)]
/-- digits: so many at most, from a on -/
def nmr (tx : Nat → Int32) (len : Nat) : Nat → Nat → Int32 → Nat × Int32
  | 0, a, v => (a, v)
  | d + 1, a, v => if a < len ∧ (48 ≤ tx a ∧ tx a ≤ 57) then nmr tx len d (a + 1) (v * 10 + tx a - 48) else (a, v)
theorem nmr_le {tx : Nat → Int32} {len : Nat} : ∀ (d a : Nat) (v : Int32), a ≤ len → a ≤ (nmr tx len d a v).1 ∧ (nmr tx len d a v).1 ≤ len ∧ (nmr tx len d a v).1 ≤ a + d
  | 0, a, v, h => ⟨Nat.le_refl _, h, Nat.le_refl _⟩
  | d + 1, a, v, h => by
    rw [nmr]
    split
    · obtain ⟨h1, h2, h3⟩ := nmr_le (tx := tx) (len := len) d (a + 1) (v * 10 + tx a - 48) (by omega)
      exact ⟨by omega, h2, by omega⟩
    · exact ⟨Nat.le_refl _, h, by show a ≤ a + (d + 1); omega⟩
theorem nmr_cong {tx tx' : Nat → Int32} {len : Nat} (h : ∀ i, i < len → tx' i = tx i) : ∀ (d a : Nat) (v : Int32), nmr tx' len d a v = nmr tx len d a v
  | 0, a, v => rfl
  | d + 1, a, v => by
    rw [nmr, nmr]
    by_cases ha : a < len
    · rw [h a ha, nmr_cong h d (a + 1)]
    · rw [if_neg (fun z => ha z.1), if_neg (fun z => ha z.1)]
theorem pcf_rd (κ : sc_T) (j : Nat) (x : Int32) (i : Nat) : cf (pcf κ j x) i = if i = j then x else cf κ i := rfl
theorem pcf_pcf (κ : sc_T) (j : Nat) (x y : Int32) : pcf (pcf κ j x) j y = pcf κ j y := by
  refine Prod.ext ?_ rfl
  funext i
  show (if i = j then y else if i = j then x else cf κ i) = if i = j then y else cf κ i
  by_cases h : i = j
  · rw [if_pos h, if_pos h]
  · rw [if_neg h, if_neg h, if_neg h]
theorem pcf_id (κ : sc_T) (j : Nat) : pcf κ j (cf κ j) = κ := by
  refine Prod.ext ?_ rfl
  funext i
  show (if i = j then cf κ j else cf κ i) = cf κ i
  by_cases h : i = j
  · rw [if_pos h, h]
  · rw [if_neg h]
def cL (κ : sc_T) : Nat := (cf κ 1).toNatClampNeg
def cS (κ : sc_T) : Nat := (cf κ 6).toNatClampNeg
def cA (κ : sc_T) : Nat := (cf κ 7).toNatClampNeg
def cD (κ : sc_T) : Nat := (cf κ 9).toNatClampNeg
def SI (κ : sc_T) : Prop := (cf κ 1 = nI (cL κ) ∧ cL κ ≤ 100) ∧ (cf κ 7 = nI (cA κ) ∧ cA κ ≤ cL κ) ∧ (cf κ 6 = nI (cS κ) ∧ cS κ ≤ 100) ∧ (cf κ 9 = nI (cD κ) ∧ cD κ ≤ 4)
theorem cA_put (κ : sc_T) {a : Nat} (h : a < 2 ^ 31) : cA (pcf κ 7 (nI a)) = a := nI_clamp h
theorem cS_put (κ : sc_T) {a : Nat} (h : a < 2 ^ 31) : cS (pcf κ 6 (nI a)) = a := nI_clamp h
theorem cD_put (κ : sc_T) {a : Nat} (h : a < 2 ^ 31) : cD (pcf κ 9 (nI a)) = a := nI_clamp h
theorem SI.at {κ : sc_T} (h : SI κ) {a : Nat} (ha : a ≤ cL κ) : SI (pcf κ 7 (nI a)) := by
  have h1 := h.1.2
  have e : cA (pcf κ 7 (nI a)) = a := cA_put κ (by omega)
  refine ⟨h.1, ⟨?_, ?_⟩, h.2.2⟩
  · rw [e]; rfl
  · rw [e]; exact ha
theorem SI.fault {κ : sc_T} (h : SI κ) (x : Int32) : SI (pcf κ 8 x) := h
theorem SI.dep {κ : sc_T} (h : SI κ) {d : Nat} (hd : d ≤ 4) : SI (pcf κ 9 (nI d)) := by
  have e : cD (pcf κ 9 (nI d)) = d := cD_put κ (by omega)
  refine ⟨h.1, h.2.1, h.2.2.1, ?_, ?_⟩
  · rw [e]; rfl
  · rw [e]; exact hd
theorem SI.stp {κ : sc_T} (h : SI κ) {s : Nat} (hs : s ≤ 100) : SI (pcf κ 6 (nI s)) := by
  have e : cS (pcf κ 6 (nI s)) = s := cS_put κ (by omega)
  refine ⟨h.1, h.2.1, ⟨?_, ?_⟩, h.2.2.2⟩
  · rw [e]; rfl
  · rw [e]; exact hs
def sB (κ : sc_T) : sc_T := pcf κ 7 (nI (skp (cb κ) (cL κ) (cA κ)))
theorem SI.kB {κ : sc_T} (h : SI κ) : SI (sB κ) := h.at (skp_le h.2.1.2)
def rB (κ : sc_T) (lo hi : Int32) : sc_T × Int32 :=
  if cf κ 8 = -1 then
    if cA (sB κ) < cL κ ∧ (lo ≤ cb κ (cA (sB κ)) ∧ cb κ (cA (sB κ)) ≤ hi) then (pcf (sB κ) 7 (nI (cA (sB κ) + 1)), cb κ (cA (sB κ)))
    else (pcf (sB κ) 8 (cf (sB κ) 7), lo)
  else (κ, lo)
theorem SI.kRB {κ : sc_T} (h : SI κ) (lo hi : Int32) : SI (rB κ lo hi).1 := by
  rw [rB]
  split
  · split
    · rename_i h1 h2
      exact h.kB.at (by show _ ≤ cL κ; omega)
    · exact h.kB.fault _
  · exact h
def rN (κ : sc_T) (most : Int32) : sc_T × Int32 :=
  if cf κ 8 = -1 then
    (if 1 ≤ (nmr (cb κ) (cL κ) 3 (cA (sB κ)) 0).2 ∧ (nmr (cb κ) (cL κ) 3 (cA (sB κ)) 0).2 ≤ most then pcf (sB κ) 7 (nI (nmr (cb κ) (cL κ) 3 (cA (sB κ)) 0).1)
     else pcf (pcf (sB κ) 7 (nI (nmr (cb κ) (cL κ) 3 (cA (sB κ)) 0).1)) 8 (cf (sB κ) 7), (nmr (cb κ) (cL κ) 3 (cA (sB κ)) 0).2)
  else (κ, 0)
theorem SI.kRN {κ : sc_T} (h : SI κ) (most : Int32) : SI (rN κ most).1 := by
  have h1 : (nmr (cb κ) (cL κ) 3 (cA (sB κ)) 0).1 ≤ cL (sB κ) := (nmr_le 3 (cA (sB κ)) 0 h.kB.2.1.2).2.1
  rw [rN]
  split
  · show SI (if _ then _ else _)
    split
    · exact h.kB.at h1
    · exact (h.kB.at h1).fault _
  · exact h
def aS (κ : sc_T) (k me r n : Int32) : sc_T :=
  if cf κ 8 = -1 ∧ cS κ < 100 then pcf (pcn (pcr (pcm (pck κ (cS κ) k) (cS κ) me) (cS κ) r) (cS κ) n) 6 (nI (cS κ + 1)) else κ
theorem SI.kAS {κ : sc_T} (h : SI κ) (k me r n : Int32) : SI (aS κ k me r n) := by
  rw [aS]
  split
  · rename_i h1
    have h2 : SI (pcn (pcr (pcm (pck κ (cS κ) k) (cS κ) me) (cS κ) r) (cS κ) n) := h
    exact h2.stp (by omega)
  · exact h
def rRq (κ : sc_T) : sc_T :=
  let p1 := rB κ 97 108
  let p2 := rB p1.1 48 52
  let p3 := rB p2.1 44 44
  let p4 := rN p3.1 999
  (rB (aS p4.1 114 (p1.2 - 97) (p2.2 - 48) p4.2) 59 59).1
theorem SI.kRq {κ : sc_T} (h : SI κ) : SI (rRq κ) := ((((((h.kRB 97 108).kRB 48 52).kRB 44 44).kRN 999).kAS _ _ _ _).kRB 59 59)
def rOp1 (κ : sc_T) : sc_T := if cf κ 8 = -1 ∧ 4 ≤ cD κ then pcf (sB κ) 8 (cf (sB κ) 7) else κ
def rOp2 (κ : sc_T) (v : Int32) : sc_T := if cf κ 8 = -1 ∧ cD κ < 4 then aS (pcf (pco κ (cD κ) (cf κ 6)) 9 (nI (cD κ + 1))) 40 0 0 v else κ
def rOp (κ : sc_T) : sc_T := rOp2 (rB (rOp1 (rN κ 50).1) 40 40).1 (rN κ 50).2
theorem SI.kO1 {κ : sc_T} (h : SI κ) : SI (rOp1 κ) := by
  rw [rOp1]
  split
  · exact h.kB.fault _
  · exact h
theorem SI.kO2 {κ : sc_T} (h : SI κ) (v : Int32) : SI (rOp2 κ v) := by
  rw [rOp2]
  split
  · rename_i h1
    have h2 : SI (pco κ (cD κ) (cf κ 6)) := h
    exact (h2.dep (by omega)).kAS _ _ _ _
  · exact h
theorem SI.kOp {κ : sc_T} (h : SI κ) : SI (rOp κ) := (((h.kRN 50).kO1).kRB 40 40).kO2 _
def rCs (κ : sc_T) : sc_T := if cD κ = 0 then pcf κ 8 (cf κ 7 - 1) else aS (pcf κ 9 (nI (cD κ - 1))) 41 0 0 (co κ (cD κ - 1))
theorem SI.kCs {κ : sc_T} (h : SI κ) : SI (rCs κ) := by
  rw [rCs]
  split
  · exact h.fault _
  · exact (h.dep (by have := h.2.2.2.2; omega)).kAS _ _ _ _
def rWlc (κ : sc_T) (k : Int32) : sc_T := (rB (aS (rB κ 97 108).1 k ((rB κ 97 108).2 - 97) 0 0) 59 59).1
def rTt (κ : sc_T) : sc_T := (rB (aS (rN κ 999).1 116 0 0 (rN κ 999).2) 59 59).1
def rSt2 (κ : sc_T) (k : Int32) : sc_T :=
  if k = 41 then rCs κ else if k = 114 then rRq κ else if k = 119 ∨ k = 108 ∨ k = 99 then rWlc κ k else if k = 116 then rTt κ else pcf κ 8 (cf κ 7 - 1)
def rSt (κ : sc_T) : sc_T := if 48 ≤ cb κ (cA κ) ∧ cb κ (cA κ) ≤ 57 then rOp κ else rSt2 (pcf κ 7 (nI (cA κ + 1))) (cb κ (cA κ))
theorem SI.kS2 {κ : sc_T} (h : SI κ) (k : Int32) : SI (rSt2 κ k) := by
  rw [rSt2]
  split
  · exact h.kCs
  · split
    · exact h.kRq
    · split
      · exact ((h.kRB 97 108).kAS _ _ _ _).kRB 59 59
      · split
        · exact ((h.kRN 999).kAS _ _ _ _).kRB 59 59
        · exact h.fault _
theorem SI.kSt {κ : sc_T} (h : SI κ) (ha : cA κ < cL κ) : SI (rSt κ) := by
  rw [rSt]
  split
  · exact h.kOp
  · exact (h.at (by omega)).kS2 _
def rLoop : Nat → sc_T → sc_T
  | 0, κ => κ
  | i + 1, κ => if cA κ < cL κ ∧ cf κ 8 = -1 then rLoop i (sB (rSt κ)) else κ
theorem SI.loop : ∀ {i : Nat} {κ : sc_T}, SI κ → SI (rLoop i κ)
  | 0, κ, h => h
  | i + 1, κ, h => by
    rw [rLoop]
    split
    · rename_i h1
      exact SI.loop (h.kSt h1.1).kB
    · exact h
def rBegin (κ : sc_T) : sc_T := pcf (pcf (pcf (pcf κ 7 0) 8 (-1)) 9 0) 6 0
def rEnd (κ : sc_T) : sc_T := if cf κ 8 = -1 ∧ 0 < cD κ then pcf κ 8 (cf κ 1) else κ
def rRead (κ : sc_T) : sc_T := rEnd (rLoop 100 (sB (rBegin κ)))

