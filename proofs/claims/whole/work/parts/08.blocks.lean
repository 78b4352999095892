/-! ===== blocks of memory ===== -/
def bput (b n : Nat) (V : Nat → Nat → Int32) (M : Nat → Nat → Int32) : Nat → Nat → Int32 := fun a => if b ≤ a ∧ a < b + n then V (a - b) else M a
theorem bput_at {b n o : Nat} (V M : Nat → Nat → Int32) (h : o < n) : bput b n V M (b + o) = V o := by
  have h1 : b ≤ b + o ∧ b + o < b + n := ⟨by omega, by omega⟩
  simp only [bput, h1, and_self, if_true, Nat.add_sub_cancel_left]
theorem bput_out {b n a : Nat} (V M : Nat → Nat → Int32) (h : a < b ∨ b + n ≤ a) : bput b n V M a = M a := by
  have h1 : ¬ (b ≤ a ∧ a < b + n) := by omega
  simp only [bput, h1, if_false]
theorem bput_u {b n o j : Nat} {x : Int32} (V M : Nat → Nat → Int32) (h : o < n) : ai_u (bput b n V M) (b + o) j x = bput b n (ai_u V o j x) M := by
  funext a
  by_cases ha : a = b + o
  · subst ha
    rw [ai_u_at, bput_at _ _ h, bput_at _ _ h, ai_u_at]
  · rw [ai_u_ne _ _ _ ha]
    by_cases hb : b ≤ a ∧ a < b + n
    · have h2 : a - b ≠ o := by omega
      simp only [bput, hb, and_self, if_true]
      rw [ai_u_ne _ _ _ h2]
    · simp only [bput, hb, if_false]
theorem bput_bput (b n : Nat) (V V' M : Nat → Nat → Int32) : bput b n V (bput b n V' M) = bput b n V M := by
  funext a
  by_cases hb : b ≤ a ∧ a < b + n
  · simp only [bput, hb, and_self, if_true]
  · simp only [bput, hb, if_false]
theorem bput_comm {b n c m : Nat} (V W M : Nat → Nat → Int32) (h : b + n ≤ c ∨ c + m ≤ b) : bput b n V (bput c m W M) = bput c m W (bput b n V M) := by
  funext a
  by_cases hb : b ≤ a ∧ a < b + n
  · have hc : ¬ (c ≤ a ∧ a < c + m) := by omega
    simp only [bput, hb, hc, and_self, if_true, if_false]
  · simp only [bput, hb, if_false]

/-! ===== a house: members, rooms, fields, places, the line's length (1), parts, what happened (1), rules ===== -/
abbrev hs_T : Type := (Nat → Nat → Int32) × (Nat → Nat → Int32) × (Nat → Int32) × (Nat → Int32) × (Nat → Int32) × (Nat → Int32) × (Nat → Int32) × (Nat → Int32)
abbrev hm (σ : hs_T) : (Nat → Nat → Int32) := σ.1
abbrev hr (σ : hs_T) : (Nat → Nat → Int32) := σ.2.1
abbrev hf (σ : hs_T) : (Nat → Int32) := σ.2.2.1
abbrev hp (σ : hs_T) : (Nat → Int32) := σ.2.2.2.1
abbrev hn (σ : hs_T) : (Nat → Int32) := σ.2.2.2.2.1
abbrev hg (σ : hs_T) : (Nat → Int32) := σ.2.2.2.2.2.1
abbrev he (σ : hs_T) : (Nat → Int32) := σ.2.2.2.2.2.2.1
abbrev hu (σ : hs_T) : (Nat → Int32) := σ.2.2.2.2.2.2.2
def phm (σ : hs_T) (k j : Nat) (x : Int32) : hs_T := (ai_u (σ.1) k j x, σ.2)
def phr (σ : hs_T) (k j : Nat) (x : Int32) : hs_T := (σ.1, ai_u (σ.2.1) k j x, σ.2.2)
def phf (σ : hs_T) (j : Nat) (x : Int32) : hs_T := (σ.1, σ.2.1, upd (σ.2.2.1) j x, σ.2.2.2)
def php (σ : hs_T) (j : Nat) (x : Int32) : hs_T := (σ.1, σ.2.1, σ.2.2.1, upd (σ.2.2.2.1) j x, σ.2.2.2.2)
def phn (σ : hs_T) (j : Nat) (x : Int32) : hs_T := (σ.1, σ.2.1, σ.2.2.1, σ.2.2.2.1, upd (σ.2.2.2.2.1) j x, σ.2.2.2.2.2)
def phg (σ : hs_T) (j : Nat) (x : Int32) : hs_T := (σ.1, σ.2.1, σ.2.2.1, σ.2.2.2.1, σ.2.2.2.2.1, upd (σ.2.2.2.2.2.1) j x, σ.2.2.2.2.2.2)
def phe (σ : hs_T) (j : Nat) (x : Int32) : hs_T := (σ.1, σ.2.1, σ.2.2.1, σ.2.2.2.1, σ.2.2.2.2.1, σ.2.2.2.2.2.1, upd (σ.2.2.2.2.2.2.1) j x, σ.2.2.2.2.2.2.2)
def phu (σ : hs_T) (j : Nat) (x : Int32) : hs_T := (σ.1, σ.2.1, σ.2.2.1, σ.2.2.2.1, σ.2.2.2.2.1, σ.2.2.2.2.2.1, σ.2.2.2.2.2.2.1, upd (σ.2.2.2.2.2.2.2) j x)
def hs_cell (σ : hs_T) : Nat → Nat → Int32 := fun o => if 8 ≤ o ∧ o < 20 then hm σ (o - 8) else if 20 ≤ o ∧ o < 25 then hr σ (o - 20) else if o = 0 then hf σ else if o = 4 then hp σ else if o = 3 then hn σ else if o = 6 then hg σ else if o = 5 then he σ else if o = 7 then hu σ else (fun _ => 0)
def hs_put (b : Nat) (σ : hs_T) (M : Nat → Nat → Int32) : Nat → Nat → Int32 := bput b 25 (hs_cell σ) M
theorem hs_at_hm (σ : hs_T) {k : Nat} (hk : k < 12) : hs_cell σ (8 + k) = hm σ k := by
  simp only [hs_cell, show 8 ≤ 8 + k ∧ 8 + k < 20 from ⟨by omega, by omega⟩, and_self, if_true, if_false, Nat.add_sub_cancel_left]
theorem hs_u_hm (σ : hs_T) {k : Nat} (hk : k < 12) (j : Nat) (x : Int32) : ai_u (hs_cell σ) (8 + k) j x = hs_cell (phm σ k j x) := by
  funext o
  by_cases h : o = 8 + k
  · subst h
    rw [ai_u_at, hs_at_hm _ hk, hs_at_hm _ hk]
    exact (ai_u_at _ _ _ _).symm
  · rw [ai_u_ne _ _ _ h]
    by_cases h2 : 8 ≤ o ∧ o < 20
    · have h3 : o - 8 ≠ k := by omega
      simp only [hs_cell, phm, h2, and_self, if_true]
      exact (ai_u_ne _ _ _ h3).symm
    · simp only [hs_cell, phm, h2, if_false]
theorem hs_rd_hm (b : Nat) (σ : hs_T) (M : Nat → Nat → Int32) {k : Nat} (hk : k < 12) : hs_put b σ M (b + 8 + k) = hm σ k := by
  rw [Nat.add_assoc]; exact (bput_at _ _ (by omega)).trans (hs_at_hm σ hk)
theorem hs_wr_hm (b : Nat) (σ : hs_T) (M : Nat → Nat → Int32) {k : Nat} (hk : k < 12) (j : Nat) (x : Int32) : ai_u (hs_put b σ M) (b + 8 + k) j x = hs_put b (phm σ k j x) M := by
  rw [Nat.add_assoc]; exact (bput_u _ _ (by omega)).trans (congrArg (fun V => bput b 25 V M) (hs_u_hm σ hk j x))
theorem hs_at_hr (σ : hs_T) {k : Nat} (hk : k < 5) : hs_cell σ (20 + k) = hr σ k := by
  simp only [hs_cell, show ¬ (8 ≤ 20 + k ∧ 20 + k < 20) by omega, show 20 ≤ 20 + k ∧ 20 + k < 25 from ⟨by omega, by omega⟩, and_self, if_true, if_false, Nat.add_sub_cancel_left]
theorem hs_u_hr (σ : hs_T) {k : Nat} (hk : k < 5) (j : Nat) (x : Int32) : ai_u (hs_cell σ) (20 + k) j x = hs_cell (phr σ k j x) := by
  funext o
  by_cases h : o = 20 + k
  · subst h
    rw [ai_u_at, hs_at_hr _ hk, hs_at_hr _ hk]
    exact (ai_u_at _ _ _ _).symm
  · rw [ai_u_ne _ _ _ h]
    by_cases h2 : 20 ≤ o ∧ o < 25
    · have h3 : o - 20 ≠ k := by omega
      have z8 : ¬ (8 ≤ o ∧ o < 20) := by omega
      simp only [hs_cell, phr, h2, and_self, if_true, z8, if_false]
      exact (ai_u_ne _ _ _ h3).symm
    · simp only [hs_cell, phr, h2, if_false]
theorem hs_rd_hr (b : Nat) (σ : hs_T) (M : Nat → Nat → Int32) {k : Nat} (hk : k < 5) : hs_put b σ M (b + 20 + k) = hr σ k := by
  rw [Nat.add_assoc]; exact (bput_at _ _ (by omega)).trans (hs_at_hr σ hk)
theorem hs_wr_hr (b : Nat) (σ : hs_T) (M : Nat → Nat → Int32) {k : Nat} (hk : k < 5) (j : Nat) (x : Int32) : ai_u (hs_put b σ M) (b + 20 + k) j x = hs_put b (phr σ k j x) M := by
  rw [Nat.add_assoc]; exact (bput_u _ _ (by omega)).trans (congrArg (fun V => bput b 25 V M) (hs_u_hr σ hk j x))
theorem hs_at_hf (σ : hs_T) : hs_cell σ 0 = hf σ := by simp [hs_cell]
theorem hs_u_hf (σ : hs_T) (j : Nat) (x : Int32) : ai_u (hs_cell σ) 0 j x = hs_cell (phf σ j x) := by
  funext o
  by_cases h : o = 0
  · subst h
    rw [ai_u_at, hs_at_hf, hs_at_hf]
    rfl
  · rw [ai_u_ne _ _ _ h]
    simp only [hs_cell, phf, h, if_false]
theorem hs_rd_hf (b : Nat) (σ : hs_T) (M : Nat → Nat → Int32) : hs_put b σ M (b + 0) = hf σ := (bput_at _ _ (by decide)).trans (hs_at_hf σ)
theorem hs_wr_hf (b : Nat) (σ : hs_T) (M : Nat → Nat → Int32) (j : Nat) (x : Int32) : ai_u (hs_put b σ M) (b + 0) j x = hs_put b (phf σ j x) M := (bput_u _ _ (by decide)).trans (congrArg (fun V => bput b 25 V M) (hs_u_hf σ j x))
theorem hs_at_hp (σ : hs_T) : hs_cell σ 4 = hp σ := by simp [hs_cell]
theorem hs_u_hp (σ : hs_T) (j : Nat) (x : Int32) : ai_u (hs_cell σ) 4 j x = hs_cell (php σ j x) := by
  funext o
  by_cases h : o = 4
  · subst h
    rw [ai_u_at, hs_at_hp, hs_at_hp]
    rfl
  · rw [ai_u_ne _ _ _ h]
    simp only [hs_cell, php, h, if_false]
theorem hs_rd_hp (b : Nat) (σ : hs_T) (M : Nat → Nat → Int32) : hs_put b σ M (b + 4) = hp σ := (bput_at _ _ (by decide)).trans (hs_at_hp σ)
theorem hs_wr_hp (b : Nat) (σ : hs_T) (M : Nat → Nat → Int32) (j : Nat) (x : Int32) : ai_u (hs_put b σ M) (b + 4) j x = hs_put b (php σ j x) M := (bput_u _ _ (by decide)).trans (congrArg (fun V => bput b 25 V M) (hs_u_hp σ j x))
theorem hs_at_hn (σ : hs_T) : hs_cell σ 3 = hn σ := by simp [hs_cell]
theorem hs_u_hn (σ : hs_T) (j : Nat) (x : Int32) : ai_u (hs_cell σ) 3 j x = hs_cell (phn σ j x) := by
  funext o
  by_cases h : o = 3
  · subst h
    rw [ai_u_at, hs_at_hn, hs_at_hn]
    rfl
  · rw [ai_u_ne _ _ _ h]
    simp only [hs_cell, phn, h, if_false]
theorem hs_rd_hn (b : Nat) (σ : hs_T) (M : Nat → Nat → Int32) : hs_put b σ M (b + 3) = hn σ := (bput_at _ _ (by decide)).trans (hs_at_hn σ)
theorem hs_wr_hn (b : Nat) (σ : hs_T) (M : Nat → Nat → Int32) (j : Nat) (x : Int32) : ai_u (hs_put b σ M) (b + 3) j x = hs_put b (phn σ j x) M := (bput_u _ _ (by decide)).trans (congrArg (fun V => bput b 25 V M) (hs_u_hn σ j x))
theorem hs_at_hg (σ : hs_T) : hs_cell σ 6 = hg σ := by simp [hs_cell]
theorem hs_u_hg (σ : hs_T) (j : Nat) (x : Int32) : ai_u (hs_cell σ) 6 j x = hs_cell (phg σ j x) := by
  funext o
  by_cases h : o = 6
  · subst h
    rw [ai_u_at, hs_at_hg, hs_at_hg]
    rfl
  · rw [ai_u_ne _ _ _ h]
    simp only [hs_cell, phg, h, if_false]
theorem hs_rd_hg (b : Nat) (σ : hs_T) (M : Nat → Nat → Int32) : hs_put b σ M (b + 6) = hg σ := (bput_at _ _ (by decide)).trans (hs_at_hg σ)
theorem hs_wr_hg (b : Nat) (σ : hs_T) (M : Nat → Nat → Int32) (j : Nat) (x : Int32) : ai_u (hs_put b σ M) (b + 6) j x = hs_put b (phg σ j x) M := (bput_u _ _ (by decide)).trans (congrArg (fun V => bput b 25 V M) (hs_u_hg σ j x))
theorem hs_at_he (σ : hs_T) : hs_cell σ 5 = he σ := by simp [hs_cell]
theorem hs_u_he (σ : hs_T) (j : Nat) (x : Int32) : ai_u (hs_cell σ) 5 j x = hs_cell (phe σ j x) := by
  funext o
  by_cases h : o = 5
  · subst h
    rw [ai_u_at, hs_at_he, hs_at_he]
    rfl
  · rw [ai_u_ne _ _ _ h]
    simp only [hs_cell, phe, h, if_false]
theorem hs_rd_he (b : Nat) (σ : hs_T) (M : Nat → Nat → Int32) : hs_put b σ M (b + 5) = he σ := (bput_at _ _ (by decide)).trans (hs_at_he σ)
theorem hs_wr_he (b : Nat) (σ : hs_T) (M : Nat → Nat → Int32) (j : Nat) (x : Int32) : ai_u (hs_put b σ M) (b + 5) j x = hs_put b (phe σ j x) M := (bput_u _ _ (by decide)).trans (congrArg (fun V => bput b 25 V M) (hs_u_he σ j x))
theorem hs_at_hu (σ : hs_T) : hs_cell σ 7 = hu σ := by simp [hs_cell]
theorem hs_u_hu (σ : hs_T) (j : Nat) (x : Int32) : ai_u (hs_cell σ) 7 j x = hs_cell (phu σ j x) := by
  funext o
  by_cases h : o = 7
  · subst h
    rw [ai_u_at, hs_at_hu, hs_at_hu]
    rfl
  · rw [ai_u_ne _ _ _ h]
    simp only [hs_cell, phu, h, if_false]
theorem hs_rd_hu (b : Nat) (σ : hs_T) (M : Nat → Nat → Int32) : hs_put b σ M (b + 7) = hu σ := (bput_at _ _ (by decide)).trans (hs_at_hu σ)
theorem hs_wr_hu (b : Nat) (σ : hs_T) (M : Nat → Nat → Int32) (j : Nat) (x : Int32) : ai_u (hs_put b σ M) (b + 7) j x = hs_put b (phu σ j x) M := (bput_u _ _ (by decide)).trans (congrArg (fun V => bput b 25 V M) (hs_u_hu σ j x))
theorem hs_put_put (b : Nat) (σ σ' : hs_T) (M : Nat → Nat → Int32) : hs_put b σ (hs_put b σ' M) = hs_put b σ M := bput_bput _ _ _ _ _
/-! ===== the script: fields, bytes, kinds, members, rooms, numbers, opened, timesLeft ===== -/
abbrev sc_T : Type := (Nat → Int32) × (Nat → Int32) × (Nat → Int32) × (Nat → Int32) × (Nat → Int32) × (Nat → Int32) × (Nat → Int32) × (Nat → Int32)
abbrev cf (σ : sc_T) : (Nat → Int32) := σ.1
abbrev cb (σ : sc_T) : (Nat → Int32) := σ.2.1
abbrev ck (σ : sc_T) : (Nat → Int32) := σ.2.2.1
abbrev cm (σ : sc_T) : (Nat → Int32) := σ.2.2.2.1
abbrev cr (σ : sc_T) : (Nat → Int32) := σ.2.2.2.2.1
abbrev cn (σ : sc_T) : (Nat → Int32) := σ.2.2.2.2.2.1
abbrev co (σ : sc_T) : (Nat → Int32) := σ.2.2.2.2.2.2.1
abbrev ct (σ : sc_T) : (Nat → Int32) := σ.2.2.2.2.2.2.2
def pcf (σ : sc_T) (j : Nat) (x : Int32) : sc_T := (upd (σ.1) j x, σ.2)
def pcb (σ : sc_T) (j : Nat) (x : Int32) : sc_T := (σ.1, upd (σ.2.1) j x, σ.2.2)
def pck (σ : sc_T) (j : Nat) (x : Int32) : sc_T := (σ.1, σ.2.1, upd (σ.2.2.1) j x, σ.2.2.2)
def pcm (σ : sc_T) (j : Nat) (x : Int32) : sc_T := (σ.1, σ.2.1, σ.2.2.1, upd (σ.2.2.2.1) j x, σ.2.2.2.2)
def pcr (σ : sc_T) (j : Nat) (x : Int32) : sc_T := (σ.1, σ.2.1, σ.2.2.1, σ.2.2.2.1, upd (σ.2.2.2.2.1) j x, σ.2.2.2.2.2)
def pcn (σ : sc_T) (j : Nat) (x : Int32) : sc_T := (σ.1, σ.2.1, σ.2.2.1, σ.2.2.2.1, σ.2.2.2.2.1, upd (σ.2.2.2.2.2.1) j x, σ.2.2.2.2.2.2)
def pco (σ : sc_T) (j : Nat) (x : Int32) : sc_T := (σ.1, σ.2.1, σ.2.2.1, σ.2.2.2.1, σ.2.2.2.2.1, σ.2.2.2.2.2.1, upd (σ.2.2.2.2.2.2.1) j x, σ.2.2.2.2.2.2.2)
def pct (σ : sc_T) (j : Nat) (x : Int32) : sc_T := (σ.1, σ.2.1, σ.2.2.1, σ.2.2.2.1, σ.2.2.2.2.1, σ.2.2.2.2.2.1, σ.2.2.2.2.2.2.1, upd (σ.2.2.2.2.2.2.2) j x)
def sc_cell (σ : sc_T) : Nat → Nat → Int32 := fun o => if o = 0 then cf σ else if o = 1 then cb σ else if o = 2 then ck σ else if o = 3 then cm σ else if o = 4 then cr σ else if o = 5 then cn σ else if o = 6 then co σ else if o = 7 then ct σ else (fun _ => 0)
def sc_put (b : Nat) (σ : sc_T) (M : Nat → Nat → Int32) : Nat → Nat → Int32 := bput b 8 (sc_cell σ) M
theorem sc_at_cf (σ : sc_T) : sc_cell σ 0 = cf σ := by simp [sc_cell]
theorem sc_u_cf (σ : sc_T) (j : Nat) (x : Int32) : ai_u (sc_cell σ) 0 j x = sc_cell (pcf σ j x) := by
  funext o
  by_cases h : o = 0
  · subst h
    rw [ai_u_at, sc_at_cf, sc_at_cf]
    rfl
  · rw [ai_u_ne _ _ _ h]
    simp only [sc_cell, pcf, h, if_false]
theorem sc_rd_cf (b : Nat) (σ : sc_T) (M : Nat → Nat → Int32) : sc_put b σ M (b + 0) = cf σ := (bput_at _ _ (by decide)).trans (sc_at_cf σ)
theorem sc_wr_cf (b : Nat) (σ : sc_T) (M : Nat → Nat → Int32) (j : Nat) (x : Int32) : ai_u (sc_put b σ M) (b + 0) j x = sc_put b (pcf σ j x) M := (bput_u _ _ (by decide)).trans (congrArg (fun V => bput b 8 V M) (sc_u_cf σ j x))
theorem sc_at_cb (σ : sc_T) : sc_cell σ 1 = cb σ := by simp [sc_cell]
theorem sc_u_cb (σ : sc_T) (j : Nat) (x : Int32) : ai_u (sc_cell σ) 1 j x = sc_cell (pcb σ j x) := by
  funext o
  by_cases h : o = 1
  · subst h
    rw [ai_u_at, sc_at_cb, sc_at_cb]
    rfl
  · rw [ai_u_ne _ _ _ h]
    simp only [sc_cell, pcb, h, if_false]
theorem sc_rd_cb (b : Nat) (σ : sc_T) (M : Nat → Nat → Int32) : sc_put b σ M (b + 1) = cb σ := (bput_at _ _ (by decide)).trans (sc_at_cb σ)
theorem sc_wr_cb (b : Nat) (σ : sc_T) (M : Nat → Nat → Int32) (j : Nat) (x : Int32) : ai_u (sc_put b σ M) (b + 1) j x = sc_put b (pcb σ j x) M := (bput_u _ _ (by decide)).trans (congrArg (fun V => bput b 8 V M) (sc_u_cb σ j x))
theorem sc_at_ck (σ : sc_T) : sc_cell σ 2 = ck σ := by simp [sc_cell]
theorem sc_u_ck (σ : sc_T) (j : Nat) (x : Int32) : ai_u (sc_cell σ) 2 j x = sc_cell (pck σ j x) := by
  funext o
  by_cases h : o = 2
  · subst h
    rw [ai_u_at, sc_at_ck, sc_at_ck]
    rfl
  · rw [ai_u_ne _ _ _ h]
    simp only [sc_cell, pck, h, if_false]
theorem sc_rd_ck (b : Nat) (σ : sc_T) (M : Nat → Nat → Int32) : sc_put b σ M (b + 2) = ck σ := (bput_at _ _ (by decide)).trans (sc_at_ck σ)
theorem sc_wr_ck (b : Nat) (σ : sc_T) (M : Nat → Nat → Int32) (j : Nat) (x : Int32) : ai_u (sc_put b σ M) (b + 2) j x = sc_put b (pck σ j x) M := (bput_u _ _ (by decide)).trans (congrArg (fun V => bput b 8 V M) (sc_u_ck σ j x))
theorem sc_at_cm (σ : sc_T) : sc_cell σ 3 = cm σ := by simp [sc_cell]
theorem sc_u_cm (σ : sc_T) (j : Nat) (x : Int32) : ai_u (sc_cell σ) 3 j x = sc_cell (pcm σ j x) := by
  funext o
  by_cases h : o = 3
  · subst h
    rw [ai_u_at, sc_at_cm, sc_at_cm]
    rfl
  · rw [ai_u_ne _ _ _ h]
    simp only [sc_cell, pcm, h, if_false]
theorem sc_rd_cm (b : Nat) (σ : sc_T) (M : Nat → Nat → Int32) : sc_put b σ M (b + 3) = cm σ := (bput_at _ _ (by decide)).trans (sc_at_cm σ)
theorem sc_wr_cm (b : Nat) (σ : sc_T) (M : Nat → Nat → Int32) (j : Nat) (x : Int32) : ai_u (sc_put b σ M) (b + 3) j x = sc_put b (pcm σ j x) M := (bput_u _ _ (by decide)).trans (congrArg (fun V => bput b 8 V M) (sc_u_cm σ j x))
theorem sc_at_cr (σ : sc_T) : sc_cell σ 4 = cr σ := by simp [sc_cell]
theorem sc_u_cr (σ : sc_T) (j : Nat) (x : Int32) : ai_u (sc_cell σ) 4 j x = sc_cell (pcr σ j x) := by
  funext o
  by_cases h : o = 4
  · subst h
    rw [ai_u_at, sc_at_cr, sc_at_cr]
    rfl
  · rw [ai_u_ne _ _ _ h]
    simp only [sc_cell, pcr, h, if_false]
theorem sc_rd_cr (b : Nat) (σ : sc_T) (M : Nat → Nat → Int32) : sc_put b σ M (b + 4) = cr σ := (bput_at _ _ (by decide)).trans (sc_at_cr σ)
theorem sc_wr_cr (b : Nat) (σ : sc_T) (M : Nat → Nat → Int32) (j : Nat) (x : Int32) : ai_u (sc_put b σ M) (b + 4) j x = sc_put b (pcr σ j x) M := (bput_u _ _ (by decide)).trans (congrArg (fun V => bput b 8 V M) (sc_u_cr σ j x))
theorem sc_at_cn (σ : sc_T) : sc_cell σ 5 = cn σ := by simp [sc_cell]
theorem sc_u_cn (σ : sc_T) (j : Nat) (x : Int32) : ai_u (sc_cell σ) 5 j x = sc_cell (pcn σ j x) := by
  funext o
  by_cases h : o = 5
  · subst h
    rw [ai_u_at, sc_at_cn, sc_at_cn]
    rfl
  · rw [ai_u_ne _ _ _ h]
    simp only [sc_cell, pcn, h, if_false]
theorem sc_rd_cn (b : Nat) (σ : sc_T) (M : Nat → Nat → Int32) : sc_put b σ M (b + 5) = cn σ := (bput_at _ _ (by decide)).trans (sc_at_cn σ)
theorem sc_wr_cn (b : Nat) (σ : sc_T) (M : Nat → Nat → Int32) (j : Nat) (x : Int32) : ai_u (sc_put b σ M) (b + 5) j x = sc_put b (pcn σ j x) M := (bput_u _ _ (by decide)).trans (congrArg (fun V => bput b 8 V M) (sc_u_cn σ j x))
theorem sc_at_co (σ : sc_T) : sc_cell σ 6 = co σ := by simp [sc_cell]
theorem sc_u_co (σ : sc_T) (j : Nat) (x : Int32) : ai_u (sc_cell σ) 6 j x = sc_cell (pco σ j x) := by
  funext o
  by_cases h : o = 6
  · subst h
    rw [ai_u_at, sc_at_co, sc_at_co]
    rfl
  · rw [ai_u_ne _ _ _ h]
    simp only [sc_cell, pco, h, if_false]
theorem sc_rd_co (b : Nat) (σ : sc_T) (M : Nat → Nat → Int32) : sc_put b σ M (b + 6) = co σ := (bput_at _ _ (by decide)).trans (sc_at_co σ)
theorem sc_wr_co (b : Nat) (σ : sc_T) (M : Nat → Nat → Int32) (j : Nat) (x : Int32) : ai_u (sc_put b σ M) (b + 6) j x = sc_put b (pco σ j x) M := (bput_u _ _ (by decide)).trans (congrArg (fun V => bput b 8 V M) (sc_u_co σ j x))
theorem sc_at_ct (σ : sc_T) : sc_cell σ 7 = ct σ := by simp [sc_cell]
theorem sc_u_ct (σ : sc_T) (j : Nat) (x : Int32) : ai_u (sc_cell σ) 7 j x = sc_cell (pct σ j x) := by
  funext o
  by_cases h : o = 7
  · subst h
    rw [ai_u_at, sc_at_ct, sc_at_ct]
    rfl
  · rw [ai_u_ne _ _ _ h]
    simp only [sc_cell, pct, h, if_false]
theorem sc_rd_ct (b : Nat) (σ : sc_T) (M : Nat → Nat → Int32) : sc_put b σ M (b + 7) = ct σ := (bput_at _ _ (by decide)).trans (sc_at_ct σ)
theorem sc_wr_ct (b : Nat) (σ : sc_T) (M : Nat → Nat → Int32) (j : Nat) (x : Int32) : ai_u (sc_put b σ M) (b + 7) j x = sc_put b (pct σ j x) M := (bput_u _ _ (by decide)).trans (congrArg (fun V => bput b 8 V M) (sc_u_ct σ j x))
theorem sc_put_put (b : Nat) (σ σ' : sc_T) (M : Nat → Nat → Int32) : sc_put b σ (sc_put b σ' M) = sc_put b σ M := bput_bput _ _ _ _ _
/-! ===== the reference: fields, m, aside, slots, isSaved, text, step, open, left ===== -/
abbrev md_T : Type := (Nat → Int32) × (Nat → Int32) × (Nat → Int32) × (Nat → Int32) × (Nat → Int32) × (Nat → Int32) × (Nat → Int32) × (Nat → Int32) × (Nat → Int32)
abbrev rf (σ : md_T) : (Nat → Int32) := σ.1
abbrev rm (σ : md_T) : (Nat → Int32) := σ.2.1
abbrev ra (σ : md_T) : (Nat → Int32) := σ.2.2.1
abbrev rs (σ : md_T) : (Nat → Int32) := σ.2.2.2.1
abbrev ri (σ : md_T) : (Nat → Int32) := σ.2.2.2.2.1
abbrev rt (σ : md_T) : (Nat → Int32) := σ.2.2.2.2.2.1
abbrev rp (σ : md_T) : (Nat → Int32) := σ.2.2.2.2.2.2.1
abbrev ro (σ : md_T) : (Nat → Int32) := σ.2.2.2.2.2.2.2.1
abbrev rl (σ : md_T) : (Nat → Int32) := σ.2.2.2.2.2.2.2.2
def prf (σ : md_T) (j : Nat) (x : Int32) : md_T := (upd (σ.1) j x, σ.2)
def prm (σ : md_T) (j : Nat) (x : Int32) : md_T := (σ.1, upd (σ.2.1) j x, σ.2.2)
def pra (σ : md_T) (j : Nat) (x : Int32) : md_T := (σ.1, σ.2.1, upd (σ.2.2.1) j x, σ.2.2.2)
def prs (σ : md_T) (j : Nat) (x : Int32) : md_T := (σ.1, σ.2.1, σ.2.2.1, upd (σ.2.2.2.1) j x, σ.2.2.2.2)
def pri (σ : md_T) (j : Nat) (x : Int32) : md_T := (σ.1, σ.2.1, σ.2.2.1, σ.2.2.2.1, upd (σ.2.2.2.2.1) j x, σ.2.2.2.2.2)
def prt (σ : md_T) (j : Nat) (x : Int32) : md_T := (σ.1, σ.2.1, σ.2.2.1, σ.2.2.2.1, σ.2.2.2.2.1, upd (σ.2.2.2.2.2.1) j x, σ.2.2.2.2.2.2)
def prp (σ : md_T) (j : Nat) (x : Int32) : md_T := (σ.1, σ.2.1, σ.2.2.1, σ.2.2.2.1, σ.2.2.2.2.1, σ.2.2.2.2.2.1, upd (σ.2.2.2.2.2.2.1) j x, σ.2.2.2.2.2.2.2)
def pro (σ : md_T) (j : Nat) (x : Int32) : md_T := (σ.1, σ.2.1, σ.2.2.1, σ.2.2.2.1, σ.2.2.2.2.1, σ.2.2.2.2.2.1, σ.2.2.2.2.2.2.1, upd (σ.2.2.2.2.2.2.2.1) j x, σ.2.2.2.2.2.2.2.2)
def prl (σ : md_T) (j : Nat) (x : Int32) : md_T := (σ.1, σ.2.1, σ.2.2.1, σ.2.2.2.1, σ.2.2.2.2.1, σ.2.2.2.2.2.1, σ.2.2.2.2.2.2.1, σ.2.2.2.2.2.2.2.1, upd (σ.2.2.2.2.2.2.2.2) j x)
def md_cell (σ : md_T) : Nat → Nat → Int32 := fun o => if o = 0 then rf σ else if o = 1 then rm σ else if o = 2 then ra σ else if o = 3 then rs σ else if o = 4 then ri σ else if o = 5 then rt σ else if o = 6 then rp σ else if o = 7 then ro σ else if o = 8 then rl σ else (fun _ => 0)
def md_put (b : Nat) (σ : md_T) (M : Nat → Nat → Int32) : Nat → Nat → Int32 := bput b 9 (md_cell σ) M
theorem md_at_rf (σ : md_T) : md_cell σ 0 = rf σ := by simp [md_cell]
theorem md_u_rf (σ : md_T) (j : Nat) (x : Int32) : ai_u (md_cell σ) 0 j x = md_cell (prf σ j x) := by
  funext o
  by_cases h : o = 0
  · subst h
    rw [ai_u_at, md_at_rf, md_at_rf]
    rfl
  · rw [ai_u_ne _ _ _ h]
    simp only [md_cell, prf, h, if_false]
theorem md_rd_rf (b : Nat) (σ : md_T) (M : Nat → Nat → Int32) : md_put b σ M (b + 0) = rf σ := (bput_at _ _ (by decide)).trans (md_at_rf σ)
theorem md_wr_rf (b : Nat) (σ : md_T) (M : Nat → Nat → Int32) (j : Nat) (x : Int32) : ai_u (md_put b σ M) (b + 0) j x = md_put b (prf σ j x) M := (bput_u _ _ (by decide)).trans (congrArg (fun V => bput b 9 V M) (md_u_rf σ j x))
theorem md_at_rm (σ : md_T) : md_cell σ 1 = rm σ := by simp [md_cell]
theorem md_u_rm (σ : md_T) (j : Nat) (x : Int32) : ai_u (md_cell σ) 1 j x = md_cell (prm σ j x) := by
  funext o
  by_cases h : o = 1
  · subst h
    rw [ai_u_at, md_at_rm, md_at_rm]
    rfl
  · rw [ai_u_ne _ _ _ h]
    simp only [md_cell, prm, h, if_false]
theorem md_rd_rm (b : Nat) (σ : md_T) (M : Nat → Nat → Int32) : md_put b σ M (b + 1) = rm σ := (bput_at _ _ (by decide)).trans (md_at_rm σ)
theorem md_wr_rm (b : Nat) (σ : md_T) (M : Nat → Nat → Int32) (j : Nat) (x : Int32) : ai_u (md_put b σ M) (b + 1) j x = md_put b (prm σ j x) M := (bput_u _ _ (by decide)).trans (congrArg (fun V => bput b 9 V M) (md_u_rm σ j x))
theorem md_at_ra (σ : md_T) : md_cell σ 2 = ra σ := by simp [md_cell]
theorem md_u_ra (σ : md_T) (j : Nat) (x : Int32) : ai_u (md_cell σ) 2 j x = md_cell (pra σ j x) := by
  funext o
  by_cases h : o = 2
  · subst h
    rw [ai_u_at, md_at_ra, md_at_ra]
    rfl
  · rw [ai_u_ne _ _ _ h]
    simp only [md_cell, pra, h, if_false]
theorem md_rd_ra (b : Nat) (σ : md_T) (M : Nat → Nat → Int32) : md_put b σ M (b + 2) = ra σ := (bput_at _ _ (by decide)).trans (md_at_ra σ)
theorem md_wr_ra (b : Nat) (σ : md_T) (M : Nat → Nat → Int32) (j : Nat) (x : Int32) : ai_u (md_put b σ M) (b + 2) j x = md_put b (pra σ j x) M := (bput_u _ _ (by decide)).trans (congrArg (fun V => bput b 9 V M) (md_u_ra σ j x))
theorem md_at_rs (σ : md_T) : md_cell σ 3 = rs σ := by simp [md_cell]
theorem md_u_rs (σ : md_T) (j : Nat) (x : Int32) : ai_u (md_cell σ) 3 j x = md_cell (prs σ j x) := by
  funext o
  by_cases h : o = 3
  · subst h
    rw [ai_u_at, md_at_rs, md_at_rs]
    rfl
  · rw [ai_u_ne _ _ _ h]
    simp only [md_cell, prs, h, if_false]
theorem md_rd_rs (b : Nat) (σ : md_T) (M : Nat → Nat → Int32) : md_put b σ M (b + 3) = rs σ := (bput_at _ _ (by decide)).trans (md_at_rs σ)
theorem md_wr_rs (b : Nat) (σ : md_T) (M : Nat → Nat → Int32) (j : Nat) (x : Int32) : ai_u (md_put b σ M) (b + 3) j x = md_put b (prs σ j x) M := (bput_u _ _ (by decide)).trans (congrArg (fun V => bput b 9 V M) (md_u_rs σ j x))
theorem md_at_ri (σ : md_T) : md_cell σ 4 = ri σ := by simp [md_cell]
theorem md_u_ri (σ : md_T) (j : Nat) (x : Int32) : ai_u (md_cell σ) 4 j x = md_cell (pri σ j x) := by
  funext o
  by_cases h : o = 4
  · subst h
    rw [ai_u_at, md_at_ri, md_at_ri]
    rfl
  · rw [ai_u_ne _ _ _ h]
    simp only [md_cell, pri, h, if_false]
theorem md_rd_ri (b : Nat) (σ : md_T) (M : Nat → Nat → Int32) : md_put b σ M (b + 4) = ri σ := (bput_at _ _ (by decide)).trans (md_at_ri σ)
theorem md_wr_ri (b : Nat) (σ : md_T) (M : Nat → Nat → Int32) (j : Nat) (x : Int32) : ai_u (md_put b σ M) (b + 4) j x = md_put b (pri σ j x) M := (bput_u _ _ (by decide)).trans (congrArg (fun V => bput b 9 V M) (md_u_ri σ j x))
theorem md_at_rt (σ : md_T) : md_cell σ 5 = rt σ := by simp [md_cell]
theorem md_u_rt (σ : md_T) (j : Nat) (x : Int32) : ai_u (md_cell σ) 5 j x = md_cell (prt σ j x) := by
  funext o
  by_cases h : o = 5
  · subst h
    rw [ai_u_at, md_at_rt, md_at_rt]
    rfl
  · rw [ai_u_ne _ _ _ h]
    simp only [md_cell, prt, h, if_false]
theorem md_rd_rt (b : Nat) (σ : md_T) (M : Nat → Nat → Int32) : md_put b σ M (b + 5) = rt σ := (bput_at _ _ (by decide)).trans (md_at_rt σ)
theorem md_wr_rt (b : Nat) (σ : md_T) (M : Nat → Nat → Int32) (j : Nat) (x : Int32) : ai_u (md_put b σ M) (b + 5) j x = md_put b (prt σ j x) M := (bput_u _ _ (by decide)).trans (congrArg (fun V => bput b 9 V M) (md_u_rt σ j x))
theorem md_at_rp (σ : md_T) : md_cell σ 6 = rp σ := by simp [md_cell]
theorem md_u_rp (σ : md_T) (j : Nat) (x : Int32) : ai_u (md_cell σ) 6 j x = md_cell (prp σ j x) := by
  funext o
  by_cases h : o = 6
  · subst h
    rw [ai_u_at, md_at_rp, md_at_rp]
    rfl
  · rw [ai_u_ne _ _ _ h]
    simp only [md_cell, prp, h, if_false]
theorem md_rd_rp (b : Nat) (σ : md_T) (M : Nat → Nat → Int32) : md_put b σ M (b + 6) = rp σ := (bput_at _ _ (by decide)).trans (md_at_rp σ)
theorem md_wr_rp (b : Nat) (σ : md_T) (M : Nat → Nat → Int32) (j : Nat) (x : Int32) : ai_u (md_put b σ M) (b + 6) j x = md_put b (prp σ j x) M := (bput_u _ _ (by decide)).trans (congrArg (fun V => bput b 9 V M) (md_u_rp σ j x))
theorem md_at_ro (σ : md_T) : md_cell σ 7 = ro σ := by simp [md_cell]
theorem md_u_ro (σ : md_T) (j : Nat) (x : Int32) : ai_u (md_cell σ) 7 j x = md_cell (pro σ j x) := by
  funext o
  by_cases h : o = 7
  · subst h
    rw [ai_u_at, md_at_ro, md_at_ro]
    rfl
  · rw [ai_u_ne _ _ _ h]
    simp only [md_cell, pro, h, if_false]
theorem md_rd_ro (b : Nat) (σ : md_T) (M : Nat → Nat → Int32) : md_put b σ M (b + 7) = ro σ := (bput_at _ _ (by decide)).trans (md_at_ro σ)
theorem md_wr_ro (b : Nat) (σ : md_T) (M : Nat → Nat → Int32) (j : Nat) (x : Int32) : ai_u (md_put b σ M) (b + 7) j x = md_put b (pro σ j x) M := (bput_u _ _ (by decide)).trans (congrArg (fun V => bput b 9 V M) (md_u_ro σ j x))
theorem md_at_rl (σ : md_T) : md_cell σ 8 = rl σ := by simp [md_cell]
theorem md_u_rl (σ : md_T) (j : Nat) (x : Int32) : ai_u (md_cell σ) 8 j x = md_cell (prl σ j x) := by
  funext o
  by_cases h : o = 8
  · subst h
    rw [ai_u_at, md_at_rl, md_at_rl]
    rfl
  · rw [ai_u_ne _ _ _ h]
    simp only [md_cell, prl, h, if_false]
theorem md_rd_rl (b : Nat) (σ : md_T) (M : Nat → Nat → Int32) : md_put b σ M (b + 8) = rl σ := (bput_at _ _ (by decide)).trans (md_at_rl σ)
theorem md_wr_rl (b : Nat) (σ : md_T) (M : Nat → Nat → Int32) (j : Nat) (x : Int32) : ai_u (md_put b σ M) (b + 8) j x = md_put b (prl σ j x) M := (bput_u _ _ (by decide)).trans (congrArg (fun V => bput b 9 V M) (md_u_rl σ j x))
theorem md_put_put (b : Nat) (σ σ' : md_T) (M : Nat → Nat → Int32) : md_put b σ (md_put b σ' M) = md_put b σ M := bput_bput _ _ _ _ _
/-! ===== shapes ===== -/
def hs_S (h : Nat) : List aiS := [(0, 0, [.ref (h + 1), .ref (h + 2), .ref (h + 3), .ref (h + 5), .ref (h + 7), .null, .null, .null, .null, .null, .null]), (11, 12, [.ref (h + 8 + 0), .ref (h + 8 + 1), .ref (h + 8 + 2), .ref (h + 8 + 3), .ref (h + 8 + 4), .ref (h + 8 + 5), .ref (h + 8 + 6), .ref (h + 8 + 7), .ref (h + 8 + 8), .ref (h + 8 + 9), .ref (h + 8 + 10), .ref (h + 8 + 11)]), (12, 5, [.ref (h + 20 + 0), .ref (h + 20 + 1), .ref (h + 20 + 2), .ref (h + 20 + 3), .ref (h + 20 + 4)]), (1, 0, [.ref (h + 4), .null]), (8, 12, []), (2, 0, [.ref (h + 6), .null]), (8, 160, []), (8, 3, [])] ++ List.replicate 12 (3, 0, List.replicate 4 .null) ++ List.replicate 5 (4, 0, List.replicate 9 .null)
def HS (S : List aiS) (h : Nat) : Prop := ∀ o, o < 25 → S[h + o]? = (hs_S h)[o]?
def sc_S (c : Nat) : List aiS := [(5, 0, [.ref (c + 1), .null, .ref (c + 2), .ref (c + 3), .ref (c + 4), .ref (c + 5), .null, .null, .null, .null, .ref (c + 6), .null, .null, .ref (c + 7)]), (8, 100, []), (8, 100, []), (8, 100, []), (8, 100, []), (8, 100, []), (8, 4, []), (8, 100, [])]
def SS (S : List aiS) (c : Nat) : Prop := ∀ o, o < 8 → S[c + o]? = (sc_S c)[o]?
def md_S (b : Nat) : List aiS := [(7, 0, [.ref (b + 1), .ref (b + 2), .ref (b + 3), .ref (b + 4), .ref (b + 5), .null, .null, .null, .ref (b + 6), .null, .ref (b + 7), .null, .ref (b + 8), .null]), (8, 271, []), (8, 271, []), (8, 542, []), (9, 2, []), (8, 100, []), (8, 400, []), (8, 5, []), (8, 5, [])]
def MS (S : List aiS) (b : Nat) : Prop := ∀ o, o < 9 → S[b + o]? = (md_S b)[o]?
theorem HS.a0 {S : List aiS} {h : Nat} (H : HS S h) : S[h]? = some (0, 0, [.ref (h + 1), .ref (h + 2), .ref (h + 3), .ref (h + 5), .ref (h + 7), .null, .null, .null, .null, .null, .null]) := H 0 (by decide)
theorem HS.a1 {S : List aiS} {h : Nat} (H : HS S h) : S[h + 1]? = some (11, 12, [.ref (h + 8 + 0), .ref (h + 8 + 1), .ref (h + 8 + 2), .ref (h + 8 + 3), .ref (h + 8 + 4), .ref (h + 8 + 5), .ref (h + 8 + 6), .ref (h + 8 + 7), .ref (h + 8 + 8), .ref (h + 8 + 9), .ref (h + 8 + 10), .ref (h + 8 + 11)]) := H 1 (by decide)
theorem HS.a2 {S : List aiS} {h : Nat} (H : HS S h) : S[h + 2]? = some (12, 5, [.ref (h + 20 + 0), .ref (h + 20 + 1), .ref (h + 20 + 2), .ref (h + 20 + 3), .ref (h + 20 + 4)]) := H 2 (by decide)
theorem HS.a3 {S : List aiS} {h : Nat} (H : HS S h) : S[h + 3]? = some (1, 0, [.ref (h + 4), .null]) := H 3 (by decide)
theorem HS.a4 {S : List aiS} {h : Nat} (H : HS S h) : S[h + 4]? = some (8, 12, []) := H 4 (by decide)
theorem HS.a5 {S : List aiS} {h : Nat} (H : HS S h) : S[h + 5]? = some (2, 0, [.ref (h + 6), .null]) := H 5 (by decide)
theorem HS.a6 {S : List aiS} {h : Nat} (H : HS S h) : S[h + 6]? = some (8, 160, []) := H 6 (by decide)
theorem HS.a7 {S : List aiS} {h : Nat} (H : HS S h) : S[h + 7]? = some (8, 3, []) := H 7 (by decide)
theorem HS.am {S : List aiS} {h k : Nat} (H : HS S h) (hk : k < 12) : S[h + 8 + k]? = some (3, 0, [.null, .null, .null, .null]) := by
  rw [Nat.add_assoc, H (8 + k) (by omega)]
  rcases (show k = 0 ∨ k = 1 ∨ k = 2 ∨ k = 3 ∨ k = 4 ∨ k = 5 ∨ k = 6 ∨ k = 7 ∨ k = 8 ∨ k = 9 ∨ k = 10 ∨ k = 11 by omega) with rfl | rfl | rfl | rfl | rfl | rfl | rfl | rfl | rfl | rfl | rfl | rfl <;> rfl
theorem HS.ar {S : List aiS} {h k : Nat} (H : HS S h) (hk : k < 5) : S[h + 20 + k]? = some (4, 0, [.null, .null, .null, .null, .null, .null, .null, .null, .null]) := by
  rw [Nat.add_assoc, H (20 + k) (by omega)]
  rcases (show k = 0 ∨ k = 1 ∨ k = 2 ∨ k = 3 ∨ k = 4 by omega) with rfl | rfl | rfl | rfl | rfl <;> rfl
theorem ai_12 {h k : Nat} (hk : k < 12) : ([.ref (h + 8 + 0), .ref (h + 8 + 1), .ref (h + 8 + 2), .ref (h + 8 + 3), .ref (h + 8 + 4), .ref (h + 8 + 5), .ref (h + 8 + 6), .ref (h + 8 + 7), .ref (h + 8 + 8), .ref (h + 8 + 9), .ref (h + 8 + 10), .ref (h + 8 + 11)] : List Value)[k]? = some (.ref (h + 8 + k)) := by
  rcases (show k = 0 ∨ k = 1 ∨ k = 2 ∨ k = 3 ∨ k = 4 ∨ k = 5 ∨ k = 6 ∨ k = 7 ∨ k = 8 ∨ k = 9 ∨ k = 10 ∨ k = 11 by omega) with rfl | rfl | rfl | rfl | rfl | rfl | rfl | rfl | rfl | rfl | rfl | rfl <;> rfl
theorem ai_5 {h k : Nat} (hk : k < 5) : ([.ref (h + 20 + 0), .ref (h + 20 + 1), .ref (h + 20 + 2), .ref (h + 20 + 3), .ref (h + 20 + 4)] : List Value)[k]? = some (.ref (h + 20 + k)) := by
  rcases (show k = 0 ∨ k = 1 ∨ k = 2 ∨ k = 3 ∨ k = 4 by omega) with rfl | rfl | rfl | rfl | rfl <;> rfl
theorem SS.a0 {S : List aiS} {c : Nat} (H : SS S c) : S[c]? = some (5, 0, [.ref (c + 1), .null, .ref (c + 2), .ref (c + 3), .ref (c + 4), .ref (c + 5), .null, .null, .null, .null, .ref (c + 6), .null, .null, .ref (c + 7)]) := H 0 (by decide)
theorem MS.a0 {S : List aiS} {b : Nat} (H : MS S b) : S[b]? = some (7, 0, [.ref (b + 1), .ref (b + 2), .ref (b + 3), .ref (b + 4), .ref (b + 5), .null, .null, .null, .ref (b + 6), .null, .ref (b + 7), .null, .ref (b + 8), .null]) := H 0 (by decide)
theorem SS.a1 {S : List aiS} {c : Nat} (H : SS S c) : S[c + 1]? = some (8, 100, []) := H 1 (by decide)
theorem SS.a2 {S : List aiS} {c : Nat} (H : SS S c) : S[c + 2]? = some (8, 100, []) := H 2 (by decide)
theorem SS.a3 {S : List aiS} {c : Nat} (H : SS S c) : S[c + 3]? = some (8, 100, []) := H 3 (by decide)
theorem SS.a4 {S : List aiS} {c : Nat} (H : SS S c) : S[c + 4]? = some (8, 100, []) := H 4 (by decide)
theorem SS.a5 {S : List aiS} {c : Nat} (H : SS S c) : S[c + 5]? = some (8, 100, []) := H 5 (by decide)
theorem SS.a6 {S : List aiS} {c : Nat} (H : SS S c) : S[c + 6]? = some (8, 4, []) := H 6 (by decide)
theorem SS.a7 {S : List aiS} {c : Nat} (H : SS S c) : S[c + 7]? = some (8, 100, []) := H 7 (by decide)
theorem MS.a1 {S : List aiS} {b : Nat} (H : MS S b) : S[b + 1]? = some (8, 271, []) := H 1 (by decide)
theorem MS.a2 {S : List aiS} {b : Nat} (H : MS S b) : S[b + 2]? = some (8, 271, []) := H 2 (by decide)
theorem MS.a3 {S : List aiS} {b : Nat} (H : MS S b) : S[b + 3]? = some (8, 542, []) := H 3 (by decide)
theorem MS.a4 {S : List aiS} {b : Nat} (H : MS S b) : S[b + 4]? = some (9, 2, []) := H 4 (by decide)
theorem MS.a5 {S : List aiS} {b : Nat} (H : MS S b) : S[b + 5]? = some (8, 100, []) := H 5 (by decide)
theorem MS.a6 {S : List aiS} {b : Nat} (H : MS S b) : S[b + 6]? = some (8, 400, []) := H 6 (by decide)
theorem MS.a7 {S : List aiS} {b : Nat} (H : MS S b) : S[b + 7]? = some (8, 5, []) := H 7 (by decide)
theorem MS.a8 {S : List aiS} {b : Nat} (H : MS S b) : S[b + 8]? = some (8, 5, []) := H 8 (by decide)
section BLK
variable {G : aiG} {out : aiR} {k n pc : Nat} {L st : List Value} {S : List aiS} {M : Nat → Nat → Int32} {J : Nat → Int64} {h c b : Nat} {σ : hs_T} {τ : sc_T} {ρ : md_T}
theorem hf_get {ix j t : Nat} {fin : Bool} (hS : HS S h)  (hd : decode (gB G) pc = .ok (.getfield ix, 3)) (hfl : ai_fl (gY G).cls ix 0 j t fin) (ht : t ≤ 1) (h1 : AW G out k n (pc + 3) L (.int (hf σ j) :: st) S (hs_put h σ M) J) : AW G out k n pc L (.ref (h) :: st) S (hs_put h σ M) J :=
  e_geti hd hfl ht hS.a0 (by rw [show hs_put h σ M h = hf σ from hs_rd_hf h σ M]; exact h1)
theorem hf_put {ix j : Nat} {x : Int32} (hS : HS S h)  (hd : decode (gB G) pc = .ok (.putfield ix, 3)) (hfl : ai_fl (gY G).cls ix 0 j 0 false) (h1 : AW G out k n (pc + 3) L st S (hs_put h (phf σ j x) M) J) : AW G out k n pc L (.int x :: .ref (h) :: st) S (hs_put h σ M) J :=
  e_puti hd hfl hS.a0 (by rw [show ai_u (hs_put h σ M) h j x = hs_put h (phf σ j x) M from hs_wr_hf h σ M j x]; exact h1)
theorem hf_putz {ix j : Nat} {x : Int32} (hS : HS S h) (hd : decode (gB G) pc = .ok (.putfield ix, 3)) (hf : ai_fl (gY G).cls ix 0 j 1 false) (hx : x = 0 ∨ x = 1) (h1 : AW G out k n (pc + 3) L st S (hs_put h (phf σ j x) M) J) : AW G out k n pc L (.int x :: .ref h :: st) S (hs_put h σ M) J :=
  e_putz hd hf hx hS.a0 (by rw [show ai_u (hs_put h σ M) h j x = hs_put h (phf σ j x) M from hs_wr_hf h σ M j x]; exact h1)
theorem hn_get {ix j t : Nat} {fin : Bool} (hS : HS S h)  (hd : decode (gB G) pc = .ok (.getfield ix, 3)) (hfl : ai_fl (gY G).cls ix 1 j t fin) (ht : t ≤ 1) (h1 : AW G out k n (pc + 3) L (.int (hn σ j) :: st) S (hs_put h σ M) J) : AW G out k n pc L (.ref (h + 3) :: st) S (hs_put h σ M) J :=
  e_geti hd hfl ht hS.a3 (by rw [hs_rd_hn]; exact h1)
theorem hn_put {ix j : Nat} {x : Int32} (hS : HS S h)  (hd : decode (gB G) pc = .ok (.putfield ix, 3)) (hfl : ai_fl (gY G).cls ix 1 j 0 false) (h1 : AW G out k n (pc + 3) L st S (hs_put h (phn σ j x) M) J) : AW G out k n pc L (.int x :: .ref (h + 3) :: st) S (hs_put h σ M) J :=
  e_puti hd hfl hS.a3 (by rw [hs_wr_hn]; exact h1)
theorem he_get {ix j t : Nat} {fin : Bool} (hS : HS S h)  (hd : decode (gB G) pc = .ok (.getfield ix, 3)) (hfl : ai_fl (gY G).cls ix 2 j t fin) (ht : t ≤ 1) (h1 : AW G out k n (pc + 3) L (.int (he σ j) :: st) S (hs_put h σ M) J) : AW G out k n pc L (.ref (h + 5) :: st) S (hs_put h σ M) J :=
  e_geti hd hfl ht hS.a5 (by rw [hs_rd_he]; exact h1)
theorem he_put {ix j : Nat} {x : Int32} (hS : HS S h)  (hd : decode (gB G) pc = .ok (.putfield ix, 3)) (hfl : ai_fl (gY G).cls ix 2 j 0 false) (h1 : AW G out k n (pc + 3) L st S (hs_put h (phe σ j x) M) J) : AW G out k n pc L (.int x :: .ref (h + 5) :: st) S (hs_put h σ M) J :=
  e_puti hd hfl hS.a5 (by rw [hs_wr_he]; exact h1)
theorem hm_get {ix j t : Nat} {fin : Bool} (hS : HS S h) {q : Nat} (hq : q < 12) (hd : decode (gB G) pc = .ok (.getfield ix, 3)) (hfl : ai_fl (gY G).cls ix 3 j t fin) (ht : t ≤ 1) (h1 : AW G out k n (pc + 3) L (.int (hm σ q j) :: st) S (hs_put h σ M) J) : AW G out k n pc L (.ref (h + 8 + q) :: st) S (hs_put h σ M) J :=
  e_geti hd hfl ht (hS.am hq) (by rw [hs_rd_hm _ _ _ hq]; exact h1)
theorem hm_put {ix j : Nat} {x : Int32} (hS : HS S h) {q : Nat} (hq : q < 12) (hd : decode (gB G) pc = .ok (.putfield ix, 3)) (hfl : ai_fl (gY G).cls ix 3 j 0 false) (h1 : AW G out k n (pc + 3) L st S (hs_put h (phm σ q j x) M) J) : AW G out k n pc L (.int x :: .ref (h + 8 + q) :: st) S (hs_put h σ M) J :=
  e_puti hd hfl (hS.am hq) (by rw [hs_wr_hm _ _ _ hq]; exact h1)
theorem hr_get {ix j t : Nat} {fin : Bool} (hS : HS S h) {q : Nat} (hq : q < 5) (hd : decode (gB G) pc = .ok (.getfield ix, 3)) (hfl : ai_fl (gY G).cls ix 4 j t fin) (ht : t ≤ 1) (h1 : AW G out k n (pc + 3) L (.int (hr σ q j) :: st) S (hs_put h σ M) J) : AW G out k n pc L (.ref (h + 20 + q) :: st) S (hs_put h σ M) J :=
  e_geti hd hfl ht (hS.ar hq) (by rw [hs_rd_hr _ _ _ hq]; exact h1)
theorem hr_put {ix j : Nat} {x : Int32} (hS : HS S h) {q : Nat} (hq : q < 5) (hd : decode (gB G) pc = .ok (.putfield ix, 3)) (hfl : ai_fl (gY G).cls ix 4 j 0 false) (h1 : AW G out k n (pc + 3) L st S (hs_put h (phr σ q j x) M) J) : AW G out k n pc L (.int x :: .ref (h + 20 + q) :: st) S (hs_put h σ M) J :=
  e_puti hd hfl (hS.ar hq) (by rw [hs_wr_hr _ _ _ hq]; exact h1)
theorem hp_ld {i : Int32} (j : Nat) (hS : HS S h) (hd : decode (gB G) pc = .ok (.iaload, 1)) (hi : i = nI j) (hj : j < 12) (h1 : AW G out k n (pc + 1) L (.int (hp σ j) :: st) S (hs_put h σ M) J) : AW G out k n pc L (.int i :: .ref (h + 4) :: st) S (hs_put h σ M) J :=
  e_iald j hd hS.a4 hi hj (by decide) (by rw [hs_rd_hp]; exact h1)
theorem hp_st {i x : Int32} (j : Nat) (hS : HS S h) (hd : decode (gB G) pc = .ok (.iastore, 1)) (hi : i = nI j) (hj : j < 12) (h1 : AW G out k n (pc + 1) L st S (hs_put h (php σ j x) M) J) : AW G out k n pc L (.int x :: .int i :: .ref (h + 4) :: st) S (hs_put h σ M) J :=
  e_iast j hd hS.a4 hi hj (by decide) (by rw [hs_wr_hp]; exact h1)
theorem hg_ld {i : Int32} (j : Nat) (hS : HS S h) (hd : decode (gB G) pc = .ok (.iaload, 1)) (hi : i = nI j) (hj : j < 160) (h1 : AW G out k n (pc + 1) L (.int (hg σ j) :: st) S (hs_put h σ M) J) : AW G out k n pc L (.int i :: .ref (h + 6) :: st) S (hs_put h σ M) J :=
  e_iald j hd hS.a6 hi hj (by decide) (by rw [hs_rd_hg]; exact h1)
theorem hg_st {i x : Int32} (j : Nat) (hS : HS S h) (hd : decode (gB G) pc = .ok (.iastore, 1)) (hi : i = nI j) (hj : j < 160) (h1 : AW G out k n (pc + 1) L st S (hs_put h (phg σ j x) M) J) : AW G out k n pc L (.int x :: .int i :: .ref (h + 6) :: st) S (hs_put h σ M) J :=
  e_iast j hd hS.a6 hi hj (by decide) (by rw [hs_wr_hg]; exact h1)
theorem hu_ld {i : Int32} (j : Nat) (hS : HS S h) (hd : decode (gB G) pc = .ok (.iaload, 1)) (hi : i = nI j) (hj : j < 3) (h1 : AW G out k n (pc + 1) L (.int (hu σ j) :: st) S (hs_put h σ M) J) : AW G out k n pc L (.int i :: .ref (h + 7) :: st) S (hs_put h σ M) J :=
  e_iald j hd hS.a7 hi hj (by decide) (by rw [hs_rd_hu]; exact h1)
theorem hu_st {i x : Int32} (j : Nat) (hS : HS S h) (hd : decode (gB G) pc = .ok (.iastore, 1)) (hi : i = nI j) (hj : j < 3) (h1 : AW G out k n (pc + 1) L st S (hs_put h (phu σ j x) M) J) : AW G out k n pc L (.int x :: .int i :: .ref (h + 7) :: st) S (hs_put h σ M) J :=
  e_iast j hd hS.a7 hi hj (by decide) (by rw [hs_wr_hu]; exact h1)
theorem h_mem {i : Int32} (q : Nat) (hS : HS S h) (hd : decode (gB G) pc = .ok (.aaload, 1)) (hi : i = nI q) (hq : q < 12) (h1 : AW G out k n (pc + 1) L (.ref (h + 8 + q) :: st) S M J) : AW G out k n pc L (.int i :: .ref (h + 1) :: st) S M J :=
  e_aald q hd hS.a1 (by decide) (by decide) hi hq (by decide) (ai_12 hq) h1
theorem h_rm {i : Int32} (q : Nat) (hS : HS S h) (hd : decode (gB G) pc = .ok (.aaload, 1)) (hi : i = nI q) (hq : q < 5) (h1 : AW G out k n (pc + 1) L (.ref (h + 20 + q) :: st) S M J) : AW G out k n pc L (.int i :: .ref (h + 2) :: st) S M J :=
  e_aald q hd hS.a2 (by decide) (by decide) hi hq (by decide) (ai_5 hq) h1
theorem cf_get {ix j t : Nat} {fin : Bool} (hS : SS S c)  (hd : decode (gB G) pc = .ok (.getfield ix, 3)) (hfl : ai_fl (gY G).cls ix 5 j t fin) (ht : t ≤ 1) (h1 : AW G out k n (pc + 3) L (.int (cf τ j) :: st) S (sc_put c τ M) J) : AW G out k n pc L (.ref (c) :: st) S (sc_put c τ M) J :=
  e_geti hd hfl ht hS.a0 (by rw [show sc_put c τ M c = cf τ from sc_rd_cf c τ M]; exact h1)
theorem cf_put {ix j : Nat} {x : Int32} (hS : SS S c)  (hd : decode (gB G) pc = .ok (.putfield ix, 3)) (hfl : ai_fl (gY G).cls ix 5 j 0 false) (h1 : AW G out k n (pc + 3) L st S (sc_put c (pcf τ j x) M) J) : AW G out k n pc L (.int x :: .ref (c) :: st) S (sc_put c τ M) J :=
  e_puti hd hfl hS.a0 (by rw [show ai_u (sc_put c τ M) c j x = sc_put c (pcf τ j x) M from sc_wr_cf c τ M j x]; exact h1)
theorem cb_ld {i : Int32} (j : Nat) (hS : SS S c) (hd : decode (gB G) pc = .ok (.iaload, 1)) (hi : i = nI j) (hj : j < 100) (h1 : AW G out k n (pc + 1) L (.int (cb τ j) :: st) S (sc_put c τ M) J) : AW G out k n pc L (.int i :: .ref (c + 1) :: st) S (sc_put c τ M) J :=
  e_iald j hd hS.a1 hi hj (by decide) (by rw [sc_rd_cb]; exact h1)
theorem cb_st {i x : Int32} (j : Nat) (hS : SS S c) (hd : decode (gB G) pc = .ok (.iastore, 1)) (hi : i = nI j) (hj : j < 100) (h1 : AW G out k n (pc + 1) L st S (sc_put c (pcb τ j x) M) J) : AW G out k n pc L (.int x :: .int i :: .ref (c + 1) :: st) S (sc_put c τ M) J :=
  e_iast j hd hS.a1 hi hj (by decide) (by rw [sc_wr_cb]; exact h1)
theorem ck_ld {i : Int32} (j : Nat) (hS : SS S c) (hd : decode (gB G) pc = .ok (.iaload, 1)) (hi : i = nI j) (hj : j < 100) (h1 : AW G out k n (pc + 1) L (.int (ck τ j) :: st) S (sc_put c τ M) J) : AW G out k n pc L (.int i :: .ref (c + 2) :: st) S (sc_put c τ M) J :=
  e_iald j hd hS.a2 hi hj (by decide) (by rw [sc_rd_ck]; exact h1)
theorem ck_st {i x : Int32} (j : Nat) (hS : SS S c) (hd : decode (gB G) pc = .ok (.iastore, 1)) (hi : i = nI j) (hj : j < 100) (h1 : AW G out k n (pc + 1) L st S (sc_put c (pck τ j x) M) J) : AW G out k n pc L (.int x :: .int i :: .ref (c + 2) :: st) S (sc_put c τ M) J :=
  e_iast j hd hS.a2 hi hj (by decide) (by rw [sc_wr_ck]; exact h1)
theorem cm_ld {i : Int32} (j : Nat) (hS : SS S c) (hd : decode (gB G) pc = .ok (.iaload, 1)) (hi : i = nI j) (hj : j < 100) (h1 : AW G out k n (pc + 1) L (.int (cm τ j) :: st) S (sc_put c τ M) J) : AW G out k n pc L (.int i :: .ref (c + 3) :: st) S (sc_put c τ M) J :=
  e_iald j hd hS.a3 hi hj (by decide) (by rw [sc_rd_cm]; exact h1)
theorem cm_st {i x : Int32} (j : Nat) (hS : SS S c) (hd : decode (gB G) pc = .ok (.iastore, 1)) (hi : i = nI j) (hj : j < 100) (h1 : AW G out k n (pc + 1) L st S (sc_put c (pcm τ j x) M) J) : AW G out k n pc L (.int x :: .int i :: .ref (c + 3) :: st) S (sc_put c τ M) J :=
  e_iast j hd hS.a3 hi hj (by decide) (by rw [sc_wr_cm]; exact h1)
theorem cr_ld {i : Int32} (j : Nat) (hS : SS S c) (hd : decode (gB G) pc = .ok (.iaload, 1)) (hi : i = nI j) (hj : j < 100) (h1 : AW G out k n (pc + 1) L (.int (cr τ j) :: st) S (sc_put c τ M) J) : AW G out k n pc L (.int i :: .ref (c + 4) :: st) S (sc_put c τ M) J :=
  e_iald j hd hS.a4 hi hj (by decide) (by rw [sc_rd_cr]; exact h1)
theorem cr_st {i x : Int32} (j : Nat) (hS : SS S c) (hd : decode (gB G) pc = .ok (.iastore, 1)) (hi : i = nI j) (hj : j < 100) (h1 : AW G out k n (pc + 1) L st S (sc_put c (pcr τ j x) M) J) : AW G out k n pc L (.int x :: .int i :: .ref (c + 4) :: st) S (sc_put c τ M) J :=
  e_iast j hd hS.a4 hi hj (by decide) (by rw [sc_wr_cr]; exact h1)
theorem cn_ld {i : Int32} (j : Nat) (hS : SS S c) (hd : decode (gB G) pc = .ok (.iaload, 1)) (hi : i = nI j) (hj : j < 100) (h1 : AW G out k n (pc + 1) L (.int (cn τ j) :: st) S (sc_put c τ M) J) : AW G out k n pc L (.int i :: .ref (c + 5) :: st) S (sc_put c τ M) J :=
  e_iald j hd hS.a5 hi hj (by decide) (by rw [sc_rd_cn]; exact h1)
theorem cn_st {i x : Int32} (j : Nat) (hS : SS S c) (hd : decode (gB G) pc = .ok (.iastore, 1)) (hi : i = nI j) (hj : j < 100) (h1 : AW G out k n (pc + 1) L st S (sc_put c (pcn τ j x) M) J) : AW G out k n pc L (.int x :: .int i :: .ref (c + 5) :: st) S (sc_put c τ M) J :=
  e_iast j hd hS.a5 hi hj (by decide) (by rw [sc_wr_cn]; exact h1)
theorem co_ld {i : Int32} (j : Nat) (hS : SS S c) (hd : decode (gB G) pc = .ok (.iaload, 1)) (hi : i = nI j) (hj : j < 4) (h1 : AW G out k n (pc + 1) L (.int (co τ j) :: st) S (sc_put c τ M) J) : AW G out k n pc L (.int i :: .ref (c + 6) :: st) S (sc_put c τ M) J :=
  e_iald j hd hS.a6 hi hj (by decide) (by rw [sc_rd_co]; exact h1)
theorem co_st {i x : Int32} (j : Nat) (hS : SS S c) (hd : decode (gB G) pc = .ok (.iastore, 1)) (hi : i = nI j) (hj : j < 4) (h1 : AW G out k n (pc + 1) L st S (sc_put c (pco τ j x) M) J) : AW G out k n pc L (.int x :: .int i :: .ref (c + 6) :: st) S (sc_put c τ M) J :=
  e_iast j hd hS.a6 hi hj (by decide) (by rw [sc_wr_co]; exact h1)
theorem ct_ld {i : Int32} (j : Nat) (hS : SS S c) (hd : decode (gB G) pc = .ok (.iaload, 1)) (hi : i = nI j) (hj : j < 100) (h1 : AW G out k n (pc + 1) L (.int (ct τ j) :: st) S (sc_put c τ M) J) : AW G out k n pc L (.int i :: .ref (c + 7) :: st) S (sc_put c τ M) J :=
  e_iald j hd hS.a7 hi hj (by decide) (by rw [sc_rd_ct]; exact h1)
theorem ct_st {i x : Int32} (j : Nat) (hS : SS S c) (hd : decode (gB G) pc = .ok (.iastore, 1)) (hi : i = nI j) (hj : j < 100) (h1 : AW G out k n (pc + 1) L st S (sc_put c (pct τ j x) M) J) : AW G out k n pc L (.int x :: .int i :: .ref (c + 7) :: st) S (sc_put c τ M) J :=
  e_iast j hd hS.a7 hi hj (by decide) (by rw [sc_wr_ct]; exact h1)
theorem rf_get {ix j t : Nat} {fin : Bool} (hS : MS S b)  (hd : decode (gB G) pc = .ok (.getfield ix, 3)) (hfl : ai_fl (gY G).cls ix 7 j t fin) (ht : t ≤ 1) (h1 : AW G out k n (pc + 3) L (.int (rf ρ j) :: st) S (md_put b ρ M) J) : AW G out k n pc L (.ref (b) :: st) S (md_put b ρ M) J :=
  e_geti hd hfl ht hS.a0 (by rw [show md_put b ρ M b = rf ρ from md_rd_rf b ρ M]; exact h1)
theorem rf_put {ix j : Nat} {x : Int32} (hS : MS S b)  (hd : decode (gB G) pc = .ok (.putfield ix, 3)) (hfl : ai_fl (gY G).cls ix 7 j 0 false) (h1 : AW G out k n (pc + 3) L st S (md_put b (prf ρ j x) M) J) : AW G out k n pc L (.int x :: .ref (b) :: st) S (md_put b ρ M) J :=
  e_puti hd hfl hS.a0 (by rw [show ai_u (md_put b ρ M) b j x = md_put b (prf ρ j x) M from md_wr_rf b ρ M j x]; exact h1)
theorem rm_ld {i : Int32} (j : Nat) (hS : MS S b) (hd : decode (gB G) pc = .ok (.iaload, 1)) (hi : i = nI j) (hj : j < 271) (h1 : AW G out k n (pc + 1) L (.int (rm ρ j) :: st) S (md_put b ρ M) J) : AW G out k n pc L (.int i :: .ref (b + 1) :: st) S (md_put b ρ M) J :=
  e_iald j hd hS.a1 hi hj (by decide) (by rw [md_rd_rm]; exact h1)
theorem rm_st {i x : Int32} (j : Nat) (hS : MS S b) (hd : decode (gB G) pc = .ok (.iastore, 1)) (hi : i = nI j) (hj : j < 271) (h1 : AW G out k n (pc + 1) L st S (md_put b (prm ρ j x) M) J) : AW G out k n pc L (.int x :: .int i :: .ref (b + 1) :: st) S (md_put b ρ M) J :=
  e_iast j hd hS.a1 hi hj (by decide) (by rw [md_wr_rm]; exact h1)
theorem ra_ld {i : Int32} (j : Nat) (hS : MS S b) (hd : decode (gB G) pc = .ok (.iaload, 1)) (hi : i = nI j) (hj : j < 271) (h1 : AW G out k n (pc + 1) L (.int (ra ρ j) :: st) S (md_put b ρ M) J) : AW G out k n pc L (.int i :: .ref (b + 2) :: st) S (md_put b ρ M) J :=
  e_iald j hd hS.a2 hi hj (by decide) (by rw [md_rd_ra]; exact h1)
theorem ra_st {i x : Int32} (j : Nat) (hS : MS S b) (hd : decode (gB G) pc = .ok (.iastore, 1)) (hi : i = nI j) (hj : j < 271) (h1 : AW G out k n (pc + 1) L st S (md_put b (pra ρ j x) M) J) : AW G out k n pc L (.int x :: .int i :: .ref (b + 2) :: st) S (md_put b ρ M) J :=
  e_iast j hd hS.a2 hi hj (by decide) (by rw [md_wr_ra]; exact h1)
theorem rs_ld {i : Int32} (j : Nat) (hS : MS S b) (hd : decode (gB G) pc = .ok (.iaload, 1)) (hi : i = nI j) (hj : j < 542) (h1 : AW G out k n (pc + 1) L (.int (rs ρ j) :: st) S (md_put b ρ M) J) : AW G out k n pc L (.int i :: .ref (b + 3) :: st) S (md_put b ρ M) J :=
  e_iald j hd hS.a3 hi hj (by decide) (by rw [md_rd_rs]; exact h1)
theorem rs_st {i x : Int32} (j : Nat) (hS : MS S b) (hd : decode (gB G) pc = .ok (.iastore, 1)) (hi : i = nI j) (hj : j < 542) (h1 : AW G out k n (pc + 1) L st S (md_put b (prs ρ j x) M) J) : AW G out k n pc L (.int x :: .int i :: .ref (b + 3) :: st) S (md_put b ρ M) J :=
  e_iast j hd hS.a3 hi hj (by decide) (by rw [md_wr_rs]; exact h1)
theorem ri_ld {i : Int32} (j : Nat) (hS : MS S b) (hd : decode (gB G) pc = .ok (.baload, 1)) (hi : i = nI j) (hj : j < 2) (h1 : AW G out k n (pc + 1) L (.int (ri ρ j) :: st) S (md_put b ρ M) J) : AW G out k n pc L (.int i :: .ref (b + 4) :: st) S (md_put b ρ M) J :=
  e_zald j hd hS.a4 hi hj (by decide) (by rw [md_rd_ri]; exact h1)
theorem ri_st {i x : Int32} (j : Nat) (hS : MS S b) (hd : decode (gB G) pc = .ok (.bastore, 1)) (hx : x = 0 ∨ x = 1) (hi : i = nI j) (hj : j < 2) (h1 : AW G out k n (pc + 1) L st S (md_put b (pri ρ j x) M) J) : AW G out k n pc L (.int x :: .int i :: .ref (b + 4) :: st) S (md_put b ρ M) J :=
  e_zast j hd hS.a4 hx hi hj (by decide) (by rw [md_wr_ri]; exact h1)
theorem rt_ld {i : Int32} (j : Nat) (hS : MS S b) (hd : decode (gB G) pc = .ok (.iaload, 1)) (hi : i = nI j) (hj : j < 100) (h1 : AW G out k n (pc + 1) L (.int (rt ρ j) :: st) S (md_put b ρ M) J) : AW G out k n pc L (.int i :: .ref (b + 5) :: st) S (md_put b ρ M) J :=
  e_iald j hd hS.a5 hi hj (by decide) (by rw [md_rd_rt]; exact h1)
theorem rt_st {i x : Int32} (j : Nat) (hS : MS S b) (hd : decode (gB G) pc = .ok (.iastore, 1)) (hi : i = nI j) (hj : j < 100) (h1 : AW G out k n (pc + 1) L st S (md_put b (prt ρ j x) M) J) : AW G out k n pc L (.int x :: .int i :: .ref (b + 5) :: st) S (md_put b ρ M) J :=
  e_iast j hd hS.a5 hi hj (by decide) (by rw [md_wr_rt]; exact h1)
theorem rp_ld {i : Int32} (j : Nat) (hS : MS S b) (hd : decode (gB G) pc = .ok (.iaload, 1)) (hi : i = nI j) (hj : j < 400) (h1 : AW G out k n (pc + 1) L (.int (rp ρ j) :: st) S (md_put b ρ M) J) : AW G out k n pc L (.int i :: .ref (b + 6) :: st) S (md_put b ρ M) J :=
  e_iald j hd hS.a6 hi hj (by decide) (by rw [md_rd_rp]; exact h1)
theorem rp_st {i x : Int32} (j : Nat) (hS : MS S b) (hd : decode (gB G) pc = .ok (.iastore, 1)) (hi : i = nI j) (hj : j < 400) (h1 : AW G out k n (pc + 1) L st S (md_put b (prp ρ j x) M) J) : AW G out k n pc L (.int x :: .int i :: .ref (b + 6) :: st) S (md_put b ρ M) J :=
  e_iast j hd hS.a6 hi hj (by decide) (by rw [md_wr_rp]; exact h1)
theorem ro_ld {i : Int32} (j : Nat) (hS : MS S b) (hd : decode (gB G) pc = .ok (.iaload, 1)) (hi : i = nI j) (hj : j < 5) (h1 : AW G out k n (pc + 1) L (.int (ro ρ j) :: st) S (md_put b ρ M) J) : AW G out k n pc L (.int i :: .ref (b + 7) :: st) S (md_put b ρ M) J :=
  e_iald j hd hS.a7 hi hj (by decide) (by rw [md_rd_ro]; exact h1)
theorem ro_st {i x : Int32} (j : Nat) (hS : MS S b) (hd : decode (gB G) pc = .ok (.iastore, 1)) (hi : i = nI j) (hj : j < 5) (h1 : AW G out k n (pc + 1) L st S (md_put b (pro ρ j x) M) J) : AW G out k n pc L (.int x :: .int i :: .ref (b + 7) :: st) S (md_put b ρ M) J :=
  e_iast j hd hS.a7 hi hj (by decide) (by rw [md_wr_ro]; exact h1)
theorem rl_ld {i : Int32} (j : Nat) (hS : MS S b) (hd : decode (gB G) pc = .ok (.iaload, 1)) (hi : i = nI j) (hj : j < 5) (h1 : AW G out k n (pc + 1) L (.int (rl ρ j) :: st) S (md_put b ρ M) J) : AW G out k n pc L (.int i :: .ref (b + 8) :: st) S (md_put b ρ M) J :=
  e_iald j hd hS.a8 hi hj (by decide) (by rw [md_rd_rl]; exact h1)
theorem rl_st {i x : Int32} (j : Nat) (hS : MS S b) (hd : decode (gB G) pc = .ok (.iastore, 1)) (hi : i = nI j) (hj : j < 5) (h1 : AW G out k n (pc + 1) L st S (md_put b (prl ρ j x) M) J) : AW G out k n pc L (.int x :: .int i :: .ref (b + 8) :: st) S (md_put b ρ M) J :=
  e_iast j hd hS.a8 hi hj (by decide) (by rw [md_wr_rl]; exact h1)
end BLK
