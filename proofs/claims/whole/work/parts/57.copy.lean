/-! ===== copying a house ===== -/
theorem hs_out {h a : Nat} (σ : hs_T) (M : Nat → Nat → Int32) (ha : a < h ∨ h + 25 ≤ a) : hs_put h σ M a = M a := bput_out _ _ ha
theorem hs_comm {h g : Nat} (hD : h + 25 ≤ g ∨ g + 25 ≤ h) (τ σ : hs_T) (M : Nat → Nat → Int32) : hs_put h τ (hs_put g σ M) = hs_put g σ (hs_put h τ M) := bput_comm _ _ _ hD
theorem bput_c {b n o : Nat} (X : Nat → Int32) (V M : Nat → Nat → Int32) (ho : o < n) : (fun q => if q = b + o then X else bput b n V M q) = bput b n (fun q => if q = o then X else V q) M := by
  funext q
  by_cases hq : b ≤ q ∧ q < b + n
  · by_cases h2 : q = b + o
    · subst h2
      rw [if_pos rfl, bput_at _ _ ho, if_pos rfl]
    · have h3 : q - b ≠ o := by omega
      simp only [bput, hq, and_self, if_true, if_neg h2, if_neg h3]
  · have h2 : q ≠ b + o := by omega
    simp only [bput, hq, if_false, if_neg h2]
theorem hs_c4 (τ : hs_T) (X : Nat → Int32) : (fun q => if q = 4 then X else hs_cell τ q) = hs_cell (Hp τ X) := by
  funext q
  by_cases h : q = 4
  · subst h; simp [hs_cell]
  · simp only [hs_cell, h, if_false]
theorem hs_c6 (τ : hs_T) (X : Nat → Int32) : (fun q => if q = 6 then X else hs_cell τ q) = hs_cell (Hg τ X) := by
  funext q
  by_cases h : q = 6
  · subst h; simp [hs_cell]
  · simp only [hs_cell, h, if_false]
abbrev Hu (σ : hs_T) (x : Nat → Int32) : hs_T := (σ.1, σ.2.1, σ.2.2.1, σ.2.2.2.1, σ.2.2.2.2.1, σ.2.2.2.2.2.1, σ.2.2.2.2.2.2.1, x)
theorem hs_c7 (τ : hs_T) (X : Nat → Int32) : (fun q => if q = 7 then X else hs_cell τ q) = hs_cell (Hu τ X) := by
  funext q
  by_cases h : q = 7
  · subst h; simp [hs_cell]
  · simp only [hs_cell, h, if_false]
section C57
variable {G : aiG} {out : aiR} {k n pc : Nat} {L st : List Value} {S : List aiS} {M : Nat → Nat → Int32} {J : Nat → Int64} {h g : Nat} {τ σ : hs_T}
theorem hm_get2 {ix j t q : Nat} {fin : Bool} (hG : HS S g) (hD : h + 25 ≤ g ∨ g + 25 ≤ h) (hq : q < 12) (hd : decode (gB G) pc = .ok (.getfield ix, 3)) (hfl : ai_fl (gY G).cls ix 3 j t fin) (ht : t ≤ 1) (h1 : AW G out k n (pc + 3) L (.int (hm σ q j) :: st) S (hs_put h τ (hs_put g σ M)) J) : AW G out k n pc L (.ref (g + 8 + q) :: st) S (hs_put h τ (hs_put g σ M)) J :=
  e_geti hd hfl ht (hG.am hq) (by rw [hs_out _ _ (by omega), hs_rd_hm _ _ _ hq]; exact h1)
theorem hr_get2 {ix j t q : Nat} {fin : Bool} (hG : HS S g) (hD : h + 25 ≤ g ∨ g + 25 ≤ h) (hq : q < 5) (hd : decode (gB G) pc = .ok (.getfield ix, 3)) (hfl : ai_fl (gY G).cls ix 4 j t fin) (ht : t ≤ 1) (h1 : AW G out k n (pc + 3) L (.int (hr σ q j) :: st) S (hs_put h τ (hs_put g σ M)) J) : AW G out k n pc L (.ref (g + 20 + q) :: st) S (hs_put h τ (hs_put g σ M)) J :=
  e_geti hd hfl ht (hG.ar hq) (by rw [hs_out _ _ (by omega), hs_rd_hr _ _ _ hq]; exact h1)
theorem hf_get2 {ix j t : Nat} {fin : Bool} (hG : HS S g) (hD : h + 25 ≤ g ∨ g + 25 ≤ h) (hd : decode (gB G) pc = .ok (.getfield ix, 3)) (hfl : ai_fl (gY G).cls ix 0 j t fin) (ht : t ≤ 1) (h1 : AW G out k n (pc + 3) L (.int (hf σ j) :: st) S (hs_put h τ (hs_put g σ M)) J) : AW G out k n pc L (.ref g :: st) S (hs_put h τ (hs_put g σ M)) J :=
  e_geti hd hfl ht hG.a0 (by rw [hs_out _ _ (by omega), show hs_put g σ M g = hf σ from hs_rd_hf g σ M]; exact h1)
theorem hn_get2 {ix j t : Nat} {fin : Bool} (hG : HS S g) (hD : h + 25 ≤ g ∨ g + 25 ≤ h) (hd : decode (gB G) pc = .ok (.getfield ix, 3)) (hfl : ai_fl (gY G).cls ix 1 j t fin) (ht : t ≤ 1) (h1 : AW G out k n (pc + 3) L (.int (hn σ j) :: st) S (hs_put h τ (hs_put g σ M)) J) : AW G out k n pc L (.ref (g + 3) :: st) S (hs_put h τ (hs_put g σ M)) J :=
  e_geti hd hfl ht hG.a3 (by rw [hs_out _ _ (by omega), hs_rd_hn]; exact h1)
theorem he_get2 {ix j t : Nat} {fin : Bool} (hG : HS S g) (hD : h + 25 ≤ g ∨ g + 25 ≤ h) (hd : decode (gB G) pc = .ok (.getfield ix, 3)) (hfl : ai_fl (gY G).cls ix 2 j t fin) (ht : t ≤ 1) (h1 : AW G out k n (pc + 3) L (.int (he σ j) :: st) S (hs_put h τ (hs_put g σ M)) J) : AW G out k n pc L (.ref (g + 5) :: st) S (hs_put h τ (hs_put g σ M)) J :=
  e_geti hd hfl ht hG.a5 (by rw [hs_out _ _ (by omega), hs_rd_he]; exact h1)
theorem hp_copy {ix : Nat} {z : Int32} (hS : HS S h) (hG : HS S g) (hD : h + 25 ≤ g ∨ g + 25 ≤ h) (hd : decode (gB G) pc = .ok (.invokestatic ix, 3)) (hw : Cond.methodLink (gY G).cls ix arraycopyName ∈ ai_T ∧ Cond.native arraycopyName ∈ ai_T ∧ Cond.static arraycopyName ∈ ai_T ∧ Cond.initialized "java/lang/System" ∈ ai_T) (hdp : 1 ≤ gD G) (hz : z = nI 12) (h1 : AW G out k n (pc + 3) L [] S (hs_put h (Hp τ (va_cpy (hp σ) (hp τ) 0 0 12)) (hs_put g σ M)) J) : AW G out k n pc L [.int z, .int 0, .ref (h + 4), .int 0, .ref (g + 4)] S (hs_put h τ (hs_put g σ M)) J := by
  refine e_copy hd hw hdp hG.a4 hS.a4 hz (by decide) (by decide) (by decide) ?_
  rw [hs_out τ _ (show g + 4 < h ∨ h + 25 ≤ g + 4 by omega), hs_rd_hp, hs_rd_hp]
  show AW G out k n (pc + 3) L [] S (fun q => if q = h + 4 then va_cpy (hp σ) (hp τ) 0 0 12 else bput h 25 (hs_cell τ) (hs_put g σ M) q) J
  rw [bput_c _ _ _ (by decide), hs_c4]
  exact h1
theorem hg_copy {ix : Nat} {z : Int32} (hS : HS S h) (hG : HS S g) (hD : h + 25 ≤ g ∨ g + 25 ≤ h) (hd : decode (gB G) pc = .ok (.invokestatic ix, 3)) (hw : Cond.methodLink (gY G).cls ix arraycopyName ∈ ai_T ∧ Cond.native arraycopyName ∈ ai_T ∧ Cond.static arraycopyName ∈ ai_T ∧ Cond.initialized "java/lang/System" ∈ ai_T) (hdp : 1 ≤ gD G) (hz : z = nI 160) (h1 : AW G out k n (pc + 3) L [] S (hs_put h (Hg τ (va_cpy (hg σ) (hg τ) 0 0 160)) (hs_put g σ M)) J) : AW G out k n pc L [.int z, .int 0, .ref (h + 6), .int 0, .ref (g + 6)] S (hs_put h τ (hs_put g σ M)) J := by
  refine e_copy hd hw hdp hG.a6 hS.a6 hz (by decide) (by decide) (by decide) ?_
  rw [hs_out τ _ (show g + 6 < h ∨ h + 25 ≤ g + 6 by omega), hs_rd_hg, hs_rd_hg]
  show AW G out k n (pc + 3) L [] S (fun q => if q = h + 6 then va_cpy (hg σ) (hg τ) 0 0 160 else bput h 25 (hs_cell τ) (hs_put g σ M) q) J
  rw [bput_c _ _ _ (by decide), hs_c6]
  exact h1
theorem hu_copy {ix : Nat} {z : Int32} (hS : HS S h) (hG : HS S g) (hD : h + 25 ≤ g ∨ g + 25 ≤ h) (hd : decode (gB G) pc = .ok (.invokestatic ix, 3)) (hw : Cond.methodLink (gY G).cls ix arraycopyName ∈ ai_T ∧ Cond.native arraycopyName ∈ ai_T ∧ Cond.static arraycopyName ∈ ai_T ∧ Cond.initialized "java/lang/System" ∈ ai_T) (hdp : 1 ≤ gD G) (hz : z = nI 3) (h1 : AW G out k n (pc + 3) L [] S (hs_put h (Hu τ (va_cpy (hu σ) (hu τ) 0 0 3)) (hs_put g σ M)) J) : AW G out k n pc L [.int z, .int 0, .ref (h + 7), .int 0, .ref (g + 7)] S (hs_put h τ (hs_put g σ M)) J := by
  refine e_copy hd hw hdp hG.a7 hS.a7 hz (by decide) (by decide) (by decide) ?_
  rw [hs_out τ _ (show g + 7 < h ∨ h + 25 ≤ g + 7 by omega), hs_rd_hu, hs_rd_hu]
  show AW G out k n (pc + 3) L [] S (fun q => if q = h + 7 then va_cpy (hu σ) (hu τ) 0 0 3 else bput h 25 (hs_cell τ) (hs_put g σ M) q) J
  rw [bput_c _ _ _ (by decide), hs_c7]
  exact h1
end C57
def hRc (τ : hs_T) (q : Nat) (f : Nat → Int32) : hs_T := phr (phr (phr (phr (phr (phr (phr (phr (phr τ q 0 (f 0)) q 1 (f 1)) q 2 (f 2)) q 3 (f 3)) q 4 (f 4)) q 5 (f 5)) q 6 (f 6)) q 7 (f 7)) q 8 (f 8)
theorem hRc_rd (τ : hs_T) (q : Nat) (f : Nat → Int32) (a b : Nat) : hr (hRc τ q f) a b = if a = q ∧ b < 9 then f b else hr τ a b := by
  simp only [hRc, phr_rd]
  by_cases ha : a = q
  · subst ha
    by_cases hb : b < 9
    · rw [if_pos (show a = a ∧ b < 9 from ⟨rfl, hb⟩)]
      rcases (show b = 0 ∨ b = 1 ∨ b = 2 ∨ b = 3 ∨ b = 4 ∨ b = 5 ∨ b = 6 ∨ b = 7 ∨ b = 8 by omega) with rfl | rfl | rfl | rfl | rfl | rfl | rfl | rfl | rfl <;> simp
    · have h0 : ∀ c, c < 9 → ¬ b = c := fun c hc => by omega
      simp [h0, hb]
  · simp [ha]
def hCm (τ σ : hs_T) (i : Nat) : hs_T := (fun k j => if k < i ∧ j < 4 then hm σ k j else hm τ k j, τ.2)
def hCr (τ σ : hs_T) (i : Nat) : hs_T := (hm τ, fun k j => if k < i ∧ j < 9 then hr σ k j else hr τ k j, τ.2.2)
theorem hCm_0 (τ σ : hs_T) : hCm τ σ 0 = τ := by
  refine Prod.ext ?_ rfl
  funext k j
  show (if k < 0 ∧ j < 4 then hm σ k j else hm τ k j) = _
  rw [if_neg (by omega)]
theorem hCm_s (τ σ : hs_T) (i : Nat) : hBe (hCm τ σ i) i (hm σ i 0) (hm σ i 1) (hm σ i 2) (hm σ i 3) = hCm τ σ (i + 1) := by
  refine Prod.ext ?_ rfl
  funext k j
  show hm (hBe (hCm τ σ i) i (hm σ i 0) (hm σ i 1) (hm σ i 2) (hm σ i 3)) k j = if k < i + 1 ∧ j < 4 then hm σ k j else hm τ k j
  rw [hBe_rd]
  by_cases hk : k = i
  · subst hk
    rw [if_pos rfl]
    by_cases hj : j < 4
    · rw [if_pos (show k < k + 1 ∧ j < 4 from ⟨by omega, hj⟩)]
      rcases (show j = 0 ∨ j = 1 ∨ j = 2 ∨ j = 3 by omega) with rfl | rfl | rfl | rfl <;> simp
    · rw [if_neg (by omega), if_neg (by omega), if_neg (by omega), if_neg (by omega), if_neg (by omega)]
      show (if k < k ∧ j < 4 then hm σ k j else hm τ k j) = _
      rw [if_neg (by omega)]
  · rw [if_neg hk]
    show (if k < i ∧ j < 4 then hm σ k j else hm τ k j) = _
    by_cases h2 : k < i ∧ j < 4
    · rw [if_pos h2, if_pos ⟨by omega, h2.2⟩]
    · rw [if_neg h2, if_neg (by omega)]
theorem hCr_0 (τ σ : hs_T) : hCr τ σ 0 = τ := by
  refine Prod.ext rfl (Prod.ext ?_ rfl)
  funext k j
  show (if k < 0 ∧ j < 9 then hr σ k j else hr τ k j) = _
  rw [if_neg (by omega)]
theorem hCr_s (τ σ : hs_T) (i : Nat) : hRc (hCr τ σ i) i (hr σ i) = hCr τ σ (i + 1) := by
  refine Prod.ext rfl (Prod.ext ?_ rfl)
  funext k j
  show hr (hRc (hCr τ σ i) i (hr σ i)) k j = if k < i + 1 ∧ j < 9 then hr σ k j else hr τ k j
  rw [hRc_rd]
  by_cases hk : k = i ∧ j < 9
  · obtain ⟨rfl, hj⟩ := hk
    rw [if_pos ⟨rfl, hj⟩, if_pos ⟨by omega, hj⟩]
  · rw [if_neg hk]
    show (if k < i ∧ j < 9 then hr σ k j else hr τ k j) = _
    by_cases h2 : k < i ∧ j < 9
    · rw [if_pos h2, if_pos ⟨by omega, h2.2⟩]
    · rw [if_neg h2, if_neg (by omega)]
/-- two houses that answer alike -/
def hEq (σ σ' : hs_T) : Prop := (∀ k j, k < 12 → j < 4 → hm σ' k j = hm σ k j) ∧ (∀ r j, r < 5 → j < 9 → hr σ' r j = hr σ r j) ∧ (∀ j, 5 ≤ j → j < 11 → hf σ' j = hf σ j) ∧ (∀ i, i < 12 → hp σ' i = hp σ i) ∧ hn σ' 1 = hn σ 1 ∧ (∀ i, i < 160 → hg σ' i = hg σ i) ∧ he σ' 1 = he σ 1 ∧ ∀ i, i < 3 → hu σ' i = hu σ i
def hCp (τ σ : hs_T) : hs_T :=
  let τ2 := hCr (hCm τ σ 12) σ 5
  let τ3 := phn τ2 1 (hn σ 1)
  let τ4 := Hp τ3 (va_cpy (hp σ) (hp τ3) 0 0 12)
  let τ5 := phe τ4 1 (he σ 1)
  let τ6 := Hg τ5 (va_cpy (hg σ) (hg τ5) 0 0 160)
  let τ7 := Hu τ6 (va_cpy (hu σ) (hu τ6) 0 0 3)
  phf (phf (phf (phf (phf (phf τ7 5 (hf σ 5)) 6 (hf σ 6)) 7 (hf σ 7)) 8 (hf σ 8)) 9 (hf σ 9)) 10 (hf σ 10)
theorem hCp_eq (τ σ : hs_T) : hEq σ (hCp τ σ) := by
  refine ⟨fun k j hk hj => ?_, fun r j hr5 hj => ?_, fun j h5 h11 => ?_, fun i hi => ?_, ?_, fun i hi => ?_, ?_, fun i hi => ?_⟩
  · show (if k < 12 ∧ j < 4 then hm σ k j else hm τ k j) = _
    rw [if_pos ⟨hk, hj⟩]
  · show (if r < 5 ∧ j < 9 then hr σ r j else hr τ r j) = _
    rw [if_pos ⟨hr5, hj⟩]
  · show upd (upd (upd (upd (upd (upd (hf τ) 5 (hf σ 5)) 6 (hf σ 6)) 7 (hf σ 7)) 8 (hf σ 8)) 9 (hf σ 9)) 10 (hf σ 10) j = hf σ j
    rcases (show j = 5 ∨ j = 6 ∨ j = 7 ∨ j = 8 ∨ j = 9 ∨ j = 10 by omega) with rfl | rfl | rfl | rfl | rfl | rfl <;> simp [upd]
  · show va_cpy (hp σ) (hp τ) 0 0 12 i = hp σ i
    simp [va_cpy, hi]
  · show upd (hn τ) 1 (hn σ 1) 1 = hn σ 1
    simp [upd]
  · show va_cpy (hg σ) (hg τ) 0 0 160 i = hg σ i
    simp [va_cpy, hi]
  · show upd (he τ) 1 (he σ 1) 1 = he σ 1
    simp [upd]
  · show va_cpy (hu σ) (hu τ) 0 0 3 i = hu σ i
    simp [va_cpy, hi]
section C57b
variable {S : List aiS} {M : Nat → Nat → Int32} {J : Nat → Int64} {h g : Nat} {τ σ : hs_T}
theorem c_X3_copyFrom (hS : HS S h) (hG : HS S g) (hD : h + 25 ≤ g ∨ g + 25 ≤ h) {q : Nat} (hq : q < 12) : AM G_X3_copyFrom [.ref (h + 8 + q), .ref (g + 8 + q)] S (hs_put h τ (hs_put g σ M)) J (none, S, hs_put h (hBe τ q (hm σ q 0) (hm σ q 1) (hm σ q 2) (hm σ q 3)) (hs_put g σ M), J) := by
  refine AM_gen (fun out ho => ?_)
  refine AM_of [.ref (h + 8 + q), .ref (g + 8 + q)] (by decide) rfl (fun B => (Nat.le_of_ble_eq_true rfl)) ?_
  refine e_aload_n dX3_copyFrom_0 rfl rfl ?_
  refine e_aload_n dX3_copyFrom_1 rfl rfl ?_
  refine hm_get2 hG hD (by first | assumption | omega) dX3_copyFrom_2 fl_3_9 (by decide) ?_
  refine e_aload_n dX3_copyFrom_5 rfl rfl ?_
  refine hm_get2 hG hD (by first | assumption | omega) dX3_copyFrom_6 fl_3_15 (by decide) ?_
  refine e_aload_n dX3_copyFrom_9 rfl rfl ?_
  refine hm_get2 hG hD (by first | assumption | omega) dX3_copyFrom_10 fl_3_18 (by decide) ?_
  refine e_aload_n dX3_copyFrom_13 rfl rfl ?_
  refine hm_get2 hG hD (by first | assumption | omega) dX3_copyFrom_14 fl_3_21 (by decide) ?_
  refine e_cV0 dX3_copyFrom_17 ml_3_24 (c_X3_become hS hq _ _ _ _) (hS.am (by first | assumption | omega)) rfl rfl (by decide) (Nat.le_of_ble_eq_true rfl) ⟨rfl, rfl⟩ (Nat.le_of_ble_eq_true rfl) (Nat.le_of_ble_eq_true rfl) ?_
  exact e_vret dX3_copyFrom_20 rfl ho (Nat.le_of_ble_eq_true rfl) (Nat.le_of_ble_eq_true rfl)
theorem c_X4_copyFrom (hS : HS S h) (hG : HS S g) (hD : h + 25 ≤ g ∨ g + 25 ≤ h) {q : Nat} (hq : q < 5) : AM G_X4_copyFrom [.ref (h + 20 + q), .ref (g + 20 + q)] S (hs_put h τ (hs_put g σ M)) J (none, S, hs_put h (hRc τ q (hr σ q)) (hs_put g σ M), J) := by
  refine AM_gen (fun out ho => ?_)
  refine AM_of [.ref (h + 20 + q), .ref (g + 20 + q)] (by decide) rfl (fun B => (Nat.le_of_ble_eq_true rfl)) ?_
  refine e_aload_n dX4_copyFrom_0 rfl rfl ?_
  refine e_aload_n dX4_copyFrom_1 rfl rfl ?_
  refine hr_get2 hG hD (by first | assumption | omega) dX4_copyFrom_2 fl_4_7 (by decide) ?_
  refine hr_put hS (by first | assumption | omega) dX4_copyFrom_5 fl_4_7 ?_
  refine e_aload_n dX4_copyFrom_8 rfl rfl ?_
  refine e_aload_n dX4_copyFrom_9 rfl rfl ?_
  refine hr_get2 hG hD (by first | assumption | omega) dX4_copyFrom_10 fl_4_13 (by decide) ?_
  refine hr_put hS (by first | assumption | omega) dX4_copyFrom_13 fl_4_13 ?_
  refine e_aload_n dX4_copyFrom_16 rfl rfl ?_
  refine e_aload_n dX4_copyFrom_17 rfl rfl ?_
  refine hr_get2 hG hD (by first | assumption | omega) dX4_copyFrom_18 fl_4_16 (by decide) ?_
  refine hr_put hS (by first | assumption | omega) dX4_copyFrom_21 fl_4_16 ?_
  refine e_aload_n dX4_copyFrom_24 rfl rfl ?_
  refine e_aload_n dX4_copyFrom_25 rfl rfl ?_
  refine hr_get2 hG hD (by first | assumption | omega) dX4_copyFrom_26 fl_4_19 (by decide) ?_
  refine hr_put hS (by first | assumption | omega) dX4_copyFrom_29 fl_4_19 ?_
  refine e_aload_n dX4_copyFrom_32 rfl rfl ?_
  refine e_aload_n dX4_copyFrom_33 rfl rfl ?_
  refine hr_get2 hG hD (by first | assumption | omega) dX4_copyFrom_34 fl_4_22 (by decide) ?_
  refine hr_put hS (by first | assumption | omega) dX4_copyFrom_37 fl_4_22 ?_
  refine e_aload_n dX4_copyFrom_40 rfl rfl ?_
  refine e_aload_n dX4_copyFrom_41 rfl rfl ?_
  refine hr_get2 hG hD (by first | assumption | omega) dX4_copyFrom_42 fl_4_25 (by decide) ?_
  refine hr_put hS (by first | assumption | omega) dX4_copyFrom_45 fl_4_25 ?_
  refine e_aload_n dX4_copyFrom_48 rfl rfl ?_
  refine e_aload_n dX4_copyFrom_49 rfl rfl ?_
  refine hr_get2 hG hD (by first | assumption | omega) dX4_copyFrom_50 fl_4_28 (by decide) ?_
  refine hr_put hS (by first | assumption | omega) dX4_copyFrom_53 fl_4_28 ?_
  refine e_aload_n dX4_copyFrom_56 rfl rfl ?_
  refine e_aload_n dX4_copyFrom_57 rfl rfl ?_
  refine hr_get2 hG hD (by first | assumption | omega) dX4_copyFrom_58 fl_4_31 (by decide) ?_
  refine hr_put hS (by first | assumption | omega) dX4_copyFrom_61 fl_4_31 ?_
  refine e_aload_n dX4_copyFrom_64 rfl rfl ?_
  refine e_aload_n dX4_copyFrom_65 rfl rfl ?_
  refine hr_get2 hG hD (by first | assumption | omega) dX4_copyFrom_66 fl_4_34 (by decide) ?_
  refine hr_put hS (by first | assumption | omega) dX4_copyFrom_69 fl_4_34 ?_
  exact e_vret dX4_copyFrom_72 rfl ho (Nat.le_of_ble_eq_true rfl) (Nat.le_of_ble_eq_true rfl)
theorem c_X1_copyFrom (hS : HS S h) (hG : HS S g) (hD : h + 25 ≤ g ∨ g + 25 ≤ h) : AM G_X1_copyFrom [.ref (h + 3), .ref (g + 3)] S (hs_put h τ (hs_put g σ M)) J (none, S, hs_put h (Hp (phn τ 1 (hn σ 1)) (va_cpy (hp σ) (hp (phn τ 1 (hn σ 1))) 0 0 12)) (hs_put g σ M), J) := by
  refine AM_gen (fun out ho => ?_)
  refine AM_of [.ref (h + 3), .ref (g + 3)] (by decide) rfl (fun B => (Nat.le_of_ble_eq_true rfl)) ?_
  refine e_aload_n dX1_copyFrom_0 rfl rfl ?_
  refine e_aload_n dX1_copyFrom_1 rfl rfl ?_
  refine hn_get2 hG hD dX1_copyFrom_2 fl_1_15 (by decide) ?_
  refine hn_put hS dX1_copyFrom_5 fl_1_15 ?_
  refine e_aload_n dX1_copyFrom_8 rfl rfl ?_
  refine e_getr dX1_copyFrom_9 fl_1_9 hG.a3 rfl ?_
  refine e_iconst (v := 0) dX1_copyFrom_12 (by decide) ?_
  refine e_aload_n dX1_copyFrom_13 rfl rfl ?_
  refine e_getr dX1_copyFrom_14 fl_1_9 hS.a3 rfl ?_
  refine e_iconst (v := 0) dX1_copyFrom_17 (by decide) ?_
  refine e_bipush (v := 12) dX1_copyFrom_18 (by decide) ?_
  refine hp_copy hS hG hD dX1_copyFrom_20 ml_1_19 (by decide) rfl ?_
  exact e_vret dX1_copyFrom_23 rfl ho (Nat.le_of_ble_eq_true rfl) (Nat.le_of_ble_eq_true rfl)
theorem c_X2_copyFrom (hS : HS S h) (hG : HS S g) (hD : h + 25 ≤ g ∨ g + 25 ≤ h) : AM G_X2_copyFrom [.ref (h + 5), .ref (g + 5)] S (hs_put h τ (hs_put g σ M)) J (none, S, hs_put h (Hg (phe τ 1 (he σ 1)) (va_cpy (hg σ) (hg (phe τ 1 (he σ 1))) 0 0 160)) (hs_put g σ M), J) := by
  refine AM_gen (fun out ho => ?_)
  refine AM_of [.ref (h + 5), .ref (g + 5)] (by decide) rfl (fun B => (Nat.le_of_ble_eq_true rfl)) ?_
  refine e_aload_n dX2_copyFrom_0 rfl rfl ?_
  refine e_aload_n dX2_copyFrom_1 rfl rfl ?_
  refine he_get2 hG hD dX2_copyFrom_2 fl_2_15 (by decide) ?_
  refine he_put hS dX2_copyFrom_5 fl_2_15 ?_
  refine e_aload_n dX2_copyFrom_8 rfl rfl ?_
  refine e_getr dX2_copyFrom_9 fl_2_11 hG.a5 rfl ?_
  refine e_iconst (v := 0) dX2_copyFrom_12 (by decide) ?_
  refine e_aload_n dX2_copyFrom_13 rfl rfl ?_
  refine e_getr dX2_copyFrom_14 fl_2_11 hS.a5 rfl ?_
  refine e_iconst (v := 0) dX2_copyFrom_17 (by decide) ?_
  refine e_aload_n dX2_copyFrom_18 rfl rfl ?_
  refine e_getr dX2_copyFrom_19 fl_2_11 hS.a5 rfl ?_
  refine e_alen (v := 160) dX2_copyFrom_22 hS.a6 rfl (by decide) ?_
  refine hg_copy hS hG hD dX2_copyFrom_23 ml_2_29 (by decide) rfl ?_
  exact e_vret dX2_copyFrom_26 rfl ho (Nat.le_of_ble_eq_true rfl) (Nat.le_of_ble_eq_true rfl)
theorem c_X0_copyFrom (hS : HS S h) (hG : HS S g) (hD : h + 25 ≤ g ∨ g + 25 ≤ h) (h9 : hf σ 9 = 0 ∨ hf σ 9 = 1) : AM G_X0_copyFrom [.ref h, .ref g] S (hs_put h τ (hs_put g σ M)) J (none, S, hs_put h (hCp τ σ) (hs_put g σ M), J) := by
  refine AM_gen (fun out ho => ?_)
  refine AM_of [.ref h, .ref g, .retAddr 0] (by decide) rfl (fun B => (Nat.le_of_ble_eq_true rfl)) ?_
  have hend : AW G_X0_copyFrom out 0 0 57 [.ref h, .ref g, .int (nI 5)] [] S (hs_put h (hCr (hCm τ σ 12) σ 5) (hs_put g σ M)) J := by
    refine e_aload_n dX0_copyFrom_57 rfl rfl ?_
    refine e_getr dX0_copyFrom_58 fl_0_26 hS.a0 rfl ?_
    refine e_aload_n dX0_copyFrom_61 rfl rfl ?_
    refine e_getr dX0_copyFrom_62 fl_0_26 hG.a0 rfl ?_
    refine e_cV0 dX0_copyFrom_65 ml_0_181 (c_X1_copyFrom hS hG hD) hS.a3 rfl rfl (by decide) (Nat.le_of_ble_eq_true rfl) ⟨rfl, rfl⟩ (Nat.le_of_ble_eq_true rfl) (Nat.le_of_ble_eq_true rfl) ?_
    refine e_aload_n dX0_copyFrom_68 rfl rfl ?_
    refine e_getr dX0_copyFrom_69 fl_0_33 hS.a0 rfl ?_
    refine e_aload_n dX0_copyFrom_72 rfl rfl ?_
    refine e_getr dX0_copyFrom_73 fl_0_33 hG.a0 rfl ?_
    refine e_cV0 dX0_copyFrom_76 ml_0_184 (c_X2_copyFrom hS hG hD) hS.a5 rfl rfl (by decide) (Nat.le_of_ble_eq_true rfl) ⟨rfl, rfl⟩ (Nat.le_of_ble_eq_true rfl) (Nat.le_of_ble_eq_true rfl) ?_
    refine e_aload_n dX0_copyFrom_79 rfl rfl ?_
    refine e_getr dX0_copyFrom_80 fl_0_37 hG.a0 rfl ?_
    refine e_iconst (v := 0) dX0_copyFrom_83 (by decide) ?_
    refine e_aload_n dX0_copyFrom_84 rfl rfl ?_
    refine e_getr dX0_copyFrom_85 fl_0_37 hS.a0 rfl ?_
    refine e_iconst (v := 0) dX0_copyFrom_88 (by decide) ?_
    refine e_aload_n dX0_copyFrom_89 rfl rfl ?_
    refine e_getr dX0_copyFrom_90 fl_0_37 hS.a0 rfl ?_
    refine e_alen (v := 3) dX0_copyFrom_93 hS.a7 rfl (by decide) ?_
    refine hu_copy hS hG hD dX0_copyFrom_94 ml_0_187 (by decide) rfl ?_
    refine e_aload_n dX0_copyFrom_97 rfl rfl ?_
    refine e_aload_n dX0_copyFrom_98 rfl rfl ?_
    refine hf_get2 hG hD dX0_copyFrom_99 fl_0_41 (by decide) ?_
    refine hf_put hS dX0_copyFrom_102 fl_0_41 ?_
    refine e_aload_n dX0_copyFrom_105 rfl rfl ?_
    refine e_aload_n dX0_copyFrom_106 rfl rfl ?_
    refine hf_get2 hG hD dX0_copyFrom_107 fl_0_45 (by decide) ?_
    refine hf_put hS dX0_copyFrom_110 fl_0_45 ?_
    refine e_aload_n dX0_copyFrom_113 rfl rfl ?_
    refine e_aload_n dX0_copyFrom_114 rfl rfl ?_
    refine hf_get2 hG hD dX0_copyFrom_115 fl_0_48 (by decide) ?_
    refine hf_put hS dX0_copyFrom_118 fl_0_48 ?_
    refine e_aload_n dX0_copyFrom_121 rfl rfl ?_
    refine e_aload_n dX0_copyFrom_122 rfl rfl ?_
    refine hf_get2 hG hD dX0_copyFrom_123 fl_0_51 (by decide) ?_
    refine hf_put hS dX0_copyFrom_126 fl_0_51 ?_
    refine e_aload_n dX0_copyFrom_129 rfl rfl ?_
    refine e_aload_n dX0_copyFrom_130 rfl rfl ?_
    refine hf_get2 hG hD dX0_copyFrom_131 fl_0_54 (by decide) ?_
    refine hf_putz hS dX0_copyFrom_134 fl_0_54 h9 ?_
    refine e_aload_n dX0_copyFrom_137 rfl rfl ?_
    refine e_aload_n dX0_copyFrom_138 rfl rfl ?_
    refine hf_get2 hG hD dX0_copyFrom_139 fl_0_58 (by decide) ?_
    refine hf_put hS dX0_copyFrom_142 fl_0_58 ?_
    exact e_vret dX0_copyFrom_145 rfl ho (Nat.le_of_ble_eq_true rfl) (Nat.le_of_ble_eq_true rfl)
  have key2 : ∀ (d i : Nat), i + d = 5 → AW G_X0_copyFrom out 0 0 31 [.ref h, .ref g, .int (nI i)] [] S (hs_put h (hCr (hCm τ σ 12) σ i) (hs_put g σ M)) J := by
    intro d
    induction d with
    | zero =>
      intro i hi
      have hi2 : i = 5 := by omega
      subst hi2
      refine e_iload_n dX0_copyFrom_31 rfl rfl ?_
      refine e_iconst (v := 5) dX0_copyFrom_32 (by decide) ?_
      refine e_ge_t (i := 5) (N := 5) 57 dX0_copyFrom_33 (by decide) rfl rfl (by omega) (by omega) ?_
      exact hend
    | succ d ih =>
      intro i hi
      have ih' := ih (i + 1) (by omega)
      rw [← hCr_s] at ih'
      have hi5 : i < 5 := by omega
      refine e_iload_n dX0_copyFrom_31 rfl rfl ?_
      refine e_iconst (v := 5) dX0_copyFrom_32 (by decide) ?_
      refine e_ge_f (i := i) (N := 5) 57 dX0_copyFrom_33 (by decide) rfl rfl (by omega) (by omega) ?_
      refine e_aload_n dX0_copyFrom_36 rfl rfl ?_
      refine e_getr dX0_copyFrom_37 fl_0_19 hS.a0 rfl ?_
      refine e_iload_n dX0_copyFrom_40 rfl rfl ?_
      refine h_rm i hS dX0_copyFrom_41 rfl (by first | assumption | omega) ?_
      refine e_aload_n dX0_copyFrom_42 rfl rfl ?_
      refine e_getr dX0_copyFrom_43 fl_0_19 hG.a0 rfl ?_
      refine e_iload_n dX0_copyFrom_46 rfl rfl ?_
      refine h_rm i hG dX0_copyFrom_47 rfl (by first | assumption | omega) ?_
      refine e_cV0 dX0_copyFrom_48 ml_0_178 (c_X4_copyFrom hS hG hD hi5) (hS.ar hi5) rfl rfl (by decide) (Nat.le_of_ble_eq_true rfl) ⟨rfl, rfl⟩ (Nat.le_of_ble_eq_true rfl) (Nat.le_of_ble_eq_true rfl) ?_
      refine e_iinc dX0_copyFrom_51 rfl (ai_inc _) (by decide) rfl ?_
      refine e_goto 31 dX0_copyFrom_54 (by decide) ?_
      exact ih'
  have key1 : ∀ (d i : Nat), i + d = 12 → AW G_X0_copyFrom out 0 0 2 [.ref h, .ref g, .int (nI i)] [] S (hs_put h (hCm τ σ i) (hs_put g σ M)) J := by
    intro d
    induction d with
    | zero =>
      intro i hi
      have hi2 : i = 12 := by omega
      subst hi2
      refine e_iload_n dX0_copyFrom_2 rfl rfl ?_
      refine e_bipush (v := 12) dX0_copyFrom_3 (by decide) ?_
      refine e_ge_t (i := 12) (N := 12) 29 dX0_copyFrom_5 (by decide) rfl rfl (by omega) (by omega) ?_
      refine e_iconst (v := 0) dX0_copyFrom_29 (by decide) ?_
      refine e_istore_n dX0_copyFrom_30 rfl (by decide) rfl ?_
      have h0 := key2 5 0 rfl
      rw [hCr_0] at h0
      exact h0
    | succ d ih =>
      intro i hi
      have ih' := ih (i + 1) (by omega)
      rw [← hCm_s] at ih'
      have hi5 : i < 12 := by omega
      refine e_iload_n dX0_copyFrom_2 rfl rfl ?_
      refine e_bipush (v := 12) dX0_copyFrom_3 (by decide) ?_
      refine e_ge_f (i := i) (N := 12) 29 dX0_copyFrom_5 (by decide) rfl rfl (by omega) (by omega) ?_
      refine e_aload_n dX0_copyFrom_8 rfl rfl ?_
      refine e_getr dX0_copyFrom_9 fl_0_11 hS.a0 rfl ?_
      refine e_iload_n dX0_copyFrom_12 rfl rfl ?_
      refine h_mem i hS dX0_copyFrom_13 rfl (by first | assumption | omega) ?_
      refine e_aload_n dX0_copyFrom_14 rfl rfl ?_
      refine e_getr dX0_copyFrom_15 fl_0_11 hG.a0 rfl ?_
      refine e_iload_n dX0_copyFrom_18 rfl rfl ?_
      refine h_mem i hG dX0_copyFrom_19 rfl (by first | assumption | omega) ?_
      refine e_cV0 dX0_copyFrom_20 ml_0_174 (c_X3_copyFrom hS hG hD hi5) (hS.am hi5) rfl rfl (by decide) (Nat.le_of_ble_eq_true rfl) ⟨rfl, rfl⟩ (Nat.le_of_ble_eq_true rfl) (Nat.le_of_ble_eq_true rfl) ?_
      refine e_iinc dX0_copyFrom_23 rfl (ai_inc _) (by decide) rfl ?_
      refine e_goto 2 dX0_copyFrom_26 (by decide) ?_
      exact ih'
  refine e_iconst (v := 0) dX0_copyFrom_0 (by decide) ?_
  refine e_istore_n dX0_copyFrom_1 rfl (by decide) rfl ?_
  have h0 := key1 12 0 rfl
  rw [hCm_0] at h0
  exact h0
end C57b

