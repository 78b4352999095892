/-! ===== the world of both; every call answers alike ===== -/
def wM (σ τ α β : hs_T) (κ : sc_T) (M : Nat → Nat → Int32) : Nat → Nat → Int32 := hs_put 1 σ (hs_put 26 τ (hs_put 52 α (hs_put 77 β (sc_put 103 κ M))))
theorem hs_md {h : Nat} (hD : h + 25 ≤ 111) (σ : hs_T) (ρ : md_T) (M : Nat → Nat → Int32) : hs_put h σ (md_put 111 ρ M) = md_put 111 ρ (hs_put h σ M) := bput_comm _ _ _ (Or.inl hD)
theorem sc_md (κ : sc_T) (ρ : md_T) (M : Nat → Nat → Int32) : sc_put 103 κ (md_put 111 ρ M) = md_put 111 ρ (sc_put 103 κ M) := bput_comm _ _ _ (Or.inl (by decide))
theorem wM_md (σ τ α β : hs_T) (κ : sc_T) (ρ : md_T) (M : Nat → Nat → Int32) : wM σ τ α β κ (md_put 111 ρ M) = md_put 111 ρ (wM σ τ α β κ M) := by
  rw [wM, sc_md, hs_md (by decide), hs_md (by decide), hs_md (by decide), hs_md (by decide)]
  rfl
theorem wM_sc (σ τ α β : hs_T) (κ : sc_T) (M : Nat → Nat → Int32) : wM σ τ α β κ M = hs_put 1 σ (sc_put 103 κ (hs_put 26 τ (hs_put 52 α (hs_put 77 β M)))) := by
  rw [wM, hs_sc (h := 77) (by decide), hs_sc (h := 52) (by decide), hs_sc (h := 26) (by decide)]
theorem wM_sc1 (σ τ α β : hs_T) (κ : sc_T) (M : Nat → Nat → Int32) : wM σ τ α β κ M = sc_put 103 κ (hs_put 1 σ (hs_put 26 τ (hs_put 52 α (hs_put 77 β M)))) := by
  rw [wM_sc, hs_sc (h := 1) (by decide)]
theorem wM_sc2 (σ τ α β : hs_T) (κ : sc_T) (M : Nat → Nat → Int32) : wM σ τ α β κ M = hs_put 1 σ (hs_put 26 τ (sc_put 103 κ (hs_put 52 α (hs_put 77 β M)))) := by
  rw [wM, hs_sc (h := 77) (by decide), hs_sc (h := 52) (by decide)]
def slt (ρ : md_T) (s : Nat) : Nat → Int32 := fun j => if j < 271 then rs ρ (271 * s + j) else 0
def WI (K E : Nat) (σ α β : hs_T) (κ : sc_T) (ρ : md_T) (m : Nat → Int32) (M : Nat → Nat → Int32) : Prop := Inv K E σ m ∧ TX κ ρ ∧ (∀ s, s < 2 → M 102 s = ri ρ s) ∧ (¬ ri ρ 0 = 0 → Inv K E α (slt ρ 0)) ∧ (¬ ri ρ 1 = 0 → Inv K E β (slt ρ 1))
/-- a call of both, in every world -/
def OW (S : List aiS) (G6 G7 : aiG) (as : List Value) : Prop := ∀ (K E : Nat) (σ τ α β : hs_T) (κ : sc_T) (ρ : md_T) (m : Nat → Int32) (M : Nat → Nat → Int32) (J : Nat → Int64), WI K E σ α β κ ρ m M → K + 6000 ≤ 900000000 → E + 200 ≤ 900000000 → ∃ (v : Int32) (X1 : Nat → Nat → Int32) (σ' τ' α' β' : hs_T) (κ' : sc_T) (ρ' : md_T) (m' : Nat → Int32) (M' : Nat → Nat → Int32), AM G6 (.ref 0 :: as) S (wM σ τ α β κ (md_put 111 (Rm ρ m) M)) J (some (.int v), S, X1, J) ∧ AM G7 (.ref 111 :: as) S X1 J (some (.int v), S, wM σ' τ' α' β' κ' (md_put 111 (Rm ρ' m') M'), J) ∧ WI (K + 6000) (E + 200) σ' α' β' κ' ρ' m' M'
theorem WI.next {K E : Nat} {σ α β σ' : hs_T} {κ κ' : sc_T} {ρ ρ' : md_T} {m m' : Nat → Int32} {M : Nat → Nat → Int32} (h : WI K E σ α β κ ρ m M) (hK : K + 6000 ≤ 900000000) (hE : E + 200 ≤ 900000000) (hI : Inv (K + 6000) (E + 200) σ' m') (hT : TX κ' ρ') (hs : rs ρ' = rs ρ) (hi : ri ρ' = ri ρ) : WI (K + 6000) (E + 200) σ' α β κ' ρ' m' M := by
  have e : ∀ s, slt ρ' s = slt ρ s := fun s => by
    funext j
    rw [slt, slt, hs]
  refine ⟨hI, hT, by rw [hi]; exact h.2.2.1, ?_, ?_⟩
  · rw [hi, e]
    intro z
    exact (h.2.2.2.1 z).more
  · rw [hi, e]
    intro z
    exact (h.2.2.2.2 z).more
section C80
variable {S : List aiS}
theorem OW.bo {G6 G7 : aiG} {as : List Value} (h : ∀ K E σ m, Inv K E σ m → K ≤ 900000000 → E ≤ 900000000 → ∃ v σ' m', Bo S G6 G7 as σ m v σ' m' ∧ Inv (K + 30) (E + 1) σ' m') : OW S G6 G7 as := by
  intro K E σ τ α β κ ρ m M J hW hK hE
  obtain ⟨v, σ', m', ⟨b6, b7⟩, hI⟩ := h K E σ m hW.1 (by omega) (by omega)
  refine ⟨v, wM σ' τ α β κ (md_put 111 (Rm ρ m) M), σ', τ, α, β, κ, ρ, m', M, b6 _ J, ?_, hW.next hK hE hI.more hW.2.1 rfl rfl⟩
  rw [wM_md, wM_md]
  exact b7 ρ _ J
theorem OW.bo0 {G6 G7 : aiG} {as : List Value} (h : ∀ K E σ m, Inv K E σ m → K ≤ 900000000 → E ≤ 900000000 → ∃ v σ' m', Bo S G6 G7 as σ m v σ' m' ∧ Inv K E σ' m') : OW S G6 G7 as := by
  intro K E σ τ α β κ ρ m M J hW hK hE
  obtain ⟨v, σ', m', ⟨b6, b7⟩, hI⟩ := h K E σ m hW.1 (by omega) (by omega)
  refine ⟨v, wM σ' τ α β κ (md_put 111 (Rm ρ m) M), σ', τ, α, β, κ, ρ, m', M, b6 _ J, ?_, hW.next hK hE hI.more hW.2.1 rfl rfl⟩
  rw [wM_md, wM_md]
  exact b7 ρ _ J
theorem w_setCapacity (hT : KS S) (hB : MS S 111) (a c : Int32) : OW S G_X6_setCapacity G_X7_setCapacity [.int a, .int c] := OW.bo0 (fun K E σ m h _ _ => b_setCapacity hT hB h a c)
theorem w_setShare (hT : KS S) (hB : MS S 111) (a c : Int32) : OW S G_X6_setShare G_X7_setShare [.int a, .int c] := OW.bo0 (fun K E σ m h _ _ => b_setShare hT hB h a c)
theorem w_setRule (hT : KS S) (hB : MS S 111) (a c : Int32) : OW S G_X6_setRule G_X7_setRule [.int a, .int c] := OW.bo0 (fun K E σ m h _ _ => b_setRule hT hB h a c)
theorem w_request (hT : KS S) (hB : MS S 111) (a r x : Int32) : OW S G_X6_request G_X7_request [.int a, .int r, .int x] := OW.bo (fun K E σ m h hK hE => b_request hT hB h hK hE a r x)
theorem w_withdraw (hT : KS S) (hB : MS S 111) (a : Int32) : OW S G_X6_withdraw G_X7_withdraw [.int a] := OW.bo (fun K E σ m h hK hE => b_withdraw hT hB h hK hE a)
theorem w_leave (hT : KS S) (hB : MS S 111) (a : Int32) : OW S G_X6_leave G_X7_leave [.int a] := OW.bo (fun K E σ m h hK hE => b_leave hT hB h hK hE a)
theorem w_collapse (hT : KS S) (hB : MS S 111) (a : Int32) : OW S G_X6_collapse G_X7_collapse [.int a] := OW.bo0 (fun K E σ m h _ _ => b_collapse hT hB h a)
theorem w_pass (hT : KS S) (hB : MS S 111) (a : Int32) : OW S G_X6_pass G_X7_pass [.int a] := OW.bo0 (fun K E σ m h hK _ => b_pass hT hB h hK a)
theorem w_member (hT : KS S) (hB : MS S 111) (a w : Int32) : OW S G_X6_member G_X7_member [.int a, .int w] := OW.bo0 (fun K E σ m h _ _ => by
  obtain ⟨t, ht, hR⟩ := h
  obtain ⟨v, hv⟩ : ∃ v, rMemR m a w v := by
    by_cases z : (0 ≤ a ∧ a ≤ 11) ∧ (0 ≤ w ∧ w ≤ 4)
    · obtain ⟨k, hk, rfl⟩ := wi_nI (n := 11) rfl z.1
      obtain ⟨q, hq, rfl⟩ := wi_nI (n := 4) rfl z.2
      exact ⟨_, rMemR_ok (by omega) (by omega)⟩
    · exact ⟨-2, fun _ => rfl, fun k q hk hq e1 e2 => absurd ⟨by rw [e1]; exact ⟨nI_pos' (by omega), nI_le (b := 11) (by omega) (by decide)⟩, by rw [e2]; exact ⟨nI_pos' (by omega), nI_le (b := 4) (by omega) (by decide)⟩⟩ z⟩
  exact ⟨v, σ, m, ⟨fun M J => c_X6_member hT hR hv, fun ρ M J => c_X7_member hB hv⟩, t, ht, hR⟩)
theorem w_room (hT : KS S) (hB : MS S 111) (a w : Int32) : OW S G_X6_room G_X7_room [.int a, .int w] := OW.bo0 (fun K E σ m h _ _ => by
  obtain ⟨t, ht, hR⟩ := h
  obtain ⟨v, hv⟩ : ∃ v, rRoomR m a w v := by
    by_cases z : (0 ≤ a ∧ a ≤ 4) ∧ (0 ≤ w ∧ w ≤ 9)
    · obtain ⟨k, hk, rfl⟩ := wi_nI (n := 4) rfl z.1
      obtain ⟨q, hq, rfl⟩ := wi_nI (n := 9) rfl z.2
      exact ⟨_, rRoomR_ok (by omega) (by omega)⟩
    · exact ⟨-2, fun _ => rfl, fun k q hk hq e1 e2 => absurd ⟨by rw [e1]; exact ⟨nI_pos' (by omega), nI_le (b := 4) (by omega) (by decide)⟩, by rw [e2]; exact ⟨nI_pos' (by omega), nI_le (b := 9) (by omega) (by decide)⟩⟩ z⟩
  exact ⟨v, σ, m, ⟨fun M J => c_X6_room hT hR hv, fun ρ M J => c_X7_room hB hv⟩, t, ht, hR⟩)
theorem w_queue (hT : KS S) (hB : MS S 111) (a i : Int32) : OW S G_X6_queue G_X7_queue [.int a, .int i] := OW.bo0 (fun K E σ m h _ _ => by
  obtain ⟨t, ht, hR⟩ := h
  obtain ⟨v, hv⟩ : ∃ v, rQueR m a i v := by
    by_cases z : (0 ≤ a ∧ a ≤ 4) ∧ 0 ≤ i
    · exact ⟨rInq m a i, fun w => absurd z w, fun _ => rfl⟩
    · exact ⟨-2, fun _ => rfl, fun w => absurd w z⟩
  exact ⟨v, σ, m, ⟨fun M J => c_X6_queue hT hR hv, fun ρ M J => c_X7_queue hB hv⟩, t, ht, hR⟩)
theorem w_event (hT : KS S) (hB : MS S 111) (a w : Int32) : OW S G_X6_event G_X7_event [.int a, .int w] := OW.bo0 (fun K E σ m h _ _ => by
  obtain ⟨t, ht, hR⟩ := h
  obtain ⟨p, hp4, hp⟩ := hR.1.2.1
  obtain ⟨v, hv⟩ : ∃ v, rEvR m a w v := by
    by_cases z : 0 ≤ a ∧ (0 ≤ w ∧ w ≤ 3)
    · obtain ⟨i, hi, rfl⟩ := nI_of (Int32.not_lt.mpr z.1)
      obtain ⟨q, hq, rfl⟩ := wi_nI (n := 3) rfl z.2
      refine ⟨if m 108 ≤ nI i then -1 else m (111 + 4 * i + q), fun w => absurd z w, fun i2 q2 h1 h2 h3 h4 => ?_⟩
      rw [(nI_eq hi h1).mp h3, (nI_eq (by omega) (by omega)).mp h4]
    · refine ⟨-2, fun _ => rfl, fun i2 q2 h1 h2 h3 h4 => absurd ⟨?_, ?_⟩ z⟩
      · rw [h3]
        exact nI_pos' h1
      · rw [h4]
        exact ⟨nI_pos' (by omega), nI_le (b := 3) (by omega) (by decide)⟩
  exact ⟨v, σ, m, ⟨fun M J => c_X6_event hT hR hv, fun ρ M J => c_X7_event hB hp hp4 hv⟩, t, ht, hR⟩)
theorem w_unfairness (hT : KS S) (hB : MS S 111) : OW S G_X6_unfairness G_X7_unfairness [] := OW.bo0 (fun K E σ m h _ _ => by
  obtain ⟨t, ht, hR⟩ := h
  exact ⟨_, σ, m, ⟨fun M J => c_X6_unfairness hT hR, fun ρ M J => c_X7_unfairness hB hR.1⟩, t, ht, hR⟩)
theorem w_count (hT : KS S) (hB : MS S 111) (a : Int32) : OW S G_X6_count G_X7_count [.int a] := by
  intro K E σ τ α β κ ρ m M J hW hK hE
  obtain ⟨t, ht, hR⟩ := hW.1
  have hT1 : cf κ 1 = rf ρ 5 := by rw [hW.2.1.1, hW.2.1.2.2.1]
  obtain ⟨v, hv⟩ : ∃ v, rCntR m (cf κ 1) a v := by
    by_cases z : 0 ≤ a ∧ a ≤ 14
    · obtain ⟨k, hk, rfl⟩ := wi_nI (n := 14) rfl z
      refine ⟨rNum m (cf κ 1) k, fun w => absurd z w, fun w h1 h2 => ?_⟩
      rw [(nI_eq (by omega) (by omega)).mp h2]
    · exact ⟨-2, fun _ => rfl, fun w h1 h2 => absurd (by rw [h2]; exact ⟨nI_pos' (by omega), nI_le (b := 14) (by omega) (by decide)⟩) z⟩
  have hv7 : rCntR m (rf ρ 5) a v := by rw [← hT1]; exact hv
  refine ⟨v, wM σ τ α β κ (md_put 111 (Rm ρ m) M), σ, τ, α, β, κ, ρ, m, M, ?_, ?_, hW.next hK hE hW.1.more hW.2.1 rfl rfl⟩
  · rw [wM_sc]
    exact c_X6_count hT hR hv
  · rw [wM_md]
    exact c_X7_count hB hv7
theorem Inv.far {K E : Nat} {σ : hs_T} {m : Nat → Int32} (h : Inv K E σ m) (hK : K + 6000 ≤ 900000000) : ∃ F t, t ≤ 20000 ∧ F + 24000 ≤ 1000000000 ∧ Rel F E t σ m := by
  obtain ⟨t, ht, hR⟩ := h
  exact ⟨K + 40 * t, t, ht, by omega, hR⟩
theorem rel_all {F E t : Nat} {σ : hs_T} {m : Nat → Int32} (h : Rel F E t σ m) (hF : F + 24000 ≤ 1000000000) (ht : t ≤ 20000) : ∀ T, T ≤ 500 → rPass 14 T m = some (rP m T) := fun T hT => h.rP (by omega) (by omega)
theorem w_empties (hT : KS S) (hB : MS S 111) : OW S G_X6_empties G_X7_empties [] := by
  intro K E σ τ α β κ ρ m M J hW hK hE
  obtain ⟨F, t, ht, hF, hR⟩ := hW.1.far hK
  obtain ⟨τ', h6⟩ := c_X6_empties hT hR hF ht τ
  have hE7 := rEm_of (rel_all hR hF ht)
  refine ⟨oI (eM m 500), wM σ τ' α β κ (md_put 111 (Rm ρ m) M), σ, τ', α, β, κ, Ra ρ (fl m (ra ρ) 271), m, M, h6 _ J, ?_, hW.next hK hE hW.1.more hW.2.1 rfl rfl⟩
  rw [wM_md, wM_md]
  exact c_X7_empties hB hR.1 hE7
theorem w_foretell (hT : KS S) (hB : MS S 111) (a : Int32) : OW S G_X6_foretell G_X7_foretell [.int a] := by
  intro K E σ τ α β κ ρ m M J hW hK hE
  obtain ⟨F, t, ht, hF, hR⟩ := hW.1.far hK
  have hno : ∀ v : Int32, (¬ (0 ≤ a ∧ a ≤ 11) → v = -2) → (∀ k, k < 12 → a = nI k → ¬ m k = 1 ∧ v = -3) → ∃ (v : Int32) (X1 : Nat → Nat → Int32) (σ' τ' α' β' : hs_T) (κ' : sc_T) (ρ' : md_T) (m' : Nat → Int32) (M' : Nat → Nat → Int32), AM G_X6_foretell (.ref 0 :: [.int a]) S (wM σ τ α β κ (md_put 111 (Rm ρ m) M)) J (some (.int v), S, X1, J) ∧ AM G_X7_foretell (.ref 111 :: [.int a]) S X1 J (some (.int v), S, wM σ' τ' α' β' κ' (md_put 111 (Rm ρ' m') M'), J) ∧ WI (K + 6000) (E + 200) σ' α' β' κ' ρ' m' M' := by
    intro v h1 h2
    obtain ⟨g, h7⟩ := c_X7_foretell (S := S) (M := wM σ τ α β κ M) (J := J) (b := 111) (ρ := ρ) (m := m) hB hR.1 (n := 14) (a := a) (v := v) h1 (fun k hk hke _ => (h2 k hk hke).2) (fun k hk hke z => absurd z (h2 k hk hke).1)
    refine ⟨v, wM σ τ α β κ (md_put 111 (Rm ρ m) M), σ, τ, α, β, κ, Ra ρ g, m, M, ?_, ?_, hW.next hK hE hW.1.more hW.2.1 rfl rfl⟩
    · exact c_X6_foretell_no hT h1 (fun k hk hke => by rw [(hR.st hk).1]; exact h2 k hk hke) _ J
    · rw [wM_md, wM_md]
      exact h7
  by_cases hv : 0 ≤ a ∧ a ≤ 11
  · obtain ⟨k, hk, rfl⟩ := wi_nI (n := 11) rfl hv
    have hk12 : k < 12 := by omega
    by_cases h1 : m k = 1
    · obtain ⟨τ', h6⟩ := c_X6_foretell_ok hT hR hF ht hk12 h1 τ
      have hall : ∀ T, T ≤ 500 → rPass 14 T (upd m 101 (m 101)) = some (rP (upd m 101 (m 101)) T) := rel_all (hR.quota (m 101)) hF ht
      obtain ⟨g, h7⟩ := c_X7_foretell (S := S) (M := wM σ τ' α β κ M) (J := J) (b := 111) (ρ := ρ) (m := m) hB hR.1 (n := 14) (a := nI k) (v := oI (eO (upd m 101 (m 101)) k 500)) (fun z => absurd hv z) (fun k2 hk2 hke z => absurd h1 (by rw [(nI_eq (by omega) (by omega)).mp hke]; exact z)) (fun k2 hk2 hke z => by
        rw [← (nI_eq (by omega) (by omega)).mp hke]
        exact ⟨_, rEi_of hall, rfl⟩)
      refine ⟨_, wM σ τ' α β κ (md_put 111 (Rm ρ m) M), σ, τ', α, β, κ, Ra ρ g, m, M, h6 _ J, ?_, hW.next hK hE hW.1.more hW.2.1 rfl rfl⟩
      rw [wM_md, wM_md]
      exact h7
    · exact hno (-3) (fun z => absurd hv z) (fun k2 hk2 hke => by
        rw [← (nI_eq (by omega) (by omega)).mp hke]
        exact ⟨h1, rfl⟩)
  · exact hno (-2) (fun _ => rfl) (fun k2 hk2 hke => absurd (by rw [hke]; exact ⟨nI_pos' (by omega), nI_le (b := 11) (by omega) (by decide)⟩) hv)
theorem w_bestQuota (hT : KS S) (hB : MS S 111) (a w : Int32) : OW S G_X6_bestQuota G_X7_bestQuota [.int a, .int w] := by
  intro K E σ τ α β κ ρ m M J hW hK hE
  obtain ⟨F, t, ht, hF, hR⟩ := hW.1.far hK
  have hno : ∀ v : Int32, (¬ ((0 ≤ a ∧ a ≤ 11) ∧ (0 ≤ w ∧ w ≤ 1)) → v = -2) → (∀ k, k < 12 → a = nI k → (0 ≤ w ∧ w ≤ 1) → ¬ m k = 1 ∧ v = -3) → ∃ (v : Int32) (X1 : Nat → Nat → Int32) (σ' τ' α' β' : hs_T) (κ' : sc_T) (ρ' : md_T) (m' : Nat → Int32) (M' : Nat → Nat → Int32), AM G_X6_bestQuota (.ref 0 :: [.int a, .int w]) S (wM σ τ α β κ (md_put 111 (Rm ρ m) M)) J (some (.int v), S, X1, J) ∧ AM G_X7_bestQuota (.ref 111 :: [.int a, .int w]) S X1 J (some (.int v), S, wM σ' τ' α' β' κ' (md_put 111 (Rm ρ' m') M'), J) ∧ WI (K + 6000) (E + 200) σ' α' β' κ' ρ' m' M' := by
    intro v h1 h2
    obtain ⟨g, h7⟩ := c_X7_bestQuota (S := S) (M := wM σ τ α β κ M) (J := J) (b := 111) (ρ := ρ) (m := m) hB hR.1 (n := 14) (a := a) (w := w) (v := v) h1 (fun k q hk hq hke hqe _ => (h2 k hk hke (by rw [hqe]; exact ⟨nI_pos' (by omega), nI_le (b := 1) (by omega) (by decide)⟩)).2) (fun k q hk hq hke hqe z => absurd z (h2 k hk hke (by rw [hqe]; exact ⟨nI_pos' (by omega), nI_le (b := 1) (by omega) (by decide)⟩)).1)
    refine ⟨v, wM σ τ α β κ (md_put 111 (Rm ρ m) M), σ, τ, α, β, κ, Ra ρ g, m, M, ?_, ?_, hW.next hK hE hW.1.more hW.2.1 rfl rfl⟩
    · exact c_X6_bestQuota_no hT h1 (fun k hk hke hz => by rw [(hR.st hk).1]; exact h2 k hk hke hz) _ J
    · rw [wM_md, wM_md]
      exact h7
  by_cases hv : (0 ≤ a ∧ a ≤ 11) ∧ (0 ≤ w ∧ w ≤ 1)
  · obtain ⟨k, hk, rfl⟩ := wi_nI (n := 11) rfl hv.1
    obtain ⟨q, hq, rfl⟩ := wi_nI (n := 1) rfl hv.2
    have hk12 : k < 12 := by omega
    have hq2 : q < 2 := by omega
    by_cases h1 : m k = 1
    · obtain ⟨τ', h6⟩ := c_X6_bestQuota_ok hT hR hF ht hk12 hq2 h1 τ
      have hall : ∀ i T, T ≤ 500 → rPass 14 T (upd m 101 (nI i)) = some (rP (upd m 101 (nI i)) T) := fun i => rel_all (hR.quota (nI i)) hF ht
      obtain ⟨g, h7⟩ := c_X7_bestQuota (S := S) (M := wM σ τ' α β κ M) (J := J) (b := 111) (ρ := ρ) (m := m) hB hR.1 (n := 14) (a := nI k) (w := nI q) (v := oI ((rBq (fun i => eO (upd m 101 (nI i)) k 500) 20).map (fun z => if q = 0 then z.1 else z.2))) (fun z => absurd hv z) (fun k2 q2 hk2 hq2 hke hqe z => absurd h1 (by rw [(nI_eq (by omega) (by omega)).mp hke]; exact z)) (fun k2 q2 hk2 hq2 hke hqe z => by
        rw [← (nI_eq (by omega) (by omega)).mp hke, ← (nI_eq (by omega) (by omega)).mp hqe]
        exact ⟨_, fun i _ _ => rEi_of (hall i), rfl⟩)
      refine ⟨_, wM σ τ' α β κ (md_put 111 (Rm ρ m) M), σ, τ', α, β, κ, Ra ρ g, m, M, h6 _ J, ?_, hW.next hK hE hW.1.more hW.2.1 rfl rfl⟩
      rw [wM_md, wM_md]
      exact h7
    · exact hno (-3) (fun z => absurd hv z) (fun k2 hk2 hke _ => by
        rw [← (nI_eq (by omega) (by omega)).mp hke]
        exact ⟨h1, rfl⟩)
  · exact hno (-2) (fun _ => rfl) (fun k2 hk2 hke hz => absurd ⟨by rw [hke]; exact ⟨nI_pos' (by omega), nI_le (b := 11) (by omega) (by decide)⟩, hz⟩ hv)
theorem w_run (hT : KS S) (hB : MS S 111) : OW S G_X6_run G_X7_run [] := by
  intro K E σ τ α β κ ρ m M J hW hK hE
  obtain ⟨v, σ', m', κ', ρ', hI, hkk, hkr, h6, h7⟩ := b_run hT hB hW.1 hK hE hW.2.1
  refine ⟨v, wM σ' τ α β κ' (md_put 111 (Rm ρ m) M), σ', τ, α, β, κ', ρ', m', M, ?_, ?_, hW.next hK hE hI (hW.2.1.keep hkk hkr) hkr.2.1 hkr.2.2.1⟩
  · rw [wM_sc, wM_sc]
    exact h6 _ J
  · rw [wM_md, wM_md]
    exact h7 _ J
theorem TX.type {κ : sc_T} {ρ : md_T} (h : TX κ ρ) (hl : cL κ < 100) (a : Int32) : TX (pcf (pcb κ (cL κ) a) 1 (nI (cL κ + 1))) (prf (prt ρ (cL κ) a) 5 (nI (cL κ + 1))) := by
  have e : cL (pcf (pcb κ (cL κ) a) 1 (nI (cL κ + 1))) = cL κ + 1 := nI_clamp (by omega)
  refine ⟨by rw [e]; rfl, by rw [e]; omega, by rw [e]; rfl, fun i hi => ?_⟩
  rw [e] at hi
  show upd (rt ρ) (cL κ) a i = upd (cb κ) (cL κ) a i
  by_cases hz : i = cL κ
  · rw [hz, upd_same, upd_same]
  · rw [upd_ne _ _ hz, upd_ne _ _ hz]
    exact h.2.2.2 i (by omega)
theorem TX.clear {κ : sc_T} {ρ : md_T} : TX (pcf κ 1 0) (prf ρ 5 0) := ⟨rfl, Nat.zero_le _, rfl, fun i hi => absurd hi (Nat.not_lt_zero _)⟩
theorem w_type (hT : KS S) (hB : MS S 111) (a : Int32) : OW S G_X6_type G_X7_type [.int a] := by
  intro K E σ τ α β κ ρ m M J hW hK hE
  have hx := hW.2.1
  have hl := hx.2.1
  by_cases hv : 0 ≤ a ∧ a ≤ 127
  · by_cases h1 : cL κ < 100
    · refine ⟨nI (cL κ + 1), wM σ τ α β (pcf (pcb κ (cL κ) a) 1 (nI (cL κ + 1))) (md_put 111 (Rm ρ m) M), σ, τ, α, β, pcf (pcb κ (cL κ) a) 1 (nI (cL κ + 1)), prf (prt ρ (cL κ) a) 5 (nI (cL κ + 1)), m, M, ?_, ?_, hW.next hK hE hW.1.more (hx.type h1 a) rfl rfl⟩
      · rw [wM_sc1, wM_sc1]
        exact c_X6_type hT hx.1 hl (fun z => absurd hv z) (fun _ z => absurd h1 (by omega)) (fun _ _ => ⟨rfl, rfl⟩)
      · rw [wM_md, wM_md]
        exact c_X7_type (ρ := Rm ρ m) hB hx.2.2.1 hl (fun z => absurd hv z) (fun _ z => absurd h1 (by omega)) (fun _ _ => ⟨rfl, rfl⟩)
    · refine ⟨-4, wM σ τ α β κ (md_put 111 (Rm ρ m) M), σ, τ, α, β, κ, ρ, m, M, ?_, ?_, hW.next hK hE hW.1.more hx rfl rfl⟩
      · rw [wM_sc1]
        exact c_X6_type hT hx.1 hl (fun z => absurd hv z) (fun _ _ => ⟨rfl, rfl⟩) (fun _ z => absurd z h1)
      · rw [wM_md]
        exact c_X7_type (ρ := Rm ρ m) hB hx.2.2.1 hl (fun z => absurd hv z) (fun _ _ => ⟨rfl, rfl⟩) (fun _ z => absurd z h1)
  · refine ⟨-2, wM σ τ α β κ (md_put 111 (Rm ρ m) M), σ, τ, α, β, κ, ρ, m, M, ?_, ?_, hW.next hK hE hW.1.more hx rfl rfl⟩
    · rw [wM_sc1]
      exact c_X6_type hT hx.1 hl (fun _ => ⟨rfl, rfl⟩) (fun z => absurd z hv) (fun z => absurd z hv)
    · rw [wM_md]
      exact c_X7_type (ρ := Rm ρ m) hB hx.2.2.1 hl (fun _ => ⟨rfl, rfl⟩) (fun z => absurd z hv) (fun z => absurd z hv)
theorem w_clear (hT : KS S) (hB : MS S 111) : OW S G_X6_clear G_X7_clear [] := by
  intro K E σ τ α β κ ρ m M J hW hK hE
  have hx := hW.2.1
  have hT1 : cf κ 1 = rf ρ 5 := by rw [hx.1, hx.2.2.1]
  refine ⟨cf κ 1, wM σ τ α β (pcf κ 1 0) (md_put 111 (Rm ρ m) M), σ, τ, α, β, pcf κ 1 0, prf ρ 5 0, m, M, ?_, ?_, hW.next hK hE hW.1.more TX.clear rfl rfl⟩
  · rw [wM_sc1, wM_sc1]
    exact c_X6_clear hT
  · rw [wM_md, wM_md, hT1]
    exact c_X7_clear (ρ := Rm ρ m) hB
/-- the hash -/
theorem w_digest (hT : KS S) (hB : MS S 111) {K E : Nat} {σ α β : hs_T} (τ : hs_T) {κ : sc_T} {ρ : md_T} {m : Nat → Int32} {M : Nat → Nat → Int32} (J : Nat → Int64) (hW : WI K E σ α β κ ρ m M) (hK : K + 6000 ≤ 900000000) (hE : E + 200 ≤ 900000000) : ∃ (v : Int64) (τ' : hs_T) (ρ' : md_T) (J' : Nat → Int64), AM G_X6_digest [.ref 0] S (wM σ τ α β κ (md_put 111 (Rm ρ m) M)) J (some (.long v), S, wM σ τ' α β κ (md_put 111 (Rm ρ m) M), J) ∧ AM G_X7_digest [.ref 111] S (wM σ τ' α β κ (md_put 111 (Rm ρ m) M)) J (some (.long v), S, wM σ τ' α β κ (md_put 111 (Rm ρ' m) M), J') ∧ WI (K + 6000) (E + 200) σ α β κ ρ' m M := by
  obtain ⟨F, t, ht, hF, hR⟩ := hW.1.far hK
  obtain ⟨p, hp4, hp⟩ := hR.1.2.1
  have hx := hW.2.1
  obtain ⟨τ', h6⟩ := c_X6_digest hT hR hF ht hx.1 hx.2.1 hp hp4 τ
  have hE7 := rEm_of (rel_all hR hF ht)
  have h7 := c_X7_digest (S := S) (M := wM σ τ' α β κ M) (J := J) (b := 111) (ρ := ρ) (m := m) hB hR.1 hx.2.2.1 hx.2.1 hp hp4 hE7
  have hd : rDig m (cL κ) (rt ρ) p (oI (eM m 500)) = rDig m (cL κ) (cb κ) p (oI (eM m 500)) := by
    rw [rDig, rDig]
    exact mixN_cong _ (fun k hk => hx.2.2.2 k hk)
  rw [hd] at h7
  refine ⟨rDig m (cL κ) (cb κ) p (oI (eM m 500)), τ', Ra ρ (fl m (ra ρ) 271), Jp J 111 (rDig m (cL κ) (cb κ) p (oI (eM m 500))), ?_, ?_, hW.next hK hE hW.1.more hx rfl rfl⟩
  · rw [wM_sc2, wM_sc2]
    exact h6 _ J
  · rw [wM_md, wM_md]
    exact h7
end C80

