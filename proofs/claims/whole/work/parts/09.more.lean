/-! ===== calls that make nothing; numbers ===== -/
section AI9
variable {G D : aiG} {out : aiR} {k n pc : Nat} {L st st0 : List Value} {S : List aiS} {M M' : Nat → Nat → Int32} {J J' : Nat → Int64}
theorem e_cV1 {ix np ci a len : Nat} {refs as : List Value} {v : Value} (hd : decode (gB G) pc = .ok (.invokevirtual ix, 3)) (hm : ai_mV (gY G).cls ix D np ci) (hA : AM D (.ref a :: as) S M J (some v, S, M', J')) (hs : S[a]? = some (ci, len, refs)) (hst : st0 = as.reverse ++ .ref a :: st) (hnp : as.length = np) (hdp : gD D + 1 ≤ gD G) (hcat : (st.map fun v => v.category).sum ≤ 8) (hz : gMC D = 0 ∧ gMS D = 0) (hk : k ≤ gMC G) (hn : n ≤ gMS G) (h : AW G out k n (pc + 3) L (v :: st) S M' J') : AW G out k n pc L st0 S M J :=
  e_callV (r := some v) hd hm hA hs hst hnp hdp hcat (by rw [hz.1]; rfl) (by rw [hz.1]; exact hk) (by rw [hz.2]; exact hn) (by rw [hz.1, hz.2]; exact h)
theorem e_cV0 {ix np ci a len : Nat} {refs as : List Value} (hd : decode (gB G) pc = .ok (.invokevirtual ix, 3)) (hm : ai_mV (gY G).cls ix D np ci) (hA : AM D (.ref a :: as) S M J (none, S, M', J')) (hs : S[a]? = some (ci, len, refs)) (hst : st0 = as.reverse ++ .ref a :: st) (hnp : as.length = np) (hdp : gD D + 1 ≤ gD G) (hcat : (st.map fun v => v.category).sum ≤ 8) (hz : gMC D = 0 ∧ gMS D = 0) (hk : k ≤ gMC G) (hn : n ≤ gMS G) (h : AW G out k n (pc + 3) L st S M' J') : AW G out k n pc L st0 S M J :=
  e_callV (r := none) hd hm hA hs hst hnp hdp hcat (by rw [hz.1]; rfl) (by rw [hz.1]; exact hk) (by rw [hz.2]; exact hn) (by rw [hz.1, hz.2]; exact h)
theorem e_cS1 {ix np : Nat} {as : List Value} {v : Value} (hd : decode (gB G) pc = .ok (.invokestatic ix, 3)) (hm : ai_mS (gY G).cls ix D np) (hA : AM D as S M J (some v, S, M', J')) (hst : st0 = as.reverse ++ st) (hnp : as.length = np) (hdp : gD D + 1 ≤ gD G) (hcat : (st.map fun v => v.category).sum ≤ 8) (hz : gMC D = 0 ∧ gMS D = 0) (hk : k ≤ gMC G) (hn : n ≤ gMS G) (h : AW G out k n (pc + 3) L (v :: st) S M' J') : AW G out k n pc L st0 S M J :=
  e_callS (r := some v) hd hm hA hst hnp hdp hcat (by rw [hz.1]; rfl) (by rw [hz.1]; exact hk) (by rw [hz.2]; exact hn) (by rw [hz.1, hz.2]; exact h)
end AI9
theorem ai_add {x y : Int32} {a b : Nat} (hx : x = nI a) (hy : y = nI b) : x + y = nI (a + b) := by rw [hx, hy]; exact nI_add a b
theorem ai_mul {x y : Int32} {a b : Nat} (hx : x = nI a) (hy : y = nI b) : x * y = nI (a * b) := by rw [hx, hy]; exact pk_mul a b
theorem ai_inc (k : Nat) : nI k + Int32.ofInt 1 = nI (k + 1) := nI_1 k
theorem ai_lit (c : Nat) : (OfNat.ofNat c : Int32) = nI c := rfl
def bI (b : Bool) : Int32 := if b then 1 else 0
theorem bI_01 (b : Bool) : bI b = 0 ∨ bI b = 1 := by cases b <;> simp [bI]
theorem AM_gen {G : aiG} {as : List Value} {S : List aiS} {M : Nat → Nat → Int32} {J : Nat → Int64} {o : aiR} (h : ∀ out, out = o → AM G as S M J out) : AM G as S M J o := h o rfl
