/-! ===== both read alike: the other steps ===== -/
theorem MD.clean {κ : sc_T} {ρ : md_T} {x : Nat} (h : MD κ ρ x) : rf ρ 7 = -1 := h.1.2
theorem mC6_fault {ρ : md_T} {s : Nat} {c : Int32} (h : ¬ rf ρ 7 = -1) : mC6 ρ s c = ρ := by rw [mC6, if_neg (fun z => h z.1)]
theorem FA.c7 {κ : sc_T} {ρ : md_T} {s a : Nat} (h : FA κ ρ) (c : Int32) : OK2 κ (mC7 (mC6 ρ s c) s) s a := by
  rw [mC6_fault h.no.2, mC7]
  exact OK2.no (h.mTk 59) _
theorem PR.rq2 {κ : sc_T} {ρ ρ1 : md_T} {s d a q : Nat} {w0 w1 : Int32} (h : PR κ ρ s d a) (hM : MD (pcf κ 7 (nI q)) ρ1 q) (hq : a < q) (hrp0 : rp ρ1 = upd (upd (upd (rp ρ) (4 * s) 114) (4 * s + 1) w0) (4 * s + 2) w1) (hro0 : ro ρ1 = ro ρ) (h11 : rf ρ1 11 = nI d) : OK2 (rB (aS (rN (pcf κ 7 (nI q)) 999).1 114 w0 w1 (rN (pcf κ 7 (nI q)) 999).2) 59 59).1 (mC7 (mC6 ρ1 s 114) s) s a := by
  have hqle : q ≤ cL κ := hM.2.1.2.2
  have hl : cL κ ≤ 100 := h.1.le.2.2
  have hs := h.2.2.1.2.2
  have h100 : s < 100 := by omega
  rw [mC6, if_pos ⟨hM.1.2, Or.inl rfl⟩, mC7]
  rcases hM.numS (tx := cb κ) (len := cL κ) rfl rfl (most := 999) (k := 114) (me := w0) (r := w1) (s := s) h.cS.1 h100 (4 * s + 3) with hf | ⟨y, v, y1, y2, y3, y4⟩
  · exact OK2.no hf _
  · rw [y4]
    show OK2 (rB (aS (rN (pcf κ 7 (nI (q))) 999).1 114 w0 w1 (rN (pcf κ 7 (nI (q))) 999).2) 59 59).1 _ s a
    rw [y3]
    have hM6 := ((hM.arr s 114 w0 w1 v).c6 (s := s + 1) (by omega)).kprp (4 * s + 3) v
    have hM7 := hM6.go' (tx := cb κ) (len := cL κ) (y := y) rfl rfl y2
    have hay : a < y := Nat.lt_trans hq y1
    refine h.fin (hM7.p9 (nI (s + 1))) hay rfl rfl h.2.2.2.1.1 h11 ?_
    refine h.2.2.2.2.call (x := 114) (Or.inl rfl) (me := w0) (r := w1) (n := v) rfl rfl rfl rfl rfl hro0 (fun j hj => ?_) ?_ (fun _ => ?_) (fun _ => ?_) (fun _ => ?_)
    · show upd (rp ρ1) (4 * s + 3) v j = rp ρ j
      rw [hrp0, upd_ne _ _ (by omega), upd_ne _ _ (by omega), upd_ne _ _ (by omega), upd_ne _ _ (by omega)]
    · show upd (rp ρ1) (4 * s + 3) v (4 * s) = 114
      rw [hrp0, upd_ne _ _ (by omega), upd_ne _ _ (by omega), upd_ne _ _ (by omega), upd_same]
    · show upd (rp ρ1) (4 * s + 3) v (4 * s + 1) = w0
      rw [hrp0, upd_ne _ _ (by omega), upd_ne _ _ (by omega), upd_same]
    · show upd (rp ρ1) (4 * s + 3) v (4 * s + 2) = w1
      rw [hrp0, upd_ne _ _ (by omega), upd_same]
    · show upd (rp ρ1) (4 * s + 3) v (4 * s + 3) = v
      rw [upd_same]
theorem PR.rq {κ : sc_T} {ρ : md_T} {s d a : Nat} (h : PR κ ρ s d a) (ha : a < cL κ) : OK2 (rRq (pcf κ 7 (nI (a + 1)))) (mCl ρ 114) s a := by
  obtain ⟨u1, u2, u3, h100, u5⟩ := h.up0 ha
  obtain ⟨f1, f2, f3, f4, -, hd4⟩ := h.cS
  have hM0 := u3.kprp (4 * s) 114
  have hl : cL κ ≤ 100 := h.1.le.2.2
  have hst := h.2.2.2.2
  have h91 := h.2.2.2.1.1
  have h92 := h.2.2.2.1.2
  rw [rRq, mCl, f2, mC4, mC3, if_neg (by decide)]
  show OK2 (rB (aS (rN (rB (rB (rB (pcf κ 7 (nI (a + 1))) 97 108).1 48 52).1 44 44).1 999).1 114 ((rB (pcf κ 7 (nI (a + 1))) 97 108).2 - 97) ((rB (rB (pcf κ 7 (nI (a + 1))) 97 108).1 48 52).2 - 48) (rN (rB (rB (rB (pcf κ 7 (nI (a + 1))) 97 108).1 48 52).1 44 44).1 999).2) 59 59).1 _ s a
  rcases hM0.on' (tx := cb κ) (len := cL κ) rfl rfl (lo := 97) (hi := 108) (by decide) with ⟨b1, b2, b3⟩ | hf
  · rw [b2, b3]
    have hM1 := hM0.go' (tx := cb κ) (len := cL κ) (y := skp (cb κ) (cL κ) (a + 1) + 1) rfl rfl (by omega)
    have hge := skp_ge (tx := cb κ) (len := cL κ) (a := a + 1) (by omega)
    revert b1 hM1 hge
    generalize skp (cb κ) (cL κ) (a + 1) = p1
    intro b1 hM1 hge
    rw [pcf_pcf] at hM1
    rw [pcf_pcf]
    generalize cb κ p1 = v0
    have hM2 := hM1.kprp (4 * s + 1) (v0 - 97)
    have eA : prp (prf (prp (mUp ρ) (4 * s) 114) 6 (nI (skp (cb κ) (cL κ) (p1 + 1)))) (4 * s + 1) (v0 - 97) = prf (prp (prp (mUp ρ) (4 * s) 114) (4 * s + 1) (v0 - 97)) 6 (nI (skp (cb κ) (cL κ) (p1 + 1))) := rfl
    show OK2 (rB (aS (rN (rB (rB (pcf κ 7 (nI (p1 + 1))) 48 52).1 44 44).1 999).1 114 (v0 - 97) ((rB (pcf κ 7 (nI (p1 + 1))) 48 52).2 - 48) (rN (rB (rB (pcf κ 7 (nI (p1 + 1))) 48 52).1 44 44).1 999).2) 59 59).1 (mC7 (mC6 (mC5 (prp (prf (prp (mUp ρ) (4 * s) 114) 6 (nI (skp (cb κ) (cL κ) (p1 + 1)))) (4 * s + 1) (v0 - 97)) s 114) s 114) s) s a
    rw [eA] at hM2 ⊢
    rw [mC5, if_pos rfl]
    rcases hM2.on' (tx := cb κ) (len := cL κ) rfl rfl (lo := 48) (hi := 52) (by decide) with ⟨c1, c2, c3⟩ | hf
    · rw [c2, c3]
      have hM3 := hM2.go' (tx := cb κ) (len := cL κ) (y := skp (cb κ) (cL κ) (p1 + 1) + 1) rfl rfl (by omega)
      have hge2 := skp_ge (tx := cb κ) (len := cL κ) (a := p1 + 1) (by omega)
      revert c1 hM3 hge2
      generalize skp (cb κ) (cL κ) (p1 + 1) = p2
      intro c1 hM3 hge2
      rw [pcf_pcf, prf_prf] at hM3
      rw [pcf_pcf, prf_prf]
      generalize cb κ p2 = v1
      have hM4 := hM3.kprp (4 * s + 2) (v1 - 48)
      show OK2 (rB (aS (rN (rB (pcf κ 7 (nI (p2 + 1))) 44 44).1 999).1 114 (v0 - 97) (v1 - 48) (rN (rB (pcf κ 7 (nI (p2 + 1))) 44 44).1 999).2) 59 59).1 (mC7 (mC6 (mTk (prp (prf (prp (prp (mUp ρ) (4 * s) 114) (4 * s + 1) (v0 - 97)) 6 (nI (skp (cb κ) (cL κ) (p2 + 1)))) (4 * s + 2) (v1 - 48)) 44) s 114) s) s a
      rcases hM4.tk' (tx := cb κ) (len := cL κ) rfl rfl (sg := 44) (by decide) with ⟨g1, g2, g3⟩ | hf
      · rw [g2, g3]
        have hM5 := hM4.go' (tx := cb κ) (len := cL κ) (y := skp (cb κ) (cL κ) (p2 + 1) + 1) rfl rfl (by omega)
        have hge3 := skp_ge (tx := cb κ) (len := cL κ) (a := p2 + 1) (by omega)
        revert g1 hM5 hge3
        generalize skp (cb κ) (cL κ) (p2 + 1) = p3
        intro g1 hM5 hge3
        rw [pcf_pcf] at hM5
        rw [pcf_pcf]
        have hrp0 : rp (prf (prp (prf (prp (prp (mUp ρ) (4 * s) 114) (4 * s + 1) (v0 - 97)) 6 (nI p3)) (4 * s + 2) (v1 - 48)) 6 (nI (skp (cb κ) (cL κ) (p3 + 1)))) = upd (upd (upd (rp ρ) (4 * s) 114) (4 * s + 1) (v0 - 97)) (4 * s + 2) (v1 - 48) := rfl
        have hro0 : ro (prf (prp (prf (prp (prp (mUp ρ) (4 * s) 114) (4 * s + 1) (v0 - 97)) 6 (nI p3)) (4 * s + 2) (v1 - 48)) 6 (nI (skp (cb κ) (cL κ) (p3 + 1)))) = ro ρ := rfl
        have h11 : rf (prf (prp (prf (prp (prp (mUp ρ) (4 * s) 114) (4 * s + 1) (v0 - 97)) 6 (nI p3)) (4 * s + 2) (v1 - 48)) 6 (nI (skp (cb κ) (cL κ) (p3 + 1)))) 11 = nI d := h92
        revert hM5 hrp0 hro0 h11
        generalize prf (prp (prf (prp (prp (mUp ρ) (4 * s) 114) (4 * s + 1) (v0 - 97)) 6 (nI p3)) (4 * s + 2) (v1 - 48)) 6 (nI (skp (cb κ) (cL κ) (p3 + 1))) = ρ1
        intro hM5 hrp0 hro0 h11
        exact h.rq2 hM5 (by omega) hrp0 hro0 h11
      · have g1 := ((hf.rN 999).aS 114 (v0 - 97) (v1 - 48) (rN (rB (pcf κ 7 (nI (p2 + 1))) 44 44).1 999).2).rB 59 59
        exact g1.c7 114
    · have g1 := ((((hf.rB 44 44).rN 999).aS 114 (v0 - 97) ((rB (pcf κ 7 (nI (p1 + 1))) 48 52).2 - 48) (rN (rB (rB (pcf κ 7 (nI (p1 + 1))) 48 52).1 44 44).1 999).2).rB 59 59)
      have g2 := (g1.kprp (4 * s + 2) (mOn (prf (prp (prp (mUp ρ) (4 * s) 114) (4 * s + 1) (v0 - 97)) 6 (nI (skp (cb κ) (cL κ) (p1 + 1)))) 48 52).2).mTk 44
      exact g2.c7 114
  · have g1 := (((((hf.rB 48 52).rB 44 44).rN 999).aS 114 ((rB (pcf κ 7 (nI (a + 1))) 97 108).2 - 97) ((rB (rB (pcf κ 7 (nI (a + 1))) 97 108).1 48 52).2 - 48) (rN (rB (rB (rB (pcf κ 7 (nI (a + 1))) 97 108).1 48 52).1 44 44).1 999).2).rB 59 59)
    have g2 := g1.kprp (4 * s + 1) (mOn (prp (mUp ρ) (4 * s) 114) 97 108).2
    rw [mC5, if_pos rfl]
    have g3 := ((g2.mOn 48 52).kprp (4 * s + 2) (mOn (prp (mOn (prp (mUp ρ) (4 * s) 114) 97 108).1 (4 * s + 1) (mOn (prp (mUp ρ) (4 * s) 114) 97 108).2) 48 52).2).mTk 44
    exact g3.c7 114
theorem OK2.cl {κ : sc_T} {ρ : md_T} {s a : Nat} (h : FA κ ρ) : OK2 κ ρ s a := Or.inr h
theorem PR.clo {κ : sc_T} {ρ : md_T} {s d a : Nat} (h : PR κ ρ s d a) (ha : a < cL κ) (h0 : 0 < d) : OK2 (rCs (pcf κ 7 (nI (a + 1)))) (mCls ρ) s a := by
  obtain ⟨u1, u2, u3, h100, u5⟩ := h.up0 ha
  obtain ⟨f1, f2, f3, f4, -, hd4⟩ := h.cS
  have hl : cL κ ≤ 100 := h.1.le.2.2
  have hg := skp_le (tx := cb κ) (len := cL κ) (a := a + 1) (by omega)
  have eC : mCls ρ = prf (prf (prp (prp (prf (mUp ρ) 11 (nI (d - 1))) (4 * s) 41) (4 * s + 1) (ro ρ (d - 1))) 9 (nI (s + 1))) 6 (nI (skp (cb κ) (cL κ) (a + 1))) := by
    have eA : mA (prf (prf (prp (prp (prf ρ 11 (nI (d - 1))) (4 * s) 41) (4 * s + 1) (ro ρ (d - 1))) 9 (nI (s + 1))) 6 (nI (a + 1))) = a + 1 := nI_clamp (by omega)
    have eS : skp (rt (prf (prf (prp (prp (prf ρ 11 (nI (d - 1))) (4 * s) 41) (4 * s + 1) (ro ρ (d - 1))) 9 (nI (s + 1))) 6 (nI (a + 1)))) (mL (prf (prf (prp (prp (prf ρ 11 (nI (d - 1))) (4 * s) 41) (4 * s + 1) (ro ρ (d - 1))) 9 (nI (s + 1))) 6 (nI (a + 1)))) (a + 1) = skp (cb κ) (cL κ) (a + 1) := h.1.skpR (a + 1)
    rw [mCls, f2, f4, u5, mSk, eA, eS, prf_prf, u2]
    refine Prod.ext ?_ rfl
    funext i
    show (if i = 6 then nI (skp (cb κ) (cL κ) (a + 1)) else if i = 9 then nI (s + 1) else if i = 11 then nI (d - 1) else rf ρ i) = (if i = 6 then nI (skp (cb κ) (cL κ) (a + 1)) else if i = 9 then nI (s + 1) else if i = 11 then nI (d - 1) else if i = 6 then nI (skp (cb κ) (cL κ) (a + 1)) else rf ρ i)
    by_cases hi : i = 6
    · rw [if_pos hi, if_pos hi]
    · rw [if_neg hi, if_neg hi, if_neg hi]
  have eK : rCs (pcf κ 7 (nI (a + 1))) = pcf (pcn (pcr (pcm (pck (pcf (pcf κ 7 (nI (a + 1))) 9 (nI (d - 1))) s 41) s 0) s 0) s (co κ (d - 1))) 6 (nI (s + 1)) := by
    have f3' : cD (pcf κ 7 (nI (a + 1))) = d := f3
    rw [rCs, f3', if_neg (by omega), aS_ok (κ := pcf (pcf κ 7 (nI (a + 1))) 9 (nI (d - 1))) (s := s) h.1.1.1 f1 h100]
    rfl
  rw [eK, eC]
  have hM0 : MD (pcf κ 7 (nI (a + 1))) (prf ρ 6 (nI (skp (cb κ) (cL κ) (a + 1)))) (a + 1) := h.1.go (by omega)
  have hM1 := ((hM0.c9 (d := d - 1) (by omega)).arr s 41 0 0 (co κ (d - 1))).c6 (s := s + 1) (by omega)
  have hM2 : MD (pcf (pcn (pcr (pcm (pck (pcf (pcf κ 7 (nI (a + 1))) 9 (nI (d - 1))) s 41) s 0) s 0) s (co κ (d - 1))) 6 (nI (s + 1))) (prf (prf (prp (prp (prf (mUp ρ) 11 (nI (d - 1))) (4 * s) 41) (4 * s + 1) (ro ρ (d - 1))) 9 (nI (s + 1))) 6 (nI (skp (cb κ) (cL κ) (a + 1)))) (a + 1) := by
    refine ⟨hM1.1, ⟨hM1.2.1.1, ?_, hM1.2.1.2.2⟩, ⟨hM1.2.2.1.1, ?_⟩, hM1.2.2.2.1, hM1.2.2.2.2⟩
    · exact nI_clamp (by omega)
    · exact TI.at (ρ := prf (prp (prp (prf (mUp ρ) 11 (nI (d - 1))) (4 * s) 41) (4 * s + 1) (ro ρ (d - 1))) 9 (nI (s + 1))) u3.2.2.1.2 (by show _ ≤ mL ρ; rw [h.1.2.2.2.1]; exact hg)
  refine h.fin hM2 (by omega) rfl rfl (d' := d - 1) rfl rfl ?_
  refine h.2.2.2.2.cls h0 (me := 0) (r := 0) rfl rfl rfl rfl rfl ?_ (fun j hj => ?_) ?_ ?_
  · rw [u2]
    rfl
  · rw [u2]
    show upd (upd (rp ρ) (4 * s) 41) (4 * s + 1) (ro ρ (d - 1)) j = rp ρ j
    rw [upd_ne _ _ (by omega), upd_ne _ _ (by omega)]
  · rw [u2]
    show upd (upd (rp ρ) (4 * s) 41) (4 * s + 1) (ro ρ (d - 1)) (4 * s) = 41
    rw [upd_ne _ _ (by omega), upd_same]
  · rw [u2]
    show upd (upd (rp ρ) (4 * s) 41) (4 * s + 1) (ro ρ (d - 1)) (4 * s + 1) = ro ρ (d - 1)
    rw [upd_same]

