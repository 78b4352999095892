/-! ===== the reference: what its methods do to m ===== -/
def rLeaves (m : Nat → Int32) (k : Nat) : Nat → Int32 := upd (upd (upd (upd m k 0) (12 + k) (-1)) (24 + k) (-1)) (36 + k) 0
def rShift (m : Nat → Int32) : Nat → (Nat → Int32)
  | 0 => m
  | i + 1 => upd (rShift m i) (111 + i) (rShift m i (111 + i + 4))
def rPush (m : Nat → Int32) (q : Nat) (kd me r : Int32) : Nat → Int32 :=
  let m4 := upd (upd (upd (upd m (111 + 4 * q) (m 103)) (111 + 4 * q + 1) kd) (111 + 4 * q + 2) me) (111 + 4 * q + 3) r
  let m5 := upd m4 108 (m4 108 + 1)
  upd m5 109 (m5 109 + 1)
def rLogs (m : Nat → Int32) (kd me r : Int32) : Nat → Int32 :=
  if m 108 = 40 then rPush (upd (rShift m 156) 108 39) 39 kd me r else rPush m (m 108).toNatClampNeg kd me r
def rInUse (m : Nat → Int32) : Int32 := (ff (fun k => decide (1 < m k)) 12).elim (-1) (fun k => m (12 + k))
def rIns (m : Nat → Int32) (r : Int32) : Nat := fb_ct (fun k => decide (1 < m k) && decide (m (12 + k) = r)) 12
def rWai (m : Nat → Int32) (r : Int32) : Nat := fb_ct (fun k => decide (m k = 1) && decide (m (12 + k) = r)) 12
def rImp (m : Nat → Int32) (k : Nat) : Bool := decide (m k = 1) && decide (m 100 ≤ m 103 - m (24 + k))
def rBef (m : Nat → Int32) (k : Nat) : Nat := fb_ct (fun j => decide (m j = 1) && (decide (m (12 + j) = m (12 + k)) && decide (m (48 + j) < m (48 + k)))) 12
def rInq (m : Nat → Int32) (r place : Int32) : Int32 := oI (ff (fun k => decide (m k = 1) && (decide (m (12 + k) = r) && decide (nI (rBef m k) = place))) 12)
def rNf (m : Nat → Int32) : Nat → Option Nat
  | 0 => none
  | k + 1 => match rNf m k with
    | none => if rImp m k then some k else none
    | some f => if rImp m k && decide (m (48 + k) < m (48 + f)) then some k else some f
def rNb (m : Nat → Int32) : Nat → Option Nat
  | 0 => none
  | r + 1 => match rNb m r with
    | none => if 0 < rWai m (nI r) then some r else none
    | some f => if decide (0 < rWai m (nI r)) && decide (m (70 + r) < m (70 + f)) then some r else some f
def rNext (m : Nat → Int32) : Int32 := (rNf m 12).elim (oI (rNb m 5)) (fun k => m (12 + k))
def rEnt1 (m : Nat → Int32) (r k : Nat) : Nat → Int32 :=
  let w := m 103 - m (24 + k)
  let m1 := upd m k 2
  let m2 := upd m1 (24 + k) (m1 103)
  let m3 := upd m2 105 (m2 105 + 1)
  let m4 := upd m3 (80 + r) (m3 (80 + r) + 1)
  let m5 := upd m4 (90 + r) (m4 (90 + r) + w)
  upd m5 (95 + r) (if w ≤ m5 (95 + r) then m5 (95 + r) else w)
def rEnt (m : Nat → Int32) (r k : Nat) : Nat → Int32 := rLogs (rEnt1 m r k) 1 (nI k) (nI r)
def rOpn1 (m : Nat → Int32) (r : Nat) : Nat → Int32 :=
  let m1 := upd m 106 (m (70 + r))
  let m2 := upd m1 (70 + r) (m1 (70 + r) + 2520 / m1 (65 + r))
  let m3 := upd m2 104 1
  let m4 := upd m3 105 0
  upd m4 (75 + r) (m4 (75 + r) + 1)
def rOpn (m : Nat → Int32) (r : Nat) : Nat → Int32 := rLogs (rOpn1 m r) 0 (-1) (nI r)
def rOth (m : Nat → Int32) (r : Int32) (k : Nat) : Bool := decide (m k = 1) && !decide (m (12 + k) = r)
def rDue (m : Nat → Int32) (r : Int32) : Bool := ex (rOth m r) 12 && (ex (fun k => rOth m r k && rImp m k) 12 || decide (m 101 ≤ m 105))
theorem rShift_lo (m : Nat → Int32) {j : Nat} (hj : j < 111) : ∀ i, rShift m i j = m j
  | 0 => rfl
  | i + 1 => by rw [rShift, upd_ne _ _ (by omega), rShift_lo m hj i]

