section AIR
variable {G : aiG} {out : aiR} {k n pc : Nat} {L st : List Value} {S : List aiS} {M : Nat → Nat → Int32} {J : Nat → Int64}
theorem e_iconst {i : Int} {v : Int32} (hd : decode (gB G) pc = .ok (.iconst i, 1)) (hv : Int32.ofInt i = v) (h : AW G out k n (pc + 1) L (.int v :: st) S M J) : AW G out k n pc L (st) S M J :=
  fun B dC dI cA p l e s m args below meth c H locs ls C hH hS hz hl => lv_iconst (rest := st.map (ai_v B)) C.1 C.2.1 hd hv (h B dC dI cA p l e s m args below meth c H locs ls C hH hS hz hl)
theorem e_bipush {i : Int} {v : Int32} (hd : decode (gB G) pc = .ok (.bipush i, 2)) (hv : (Int8.ofInt i).toInt32 = v) (h : AW G out k n (pc + 2) L (.int v :: st) S M J) : AW G out k n pc L (st) S M J :=
  fun B dC dI cA p l e s m args below meth c H locs ls C hH hS hz hl => lv_bipush (rest := st.map (ai_v B)) C.1 C.2.1 hd hv (h B dC dI cA p l e s m args below meth c H locs ls C hH hS hz hl)
theorem e_sipush {i : Int} {v : Int32} (hd : decode (gB G) pc = .ok (.sipush i, 3)) (hv : (Int16.ofInt i).toInt32 = v) (h : AW G out k n (pc + 3) L (.int v :: st) S M J) : AW G out k n pc L (st) S M J :=
  fun B dC dI cA p l e s m args below meth c H locs ls C hH hS hz hl => lv_sipush (rest := st.map (ai_v B)) C.1 C.2.1 hd hv (h B dC dI cA p l e s m args below meth c H locs ls C hH hS hz hl)
theorem e_iadd {x y : Int32} (hd : decode (gB G) pc = .ok (.iadd, 1))  (h : AW G out k n (pc + 1) L (.int (x + y) :: st) S M J) : AW G out k n pc L (.int y :: .int x :: st) S M J :=
  fun B dC dI cA p l e s m args below meth c H locs ls C hH hS hz hl => lv_iadd (rest := st.map (ai_v B)) C.1 C.2.1 hd  (h B dC dI cA p l e s m args below meth c H locs ls C hH hS hz hl)
theorem e_isub {x y : Int32} (hd : decode (gB G) pc = .ok (.isub, 1))  (h : AW G out k n (pc + 1) L (.int (x - y) :: st) S M J) : AW G out k n pc L (.int y :: .int x :: st) S M J :=
  fun B dC dI cA p l e s m args below meth c H locs ls C hH hS hz hl => lv_isub (rest := st.map (ai_v B)) C.1 C.2.1 hd  (h B dC dI cA p l e s m args below meth c H locs ls C hH hS hz hl)
theorem e_imul {x y : Int32} (hd : decode (gB G) pc = .ok (.imul, 1))  (h : AW G out k n (pc + 1) L (.int (x * y) :: st) S M J) : AW G out k n pc L (.int y :: .int x :: st) S M J :=
  fun B dC dI cA p l e s m args below meth c H locs ls C hH hS hz hl => lv_imul (rest := st.map (ai_v B)) C.1 C.2.1 hd  (h B dC dI cA p l e s m args below meth c H locs ls C hH hS hz hl)
theorem e_iand {x y : Int32} (hd : decode (gB G) pc = .ok (.iand, 1))  (h : AW G out k n (pc + 1) L (.int (x &&& y) :: st) S M J) : AW G out k n pc L (.int y :: .int x :: st) S M J :=
  fun B dC dI cA p l e s m args below meth c H locs ls C hH hS hz hl => lv_iand (rest := st.map (ai_v B)) C.1 C.2.1 hd  (h B dC dI cA p l e s m args below meth c H locs ls C hH hS hz hl)
theorem e_idiv {x y : Int32} (hd : decode (gB G) pc = .ok (.idiv, 1)) (hne : ¬ y = 0) (h : AW G out k n (pc + 1) L (.int (x / y) :: st) S M J) : AW G out k n pc L (.int y :: .int x :: st) S M J :=
  fun B dC dI cA p l e s m args below meth c H locs ls C hH hS hz hl => lv_idiv (rest := st.map (ai_v B)) C.1 C.2.1 hd hne (h B dC dI cA p l e s m args below meth c H locs ls C hH hS hz hl)
theorem e_irem {x y : Int32} (hd : decode (gB G) pc = .ok (.irem, 1)) (hne : ¬ y = 0) (h : AW G out k n (pc + 1) L (.int (x - x / y * y) :: st) S M J) : AW G out k n pc L (.int y :: .int x :: st) S M J :=
  fun B dC dI cA p l e s m args below meth c H locs ls C hH hS hz hl => lv_irem (rest := st.map (ai_v B)) C.1 C.2.1 hd hne (h B dC dI cA p l e s m args below meth c H locs ls C hH hS hz hl)
theorem e_ladd {x y : Int64} (hd : decode (gB G) pc = .ok (.ladd, 1))  (h : AW G out k n (pc + 1) L (.long (x + y) :: st) S M J) : AW G out k n pc L (.long y :: .long x :: st) S M J :=
  fun B dC dI cA p l e s m args below meth c H locs ls C hH hS hz hl => lv_ladd (rest := st.map (ai_v B)) C.1 C.2.1 hd  (h B dC dI cA p l e s m args below meth c H locs ls C hH hS hz hl)
theorem e_lmul {x y : Int64} (hd : decode (gB G) pc = .ok (.lmul, 1))  (h : AW G out k n (pc + 1) L (.long (x * y) :: st) S M J) : AW G out k n pc L (.long y :: .long x :: st) S M J :=
  fun B dC dI cA p l e s m args below meth c H locs ls C hH hS hz hl => lv_lmul (rest := st.map (ai_v B)) C.1 C.2.1 hd  (h B dC dI cA p l e s m args below meth c H locs ls C hH hS hz hl)
theorem e_i2l {x : Int32} (hd : decode (gB G) pc = .ok (.i2l, 1))  (h : AW G out k n (pc + 1) L (.long x.toInt64 :: st) S M J) : AW G out k n pc L (.int x :: st) S M J :=
  fun B dC dI cA p l e s m args below meth c H locs ls C hH hS hz hl => lv_i2l (rest := st.map (ai_v B)) C.1 C.2.1 hd rfl (h B dC dI cA p l e s m args below meth c H locs ls C hH hS hz hl)
theorem e_dup {v : Value} (hd : decode (gB G) pc = .ok (.dup, 1)) (hc : v.category = 1) (h : AW G out k n (pc + 1) L (v :: v :: st) S M J) : AW G out k n pc L (v :: st) S M J :=
  fun B dC dI cA p l e s m args below meth c H locs ls C hH hS hz hl => lv_dup (rest := st.map (ai_v B)) C.1 C.2.1 hd ((ai_v_cat B v).trans hc) (h B dC dI cA p l e s m args below meth c H locs ls C hH hS hz hl)
theorem e_pop {v : Value} (hd : decode (gB G) pc = .ok (.pop, 1)) (hc : v.category = 1) (h : AW G out k n (pc + 1) L (st) S M J) : AW G out k n pc L (v :: st) S M J :=
  fun B dC dI cA p l e s m args below meth c H locs ls C hH hS hz hl => lv_pop (rest := st.map (ai_v B)) C.1 C.2.1 hd ((ai_v_cat B v).trans hc) (h B dC dI cA p l e s m args below meth c H locs ls C hH hS hz hl)
theorem e_dup2 {v u : Value} (hd : decode (gB G) pc = .ok (.dup2, 1)) (hc : v.category = 1) (hc2 : u.category = 1) (h : AW G out k n (pc + 1) L (v :: u :: v :: u :: st) S M J) : AW G out k n pc L (v :: u :: st) S M J :=
  fun B dC dI cA p l e s m args below meth c H locs ls C hH hS hz hl => lv_dup2_11 (rest := st.map (ai_v B)) C.1 C.2.1 hd ((ai_v_cat B v).trans hc) ((ai_v_cat B u).trans hc2) (h B dC dI cA p l e s m args below meth c H locs ls C hH hS hz hl)
theorem e_iload_n {f : Fin 4} {i : Nat} {x : Int32} (hd : decode (gB G) pc = .ok (.iload_n f, 1)) (hi : (f : Nat) = i) (hx : L[i]? = some (.int x)) (h : AW G out k n (pc + 1) L (.int x :: st) S M J) : AW G out k n pc L st S M J :=
  fun B dC dI cA p l e s m args below meth c H locs ls C hH hS hz hl => lv_iload_n C.1 C.2.1 hd hi (hl.2.2 i _ hx (fun z q => by cases q)) (h B dC dI cA p l e s m args below meth c H locs ls C hH hS hz hl)
theorem e_iload {i : Nat} {x : Int32} (hd : decode (gB G) pc = .ok (.iload i, 2)) (hx : L[i]? = some (.int x)) (h : AW G out k n (pc + 2) L (.int x :: st) S M J) : AW G out k n pc L st S M J :=
  fun B dC dI cA p l e s m args below meth c H locs ls C hH hS hz hl => lv_iload C.1 C.2.1 hd (hl.2.2 i _ hx (fun z q => by cases q)) (h B dC dI cA p l e s m args below meth c H locs ls C hH hS hz hl)
theorem e_aload_n {f : Fin 4} {i : Nat} {x : Nat} (hd : decode (gB G) pc = .ok (.aload_n f, 1)) (hi : (f : Nat) = i) (hx : L[i]? = some (.ref x)) (h : AW G out k n (pc + 1) L (.ref x :: st) S M J) : AW G out k n pc L st S M J :=
  fun B dC dI cA p l e s m args below meth c H locs ls C hH hS hz hl => lv_aload_n C.1 C.2.1 hd hi (hl.2.2 i _ hx (fun z q => by cases q)) (h B dC dI cA p l e s m args below meth c H locs ls C hH hS hz hl)
theorem e_aload {i : Nat} {x : Nat} (hd : decode (gB G) pc = .ok (.aload i, 2)) (hx : L[i]? = some (.ref x)) (h : AW G out k n (pc + 2) L (.ref x :: st) S M J) : AW G out k n pc L st S M J :=
  fun B dC dI cA p l e s m args below meth c H locs ls C hH hS hz hl => lv_aload C.1 C.2.1 hd (hl.2.2 i _ hx (fun z q => by cases q)) (h B dC dI cA p l e s m args below meth c H locs ls C hH hS hz hl)
theorem e_lload_n {f : Fin 4} {i : Nat} {x : Int64} (hd : decode (gB G) pc = .ok (.lload_n f, 1)) (hi : (f : Nat) = i) (hx : L[i]? = some (.long x)) (h : AW G out k n (pc + 1) L (.long x :: st) S M J) : AW G out k n pc L st S M J :=
  fun B dC dI cA p l e s m args below meth c H locs ls C hH hS hz hl => lv_lload_n C.1 C.2.1 hd hi (hl.2.2 i _ hx (fun z q => by cases q)) (h B dC dI cA p l e s m args below meth c H locs ls C hH hS hz hl)
theorem e_istore_n {f : Fin 4} {i : Nat} {x : Int32} (hd : decode (gB G) pc = .ok (.istore_n f, 1)) (hi : (f : Nat) = i) (hn : i < gL G) (hb : ai_nl L i = true) (h : AW G out k n (pc + 1) (L.set i (.int x)) st S M J) : AW G out k n pc L (.int x :: st) S M J :=
  fun B dC dI cA p l e s m args below meth c H locs ls C hH hS hz hl => lv_istore_n (rest := st.map (ai_v B)) C.1 C.2.1 hd hi hl.has hn rfl (fun ls1 hl1 => h B dC dI cA p l e s m args below meth c H locs ls1 C hH hS hz (ai_of_store (v := .int x) hl1 hb))
theorem e_istore {i : Nat} {x : Int32} (hd : decode (gB G) pc = .ok (.istore i, 2)) (hn : i < gL G) (hb : ai_nl L i = true) (h : AW G out k n (pc + 2) (L.set i (.int x)) st S M J) : AW G out k n pc L (.int x :: st) S M J :=
  fun B dC dI cA p l e s m args below meth c H locs ls C hH hS hz hl => lv_istore (rest := st.map (ai_v B)) C.1 C.2.1 hd hl.has hn rfl (fun ls1 hl1 => h B dC dI cA p l e s m args below meth c H locs ls1 C hH hS hz (ai_of_store (v := .int x) hl1 hb))
theorem e_astore_n {f : Fin 4} {i : Nat} {x : Nat} (hd : decode (gB G) pc = .ok (.astore_n f, 1)) (hi : (f : Nat) = i) (hn : i < gL G) (hb : ai_nl L i = true) (h : AW G out k n (pc + 1) (L.set i (.ref x)) st S M J) : AW G out k n pc L (.ref x :: st) S M J :=
  fun B dC dI cA p l e s m args below meth c H locs ls C hH hS hz hl => lv_astore_n (rest := st.map (ai_v B)) C.1 C.2.1 hd hi hl.has hn rfl (fun ls1 hl1 => h B dC dI cA p l e s m args below meth c H locs ls1 C hH hS hz (ai_of_store (v := .ref x) hl1 hb))
theorem e_astore {i : Nat} {x : Nat} (hd : decode (gB G) pc = .ok (.astore i, 2)) (hn : i < gL G) (hb : ai_nl L i = true) (h : AW G out k n (pc + 2) (L.set i (.ref x)) st S M J) : AW G out k n pc L (.ref x :: st) S M J :=
  fun B dC dI cA p l e s m args below meth c H locs ls C hH hS hz hl => lv_astore (rest := st.map (ai_v B)) C.1 C.2.1 hd hl.has hn rfl (fun ls1 hl1 => h B dC dI cA p l e s m args below meth c H locs ls1 C hH hS hz (ai_of_store (v := .ref x) hl1 hb))
theorem e_lstore_n {f : Fin 4} {i : Nat} {x : Int64} (hd : decode (gB G) pc = .ok (.lstore_n f, 1)) (hi : (f : Nat) = i) (hn : i + 1 < gL G) (hb : ai_nl L i = true) (h : AW G out k n (pc + 1) ((L.set i (.long x)).set (i + 1) (.retAddr 0)) st S M J) : AW G out k n pc L (.long x :: st) S M J :=
  fun B dC dI cA p l e s m args below meth c H locs ls C hH hS hz hl => lv_lstore_n (rest := st.map (ai_v B)) C.1 C.2.1 hd hi hl.has hn rfl (fun ls1 hl1 => h B dC dI cA p l e s m args below meth c H locs ls1 C hH hS hz (ai_of_store2 (v := .long x) hl1 hb))
theorem e_iinc {i : Nat} {z : Int} {x v : Int32} (hd : decode (gB G) pc = .ok (.iinc i z, 3)) (hx : L[i]? = some (.int x)) (hv : x + Int32.ofInt z = v) (hn : i < gL G) (hb : ai_nl L i = true) (h : AW G out k n (pc + 3) (L.set i (.int v)) st S M J) : AW G out k n pc L st S M J := by
  intro B dC dI cA p l e s m args below meth c H locs ls C hH hS hz hl
  obtain ⟨k0, hk0⟩ := List.getElem?_of_mem (ai_prs_mem (B := B) hx (fun z q => by cases q))
  exact lv_iinc C.1 C.2.1 hd hl.has hk0 hv hn rfl (fun ls1 hl1 => h B dC dI cA p l e s m args below meth c H locs ls1 C hH hS hz (ai_of_store (v := .int v) hl1 hb))
theorem e_goto {off : Int} (tgt : Nat) (hd : decode (gB G) pc = .ok (.goto off, 3)) (ht : (pc : Int) + off = (tgt : Int)) (h : AW G out k n tgt L st S M J) : AW G out k n pc L st S M J :=
  fun B dC dI cA p l e s m args below meth c H locs ls C hH hS hz hl => lv_goto C.1 C.2.1 hd ht (h B dC dI cA p l e s m args below meth c H locs ls C hH hS hz hl)
theorem e_if_eq {x : Int32} {off : Int} (tgt : Nat) (hd : decode (gB G) pc = .ok (.ifCond .eq off, 3)) (ht : (pc : Int) + off = (tgt : Int)) (h1 : x = 0 → AW G out k n tgt L st S M J) (h2 : ¬ x = 0 → AW G out k n (pc + 3) L st S M J) : AW G out k n pc L (.int x :: st) S M J :=
  fun B dC dI cA p l e s m args below meth c H locs ls C hH hS hz hl => lv_if_eq (rest := st.map (ai_v B)) C.1 C.2.1 hd ht (fun q => h1 q B dC dI cA p l e s m args below meth c H locs ls C hH hS hz hl) (fun q => h2 q B dC dI cA p l e s m args below meth c H locs ls C hH hS hz hl)
theorem e_icmp_eq {x y : Int32} {off : Int} (tgt : Nat) (hd : decode (gB G) pc = .ok (.if_icmp .eq off, 3)) (ht : (pc : Int) + off = (tgt : Int)) (h1 : x = y → AW G out k n tgt L st S M J) (h2 : ¬ x = y → AW G out k n (pc + 3) L st S M J) : AW G out k n pc L (.int y :: .int x :: st) S M J :=
  fun B dC dI cA p l e s m args below meth c H locs ls C hH hS hz hl => lv_icmp_eq (rest := st.map (ai_v B)) C.1 C.2.1 hd ht (fun q => h1 q B dC dI cA p l e s m args below meth c H locs ls C hH hS hz hl) (fun q => h2 q B dC dI cA p l e s m args below meth c H locs ls C hH hS hz hl)
theorem e_if_ne {x : Int32} {off : Int} (tgt : Nat) (hd : decode (gB G) pc = .ok (.ifCond .ne off, 3)) (ht : (pc : Int) + off = (tgt : Int)) (h1 : ¬ x = 0 → AW G out k n tgt L st S M J) (h2 : x = 0 → AW G out k n (pc + 3) L st S M J) : AW G out k n pc L (.int x :: st) S M J :=
  fun B dC dI cA p l e s m args below meth c H locs ls C hH hS hz hl => lv_if_ne (rest := st.map (ai_v B)) C.1 C.2.1 hd ht (fun q => h1 q B dC dI cA p l e s m args below meth c H locs ls C hH hS hz hl) (fun q => h2 q B dC dI cA p l e s m args below meth c H locs ls C hH hS hz hl)
theorem e_icmp_ne {x y : Int32} {off : Int} (tgt : Nat) (hd : decode (gB G) pc = .ok (.if_icmp .ne off, 3)) (ht : (pc : Int) + off = (tgt : Int)) (h1 : ¬ x = y → AW G out k n tgt L st S M J) (h2 : x = y → AW G out k n (pc + 3) L st S M J) : AW G out k n pc L (.int y :: .int x :: st) S M J :=
  fun B dC dI cA p l e s m args below meth c H locs ls C hH hS hz hl => lv_icmp_ne (rest := st.map (ai_v B)) C.1 C.2.1 hd ht (fun q => h1 q B dC dI cA p l e s m args below meth c H locs ls C hH hS hz hl) (fun q => h2 q B dC dI cA p l e s m args below meth c H locs ls C hH hS hz hl)
theorem e_if_lt {x : Int32} {off : Int} (tgt : Nat) (hd : decode (gB G) pc = .ok (.ifCond .lt off, 3)) (ht : (pc : Int) + off = (tgt : Int)) (h1 : x < 0 → AW G out k n tgt L st S M J) (h2 : ¬ x < 0 → AW G out k n (pc + 3) L st S M J) : AW G out k n pc L (.int x :: st) S M J :=
  fun B dC dI cA p l e s m args below meth c H locs ls C hH hS hz hl => lv_if_lt (rest := st.map (ai_v B)) C.1 C.2.1 hd ht (fun q => h1 q B dC dI cA p l e s m args below meth c H locs ls C hH hS hz hl) (fun q => h2 q B dC dI cA p l e s m args below meth c H locs ls C hH hS hz hl)
theorem e_icmp_lt {x y : Int32} {off : Int} (tgt : Nat) (hd : decode (gB G) pc = .ok (.if_icmp .lt off, 3)) (ht : (pc : Int) + off = (tgt : Int)) (h1 : x < y → AW G out k n tgt L st S M J) (h2 : ¬ x < y → AW G out k n (pc + 3) L st S M J) : AW G out k n pc L (.int y :: .int x :: st) S M J :=
  fun B dC dI cA p l e s m args below meth c H locs ls C hH hS hz hl => lv_icmp_lt (rest := st.map (ai_v B)) C.1 C.2.1 hd ht (fun q => h1 q B dC dI cA p l e s m args below meth c H locs ls C hH hS hz hl) (fun q => h2 q B dC dI cA p l e s m args below meth c H locs ls C hH hS hz hl)
theorem e_if_ge {x : Int32} {off : Int} (tgt : Nat) (hd : decode (gB G) pc = .ok (.ifCond .ge off, 3)) (ht : (pc : Int) + off = (tgt : Int)) (h1 : 0 ≤ x → AW G out k n tgt L st S M J) (h2 : ¬ 0 ≤ x → AW G out k n (pc + 3) L st S M J) : AW G out k n pc L (.int x :: st) S M J :=
  fun B dC dI cA p l e s m args below meth c H locs ls C hH hS hz hl => lv_if_ge (rest := st.map (ai_v B)) C.1 C.2.1 hd ht (fun q => h1 q B dC dI cA p l e s m args below meth c H locs ls C hH hS hz hl) (fun q => h2 q B dC dI cA p l e s m args below meth c H locs ls C hH hS hz hl)
theorem e_icmp_ge {x y : Int32} {off : Int} (tgt : Nat) (hd : decode (gB G) pc = .ok (.if_icmp .ge off, 3)) (ht : (pc : Int) + off = (tgt : Int)) (h1 : y ≤ x → AW G out k n tgt L st S M J) (h2 : ¬ y ≤ x → AW G out k n (pc + 3) L st S M J) : AW G out k n pc L (.int y :: .int x :: st) S M J :=
  fun B dC dI cA p l e s m args below meth c H locs ls C hH hS hz hl => lv_icmp_ge (rest := st.map (ai_v B)) C.1 C.2.1 hd ht (fun q => h1 q B dC dI cA p l e s m args below meth c H locs ls C hH hS hz hl) (fun q => h2 q B dC dI cA p l e s m args below meth c H locs ls C hH hS hz hl)
theorem e_if_gt {x : Int32} {off : Int} (tgt : Nat) (hd : decode (gB G) pc = .ok (.ifCond .gt off, 3)) (ht : (pc : Int) + off = (tgt : Int)) (h1 : 0 < x → AW G out k n tgt L st S M J) (h2 : ¬ 0 < x → AW G out k n (pc + 3) L st S M J) : AW G out k n pc L (.int x :: st) S M J :=
  fun B dC dI cA p l e s m args below meth c H locs ls C hH hS hz hl => lv_if_gt (rest := st.map (ai_v B)) C.1 C.2.1 hd ht (fun q => h1 q B dC dI cA p l e s m args below meth c H locs ls C hH hS hz hl) (fun q => h2 q B dC dI cA p l e s m args below meth c H locs ls C hH hS hz hl)
theorem e_icmp_gt {x y : Int32} {off : Int} (tgt : Nat) (hd : decode (gB G) pc = .ok (.if_icmp .gt off, 3)) (ht : (pc : Int) + off = (tgt : Int)) (h1 : y < x → AW G out k n tgt L st S M J) (h2 : ¬ y < x → AW G out k n (pc + 3) L st S M J) : AW G out k n pc L (.int y :: .int x :: st) S M J :=
  fun B dC dI cA p l e s m args below meth c H locs ls C hH hS hz hl => lv_icmp_gt (rest := st.map (ai_v B)) C.1 C.2.1 hd ht (fun q => h1 q B dC dI cA p l e s m args below meth c H locs ls C hH hS hz hl) (fun q => h2 q B dC dI cA p l e s m args below meth c H locs ls C hH hS hz hl)
theorem e_if_le {x : Int32} {off : Int} (tgt : Nat) (hd : decode (gB G) pc = .ok (.ifCond .le off, 3)) (ht : (pc : Int) + off = (tgt : Int)) (h1 : x ≤ 0 → AW G out k n tgt L st S M J) (h2 : ¬ x ≤ 0 → AW G out k n (pc + 3) L st S M J) : AW G out k n pc L (.int x :: st) S M J :=
  fun B dC dI cA p l e s m args below meth c H locs ls C hH hS hz hl => lv_if_le (rest := st.map (ai_v B)) C.1 C.2.1 hd ht (fun q => h1 q B dC dI cA p l e s m args below meth c H locs ls C hH hS hz hl) (fun q => h2 q B dC dI cA p l e s m args below meth c H locs ls C hH hS hz hl)
theorem e_icmp_le {x y : Int32} {off : Int} (tgt : Nat) (hd : decode (gB G) pc = .ok (.if_icmp .le off, 3)) (ht : (pc : Int) + off = (tgt : Int)) (h1 : x ≤ y → AW G out k n tgt L st S M J) (h2 : ¬ x ≤ y → AW G out k n (pc + 3) L st S M J) : AW G out k n pc L (.int y :: .int x :: st) S M J :=
  fun B dC dI cA p l e s m args below meth c H locs ls C hH hS hz hl => lv_icmp_le (rest := st.map (ai_v B)) C.1 C.2.1 hd ht (fun q => h1 q B dC dI cA p l e s m args below meth c H locs ls C hH hS hz hl) (fun q => h2 q B dC dI cA p l e s m args below meth c H locs ls C hH hS hz hl)
theorem e_tableIn {dflt lo hi : Int} {offs : Array Int} {len : Nat} {x : Int32} {off : Int} (tgt : Nat) (hd : decode (gB G) pc = .ok (.tableswitch dflt lo hi offs, len)) (h1 : ¬ x.toInt < lo) (h2 : ¬ hi < x.toInt) (ho : offs[(x.toInt - lo).toNat]? = some off) (ht : (pc : Int) + off = (tgt : Int)) (h : AW G out k n tgt L st S M J) : AW G out k n pc L (.int x :: st) S M J :=
  fun B dC dI cA p l e s m args below meth c H locs ls C hH hS hz hl => lv_tableIn (rest := st.map (ai_v B)) C.1 C.2.1 hd h1 h2 ho ht (h B dC dI cA p l e s m args below meth c H locs ls C hH hS hz hl)
theorem e_tableOut {dflt lo hi : Int} {offs : Array Int} {len : Nat} {x : Int32} (tgt : Nat) (hd : decode (gB G) pc = .ok (.tableswitch dflt lo hi offs, len)) (h1 : x.toInt < lo ∨ hi < x.toInt) (ht : (pc : Int) + dflt = (tgt : Int)) (h : AW G out k n tgt L st S M J) : AW G out k n pc L (.int x :: st) S M J :=
  fun B dC dI cA p l e s m args below meth c H locs ls C hH hS hz hl => lv_tableOut (rest := st.map (ai_v B)) C.1 C.2.1 hd h1 ht (h B dC dI cA p l e s m args below meth c H locs ls C hH hS hz hl)
theorem e_lookup {dflt : Int} {ps : Array (Int × Int)} {len : Nat} {x : Int32} {off : Int} (tgt : Nat) (hd : decode (gB G) pc = .ok (.lookupswitch dflt ps, len)) (hp : (ps.toList.zip (ps.toList.drop 1)).all (fun (a, next) => a.1 < next.1) = true) (ho : Op.lookupswitch.offset ps.toList dflt x.toInt = off) (ht : (pc : Int) + off = (tgt : Int)) (h : AW G out k n tgt L st S M J) : AW G out k n pc L (.int x :: st) S M J :=
  fun B dC dI cA p l e s m args below meth c H locs ls C hH hS hz hl => lv_lookup (rest := st.map (ai_v B)) C.1 C.2.1 hd hp ho ht (h B dC dI cA p l e s m args below meth c H locs ls C hH hS hz hl)
theorem e_ldc {ix : Nat} {v : Int32} (hd : decode (gB G) pc = .ok (.ldc ix, 2)) (hc : Cond.constant (gY G).cls ix v ∈ ai_T) (h : AW G out k n (pc + 2) L (.int v :: st) S M J) : AW G out k n pc L st S M J :=
  fun B dC dI cA p l e s m args below meth c H locs ls C hH hS hz hl => lv_ldc C.1 C.2.1 C.2.2.2.2.1 (C.2.2.2.2.2.2.2.1 _ hc) hd (h B dC dI cA p l e s m args below meth c H locs ls C hH hS hz hl)
theorem e_ldc2 {ix : Nat} {v : Int64} (hd : decode (gB G) pc = .ok (.ldc2_w ix, 3)) (hc : Cond.constantLong (gY G).cls ix v ∈ ai_T) (h : AW G out k n (pc + 3) L (.long v :: st) S M J) : AW G out k n pc L st S M J :=
  fun B dC dI cA p l e s m args below meth c H locs ls C hH hS hz hl => lv_ldc2 C.1 C.2.1 C.2.2.2.2.1 (C.2.2.2.2.2.2.2.1 _ hc) hd (h B dC dI cA p l e s m args below meth c H locs ls C hH hS hz hl)
theorem e_vret  (hd : decode (gB G) pc = .ok (.return_, 1)) (hR : gR G = none) (hr : out = (none, S, M, J)) (hk : k ≤ gMC G) (hn : n ≤ gMS G) : AW G out k n pc L [] S M J := by
  intro B dC dI cA p l e s m args below meth c H locs ls C hH hS hz hl
  subst hr
  refine W.widen (k := gMC G) (n := gMS G) hk hn ?_
  have hlocks := C.2.2.2.2.2.1
  exact W.vret C.1 C.2.1 (C.2.2.1.trans hR) (fun t ht hW => ⟨rfl, by rw [ht]; exact hH, C.2.2.2.2.2.2.2.2.1.warm hW, hS.F ht⟩) hS.2.2 hd
theorem e_iret {x : Int32} (hd : decode (gB G) pc = .ok (.ireturn, 1)) (hR : gR G = some .int) (hr : out = (some (.int x), S, M, J)) (hk : k ≤ gMC G) (hn : n ≤ gMS G) : AW G out k n pc L [.int x] S M J := by
  intro B dC dI cA p l e s m args below meth c H locs ls C hH hS hz hl
  subst hr
  refine W.widen (k := gMC G) (n := gMS G) hk hn ?_
  have hlocks := C.2.2.2.2.2.1
  exact W.iret (v := x) C.1 C.2.1 (C.2.2.1.trans hR) (fun t ht hW => ⟨rfl, by rw [ht]; exact hH, C.2.2.2.2.2.2.2.2.1.warm hW, hS.F ht⟩) hS.2.2 hd
theorem e_zret {x : Int32} (hd : decode (gB G) pc = .ok (.ireturn, 1)) (hR : gR G = some .boolean) (hx : x = 0 ∨ x = 1) (hr : out = (some (.int x), S, M, J)) (hk : k ≤ gMC G) (hn : n ≤ gMS G) : AW G out k n pc L [.int x] S M J := by
  intro B dC dI cA p l e s m args below meth c H locs ls C hH hS hz hl
  subst hr
  refine W.widen (k := gMC G) (n := gMS G) hk hn ?_
  have hlocks := C.2.2.2.2.2.1
  exact W.zret (v := x) C.1 C.2.1 (C.2.2.1.trans hR) (by rcases hx with rfl | rfl <;> decide +kernel) (fun t ht hW => ⟨rfl, by rw [ht]; exact hH, C.2.2.2.2.2.2.2.2.1.warm hW, hS.F ht⟩) hS.2.2 hd
theorem e_lret {x : Int64} (hd : decode (gB G) pc = .ok (.lreturn, 1)) (hR : gR G = some .long) (hr : out = (some (.long x), S, M, J)) (hk : k ≤ gMC G) (hn : n ≤ gMS G) : AW G out k n pc L [.long x] S M J := by
  intro B dC dI cA p l e s m args below meth c H locs ls C hH hS hz hl
  subst hr
  refine W.widen (k := gMC G) (n := gMS G) hk hn ?_
  have hlocks := C.2.2.2.2.2.1
  exact W.lret (v := x) C.1 C.2.1 (C.2.2.1.trans hR) (fun t ht hW => ⟨rfl, by rw [ht]; exact hH, C.2.2.2.2.2.2.2.2.1.warm hW, hS.F ht⟩) hS.2.2 hd
end AIR
