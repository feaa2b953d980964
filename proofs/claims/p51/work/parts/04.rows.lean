/-! The rows of J: an instruction a row. -/
section JR
variable {g : jG} {M : jM} {d bc bs pc : Nat} {L : List (Option Value)} {st : List Value} {n : Nat} {ad : Nat → Nat} {E : Nat → va_E} {Φ : Option Value → jR} {Ψ : String → jR}
theorem j_iload {i : Nat} {x : Int32} (hd : decode M.2.1 pc = .ok (.iload i, 2)) (hL : L[i]? = some (some (.int x))) (k : J g M d bc bs (pc + 2) L (.int x :: st) n ad E Φ Ψ) : J g M d bc bs pc L (st) n ad E Φ Ψ := by
  intro l p e R s m args below meth c H locs cells slots ls C h1 h2 hW hS hl
  exact lv_iload C.1 C.2.1 hd (lh_at hl hL) (k l p e R s m args below meth c H locs cells slots ls C h1 h2 hW hS hl)
theorem j_iload_n {i : Fin 4} {x : Int32} (hd : decode M.2.1 pc = .ok (.iload_n i, 1)) (hL : L[(i : Nat)]? = some (some (.int x))) (k : J g M d bc bs (pc + 1) L (.int x :: st) n ad E Φ Ψ) : J g M d bc bs pc L (st) n ad E Φ Ψ := by
  intro l p e R s m args below meth c H locs cells slots ls C h1 h2 hW hS hl
  exact lv_iload_n C.1 C.2.1 hd rfl (lh_at hl hL) (k l p e R s m args below meth c H locs cells slots ls C h1 h2 hW hS hl)
theorem j_lload {i : Nat} {x : Int64} (hd : decode M.2.1 pc = .ok (.lload i, 2)) (hL : L[i]? = some (some (.long x))) (k : J g M d bc bs (pc + 2) L (.long x :: st) n ad E Φ Ψ) : J g M d bc bs pc L (st) n ad E Φ Ψ := by
  intro l p e R s m args below meth c H locs cells slots ls C h1 h2 hW hS hl
  exact lv_lload C.1 C.2.1 hd (lh_at hl hL) (k l p e R s m args below meth c H locs cells slots ls C h1 h2 hW hS hl)
theorem j_lload_n {i : Fin 4} {x : Int64} (hd : decode M.2.1 pc = .ok (.lload_n i, 1)) (hL : L[(i : Nat)]? = some (some (.long x))) (k : J g M d bc bs (pc + 1) L (.long x :: st) n ad E Φ Ψ) : J g M d bc bs pc L (st) n ad E Φ Ψ := by
  intro l p e R s m args below meth c H locs cells slots ls C h1 h2 hW hS hl
  exact lv_lload_n C.1 C.2.1 hd rfl (lh_at hl hL) (k l p e R s m args below meth c H locs cells slots ls C h1 h2 hW hS hl)
theorem j_dload {i : Nat} {x : UInt64} (hd : decode M.2.1 pc = .ok (.dload i, 2)) (hL : L[i]? = some (some (.double x))) (k : J g M d bc bs (pc + 2) L (.double x :: st) n ad E Φ Ψ) : J g M d bc bs pc L (st) n ad E Φ Ψ := by
  intro l p e R s m args below meth c H locs cells slots ls C h1 h2 hW hS hl
  exact lv_dload C.1 C.2.1 hd (lh_at hl hL) (k l p e R s m args below meth c H locs cells slots ls C h1 h2 hW hS hl)
theorem j_dload_n {i : Fin 4} {x : UInt64} (hd : decode M.2.1 pc = .ok (.dload_n i, 1)) (hL : L[(i : Nat)]? = some (some (.double x))) (k : J g M d bc bs (pc + 1) L (.double x :: st) n ad E Φ Ψ) : J g M d bc bs pc L (st) n ad E Φ Ψ := by
  intro l p e R s m args below meth c H locs cells slots ls C h1 h2 hW hS hl
  exact lv_dload_n C.1 C.2.1 hd rfl (lh_at hl hL) (k l p e R s m args below meth c H locs cells slots ls C h1 h2 hW hS hl)
theorem j_aload {i : Nat} {x : Nat} (hd : decode M.2.1 pc = .ok (.aload i, 2)) (hL : L[i]? = some (some (.ref x))) (k : J g M d bc bs (pc + 2) L (.ref x :: st) n ad E Φ Ψ) : J g M d bc bs pc L (st) n ad E Φ Ψ := by
  intro l p e R s m args below meth c H locs cells slots ls C h1 h2 hW hS hl
  exact lv_aload C.1 C.2.1 hd (lh_at hl hL) (k l p e R s m args below meth c H locs cells slots ls C h1 h2 hW hS hl)
theorem j_aload_n {i : Fin 4} {x : Nat} (hd : decode M.2.1 pc = .ok (.aload_n i, 1)) (hL : L[(i : Nat)]? = some (some (.ref x))) (k : J g M d bc bs (pc + 1) L (.ref x :: st) n ad E Φ Ψ) : J g M d bc bs pc L (st) n ad E Φ Ψ := by
  intro l p e R s m args below meth c H locs cells slots ls C h1 h2 hW hS hl
  exact lv_aload_n C.1 C.2.1 hd rfl (lh_at hl hL) (k l p e R s m args below meth c H locs cells slots ls C h1 h2 hW hS hl)
theorem j_istore {i : Nat} {x : Int32} {L' : List (Option Value)} (hd : decode M.2.1 pc = .ok (.istore i, 2)) (hn : i < M.2.2.1) (ok : okp L i = true) (hL : L.set i (some (.int x)) = L') (k : J g M d bc bs (pc + 2) L' st n ad E Φ Ψ) : J g M d bc bs pc L (.int x :: st) n ad E Φ Ψ := by
  intro l p e R s m args below meth c H locs cells slots ls C h1 h2 hW hS hl
  subst hL
  exact lv_istore C.1 C.2.1 hd (lh_asl hl) hn rfl (fun ls' hl' => k l p e R s m args below meth c H locs cells slots ls' C h1 h2 hW hS (lh_of1 ok hl'))
theorem j_istore_n {i : Fin 4} {x : Int32} {L' : List (Option Value)} (hd : decode M.2.1 pc = .ok (.istore_n i, 1)) (hn : (i : Nat) < M.2.2.1) (ok : okp L (i : Nat) = true) (hL : L.set (i : Nat) (some (.int x)) = L') (k : J g M d bc bs (pc + 1) L' st n ad E Φ Ψ) : J g M d bc bs pc L (.int x :: st) n ad E Φ Ψ := by
  intro l p e R s m args below meth c H locs cells slots ls C h1 h2 hW hS hl
  subst hL
  exact lv_istore_n C.1 C.2.1 hd rfl (lh_asl hl) hn rfl (fun ls' hl' => k l p e R s m args below meth c H locs cells slots ls' C h1 h2 hW hS (lh_of1 ok hl'))
theorem j_lstore {i : Nat} {x : Int64} {L' : List (Option Value)} (hd : decode M.2.1 pc = .ok (.lstore i, 2)) (hn : i + 1 < M.2.2.1) (ok : okp L i = true) (hL : (L.set i (some (.long x))).set (i + 1) none = L') (k : J g M d bc bs (pc + 2) L' st n ad E Φ Ψ) : J g M d bc bs pc L (.long x :: st) n ad E Φ Ψ := by
  intro l p e R s m args below meth c H locs cells slots ls C h1 h2 hW hS hl
  subst hL
  exact lv_lstore C.1 C.2.1 hd (lh_asl hl) hn rfl (fun ls' hl' => k l p e R s m args below meth c H locs cells slots ls' C h1 h2 hW hS (lh_of2 ok hl'))
theorem j_lstore_n {i : Fin 4} {x : Int64} {L' : List (Option Value)} (hd : decode M.2.1 pc = .ok (.lstore_n i, 1)) (hn : (i : Nat) + 1 < M.2.2.1) (ok : okp L (i : Nat) = true) (hL : (L.set (i : Nat) (some (.long x))).set ((i : Nat) + 1) none = L') (k : J g M d bc bs (pc + 1) L' st n ad E Φ Ψ) : J g M d bc bs pc L (.long x :: st) n ad E Φ Ψ := by
  intro l p e R s m args below meth c H locs cells slots ls C h1 h2 hW hS hl
  subst hL
  exact lv_lstore_n C.1 C.2.1 hd rfl (lh_asl hl) hn rfl (fun ls' hl' => k l p e R s m args below meth c H locs cells slots ls' C h1 h2 hW hS (lh_of2 ok hl'))
theorem j_dstore {i : Nat} {x : UInt64} {L' : List (Option Value)} (hd : decode M.2.1 pc = .ok (.dstore i, 2)) (hn : i + 1 < M.2.2.1) (ok : okp L i = true) (hL : (L.set i (some (.double x))).set (i + 1) none = L') (k : J g M d bc bs (pc + 2) L' st n ad E Φ Ψ) : J g M d bc bs pc L (.double x :: st) n ad E Φ Ψ := by
  intro l p e R s m args below meth c H locs cells slots ls C h1 h2 hW hS hl
  subst hL
  exact lv_dstore C.1 C.2.1 hd (lh_asl hl) hn rfl (fun ls' hl' => k l p e R s m args below meth c H locs cells slots ls' C h1 h2 hW hS (lh_of2 ok hl'))
theorem j_dstore_n {i : Fin 4} {x : UInt64} {L' : List (Option Value)} (hd : decode M.2.1 pc = .ok (.dstore_n i, 1)) (hn : (i : Nat) + 1 < M.2.2.1) (ok : okp L (i : Nat) = true) (hL : (L.set (i : Nat) (some (.double x))).set ((i : Nat) + 1) none = L') (k : J g M d bc bs (pc + 1) L' st n ad E Φ Ψ) : J g M d bc bs pc L (.double x :: st) n ad E Φ Ψ := by
  intro l p e R s m args below meth c H locs cells slots ls C h1 h2 hW hS hl
  subst hL
  exact lv_dstore_n C.1 C.2.1 hd rfl (lh_asl hl) hn rfl (fun ls' hl' => k l p e R s m args below meth c H locs cells slots ls' C h1 h2 hW hS (lh_of2 ok hl'))
theorem j_astore {i : Nat} {x : Nat} {L' : List (Option Value)} (hd : decode M.2.1 pc = .ok (.astore i, 2)) (hn : i < M.2.2.1) (ok : okp L i = true) (hL : L.set i (some (.ref x)) = L') (k : J g M d bc bs (pc + 2) L' st n ad E Φ Ψ) : J g M d bc bs pc L (.ref x :: st) n ad E Φ Ψ := by
  intro l p e R s m args below meth c H locs cells slots ls C h1 h2 hW hS hl
  subst hL
  exact lv_astore C.1 C.2.1 hd (lh_asl hl) hn rfl (fun ls' hl' => k l p e R s m args below meth c H locs cells slots ls' C h1 h2 hW hS (lh_of1 ok hl'))
theorem j_astore_n {i : Fin 4} {x : Nat} {L' : List (Option Value)} (hd : decode M.2.1 pc = .ok (.astore_n i, 1)) (hn : (i : Nat) < M.2.2.1) (ok : okp L (i : Nat) = true) (hL : L.set (i : Nat) (some (.ref x)) = L') (k : J g M d bc bs (pc + 1) L' st n ad E Φ Ψ) : J g M d bc bs pc L (.ref x :: st) n ad E Φ Ψ := by
  intro l p e R s m args below meth c H locs cells slots ls C h1 h2 hW hS hl
  subst hL
  exact lv_astore_n C.1 C.2.1 hd rfl (lh_asl hl) hn rfl (fun ls' hl' => k l p e R s m args below meth c H locs cells slots ls' C h1 h2 hW hS (lh_of1 ok hl'))
theorem j_iinc {i : Nat} {z : Int} {x v : Int32} {L' : List (Option Value)} (hd : decode M.2.1 pc = .ok (.iinc i z, 3)) (hn : i < M.2.2.1) (hx : L[i]? = some (some (.int x))) (hv : x + Int32.ofInt z = v) (ok : okp L i = true) (hL : L.set i (some (.int v)) = L') (k : J g M d bc bs (pc + 3) L' st n ad E Φ Ψ) : J g M d bc bs pc L st n ad E Φ Ψ := by
  intro l p e R s m args below meth c H locs cells slots ls C h1 h2 hW hS hl
  subst hL
  obtain ⟨j, hj⟩ := List.getElem?_of_mem (asl_mem.mpr hx)
  exact lv_iinc C.1 C.2.1 hd (lh_asl hl) hj hv hn rfl (fun ls' hl' => k l p e R s m args below meth c H locs cells slots ls' C h1 h2 hW hS (lh_of1 ok hl'))
theorem j_iconst {z : Int} {v : Int32} (hd : decode M.2.1 pc = .ok (.iconst z, 1)) (hv : Int32.ofInt z = v) (k : J g M d bc bs (pc + 1) L (.int v :: st) n ad E Φ Ψ) : J g M d bc bs pc L (st) n ad E Φ Ψ := by
  intro l p e R s m args below meth c H locs cells slots ls C h1 h2 hW hS hl
  exact lv_iconst C.1 C.2.1 hd hv (k l p e R s m args below meth c H locs cells slots ls C h1 h2 hW hS hl)
theorem j_bipush {z : Int} {v : Int32} (hd : decode M.2.1 pc = .ok (.bipush z, 2)) (hv : (Int8.ofInt z).toInt32 = v) (k : J g M d bc bs (pc + 2) L (.int v :: st) n ad E Φ Ψ) : J g M d bc bs pc L (st) n ad E Φ Ψ := by
  intro l p e R s m args below meth c H locs cells slots ls C h1 h2 hW hS hl
  exact lv_bipush C.1 C.2.1 hd hv (k l p e R s m args below meth c H locs cells slots ls C h1 h2 hW hS hl)
theorem j_sipush {z : Int} {v : Int32} (hd : decode M.2.1 pc = .ok (.sipush z, 3)) (hv : (Int16.ofInt z).toInt32 = v) (k : J g M d bc bs (pc + 3) L (.int v :: st) n ad E Φ Ψ) : J g M d bc bs pc L (st) n ad E Φ Ψ := by
  intro l p e R s m args below meth c H locs cells slots ls C h1 h2 hW hS hl
  exact lv_sipush C.1 C.2.1 hd hv (k l p e R s m args below meth c H locs cells slots ls C h1 h2 hW hS hl)
theorem j_lconst {z : Fin 2} {v : Int64} (hd : decode M.2.1 pc = .ok (.lconst z, 1)) (hv : Int64.ofNat (z : Nat) = v) (k : J g M d bc bs (pc + 1) L (.long v :: st) n ad E Φ Ψ) : J g M d bc bs pc L (st) n ad E Φ Ψ := by
  intro l p e R s m args below meth c H locs cells slots ls C h1 h2 hW hS hl
  exact lv_lconst C.1 C.2.1 hd hv (k l p e R s m args below meth c H locs cells slots ls C h1 h2 hW hS hl)
theorem j_dconst0  (hd : decode M.2.1 pc = .ok (.dconst 0, 1)) (k : J g M d bc bs (pc + 1) L (.double FP.dconst0 :: st) n ad E Φ Ψ) : J g M d bc bs pc L (st) n ad E Φ Ψ := by
  intro l p e R s m args below meth c H locs cells slots ls C h1 h2 hW hS hl
  exact lv_dconst0 C.1 C.2.1 hd (k l p e R s m args below meth c H locs cells slots ls C h1 h2 hW hS hl)
theorem j_ldc {i : Nat} {v : Int32} (hd : decode M.2.1 pc = .ok (.ldc i, 2)) (hc : Cond.constant M.1.cls i v ∈ TT) (k : J g M d bc bs (pc + 2) L (.int v :: st) n ad E Φ Ψ) : J g M d bc bs pc L (st) n ad E Φ Ψ := by
  intro l p e R s m args below meth c H locs cells slots ls C h1 h2 hW hS hl
  exact lv_ldc C.1 C.2.1 C.2.2.2.2.2.1 (C.2.2.2.2.2.2.1 _ hc) hd (k l p e R s m args below meth c H locs cells slots ls C h1 h2 hW hS hl)
theorem j_ldc2 {i : Nat} {v : Int64} (hd : decode M.2.1 pc = .ok (.ldc2_w i, 3)) (hc : Cond.constantLong M.1.cls i v ∈ TT) (k : J g M d bc bs (pc + 3) L (.long v :: st) n ad E Φ Ψ) : J g M d bc bs pc L (st) n ad E Φ Ψ := by
  intro l p e R s m args below meth c H locs cells slots ls C h1 h2 hW hS hl
  exact lv_ldc2 C.1 C.2.1 C.2.2.2.2.2.1 (C.2.2.2.2.2.2.1 _ hc) hd (k l p e R s m args below meth c H locs cells slots ls C h1 h2 hW hS hl)
theorem j_iadd {x y : Int32} (hd : decode M.2.1 pc = .ok (.iadd, 1)) (k : J g M d bc bs (pc + 1) L (.int (x + y) :: st) n ad E Φ Ψ) : J g M d bc bs pc L (.int y :: .int x :: st) n ad E Φ Ψ := by
  intro l p e R s m args below meth c H locs cells slots ls C h1 h2 hW hS hl
  exact lv_iadd C.1 C.2.1 hd (k l p e R s m args below meth c H locs cells slots ls C h1 h2 hW hS hl)
theorem j_isub {x y : Int32} (hd : decode M.2.1 pc = .ok (.isub, 1)) (k : J g M d bc bs (pc + 1) L (.int (x - y) :: st) n ad E Φ Ψ) : J g M d bc bs pc L (.int y :: .int x :: st) n ad E Φ Ψ := by
  intro l p e R s m args below meth c H locs cells slots ls C h1 h2 hW hS hl
  exact lv_isub C.1 C.2.1 hd (k l p e R s m args below meth c H locs cells slots ls C h1 h2 hW hS hl)
theorem j_imul {x y : Int32} (hd : decode M.2.1 pc = .ok (.imul, 1)) (k : J g M d bc bs (pc + 1) L (.int (x * y) :: st) n ad E Φ Ψ) : J g M d bc bs pc L (.int y :: .int x :: st) n ad E Φ Ψ := by
  intro l p e R s m args below meth c H locs cells slots ls C h1 h2 hW hS hl
  exact lv_imul C.1 C.2.1 hd (k l p e R s m args below meth c H locs cells slots ls C h1 h2 hW hS hl)
theorem j_iand {x y : Int32} (hd : decode M.2.1 pc = .ok (.iand, 1)) (k : J g M d bc bs (pc + 1) L (.int (x &&& y) :: st) n ad E Φ Ψ) : J g M d bc bs pc L (.int y :: .int x :: st) n ad E Φ Ψ := by
  intro l p e R s m args below meth c H locs cells slots ls C h1 h2 hW hS hl
  exact lv_iand C.1 C.2.1 hd (k l p e R s m args below meth c H locs cells slots ls C h1 h2 hW hS hl)
theorem j_irem {x y : Int32} (hd : decode M.2.1 pc = .ok (.irem, 1)) (hne : ¬ y = 0) (k : J g M d bc bs (pc + 1) L (.int (x - x / y * y) :: st) n ad E Φ Ψ) : J g M d bc bs pc L (.int y :: .int x :: st) n ad E Φ Ψ := by
  intro l p e R s m args below meth c H locs cells slots ls C h1 h2 hW hS hl
  exact lv_irem C.1 C.2.1 hd hne (k l p e R s m args below meth c H locs cells slots ls C h1 h2 hW hS hl)
theorem j_ineg {x : Int32} (hd : decode M.2.1 pc = .ok (.ineg, 1)) (k : J g M d bc bs (pc + 1) L (.int (-x) :: st) n ad E Φ Ψ) : J g M d bc bs pc L (.int x :: st) n ad E Φ Ψ := by
  intro l p e R s m args below meth c H locs cells slots ls C h1 h2 hW hS hl
  exact lv_ineg C.1 C.2.1 hd (k l p e R s m args below meth c H locs cells slots ls C h1 h2 hW hS hl)
theorem j_ladd {x y : Int64} (hd : decode M.2.1 pc = .ok (.ladd, 1)) (k : J g M d bc bs (pc + 1) L (.long (x + y) :: st) n ad E Φ Ψ) : J g M d bc bs pc L (.long y :: .long x :: st) n ad E Φ Ψ := by
  intro l p e R s m args below meth c H locs cells slots ls C h1 h2 hW hS hl
  exact lv_ladd C.1 C.2.1 hd (k l p e R s m args below meth c H locs cells slots ls C h1 h2 hW hS hl)
theorem j_lmul {x y : Int64} (hd : decode M.2.1 pc = .ok (.lmul, 1)) (k : J g M d bc bs (pc + 1) L (.long (x * y) :: st) n ad E Φ Ψ) : J g M d bc bs pc L (.long y :: .long x :: st) n ad E Φ Ψ := by
  intro l p e R s m args below meth c H locs cells slots ls C h1 h2 hW hS hl
  exact lv_lmul C.1 C.2.1 hd (k l p e R s m args below meth c H locs cells slots ls C h1 h2 hW hS hl)
theorem j_i2l {x : Int32} (hd : decode M.2.1 pc = .ok (.i2l, 1)) (k : J g M d bc bs (pc + 1) L (.long x.toInt64 :: st) n ad E Φ Ψ) : J g M d bc bs pc L (.int x :: st) n ad E Φ Ψ := by
  intro l p e R s m args below meth c H locs cells slots ls C h1 h2 hW hS hl
  exact lv_i2l C.1 C.2.1 hd rfl (k l p e R s m args below meth c H locs cells slots ls C h1 h2 hW hS hl)
theorem j_l2d {x : Int64} (hd : decode M.2.1 pc = .ok (.l2d, 1)) (k : J g M d bc bs (pc + 1) L (.double (FP.l2d x) :: st) n ad E Φ Ψ) : J g M d bc bs pc L (.long x :: st) n ad E Φ Ψ := by
  intro l p e R s m args below meth c H locs cells slots ls C h1 h2 hW hS hl
  exact lv_l2d C.1 C.2.1 hd (k l p e R s m args below meth c H locs cells slots ls C h1 h2 hW hS hl)
theorem j_i2d {x : Int32} (hd : decode M.2.1 pc = .ok (.i2d, 1)) (k : J g M d bc bs (pc + 1) L (.double (FP.i2d x) :: st) n ad E Φ Ψ) : J g M d bc bs pc L (.int x :: st) n ad E Φ Ψ := by
  intro l p e R s m args below meth c H locs cells slots ls C h1 h2 hW hS hl
  exact lv_i2d C.1 C.2.1 hd (k l p e R s m args below meth c H locs cells slots ls C h1 h2 hW hS hl)
theorem j_ddiv {x y : UInt64} (hd : decode M.2.1 pc = .ok (.ddiv, 1)) (hne : vf_n64 (FP.ddiv x y)) (k : J g M d bc bs (pc + 1) L (.double (FP.ddiv x y) :: st) n ad E Φ Ψ) : J g M d bc bs pc L (.double y :: .double x :: st) n ad E Φ Ψ := by
  intro l p e R s m args below meth c H locs cells slots ls C h1 h2 hW hS hl
  exact lv_ddiv C.1 C.2.1 hd hne (k l p e R s m args below meth c H locs cells slots ls C h1 h2 hW hS hl)
theorem j_lcmp {x y : Int64} (hd : decode M.2.1 pc = .ok (.lcmp, 1)) (k : J g M d bc bs (pc + 1) L (.int (lg_cmp x y) :: st) n ad E Φ Ψ) : J g M d bc bs pc L (.long y :: .long x :: st) n ad E Φ Ψ := by
  intro l p e R s m args below meth c H locs cells slots ls C h1 h2 hW hS hl
  exact W.lcmp C.1 C.2.1 hd (k l p e R s m args below meth c H locs cells slots ls C h1 h2 hW hS hl)
theorem j_dcmp {x y : UInt64} {op : CmpOp} (hd : decode M.2.1 pc = .ok (.dcmp op, 1)) (k : J g M d bc bs (pc + 1) L (.int (Op.cmpValue (FP.dcmp x y) op) :: st) n ad E Φ Ψ) : J g M d bc bs pc L (.double y :: .double x :: st) n ad E Φ Ψ := by
  intro l p e R s m args below meth c H locs cells slots ls C h1 h2 hW hS hl
  exact lv_dcmp C.1 C.2.1 hd (k l p e R s m args below meth c H locs cells slots ls C h1 h2 hW hS hl)
theorem j_dup {v : Value} (hd : decode M.2.1 pc = .ok (.dup, 1)) (hv : v.category = 1) (k : J g M d bc bs (pc + 1) L (v :: v :: st) n ad E Φ Ψ) : J g M d bc bs pc L (v :: st) n ad E Φ Ψ := by
  intro l p e R s m args below meth c H locs cells slots ls C h1 h2 hW hS hl
  exact lv_dup C.1 C.2.1 hd hv (k l p e R s m args below meth c H locs cells slots ls C h1 h2 hW hS hl)
theorem j_dup2 {v w : Value} (hd : decode M.2.1 pc = .ok (.dup2, 1)) (hv : v.category = 1) (hw : w.category = 1) (k : J g M d bc bs (pc + 1) L (v :: w :: v :: w :: st) n ad E Φ Ψ) : J g M d bc bs pc L (v :: w :: st) n ad E Φ Ψ := by
  intro l p e R s m args below meth c H locs cells slots ls C h1 h2 hW hS hl
  exact lv_dup2_11 C.1 C.2.1 hd hv hw (k l p e R s m args below meth c H locs cells slots ls C h1 h2 hW hS hl)
theorem j_pop {v : Value} (hd : decode M.2.1 pc = .ok (.pop, 1)) (hv : v.category = 1) (k : J g M d bc bs (pc + 1) L (st) n ad E Φ Ψ) : J g M d bc bs pc L (v :: st) n ad E Φ Ψ := by
  intro l p e R s m args below meth c H locs cells slots ls C h1 h2 hW hS hl
  exact lv_pop C.1 C.2.1 hd hv (k l p e R s m args below meth c H locs cells slots ls C h1 h2 hW hS hl)
theorem j_if_eq {x : Int32} {off : Int} {tgt : Nat} (hd : decode M.2.1 pc = .ok (.ifCond .eq off, 3)) (ht : (pc : Int) + off = (tgt : Int)) (kt : x = 0 → J g M d bc bs tgt L st n ad E Φ Ψ) (kf : ¬ x = 0 → J g M d bc bs (pc + 3) L st n ad E Φ Ψ) : J g M d bc bs pc L (.int x :: st) n ad E Φ Ψ := by
  intro l p e R s m args below meth c H locs cells slots ls C h1 h2 hW hS hl
  exact lv_if_eq C.1 C.2.1 hd ht (fun q => kt q l p e R s m args below meth c H locs cells slots ls C h1 h2 hW hS hl) (fun q => kf q l p e R s m args below meth c H locs cells slots ls C h1 h2 hW hS hl)
theorem j_if_eq_t {x : Int32} {off : Int} {tgt : Nat} (hd : decode M.2.1 pc = .ok (.ifCond .eq off, 3)) (ht : (pc : Int) + off = (tgt : Int)) (h : x = 0) (kt : J g M d bc bs tgt L st n ad E Φ Ψ) : J g M d bc bs pc L (.int x :: st) n ad E Φ Ψ := j_if_eq hd ht (fun _ => kt) (fun q => absurd h q)
theorem j_if_eq_f {x : Int32} {off : Int} {tgt : Nat} (hd : decode M.2.1 pc = .ok (.ifCond .eq off, 3)) (ht : (pc : Int) + off = (tgt : Int)) (h : ¬ x = 0) (kf : J g M d bc bs (pc + 3) L st n ad E Φ Ψ) : J g M d bc bs pc L (.int x :: st) n ad E Φ Ψ := j_if_eq hd ht (fun q => absurd q h) (fun _ => kf)
theorem j_icmp_eq {x y : Int32} {off : Int} {tgt : Nat} (hd : decode M.2.1 pc = .ok (.if_icmp .eq off, 3)) (ht : (pc : Int) + off = (tgt : Int)) (kt : x = y → J g M d bc bs tgt L st n ad E Φ Ψ) (kf : ¬ x = y → J g M d bc bs (pc + 3) L st n ad E Φ Ψ) : J g M d bc bs pc L (.int y :: .int x :: st) n ad E Φ Ψ := by
  intro l p e R s m args below meth c H locs cells slots ls C h1 h2 hW hS hl
  exact lv_icmp_eq C.1 C.2.1 hd ht (fun q => kt q l p e R s m args below meth c H locs cells slots ls C h1 h2 hW hS hl) (fun q => kf q l p e R s m args below meth c H locs cells slots ls C h1 h2 hW hS hl)
theorem j_icmp_eq_t {x y : Int32} {off : Int} {tgt : Nat} (hd : decode M.2.1 pc = .ok (.if_icmp .eq off, 3)) (ht : (pc : Int) + off = (tgt : Int)) (h : x = y) (kt : J g M d bc bs tgt L st n ad E Φ Ψ) : J g M d bc bs pc L (.int y :: .int x :: st) n ad E Φ Ψ := j_icmp_eq hd ht (fun _ => kt) (fun q => absurd h q)
theorem j_icmp_eq_f {x y : Int32} {off : Int} {tgt : Nat} (hd : decode M.2.1 pc = .ok (.if_icmp .eq off, 3)) (ht : (pc : Int) + off = (tgt : Int)) (h : ¬ x = y) (kf : J g M d bc bs (pc + 3) L st n ad E Φ Ψ) : J g M d bc bs pc L (.int y :: .int x :: st) n ad E Φ Ψ := j_icmp_eq hd ht (fun q => absurd q h) (fun _ => kf)
theorem j_if_ne {x : Int32} {off : Int} {tgt : Nat} (hd : decode M.2.1 pc = .ok (.ifCond .ne off, 3)) (ht : (pc : Int) + off = (tgt : Int)) (kt : ¬ x = 0 → J g M d bc bs tgt L st n ad E Φ Ψ) (kf : x = 0 → J g M d bc bs (pc + 3) L st n ad E Φ Ψ) : J g M d bc bs pc L (.int x :: st) n ad E Φ Ψ := by
  intro l p e R s m args below meth c H locs cells slots ls C h1 h2 hW hS hl
  exact lv_if_ne C.1 C.2.1 hd ht (fun q => kt q l p e R s m args below meth c H locs cells slots ls C h1 h2 hW hS hl) (fun q => kf q l p e R s m args below meth c H locs cells slots ls C h1 h2 hW hS hl)
theorem j_if_ne_t {x : Int32} {off : Int} {tgt : Nat} (hd : decode M.2.1 pc = .ok (.ifCond .ne off, 3)) (ht : (pc : Int) + off = (tgt : Int)) (h : ¬ x = 0) (kt : J g M d bc bs tgt L st n ad E Φ Ψ) : J g M d bc bs pc L (.int x :: st) n ad E Φ Ψ := j_if_ne hd ht (fun _ => kt) (fun q => absurd q h)
theorem j_if_ne_f {x : Int32} {off : Int} {tgt : Nat} (hd : decode M.2.1 pc = .ok (.ifCond .ne off, 3)) (ht : (pc : Int) + off = (tgt : Int)) (h : x = 0) (kf : J g M d bc bs (pc + 3) L st n ad E Φ Ψ) : J g M d bc bs pc L (.int x :: st) n ad E Φ Ψ := j_if_ne hd ht (fun q => absurd h q) (fun _ => kf)
theorem j_icmp_ne {x y : Int32} {off : Int} {tgt : Nat} (hd : decode M.2.1 pc = .ok (.if_icmp .ne off, 3)) (ht : (pc : Int) + off = (tgt : Int)) (kt : ¬ x = y → J g M d bc bs tgt L st n ad E Φ Ψ) (kf : x = y → J g M d bc bs (pc + 3) L st n ad E Φ Ψ) : J g M d bc bs pc L (.int y :: .int x :: st) n ad E Φ Ψ := by
  intro l p e R s m args below meth c H locs cells slots ls C h1 h2 hW hS hl
  exact lv_icmp_ne C.1 C.2.1 hd ht (fun q => kt q l p e R s m args below meth c H locs cells slots ls C h1 h2 hW hS hl) (fun q => kf q l p e R s m args below meth c H locs cells slots ls C h1 h2 hW hS hl)
theorem j_icmp_ne_t {x y : Int32} {off : Int} {tgt : Nat} (hd : decode M.2.1 pc = .ok (.if_icmp .ne off, 3)) (ht : (pc : Int) + off = (tgt : Int)) (h : ¬ x = y) (kt : J g M d bc bs tgt L st n ad E Φ Ψ) : J g M d bc bs pc L (.int y :: .int x :: st) n ad E Φ Ψ := j_icmp_ne hd ht (fun _ => kt) (fun q => absurd q h)
theorem j_icmp_ne_f {x y : Int32} {off : Int} {tgt : Nat} (hd : decode M.2.1 pc = .ok (.if_icmp .ne off, 3)) (ht : (pc : Int) + off = (tgt : Int)) (h : x = y) (kf : J g M d bc bs (pc + 3) L st n ad E Φ Ψ) : J g M d bc bs pc L (.int y :: .int x :: st) n ad E Φ Ψ := j_icmp_ne hd ht (fun q => absurd h q) (fun _ => kf)
theorem j_if_lt {x : Int32} {off : Int} {tgt : Nat} (hd : decode M.2.1 pc = .ok (.ifCond .lt off, 3)) (ht : (pc : Int) + off = (tgt : Int)) (kt : x < 0 → J g M d bc bs tgt L st n ad E Φ Ψ) (kf : ¬ x < 0 → J g M d bc bs (pc + 3) L st n ad E Φ Ψ) : J g M d bc bs pc L (.int x :: st) n ad E Φ Ψ := by
  intro l p e R s m args below meth c H locs cells slots ls C h1 h2 hW hS hl
  exact lv_if_lt C.1 C.2.1 hd ht (fun q => kt q l p e R s m args below meth c H locs cells slots ls C h1 h2 hW hS hl) (fun q => kf q l p e R s m args below meth c H locs cells slots ls C h1 h2 hW hS hl)
theorem j_if_lt_t {x : Int32} {off : Int} {tgt : Nat} (hd : decode M.2.1 pc = .ok (.ifCond .lt off, 3)) (ht : (pc : Int) + off = (tgt : Int)) (h : x < 0) (kt : J g M d bc bs tgt L st n ad E Φ Ψ) : J g M d bc bs pc L (.int x :: st) n ad E Φ Ψ := j_if_lt hd ht (fun _ => kt) (fun q => absurd h q)
theorem j_if_lt_f {x : Int32} {off : Int} {tgt : Nat} (hd : decode M.2.1 pc = .ok (.ifCond .lt off, 3)) (ht : (pc : Int) + off = (tgt : Int)) (h : ¬ x < 0) (kf : J g M d bc bs (pc + 3) L st n ad E Φ Ψ) : J g M d bc bs pc L (.int x :: st) n ad E Φ Ψ := j_if_lt hd ht (fun q => absurd q h) (fun _ => kf)
theorem j_icmp_lt {x y : Int32} {off : Int} {tgt : Nat} (hd : decode M.2.1 pc = .ok (.if_icmp .lt off, 3)) (ht : (pc : Int) + off = (tgt : Int)) (kt : x < y → J g M d bc bs tgt L st n ad E Φ Ψ) (kf : ¬ x < y → J g M d bc bs (pc + 3) L st n ad E Φ Ψ) : J g M d bc bs pc L (.int y :: .int x :: st) n ad E Φ Ψ := by
  intro l p e R s m args below meth c H locs cells slots ls C h1 h2 hW hS hl
  exact lv_icmp_lt C.1 C.2.1 hd ht (fun q => kt q l p e R s m args below meth c H locs cells slots ls C h1 h2 hW hS hl) (fun q => kf q l p e R s m args below meth c H locs cells slots ls C h1 h2 hW hS hl)
theorem j_icmp_lt_t {x y : Int32} {off : Int} {tgt : Nat} (hd : decode M.2.1 pc = .ok (.if_icmp .lt off, 3)) (ht : (pc : Int) + off = (tgt : Int)) (h : x < y) (kt : J g M d bc bs tgt L st n ad E Φ Ψ) : J g M d bc bs pc L (.int y :: .int x :: st) n ad E Φ Ψ := j_icmp_lt hd ht (fun _ => kt) (fun q => absurd h q)
theorem j_icmp_lt_f {x y : Int32} {off : Int} {tgt : Nat} (hd : decode M.2.1 pc = .ok (.if_icmp .lt off, 3)) (ht : (pc : Int) + off = (tgt : Int)) (h : ¬ x < y) (kf : J g M d bc bs (pc + 3) L st n ad E Φ Ψ) : J g M d bc bs pc L (.int y :: .int x :: st) n ad E Φ Ψ := j_icmp_lt hd ht (fun q => absurd q h) (fun _ => kf)
theorem j_if_ge {x : Int32} {off : Int} {tgt : Nat} (hd : decode M.2.1 pc = .ok (.ifCond .ge off, 3)) (ht : (pc : Int) + off = (tgt : Int)) (kt : 0 ≤ x → J g M d bc bs tgt L st n ad E Φ Ψ) (kf : ¬ 0 ≤ x → J g M d bc bs (pc + 3) L st n ad E Φ Ψ) : J g M d bc bs pc L (.int x :: st) n ad E Φ Ψ := by
  intro l p e R s m args below meth c H locs cells slots ls C h1 h2 hW hS hl
  exact lv_if_ge C.1 C.2.1 hd ht (fun q => kt q l p e R s m args below meth c H locs cells slots ls C h1 h2 hW hS hl) (fun q => kf q l p e R s m args below meth c H locs cells slots ls C h1 h2 hW hS hl)
theorem j_if_ge_t {x : Int32} {off : Int} {tgt : Nat} (hd : decode M.2.1 pc = .ok (.ifCond .ge off, 3)) (ht : (pc : Int) + off = (tgt : Int)) (h : 0 ≤ x) (kt : J g M d bc bs tgt L st n ad E Φ Ψ) : J g M d bc bs pc L (.int x :: st) n ad E Φ Ψ := j_if_ge hd ht (fun _ => kt) (fun q => absurd h q)
theorem j_if_ge_f {x : Int32} {off : Int} {tgt : Nat} (hd : decode M.2.1 pc = .ok (.ifCond .ge off, 3)) (ht : (pc : Int) + off = (tgt : Int)) (h : ¬ 0 ≤ x) (kf : J g M d bc bs (pc + 3) L st n ad E Φ Ψ) : J g M d bc bs pc L (.int x :: st) n ad E Φ Ψ := j_if_ge hd ht (fun q => absurd q h) (fun _ => kf)
theorem j_icmp_ge {x y : Int32} {off : Int} {tgt : Nat} (hd : decode M.2.1 pc = .ok (.if_icmp .ge off, 3)) (ht : (pc : Int) + off = (tgt : Int)) (kt : y ≤ x → J g M d bc bs tgt L st n ad E Φ Ψ) (kf : ¬ y ≤ x → J g M d bc bs (pc + 3) L st n ad E Φ Ψ) : J g M d bc bs pc L (.int y :: .int x :: st) n ad E Φ Ψ := by
  intro l p e R s m args below meth c H locs cells slots ls C h1 h2 hW hS hl
  exact lv_icmp_ge C.1 C.2.1 hd ht (fun q => kt q l p e R s m args below meth c H locs cells slots ls C h1 h2 hW hS hl) (fun q => kf q l p e R s m args below meth c H locs cells slots ls C h1 h2 hW hS hl)
theorem j_icmp_ge_t {x y : Int32} {off : Int} {tgt : Nat} (hd : decode M.2.1 pc = .ok (.if_icmp .ge off, 3)) (ht : (pc : Int) + off = (tgt : Int)) (h : y ≤ x) (kt : J g M d bc bs tgt L st n ad E Φ Ψ) : J g M d bc bs pc L (.int y :: .int x :: st) n ad E Φ Ψ := j_icmp_ge hd ht (fun _ => kt) (fun q => absurd h q)
theorem j_icmp_ge_f {x y : Int32} {off : Int} {tgt : Nat} (hd : decode M.2.1 pc = .ok (.if_icmp .ge off, 3)) (ht : (pc : Int) + off = (tgt : Int)) (h : ¬ y ≤ x) (kf : J g M d bc bs (pc + 3) L st n ad E Φ Ψ) : J g M d bc bs pc L (.int y :: .int x :: st) n ad E Φ Ψ := j_icmp_ge hd ht (fun q => absurd q h) (fun _ => kf)
theorem j_if_gt {x : Int32} {off : Int} {tgt : Nat} (hd : decode M.2.1 pc = .ok (.ifCond .gt off, 3)) (ht : (pc : Int) + off = (tgt : Int)) (kt : 0 < x → J g M d bc bs tgt L st n ad E Φ Ψ) (kf : ¬ 0 < x → J g M d bc bs (pc + 3) L st n ad E Φ Ψ) : J g M d bc bs pc L (.int x :: st) n ad E Φ Ψ := by
  intro l p e R s m args below meth c H locs cells slots ls C h1 h2 hW hS hl
  exact lv_if_gt C.1 C.2.1 hd ht (fun q => kt q l p e R s m args below meth c H locs cells slots ls C h1 h2 hW hS hl) (fun q => kf q l p e R s m args below meth c H locs cells slots ls C h1 h2 hW hS hl)
theorem j_if_gt_t {x : Int32} {off : Int} {tgt : Nat} (hd : decode M.2.1 pc = .ok (.ifCond .gt off, 3)) (ht : (pc : Int) + off = (tgt : Int)) (h : 0 < x) (kt : J g M d bc bs tgt L st n ad E Φ Ψ) : J g M d bc bs pc L (.int x :: st) n ad E Φ Ψ := j_if_gt hd ht (fun _ => kt) (fun q => absurd h q)
theorem j_if_gt_f {x : Int32} {off : Int} {tgt : Nat} (hd : decode M.2.1 pc = .ok (.ifCond .gt off, 3)) (ht : (pc : Int) + off = (tgt : Int)) (h : ¬ 0 < x) (kf : J g M d bc bs (pc + 3) L st n ad E Φ Ψ) : J g M d bc bs pc L (.int x :: st) n ad E Φ Ψ := j_if_gt hd ht (fun q => absurd q h) (fun _ => kf)
theorem j_icmp_gt {x y : Int32} {off : Int} {tgt : Nat} (hd : decode M.2.1 pc = .ok (.if_icmp .gt off, 3)) (ht : (pc : Int) + off = (tgt : Int)) (kt : y < x → J g M d bc bs tgt L st n ad E Φ Ψ) (kf : ¬ y < x → J g M d bc bs (pc + 3) L st n ad E Φ Ψ) : J g M d bc bs pc L (.int y :: .int x :: st) n ad E Φ Ψ := by
  intro l p e R s m args below meth c H locs cells slots ls C h1 h2 hW hS hl
  exact lv_icmp_gt C.1 C.2.1 hd ht (fun q => kt q l p e R s m args below meth c H locs cells slots ls C h1 h2 hW hS hl) (fun q => kf q l p e R s m args below meth c H locs cells slots ls C h1 h2 hW hS hl)
theorem j_icmp_gt_t {x y : Int32} {off : Int} {tgt : Nat} (hd : decode M.2.1 pc = .ok (.if_icmp .gt off, 3)) (ht : (pc : Int) + off = (tgt : Int)) (h : y < x) (kt : J g M d bc bs tgt L st n ad E Φ Ψ) : J g M d bc bs pc L (.int y :: .int x :: st) n ad E Φ Ψ := j_icmp_gt hd ht (fun _ => kt) (fun q => absurd h q)
theorem j_icmp_gt_f {x y : Int32} {off : Int} {tgt : Nat} (hd : decode M.2.1 pc = .ok (.if_icmp .gt off, 3)) (ht : (pc : Int) + off = (tgt : Int)) (h : ¬ y < x) (kf : J g M d bc bs (pc + 3) L st n ad E Φ Ψ) : J g M d bc bs pc L (.int y :: .int x :: st) n ad E Φ Ψ := j_icmp_gt hd ht (fun q => absurd q h) (fun _ => kf)
theorem j_if_le {x : Int32} {off : Int} {tgt : Nat} (hd : decode M.2.1 pc = .ok (.ifCond .le off, 3)) (ht : (pc : Int) + off = (tgt : Int)) (kt : x ≤ 0 → J g M d bc bs tgt L st n ad E Φ Ψ) (kf : ¬ x ≤ 0 → J g M d bc bs (pc + 3) L st n ad E Φ Ψ) : J g M d bc bs pc L (.int x :: st) n ad E Φ Ψ := by
  intro l p e R s m args below meth c H locs cells slots ls C h1 h2 hW hS hl
  exact lv_if_le C.1 C.2.1 hd ht (fun q => kt q l p e R s m args below meth c H locs cells slots ls C h1 h2 hW hS hl) (fun q => kf q l p e R s m args below meth c H locs cells slots ls C h1 h2 hW hS hl)
theorem j_if_le_t {x : Int32} {off : Int} {tgt : Nat} (hd : decode M.2.1 pc = .ok (.ifCond .le off, 3)) (ht : (pc : Int) + off = (tgt : Int)) (h : x ≤ 0) (kt : J g M d bc bs tgt L st n ad E Φ Ψ) : J g M d bc bs pc L (.int x :: st) n ad E Φ Ψ := j_if_le hd ht (fun _ => kt) (fun q => absurd h q)
theorem j_if_le_f {x : Int32} {off : Int} {tgt : Nat} (hd : decode M.2.1 pc = .ok (.ifCond .le off, 3)) (ht : (pc : Int) + off = (tgt : Int)) (h : ¬ x ≤ 0) (kf : J g M d bc bs (pc + 3) L st n ad E Φ Ψ) : J g M d bc bs pc L (.int x :: st) n ad E Φ Ψ := j_if_le hd ht (fun q => absurd q h) (fun _ => kf)
theorem j_icmp_le {x y : Int32} {off : Int} {tgt : Nat} (hd : decode M.2.1 pc = .ok (.if_icmp .le off, 3)) (ht : (pc : Int) + off = (tgt : Int)) (kt : x ≤ y → J g M d bc bs tgt L st n ad E Φ Ψ) (kf : ¬ x ≤ y → J g M d bc bs (pc + 3) L st n ad E Φ Ψ) : J g M d bc bs pc L (.int y :: .int x :: st) n ad E Φ Ψ := by
  intro l p e R s m args below meth c H locs cells slots ls C h1 h2 hW hS hl
  exact lv_icmp_le C.1 C.2.1 hd ht (fun q => kt q l p e R s m args below meth c H locs cells slots ls C h1 h2 hW hS hl) (fun q => kf q l p e R s m args below meth c H locs cells slots ls C h1 h2 hW hS hl)
theorem j_icmp_le_t {x y : Int32} {off : Int} {tgt : Nat} (hd : decode M.2.1 pc = .ok (.if_icmp .le off, 3)) (ht : (pc : Int) + off = (tgt : Int)) (h : x ≤ y) (kt : J g M d bc bs tgt L st n ad E Φ Ψ) : J g M d bc bs pc L (.int y :: .int x :: st) n ad E Φ Ψ := j_icmp_le hd ht (fun _ => kt) (fun q => absurd h q)
theorem j_icmp_le_f {x y : Int32} {off : Int} {tgt : Nat} (hd : decode M.2.1 pc = .ok (.if_icmp .le off, 3)) (ht : (pc : Int) + off = (tgt : Int)) (h : ¬ x ≤ y) (kf : J g M d bc bs (pc + 3) L st n ad E Φ Ψ) : J g M d bc bs pc L (.int y :: .int x :: st) n ad E Φ Ψ := j_icmp_le hd ht (fun q => absurd q h) (fun _ => kf)
theorem j_goto {off : Int} {tgt : Nat} (hd : decode M.2.1 pc = .ok (.goto off, 3)) (ht : (pc : Int) + off = (tgt : Int)) (k : J g M d bc bs tgt L st n ad E Φ Ψ) : J g M d bc bs pc L st n ad E Φ Ψ := by
  intro l p e R s m args below meth c H locs cells slots ls C h1 h2 hW hS hl
  exact lv_goto C.1 C.2.1 hd ht (k l p e R s m args below meth c H locs cells slots ls C h1 h2 hW hS hl)
theorem j_tableIn {dflt lo hi : Int} {offs : Array Int} {len : Nat} {x : Int32} {off : Int} {tgt : Nat} (hd : decode M.2.1 pc = .ok (.tableswitch dflt lo hi offs, len)) (q1 : ¬ x.toInt < lo) (q2 : ¬ hi < x.toInt) (ho : offs[(x.toInt - lo).toNat]? = some off) (ht : (pc : Int) + off = (tgt : Int)) (k : J g M d bc bs tgt L st n ad E Φ Ψ) : J g M d bc bs pc L (.int x :: st) n ad E Φ Ψ := by
  intro l p e R s m args below meth c H locs cells slots ls C h1 h2 hW hS hl
  exact lv_tableIn C.1 C.2.1 hd q1 q2 ho ht (k l p e R s m args below meth c H locs cells slots ls C h1 h2 hW hS hl)
theorem j_tableOut {dflt lo hi : Int} {offs : Array Int} {len : Nat} {x : Int32} {tgt : Nat} (hd : decode M.2.1 pc = .ok (.tableswitch dflt lo hi offs, len)) (q1 : x.toInt < lo ∨ hi < x.toInt) (ht : (pc : Int) + dflt = (tgt : Int)) (k : J g M d bc bs tgt L st n ad E Φ Ψ) : J g M d bc bs pc L (.int x :: st) n ad E Φ Ψ := by
  intro l p e R s m args below meth c H locs cells slots ls C h1 h2 hW hS hl
  exact lv_tableOut C.1 C.2.1 hd q1 ht (k l p e R s m args below meth c H locs cells slots ls C h1 h2 hW hS hl)
theorem j_topi {x y : Int32} (h : x = y) (k : J g M d bc bs pc L (.int y :: st) n ad E Φ Ψ) : J g M d bc bs pc L (.int x :: st) n ad E Φ Ψ := h ▸ k
theorem j_topl {x y : Int64} (h : x = y) (k : J g M d bc bs pc L (.long y :: st) n ad E Φ Ψ) : J g M d bc bs pc L (.long x :: st) n ad E Φ Ψ := h ▸ k
theorem j_world {E' : Nat → va_E} (h : ∀ k, k < n → E k = E' k) (k : J g M d bc bs pc L st n ad E' Φ Ψ) : J g M d bc bs pc L st n ad E Φ Ψ := by
  intro l p e R s m args below meth c H locs cells slots ls C h1 h2 hW hS hl
  exact k l p e R s m args below meth c H locs cells slots ls C h1 h2 (hW.congr (fun _ _ => rfl) h) hS hl
theorem j_drop {n' : Nat} (h : n' ≤ n) (k : J g M d bc bs pc L st n' ad E Φ Ψ) : J g M d bc bs pc L st n ad E Φ Ψ := by
  intro l p e R s m args below meth c H locs cells slots ls C h1 h2 hW hS hl
  exact k l p e R s m args below meth c H locs cells slots ls C h1 h2 (hW.less h) hS hl
theorem j_bud {bc' bs' : Nat} (q1 : bc' ≤ bc) (q2 : bs' ≤ bs) (k : J g M d bc' bs' pc L st n ad E Φ Ψ) : J g M d bc bs pc L st n ad E Φ Ψ := by
  intro l p e R s m args below meth c H locs cells slots ls C h1 h2 hW hS hl
  exact k l p e R s m args below meth c H locs cells slots ls C (by omega) (by omega) hW hS hl
theorem j_dep {d' : Nat} (q : d' ≤ d) (k : J g M d' bc bs pc L st n ad E Φ Ψ) : J g M d bc bs pc L st n ad E Φ Ψ := by
  intro l p e R s m args below meth c H locs cells slots ls C h1 h2 hW hS hl
  obtain ⟨c1, c2, c3, c4, c5, c6, c7, c8, c9, c10, c11, c12, c13⟩ := C
  exact k l p e R s m args below meth c H locs cells slots ls ⟨c1, c2, c3, c4, c5, c6, c7, c8, c9, c10, by omega, by omega, c13⟩ h1 h2 hW hS hl
theorem j_locals {L' : List (Option Value)} (h : ∀ (i : Nat) (v : Value), L'[i]? = some (some v) → L[i]? = some (some v)) (k : J g M d bc bs pc L' st n ad E Φ Ψ) : J g M d bc bs pc L st n ad E Φ Ψ := by
  intro l p e R s m args below meth c H locs cells slots ls C h1 h2 hW hS hl
  exact k l p e R s m args below meth c H locs cells slots ls C h1 h2 hW hS (lh_sub hl h)
theorem j_post {Φ' : Option Value → jR} {Ψ' : String → jR} (q1 : ∀ v n ad E, Φ' v n ad E → Φ v n ad E) (q2 : ∀ x n ad E, Ψ' x n ad E → Ψ x n ad E) (k : J g M d bc bs pc L st n ad E Φ' Ψ') : J g M d bc bs pc L st n ad E Φ Ψ := by
  intro l p e R s m args below meth c H locs cells slots ls C h1 h2 hW hS hl T hT X
  obtain ⟨t, a1, oc, b1, b2, b3⟩ := k l p e R s m args below meth c H locs cells slots ls C h1 h2 hW hS hl T hT X
  refine ⟨t, a1, oc, b1, b2, ?_⟩
  rcases b3 with ⟨⟨⟨v, n', ad', E', e1, e2, e3⟩, hF⟩, hL⟩ | ⟨q, e0, X0, ce, L0, ⟨⟨n', ad', E', e2, e3⟩, hF⟩, hr⟩
  · exact Or.inl ⟨⟨⟨v, n', ad', E', e1, q1 _ _ _ _ e2, e3⟩, hF⟩, hL⟩
  · exact Or.inr ⟨q, e0, X0, ce, L0, ⟨⟨n', ad', E', q2 _ _ _ _ e2, e3⟩, hF⟩, hr⟩
/-- two places of the world have two addresses -/
theorem j_inj (h : (∀ i j, i < n → j < n → ad i = ad j → i = j) → J g M d bc bs pc L st n ad E Φ Ψ) : J g M d bc bs pc L st n ad E Φ Ψ := by
  intro l p e R s m args below meth c H locs cells slots ls C h1 h2 hW hS hl
  exact h (fun i j hi hj q => hW.inj hi hj q) l p e R s m args below meth c H locs cells slots ls C h1 h2 hW hS hl
theorem j_iret {v : Int32} (hd : decode M.2.1 pc = .ok (.ireturn, 1)) (hr : M.2.2.2.1 = some .int) (h : Φ (some (.int v)) n ad E) : J g M d bc bs pc L [.int v] n ad E Φ Ψ := by
  intro l p e R s m args below meth c H locs cells slots ls C h1 h2 hW hS hl
  refine vx_ret (W.widen (k := R.cells) (n := R.slots) (by omega) (by omega) ?_)
  exact W.iret C.1 C.2.1 (C.2.2.2.1.trans hr) (fun t ht hq => ⟨⟨_, _, _, _, rfl, h, by rw [ht]; exact hW⟩, hS.F ht⟩) hS.2.2 hd C.2.2.2.2.1
theorem j_lret {v : Int64} (hd : decode M.2.1 pc = .ok (.lreturn, 1)) (hr : M.2.2.2.1 = some .long) (h : Φ (some (.long v)) n ad E) : J g M d bc bs pc L [.long v] n ad E Φ Ψ := by
  intro l p e R s m args below meth c H locs cells slots ls C h1 h2 hW hS hl
  refine vx_ret (W.widen (k := R.cells) (n := R.slots) (by omega) (by omega) ?_)
  exact W.lret C.1 C.2.1 (C.2.2.2.1.trans hr) (fun t ht hq => ⟨⟨_, _, _, _, rfl, h, by rw [ht]; exact hW⟩, hS.F ht⟩) hS.2.2 hd C.2.2.2.2.1
theorem j_dret {v : UInt64} (hd : decode M.2.1 pc = .ok (.dreturn, 1)) (hr : M.2.2.2.1 = some .double) (h : Φ (some (.double v)) n ad E) : J g M d bc bs pc L [.double v] n ad E Φ Ψ := by
  intro l p e R s m args below meth c H locs cells slots ls C h1 h2 hW hS hl
  refine vx_ret (W.widen (k := R.cells) (n := R.slots) (by omega) (by omega) ?_)
  exact W.dret C.1 C.2.1 (C.2.2.2.1.trans hr) (fun t ht hq => ⟨⟨_, _, _, _, rfl, h, by rw [ht]; exact hW⟩, hS.F ht⟩) hS.2.2 hd C.2.2.2.2.1
theorem j_zret {v : Int32} (hd : decode M.2.1 pc = .ok (.ireturn, 1)) (hr : M.2.2.2.1 = some .boolean) (hn : narrow .boolean (.int v) = .int v) (h : Φ (some (.int v)) n ad E) : J g M d bc bs pc L [.int v] n ad E Φ Ψ := by
  intro l p e R s m args below meth c H locs cells slots ls C h1 h2 hW hS hl
  refine vx_ret (W.widen (k := R.cells) (n := R.slots) (by omega) (by omega) ?_)
  exact W.zret C.1 C.2.1 (C.2.2.2.1.trans hr) hn (fun t ht hq => ⟨⟨_, _, _, _, rfl, h, by rw [ht]; exact hW⟩, hS.F ht⟩) hS.2.2 hd C.2.2.2.2.1
theorem j_vret (hd : decode M.2.1 pc = .ok (.return_, 1)) (hr : M.2.2.2.1 = none) (h : Φ none n ad E) : J g M d bc bs pc L [] n ad E Φ Ψ := by
  intro l p e R s m args below meth c H locs cells slots ls C h1 h2 hW hS hl
  refine vx_ret (W.widen (k := R.cells) (n := R.slots) (by omega) (by omega) ?_)
  exact W.vret C.1 C.2.1 (C.2.2.2.1.trans hr) (fun t ht hq => ⟨⟨_, _, _, _, rfl, h, by rw [ht]; exact hW⟩, hS.F ht⟩) hS.2.2 hd C.2.2.2.2.1
/-- what a getfield or putfield of own's pool entry idx means: field i of the objects of class ci -/
def jFl (own : String) (idx : Nat) (C : String) (T : u_T) (N ci i : Nat) : Prop := vwCl[ci]? = some (C, T, N) ∧ i < N ∧ (∀ w ∈ u_ws C T N, w ∈ TT) ∧ (Cond.fieldLink own idx (T i).1 (T i).2.1 (T i).2.2.1 ∈ TT ∨ ∃ host, Cond.fieldLinkNest own idx (T i).1 (T i).2.1 (T i).2.2.1 host ∈ NW)
def jFp (T : u_T) (N : Nat) (ty0 : Nat → FieldType) : Prop := (∀ k, k < N → parseFieldDescriptor (T k).2.2.1 = some (ty0 k)) ∧ ∀ a, a < N → ∀ b, b < N → a ≠ b → (T a).2.1 ≠ (T b).2.1
theorem j_get {C0 : String} {T0 : u_T} {N0 ci i idx k : Nat} {fs : List Value} {v : Value} (f : jFl M.1.cls idx C0 T0 N0 ci i) (hd : decode M.2.1 pc = .ok (.getfield idx, 3)) (hk : k < n) (hE : E k = .inr (ci, fs)) (hv : fs[i]? = some v) (kk : J g M d bc bs (pc + 3) L (v :: st) n ad E Φ Ψ) : J g M d bc bs pc L (.ref (ad k) :: st) n ad E Φ Ψ := by
  intro l p e R s m args below meth c H locs cells slots ls C h1 h2 hW hS hl
  obtain ⟨f1, f2, f3, f4⟩ := f
  have hts := C.2.2.2.2.2.2.1
  have hK := C.2.2.2.2.2.2.2.2.2.2.2.2
  rcases f4 with f4 | ⟨host, f4⟩
  · exact va_get C.1 C.2.1 hts f3 C.2.2.2.2.2.1 hK.1 hW.1 k (by rw [jws_at hk, hE]) f1 i f2 (hts _ f4) (fun _ h9 => h9) hv hd (kk l p e R s m args below meth c H locs cells slots ls C h1 h2 hW hS hl)
  · exact va_getN C.1 C.2.1 hts f3 C.2.2.2.2.2.1 hK.1 hW.1 k (by rw [jws_at hk, hE]) f1 i f2 (va_Nw.use rfl (hK.2.2.2.2.2.2.2.2.1 _ f4)) (fun _ h9 => h9) hv hd (kk l p e R s m args below meth c H locs cells slots ls C h1 h2 hW hS hl)
theorem j_put {C0 : String} {T0 : u_T} {ty0 : Nat → FieldType} {N0 ci i idx k : Nat} {fs : List Value} {v : Value} (f : jFl M.1.cls idx C0 T0 N0 ci i) (fp : jFp T0 N0 ty0) (hd : decode M.2.1 pc = .ok (.putfield idx, 3)) (hk : k < n) (hE : E k = .inr (ci, fs)) (hfin : (T0 i).2.2.2 = false ∨ (M.1.name = "<init>" ∧ (T0 i).1 = M.1.cls ∧ Cond.fieldLink M.1.cls idx (T0 i).1 (T0 i).2.1 (T0 i).2.2.1 ∈ TT ∧ (T0 i).2.2.2 = true)) (hn : narrow (ty0 i) v = v) (hfit : fits (ty0 i) v = true) (hlen : i < fs.length) (kk : J g M d bc bs (pc + 3) L st n ad (va_up E k (.inr (ci, fs.set i v))) Φ Ψ) : J g M d bc bs pc L (v :: .ref (ad k) :: st) n ad E Φ Ψ := by
  intro l p e R s m args below meth c H locs cells slots ls C h1 h2 hW hS hl
  obtain ⟨f1, f2, f3, f4⟩ := f
  have hts := C.2.2.2.2.2.2.1
  have hK := C.2.2.2.2.2.2.2.2.2.2.2.2
  have K : ∀ (H1 : Heap) (locs1 : List Loc), va_P g.2.1 vwCl ((jws n ad E).set k (ad k, .inr (ci, fs.set i v))) H1 → va_D (jA g) ((jws n ad E).set k (ad k, .inr (ci, fs.set i v))) → va_S (jA g) s.heap H1 locs1 → W p l e R s m args below meth c H1 locs1 cells slots (vx_MQ below (jQ g Φ) (jX g Ψ) args s R.cells R.slots (jA g)) (F0 m (pc + 3) ls st) := by
    intro H1 locs1 q1 q2 q3
    rw [jws_set hk] at q1 q2
    exact kk l p e R s m args below meth c H1 locs1 cells slots ls C h1 h2 ⟨q1, q2⟩ q3 hl
  rcases hfin with hfin | ⟨hi, hdecl, hlk, hfin⟩
  · rcases f4 with f4 | ⟨host, f4⟩
    · exact va_put C.1 C.2.1 hts f3 ty0 fp.1 fp.2 C.2.2.2.2.2.1 hK.1 hW.1 hW.2 hS k (by rw [jws_at hk, hE]) f1 i f2 (hts _ f4) (fun _ h9 => h9) hfin (fp.1 i f2) hn hfit hlen hd K
    · exact va_putN C.1 C.2.1 hts f3 ty0 fp.1 fp.2 C.2.2.2.2.2.1 hK.1 hW.1 hW.2 hS k (by rw [jws_at hk, hE]) f1 i f2 (va_Nw.use rfl (hK.2.2.2.2.2.2.2.2.1 _ f4)) (fun _ h9 => h9) hfin (fp.1 i f2) hn hfit hlen hd K
  · exact va_putF C.1 C.2.1 hts f3 ty0 fp.1 fp.2 C.2.2.2.2.2.1 hK.1 hW.1 hW.2 hS k (by rw [jws_at hk, hE]) f1 i f2 (hts _ hlk) (fun _ h9 => h9) hfin ((C.2.2.2.2.2.2.2.2.1.resolve_left (fun z => absurd (z.2.symm.trans hi) (by decide))).trans hi) hdecl (fp.1 i f2) hn hfit hlen hd K
/-! arrays -/
abbrev aI (g : jG) (N : Nat) (f : Nat → Int32) : va_E := .inl (g.2.2.1.1, N, .inl f)
abbrev aP (g : jG) (N : Nat) (f : Nat → Option Nat) : va_E := .inl (g.2.2.1.2.1, N, .inr (.inr (.inr (.inr f))))
abbrev aO (g : jG) (N : Nat) (f : Nat → Option Nat) : va_E := .inl (g.2.2.1.2.2, N, .inr (.inr (.inr (.inr f))))
theorem j_iald {k N j : Nat} {f : Nat → Int32} {x : Int32} (hd : decode M.2.1 pc = .ok (.iaload, 1)) (hk : k < n) (hE : E k = aI g N f) (hN : N < 2 ^ 31) (hj : j < N) (hx : f j = x) (kk : J g M d bc bs (pc + 1) L (.int x :: st) n ad E Φ Ψ) : J g M d bc bs pc L (.int (nI j) :: .ref (ad k) :: st) n ad E Φ Ψ := by
  intro l p e R s m args below meth c H locs cells slots ls C h1 h2 hW hS hl
  have K := kk l p e R s m args below meth c H locs cells slots ls C h1 h2 hW hS hl
  rw [← hx, ← nI_clamp (show j < 2 ^ 31 by omega)] at K
  exact va_iald C.1 C.2.1 C.2.2.2.2.2.2.2.2.2.2.2.2.1 hW.1 k 0 (by rw [jws_at hk, hE]) rfl (vp_in_nI hj hN) hd K
theorem j_iast {k N j : Nat} {f : Nat → Int32} {x : Int32} (hd : decode M.2.1 pc = .ok (.iastore, 1)) (hk : k < n) (hE : E k = aI g N f) (hN : N < 2 ^ 31) (hj : j < N) (kk : J g M d bc bs (pc + 1) L st n ad (va_up E k (aI g N (upd f j x))) Φ Ψ) : J g M d bc bs pc L (.int x :: .int (nI j) :: .ref (ad k) :: st) n ad E Φ Ψ := by
  intro l p e R s m args below meth c H locs cells slots ls C h1 h2 hW hS hl
  refine va_iast C.1 C.2.1 C.2.2.2.2.2.2.2.2.2.2.2.2.1 hW.1 hW.2 hS k 0 (by rw [jws_at hk, hE]) rfl (vp_in_nI hj hN) hd (fun H1 locs1 q1 q2 q3 => ?_)
  rw [jws_set hk, nI_clamp (show j < 2 ^ 31 by omega)] at q1 q2
  exact kk l p e R s m args below meth c H1 locs1 cells slots ls C h1 h2 ⟨q1, q2⟩ q3 hl
theorem j_aald {k N j : Nat} {f : Nat → Option Nat} {a : Nat} (hd : decode M.2.1 pc = .ok (.aaload, 1)) (hk : k < n) (hE : E k = aO g N f) (hN : N < 2 ^ 31) (hj : j < N) (hx : f j = some a) (kk : J g M d bc bs (pc + 1) L (.ref a :: st) n ad E Φ Ψ) : J g M d bc bs pc L (.int (nI j) :: .ref (ad k) :: st) n ad E Φ Ψ := by
  intro l p e R s m args below meth c H locs cells slots ls C h1 h2 hW hS hl
  have K := kk l p e R s m args below meth c H locs cells slots ls C h1 h2 hW hS hl
  have hlt : (nI j).toNatClampNeg < N := by rw [nI_clamp (show j < 2 ^ 31 by omega)]; exact hj
  have hin : vp_in (nI j) N := vp_in_nI hj hN
  have hc := hW.1 k _ (jws_at hk)
  rw [hE] at hc
  exact W.aald (v := .ref a) (ty := .array .int) C.1 C.2.1 (show H[ad k]? = some (vp_cell _ _) from hc) ((C.2.2.2.2.2.2.2.2.2.2.2.2.1.2 2 _ rfl).1 N (fun j => va_rf (f j))) rfl (fun q => by cases q) (by show ¬ (_ ∨ (arrV _ _ _).slots.size ≤ _); rw [arrV_size]; exact hin) (by show (arrV _ _ _).slots[_]? = _; rw [arrV_read _ _ hlt, nI_clamp (show j < 2 ^ 31 by omega), hx]; rfl) rfl rfl hd K
theorem j_alen {k : Nat} {cA : ClassId} {x : vp_A} {ty : FieldType} (t0 : Nat) (hd : decode M.2.1 pc = .ok (.arraylength, 1)) (hk : k < n) (hE : E k = .inl (cA, x)) (ht : (jT g)[t0]? = some (cA, ty)) (kk : J g M d bc bs (pc + 1) L (.int (nI x.1) :: st) n ad E Φ Ψ) : J g M d bc bs pc L (.ref (ad k) :: st) n ad E Φ Ψ := by
  intro l p e R s m args below meth c H locs cells slots ls C h1 h2 hW hS hl
  exact va_alen C.1 C.2.1 C.2.2.2.2.2.2.2.2.2.2.2.2.1 hW.1 k t0 (by rw [jws_at hk, hE]) ht rfl hd (kk l p e R s m args below meth c H locs cells slots ls C h1 h2 hW hS hl)
theorem j_slen (hd : decode M.2.1 pc = .ok (.arraylength, 1)) (kk : J g M d bc bs (pc + 1) L (.int (nI g.1.2.2.1) :: st) n ad E Φ Ψ) : J g M d bc bs pc L (.ref g.1.2.1 :: st) n ad E Φ Ψ := by
  intro l p e R s m args below meth c H locs cells slots ls C h1 h2 hW hS hl
  obtain ⟨-, -, -, -, hX, hb1, hb2, -⟩ := C.2.2.2.2.2.2.2.2.2.2.2.2
  exact va_slen C.1 C.2.1 hX (Nat.lt_of_lt_of_le hb1 hb2) (Nat.not_le.mpr hb1) hS hd (kk l p e R s m args below meth c H locs cells slots ls C h1 h2 hW hS hl)
theorem j_sald {j : Nat} (hd : decode M.2.1 pc = .ok (.iaload, 1)) (hN : g.1.2.2.1 < 2 ^ 31) (hj : j < g.1.2.2.1) (kk : J g M d bc bs (pc + 1) L (.int (g.1.2.2.2 j) :: st) n ad E Φ Ψ) : J g M d bc bs pc L (.int (nI j) :: .ref g.1.2.1 :: st) n ad E Φ Ψ := by
  intro l p e R s m args below meth c H locs cells slots ls C h1 h2 hW hS hl
  obtain ⟨-, -, -, -, hX, hb1, hb2, -⟩ := C.2.2.2.2.2.2.2.2.2.2.2.2
  have K := kk l p e R s m args below meth c H locs cells slots ls C h1 h2 hW hS hl
  rw [← nI_clamp (show j < 2 ^ 31 by omega)] at K
  exact va_sld C.1 C.2.1 hX (Nat.lt_of_lt_of_le hb1 hb2) (Nat.not_le.mpr hb1) hS (vp_in_nI hj hN) hd K
end JR
