/-! Further rows of J: arrays of arrays, clone, the rest of the arithmetic; a world's places told anew. -/
theorem jWd.reix {g : jG} {n k : Nat} {ad ad' : Nat → Nat} {E E' : Nat → va_E} {H : Heap} {σ : Nat → Nat} (h : jWd g n ad E H) (h1 : ∀ i, i < k → σ i < n) (h2 : ∀ i j, i < k → j < k → σ i = σ j → i = j) (ha : ∀ i, i < k → ad (σ i) = ad' i) (hE : ∀ i, i < k → E (σ i) = E' i) : jWd g k ad' E' H := by
  have key : ∀ (i : Nat) (q : Nat × va_E), (jws k ad' E')[i]? = some q → i < k ∧ (jws n ad E)[σ i]? = some q := by
    intro i q hi
    have hl : i < k := by
      have := (List.getElem?_eq_some_iff.mp hi).1
      simpa [jws] using this
    rw [jws_at hl] at hi
    refine ⟨hl, ?_⟩
    rw [jws_at (h1 i hl), ha i hl, hE i hl]
    exact hi
  refine ⟨fun i q hi => h.1 (σ i) q (key i q hi).2, fun i j p q hi hj e => ?_, fun i q hi => h.2.2 (σ i) q (key i q hi).2⟩
  exact h2 i j (key i p hi).1 (key j q hj).1 (h.2.1 (σ i) (σ j) p q (key i p hi).2 (key j q hj).2 e)
section JR2
variable {g : jG} {M M' : jM} {d bc bs d' bc' bs' pc nA idx : Nat} {L : List (Option Value)} {st rest As : List Value} {n : Nat} {ad : Nat → Nat} {E : Nat → va_E} {Φ Φ' : Option Value → jR} {Ψ Ψ' : String → jR}
theorem j_reix {k : Nat} {ad' : Nat → Nat} {E' : Nat → va_E} (σ : Nat → Nat) (h1 : ∀ i, i < k → σ i < n) (h2 : ∀ i j, i < k → j < k → σ i = σ j → i = j) (ha : ∀ i, i < k → ad (σ i) = ad' i) (hE : ∀ i, i < k → E (σ i) = E' i) (kk : J g M d bc bs pc L st k ad' E' Φ Ψ) : J g M d bc bs pc L st n ad E Φ Ψ := by
  intro l p e R s m args below meth c H locs cells slots ls C q1 q2 hW hS hl
  exact kk l p e R s m args below meth c H locs cells slots ls C q1 q2 (hW.reix h1 h2 ha hE) hS hl
theorem j_ishr {x y : Int32} (hd : decode M.2.1 pc = .ok (.ishr, 1)) (k : J g M d bc bs (pc + 1) L (.int (x >>> (y &&& 31)) :: st) n ad E Φ Ψ) : J g M d bc bs pc L (.int y :: .int x :: st) n ad E Φ Ψ := by
  intro l p e R s m args below meth c H locs cells slots ls C h1 h2 hW hS hl
  exact lv_ishr C.1 C.2.1 hd (k l p e R s m args below meth c H locs cells slots ls C h1 h2 hW hS hl)
theorem j_idiv {x y : Int32} (hd : decode M.2.1 pc = .ok (.idiv, 1)) (hne : ¬ y = 0) (k : J g M d bc bs (pc + 1) L (.int (x / y) :: st) n ad E Φ Ψ) : J g M d bc bs pc L (.int y :: .int x :: st) n ad E Φ Ψ := by
  intro l p e R s m args below meth c H locs cells slots ls C h1 h2 hW hS hl
  exact lv_idiv C.1 C.2.1 hd hne (k l p e R s m args below meth c H locs cells slots ls C h1 h2 hW hS hl)
theorem j_lsub {x y : Int64} (hd : decode M.2.1 pc = .ok (.lsub, 1)) (k : J g M d bc bs (pc + 1) L (.long (x - y) :: st) n ad E Φ Ψ) : J g M d bc bs pc L (.long y :: .long x :: st) n ad E Φ Ψ := by
  intro l p e R s m args below meth c H locs cells slots ls C h1 h2 hW hS hl
  exact lv_lsub C.1 C.2.1 hd (k l p e R s m args below meth c H locs cells slots ls C h1 h2 hW hS hl)
theorem j_ifnonnull {a : Nat} {off : Int} {tgt : Nat} (hd : decode M.2.1 pc = .ok (.ifnonnull off, 3)) (ht : (pc : Int) + off = (tgt : Int)) (k : J g M d bc bs tgt L st n ad E Φ Ψ) : J g M d bc bs pc L (.ref a :: st) n ad E Φ Ψ := by
  intro l p e R s m args below meth c H locs cells slots ls C h1 h2 hW hS hl
  exact lv_ifnonnull C.1 C.2.1 hd ht (k l p e R s m args below meth c H locs cells slots ls C h1 h2 hW hS hl)
/-- a reference is answered -/
theorem j_rret {a : Nat} {ty : FieldType} (hd : decode M.2.1 pc = .ok (.areturn, 1)) (hr : M.2.2.2.1 = some ty) (hty : (∃ t, ty = .array t) ∨ ∃ C, ty = .object C) (h : Φ (some (.ref a)) n ad E) : J g M d bc bs pc L [.ref a] n ad E Φ Ψ := by
  intro l p e R s m args below meth c H locs cells slots ls C h1 h2 hW hS hl
  refine vx_ret (W.widen (k := R.cells) (n := R.slots) (by omega) (by omega) ?_)
  refine W.aret C.1 C.2.1 (C.2.2.2.1.trans hr) ?_ (Or.inr ⟨_, rfl⟩) (fun t ht hq => ⟨⟨_, _, _, _, rfl, h, by rw [ht]; exact hW⟩, hS.F ht⟩) hS.2.2 hd C.2.2.2.2.1
  rcases hty with ⟨t, rfl⟩ | ⟨C0, rfl⟩
  · exact Or.inr ⟨_, rfl⟩
  · exact Or.inl ⟨_, rfl⟩
/-- what comes out of an array of int[][] -/
theorem j_aaldP {k N j : Nat} {f : Nat → Option Nat} {a : Nat} (hd : decode M.2.1 pc = .ok (.aaload, 1)) (hk : k < n) (hE : E k = aP g N f) (hN : N < 2 ^ 31) (hj : j < N) (hx : f j = some a) (kk : J g M d bc bs (pc + 1) L (.ref a :: st) n ad E Φ Ψ) : J g M d bc bs pc L (.int (nI j) :: .ref (ad k) :: st) n ad E Φ Ψ := by
  intro l p e R s m args below meth c H locs cells slots ls C h1 h2 hW hS hl
  have K := kk l p e R s m args below meth c H locs cells slots ls C h1 h2 hW hS hl
  have hlt : (nI j).toNatClampNeg < N := by rw [nI_clamp (show j < 2 ^ 31 by omega)]; exact hj
  have hin : vp_in (nI j) N := vp_in_nI hj hN
  have hc := hW.1 k _ (jws_at hk)
  rw [hE] at hc
  exact W.aald (v := .ref a) (ty := .array (.array .int)) C.1 C.2.1 (show H[ad k]? = some (vp_cell _ _) from hc) ((C.2.2.2.2.2.2.2.2.2.2.2.2.1.2 1 _ rfl).1 N (fun j => va_rf (f j))) rfl (fun q => by cases q) (by show ¬ (_ ∨ (arrV _ _ _).slots.size ≤ _); rw [arrV_size]; exact hin) (by show (arrV _ _ _).slots[_]? = _; rw [arrV_read _ _ hlt, nI_clamp (show j < 2 ^ 31 by omega), hx]; rfl) rfl rfl hd K
theorem jAO {s : State} (hK : jK g s) : ∃ (kO kI : Class), s.vm.classes[g.2.2.1.2.2]? = some kO ∧ kO.kind = .array g.2.2.1.1 (.array .int) ∧ s.vm.classes[g.2.2.1.1]? = some kI := by
  obtain ⟨comp, c0, k, f1, -, f3, f4, f5⟩ := arrayOverA_spec (va_AOA.use (A := #[]) hK.2.2.2.2.2.2.2.1.1)
  have e1 : s.vm.findClass ("[" ++ (FieldType.array .int).toString) = some g.2.2.1.2.2 := (hK.1.2 2 _ rfl).2
  have e2 : s.vm.findClass ("[" ++ FieldType.int.toString) = some g.2.2.1.1 := (hK.1.2 0 _ rfl).2
  obtain rfl : g.2.2.1.2.2 = c0 := Option.some.inj (e1.symm.trans f5)
  obtain rfl : g.2.2.1.1 = comp := Option.some.inj (e2.symm.trans f1)
  obtain ⟨-, kA, hkA, -⟩ := (hK.1.2 0 _ rfl).1 0 (fun _ => .null)
  exact ⟨k, kA, f3, f4, hkA⟩
theorem jAP {s : State} (hK : jK g s) : ∃ (kP kO : Class), s.vm.classes[g.2.2.1.2.1]? = some kP ∧ kP.kind = .array g.2.2.1.2.2 (.array (.array .int)) ∧ s.vm.classes[g.2.2.1.2.2]? = some kO := by
  obtain ⟨comp, c0, k, f1, -, f3, f4, f5⟩ := arrayOverA_spec (va_AOA.use (A := #[]) hK.2.2.2.2.2.2.2.1.2)
  have e1 : s.vm.findClass ("[" ++ (FieldType.array (.array .int)).toString) = some g.2.2.1.2.1 := (hK.1.2 1 _ rfl).2
  have e2 : s.vm.findClass ("[" ++ (FieldType.array .int).toString) = some g.2.2.1.2.2 := (hK.1.2 2 _ rfl).2
  obtain rfl : g.2.2.1.2.1 = c0 := Option.some.inj (e1.symm.trans f5)
  obtain rfl : g.2.2.1.2.2 = comp := Option.some.inj (e2.symm.trans f1)
  obtain ⟨-, kA, hkA, -⟩ := (hK.1.2 2 _ rfl).1 0 (fun _ => .null)
  exact ⟨k, kA, f3, f4, hkA⟩
theorem vp_cell_cls (c : ClassId) (x : vp_A) : (vp_cell c x).cls = c := by
  obtain ⟨n, f | f | f | f | f⟩ := x <;> rfl
theorem vp_cell_vm (c : ClassId) (x : vp_A) : (vp_cell c x).vm = .none := by
  obtain ⟨n, f | f | f | f | f⟩ := x <;> rfl
/-- a reference into an array of references -/
theorem j_aastG {k kv N j : Nat} {cA cV : ClassId} {t : FieldType} {x : vp_A} {f : Nat → Option Nat} (hd : decode M.2.1 pc = .ok (.aastore, 1)) (hk : k < n) (hv : kv < n) (hE : E k = .inl (cA, N, .inr (.inr (.inr (.inr f))))) (hV : E kv = .inl (cV, x)) (hN : N < 2 ^ 31) (hj : j < N) (hr : t.isReference = true) (hc : ∀ s : State, jK g s → ∃ (kA kV : Class), s.vm.classes[cA]? = some kA ∧ kA.kind = .array cV t ∧ s.vm.classes[cV]? = some kV)
    (kk : J g M d bc bs (pc + 1) L st n ad (va_up E k (.inl (cA, N, .inr (.inr (.inr (.inr (va_up f j (some (ad kv))))))))) Φ Ψ) : J g M d bc bs pc L (.ref (ad kv) :: .int (nI j) :: .ref (ad k) :: st) n ad E Φ Ψ := by
  intro l p e R s m args below meth c H locs cells slots ls C h1 h2 hW hS hl
  have hK := C.2.2.2.2.2.2.2.2.2.2.2.2
  obtain ⟨kA, kV, k1, k2, k3⟩ := hc s hK
  have hlt : (nI j).toNatClampNeg < N := by rw [nI_clamp (show j < 2 ^ 31 by omega)]; exact hj
  have hw0 : (jws n ad E)[k]? = some (ad k, .inl (cA, N, .inr (.inr (.inr (.inr f))))) := by rw [jws_at hk, hE]
  have hcell := hW.1 k _ (jws_at hk)
  rw [hE] at hcell
  have hvc := hW.1 kv _ (jws_at hv)
  rw [hV] at hvc
  have hvc' : H[ad kv]? = some (vp_cell cV x) := hvc
  refine W.aast (comp := cV) C.1 C.2.1 (show H[ad k]? = some (vp_cell _ _) from hcell) (fun q h => by cases h) (fun h => by cases h) k1 k2 hr k3 ⟨nI_pos (by omega), by show _ < (arrV _ _ _).slots.size; rw [arrV_size]; exact hlt⟩ hvc' (fun q h => by rw [vp_cell_vm] at h; cases h) (by rw [vp_cell_cls]; exact k3) (by rw [vp_cell_cls]; exact va_asg _ _) rfl rfl hd fun H1 e1 z oq => ?_
  have r1 : va_P g.2.1 vwCl ((jws n ad E).set k (ad k, .inl (cA, N, .inr (.inr (.inr (.inr (va_up f j (some (ad kv))))))))) H1 := by
    refine hW.1.set hW.2 hw0 ?_ oq
    show H1[ad k]? = some (vp_cell _ _)
    rw [e1]
    rw [vp_cell_q, vp_cell_q, arrV_store]
    congr 2
    funext q
    rw [nI_clamp (show j < 2 ^ 31 by omega)]
    by_cases hq : q = j
    · subst hq
      simp [updV, va_up, va_rf]
    · simp [updV, va_up, hq]
  have r2 : va_D (jA g) ((jws n ad E).set k (ad k, .inl (cA, N, .inr (.inr (.inr (.inr (va_up f j (some (ad kv))))))))) := hW.2.set hw0
  rw [jws_set hk] at r1 r2
  exact kk l p e R s m args below meth c H1 _ cells slots ls C h1 h2 ⟨r1, r2⟩ (hS.put z oq (hW.2.2 k _ hw0)) hl
theorem j_aastO {k kv N K0 j : Nat} {f : Nat → Option Nat} {h : Nat → Int32} (hd : decode M.2.1 pc = .ok (.aastore, 1)) (hk : k < n) (hv : kv < n) (hE : E k = aO g N f) (hV : E kv = aI g K0 h) (hN : N < 2 ^ 31) (hj : j < N) (kk : J g M d bc bs (pc + 1) L st n ad (va_up E k (aO g N (va_up f j (some (ad kv))))) Φ Ψ) : J g M d bc bs pc L (.ref (ad kv) :: .int (nI j) :: .ref (ad k) :: st) n ad E Φ Ψ :=
  j_aastG hd hk hv hE hV hN hj (t := .array .int) rfl (fun _ hK => jAO hK) kk
theorem j_aastP {k kv N K0 j : Nat} {f h : Nat → Option Nat} (hd : decode M.2.1 pc = .ok (.aastore, 1)) (hk : k < n) (hv : kv < n) (hE : E k = aP g N f) (hV : E kv = aO g K0 h) (hN : N < 2 ^ 31) (hj : j < N) (kk : J g M d bc bs (pc + 1) L st n ad (va_up E k (aP g N (va_up f j (some (ad kv))))) Φ Ψ) : J g M d bc bs pc L (.ref (ad kv) :: .int (nI j) :: .ref (ad k) :: st) n ad E Φ Ψ :=
  j_aastG hd hk hv hE hV hN hj (t := .array (.array .int)) rfl (fun _ hK => jAP hK) kk
/-- new int[N][], new int[N][][] -/
theorem j_anG {N : Nat} {t : FieldType} {cN : ClassId} (w2 : Cond.classLink M.1.cls idx (FieldType.array t).toString ∈ TT) (hN : N ≤ 1000) (hov : ∀ s : State, jK g s → va_AOA t s ∧ s.vm.findClass ("[" ++ (FieldType.array t).toString) = some cN) (hd : decode M.2.1 pc = .ok (.anewarray idx, 3)) (kk : ∀ ad' : Nat → Nat, (∀ i, i < n → ad' i = ad i) → J g M d bc bs (pc + 3) L (.ref (ad' n) :: st) (n + 1) ad' (va_up E n (.inl (cN, N, .inr (.inr (.inr (.inr (fun _ => none))))))) Φ Ψ) : J g M d (bc + 1) (bs + N) pc L (.int (nI N) :: st) n ad E Φ Ψ := by
  intro l p e R s m args below meth c H locs cells slots ls C h1 h2 hW hS hlh
  have hts := C.2.2.2.2.2.2.1
  have hK := C.2.2.2.2.2.2.2.2.2.2.2.2
  obtain ⟨o1, o2⟩ := hov s hK
  have hcl : (nI N).toNatClampNeg = N := nI_clamp (by omega)
  refine W.anewA (t := t) C.1 C.2.1 C.2.2.2.2.2.1 (hts _ w2) (va_AOA.use o1) rfl hd rfl (nI_pos (by omega)) (by rw [hcl]; omega) (by omega) (by rw [hcl]; omega) (fun cA kA comp f1 f2 f3 f4 => ?_)
  obtain rfl : cA = cN := Option.some.inj (f1.symm.trans o2)
  rw [hcl]
  generalize hH1 : H.push ({ cls := cA, slots := Array.replicate N .null, vm := .none } : Cell) = H1
  have z1 : H1.size = H.size + 1 := by rw [← hH1, Array.size_push]
  have e1 : H1[H.size]? = some (arrV cA N (fun _ => .null)) := by rw [← hH1, Array.getElem?_push_size, ← arrV_new]
  have o1 : ∀ q : Nat, q < H.size → H1[q]? = H[q]? := fun q hq => by rw [← hH1, Array.getElem?_push, if_neg (Nat.ne_of_lt hq)]
  have hk : ∀ (k : Nat) (x : Nat × va_E), (jws n ad E)[k]? = some x → H1[x.1]? = H[x.1]? := fun k x hx => o1 x.1 ((hW.1 k x hx).lt)
  have r1 : va_P g.2.1 vwCl (jws n ad E ++ [(H.size, .inl (cA, N, .inr (.inr (.inr (.inr (fun _ => none))))))]) H1 := by
    refine (hW.1.kept hk).app (fun k x hx => ?_)
    have hz : k < 1 := (List.getElem?_eq_some_iff.mp hx).1
    rw [show k = 0 by omega] at hx
    cases hx
    exact e1
  have r2 : va_D (jA g) (jws n ad E ++ [(H.size, .inl (cA, N, .inr (.inr (.inr (.inr (fun _ => none))))))]) := hW.2.push hW.1 rfl (Nat.le_trans hK.2.2.2.2.2.2.1 hS.1)
  have r3 : va_S (jA g) s.heap H1 locs := ⟨Nat.le_trans hS.1 (by omega), fun x q1 q2 => (o1 x (Nat.lt_of_lt_of_le q1 hS.1)).trans (hS.2.1 x q1 q2), hS.2.2⟩
  rw [jws_push] at r1 r2
  have K := kk (va_up ad n H.size) (fun i hi => if_neg (Nat.ne_of_lt hi)) l p e R s m args below meth c H1 locs (cells + 1) (slots + N) ls C (by omega) (by omega) ⟨r1, r2⟩ r3 hlh
  rwa [show va_up ad n H.size n = H.size from if_pos rfl] at K
theorem j_anO {N : Nat} (w2 : Cond.classLink M.1.cls idx "[I" ∈ TT) (hN : N ≤ 1000) (hd : decode M.2.1 pc = .ok (.anewarray idx, 3)) (kk : ∀ ad' : Nat → Nat, (∀ i, i < n → ad' i = ad i) → J g M d bc bs (pc + 3) L (.ref (ad' n) :: st) (n + 1) ad' (va_up E n (aO g N (fun _ => none))) Φ Ψ) : J g M d (bc + 1) (bs + N) pc L (.int (nI N) :: st) n ad E Φ Ψ :=
  j_anG (t := .int) w2 hN (fun s hK => ⟨hK.2.2.2.2.2.2.2.1.1, (hK.1.2 2 _ rfl).2⟩) hd kk
theorem j_anP {N : Nat} (w2 : Cond.classLink M.1.cls idx "[[I" ∈ TT) (hN : N ≤ 1000) (hd : decode M.2.1 pc = .ok (.anewarray idx, 3)) (kk : ∀ ad' : Nat → Nat, (∀ i, i < n → ad' i = ad i) → J g M d bc bs (pc + 3) L (.ref (ad' n) :: st) (n + 1) ad' (va_up E n (aP g N (fun _ => none))) Φ Ψ) : J g M d (bc + 1) (bs + N) pc L (.int (nI N) :: st) n ad E Φ Ψ :=
  j_anG (t := .array .int) w2 hN (fun s hK => ⟨hK.2.2.2.2.2.2.2.1.2, (hK.1.2 1 _ rfl).2⟩) hd kk
/-- int[].clone() -/
theorem j_clone {k N : Nat} {f : Nat → Int32} (w1 : Cond.methodLink M.1.cls idx ⟨"[I", "clone", "()Ljava/lang/Object;"⟩ ∈ TT) (w2 : Cond.sameMethod "[I" "java/lang/Object" "clone" "()Ljava/lang/Object;" ∈ TT) (w3 : Cond.native ⟨"java/lang/Object", "clone", "()Ljava/lang/Object;"⟩ ∈ TT) (w4 : Cond.instanceMethod ⟨"java/lang/Object", "clone", "()Ljava/lang/Object;"⟩ ∈ TT) (w5 : Cond.selects "[I" ⟨"[I", "clone", "()Ljava/lang/Object;"⟩ ⟨"java/lang/Object", "clone", "()Ljava/lang/Object;"⟩ ∈ TT) (w6 : Cond.castable "[I" "java/lang/Cloneable" ∈ NW) (hd : decode M.2.1 pc = .ok (.invokevirtual idx, 3)) (hk : k < n) (hE : E k = aI g N f) (hdep : 1 ≤ d) (hcat : (rest.map fun v => v.category).sum ≤ 8)
    (kk : ∀ ad' : Nat → Nat, (∀ i, i < n → ad' i = ad i) → J g M d bc bs (pc + 3) L (.ref (ad' n) :: rest) (n + 1) ad' (va_up E n (aI g N f)) Φ Ψ) : J g M d (bc + 1) (bs + N) pc L (.ref (ad k) :: rest) n ad E Φ Ψ := by
  intro l p e R s m args below meth c H locs cells slots ls C h1 h2 hW hS hlh
  have hts := C.2.2.2.2.2.2.1
  have hK := C.2.2.2.2.2.2.2.2.2.2.2.2
  have hdR := C.2.2.2.2.2.2.2.2.2.2.1
  have hlR := C.2.2.2.2.2.2.2.2.2.2.2.1
  refine va_clone (x := (N, .inl f)) (ty := .int) C.1 C.2.1 (C.2.2.1.trans hlh.1.symm) C.2.2.2.2.2.1 (hts _ w1) (hts _ w2) (hts _ w3) (hts _ w4) (hts _ w5) (hK.2.2.2.2.2.2.2.2.1 _ w6) hK.1 hW.1 hW.2 hS (fun q hq => Nat.le_trans hK.2.2.2.2.2.2.1 hq) k 0 (by rw [jws_at hk, hE]) rfl (hK.1.2 0 _ rfl).2 (va_fit (cA := g.2.2.1.1) (n := N) (F := fun j => .int (f j)) (ty := .int) (fun i _ => rfl)) (by omega) (by omega) (by omega) (by show slots + N ≤ _; omega) hd (fun q H1 r0 r1 r2 r3 => ?_)
  rw [jws_push] at r1 r2
  have K := kk (va_up ad n q) (fun i hi => if_neg (Nat.ne_of_lt hi)) l p e R s m args below meth c H1 locs (cells + 1) (slots + N) ls C (by omega) (by omega) ⟨r1, r2⟩ r3 hlh
  rwa [show va_up ad n q n = q from if_pos rfl] at K
theorem j_castI {k N : Nat} {f : Nat → Int32} (w1 : Cond.classLink M.1.cls idx "[I" ∈ TT) (hd : decode M.2.1 pc = .ok (.checkcast idx, 3)) (hk : k < n) (hE : E k = aI g N f) (kk : J g M d bc bs (pc + 3) L (.ref (ad k) :: st) n ad E Φ Ψ) : J g M d bc bs pc L (.ref (ad k) :: st) n ad E Φ Ψ := by
  intro l p e R s m args below meth c H locs cells slots ls C h1 h2 hW hS hlh
  have hts := C.2.2.2.2.2.2.1
  have hK := C.2.2.2.2.2.2.2.2.2.2.2.2
  exact va_castA C.1 C.2.1 C.2.2.2.2.2.1 (hts _ w1) hW.1 k (by rw [jws_at hk, hE]) (hK.1.2 0 _ rfl).2 hd (kk l p e R s m args below meth c H locs cells slots ls C h1 h2 hW hS hlh)
end JR2
