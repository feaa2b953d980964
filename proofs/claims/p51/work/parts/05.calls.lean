/-! The rows of J that call, make and throw. -/
section JCALL
variable {g : jG} {M M' : jM} {d bc bs d' bc' bs' pc nA idx : Nat} {L : List (Option Value)} {st rest As : List Value} {n : Nat} {ad : Nat → Nat} {E : Nat → va_E} {Φ Φ' : Option Value → jR} {Ψ Ψ' : String → jR}
/-- facts of a callee that its calls share -/
def jYm (M' : jM) (nA : Nat) : Prop := jCode M' ∈ TT ∧ Cond.initialized M'.1.cls ∈ TT ∧ (M'.1.cls ≠ "java/lang/invoke/MethodHandle" ∧ M'.1.cls ≠ "java/lang/invoke/VarHandle") ∧ (parseMethodDescriptor M'.1.desc).map (fun d => d.parameters.length) = some nA ∧ plainName M'.1.cls = true ∧ M'.2.2.1 ≤ 13
theorem j_goes {p : Program} {l : Launch} {e : Env} {R : Room} {s : State} {m : MethodId} {args : Array Value} {below : List Frame} {meth : Method} {c : Code} {H : Heap} {locs : List Loc} {cells slots mc ms : Nat} {ls : Array Slot} {st0 : List Value} {Q : State → Prop} {a : Array Value}
    (hr : vx_Run p l e R s m args below meth c H locs cells slots mc ms (F0 m pc ls st0) rest (jQ g Φ' a) (jX g Ψ') (jA g)) (hS : va_S (jA g) s.heap H locs)
    (kk : ∀ (v : Option Value) (n' : Nat) (ad' : Nat → Nat) (E' : Nat → va_E) (H1 : Heap) (locs1 : List Loc), Φ' v n' ad' E' → jWd g n' ad' E' H1 → va_S (jA g) s.heap H1 locs1 → W p l e R s m args below meth c H1 locs1 (cells + mc) (slots + ms) Q (F0 m (pc + 3) ls (v.toList ++ rest)))
    (kx : ∀ (X : String) (ce : Cell) (q : Addr) (n' : Nat) (ad' : Nat → Nat) (E' : Nat → va_E) (H1 : Heap) (locs1 : List Loc), Ψ' X n' ad' E' → jWd g n' ad' E' H1 → va_S (jA g) s.heap H1 locs1 → H1[q]? = some ce → ce.vm = .none → s.vm.findClass X = some ce.cls → vx_W p l e R s m args below meth c H1 locs1 (cells + mc) (slots + ms) Q (F0 m pc ls rest) q) :
    W p l e R s m args below meth c H locs cells slots Q (F0 m pc ls st0) := by
  intro T hT X
  rcases hr T hT X with ⟨v, st₀, t, T', L, h0, X', hL, e1, e2, ⟨⟨v2, n', ad', E', hv, hp, hb⟩, hF⟩, st⟩ | ⟨q, st₀, t, T', L, Ex, ce, h0, X', hL, e1, e2, ⟨⟨n', ad', E', hp, hb⟩, hF⟩, hce, hcv, hcl, st⟩
  · obtain rfl : v = v2 := Outcome.returned.inj hv
    obtain ⟨k1, k2, k3⟩ := vx_keep h0 e1 hS (fun _ _ h => h) (fun _ h => h) hL hF
    obtain ⟨t2, a1, b1⟩ := kk v n' ad' E' T'.heap (locs ++ L) hp (by rw [e1]; exact hb) k3 T' rfl X'
    exact ⟨t2, st t2 a1, b1⟩
  · obtain ⟨k1, k2, k3⟩ := vx_keep h0 e1 hS (fun _ _ h => h) (fun _ h => h) hL hF
    obtain ⟨t2, a1, b1⟩ := kx Ex ce q n' ad' E' T'.heap (locs ++ L) hp (by rw [e1]; exact hb) k3 (by rw [e1]; exact hce) hcv hcl T' rfl X'
    exact ⟨t2, st.trans a1, b1⟩
theorem jW_pay {s : State} {args : Array Value} (hts : ∀ w ∈ TT, w.before args s = true) (h : jCode M' ∈ TT) : ∀ w ∈ jW M', ∀ (a' : Array Value) (U : State), s.WarmedH U.vm → w.before a' U = true := fun w hw a' U hW => word_at hW (jW_good h w hw).2 (hts w (jW_good h w hw).1)
theorem jB {R : Room} {s : State} {args : Array Value} {own : String} (hts : ∀ w ∈ TT, w.before args s = true) (f : jYm M' nA) (hh : M'.2.2.2.2 = []) (hl : Cond.methodLink own idx M'.1 ∈ TT) (hd : d' + 1 ≤ R.frames) (hlo : 32 * (d' + 1) ≤ R.locals) :
    CallB R s args own idx M'.1 M'.2.1 M'.2.2.1 M'.2.2.2.1 (jW M') ({ frames := d', cells := bc', slots := bs', locals := 32 * d' }) bc' bs' nA := by
  obtain ⟨f1, f2, f3, f4, f5, f6⟩ := f
  have hc : jCode M' = .code M'.1 M'.2.1 M'.2.2.1 M'.2.2.2.1 := by unfold jCode; rw [hh]; rfl
  refine ⟨rfl, rfl, hd, by show 8 + (M'.2.2.1 + 11) + 32 * d' ≤ R.locals; omega, jW_pay hts f1, by rw [← hc]; exact List.mem_cons_self, by rw [← hc]; exact hts _ f1, hts _ f2, f3, fun sig h => ?_, hts _ hl⟩
  rw [h] at f4
  exact (Option.some.inj f4).symm
theorem jOut {p : Program} {l : Launch} {e : Env} {R : Room} {s : State} {m : MethodId} {args : Array Value} {below : List Frame} {meth : Method} {c : Code} {H : Heap} {locs : List Loc} {cells slots : Nat} {ls : Array Slot} {q : Addr} {ce : Cell} {X : String} (C : jC g M d l p R s m args meth c) (hh : M.2.2.2.2 = []) (hΨ : Ψ X n ad E) (hW : jWd g n ad E H) (hS : va_S (jA g) s.heap H locs) (e1 : H[q]? = some ce) (e2 : ce.vm = .none) (e3 : s.vm.findClass X = some ce.cls) (hc : cells ≤ R.cells) (hs : slots ≤ R.slots) :
    vx_W p l e R s m args below meth c H locs cells slots (vx_MQ below (jQ g Φ) (jX g Ψ) args s R.cells R.slots (jA g)) (F0 m pc ls rest) q := by
  refine vx_out (E := X) ?_ C.2.2.2.2.1 e1 e2 e3 (fun t ht _ => ⟨⟨n, ad, E, hΨ, by rw [ht]; exact hW⟩, hS.F ht⟩) hS.2.2 hc hs
  have := C.2.2.2.2.2.2.2.1.resolve_left (by rw [hh]; exact fun z => by cases z)
  rw [hh] at this
  intro x hx
  rw [this] at hx
  cases hx
/-- how a thrown class is met: passed on, or caught -/
def jMeets (g : jG) (M : jM) (d bc bs pc : Nat) (L : List (Option Value)) (Φ : Option Value → jR) (Ψ : String → jR) (X : String) (n : Nat) (ad : Nat → Nat) (E : Nat → va_E) : Prop :=
  (M.2.2.2.2 = [] ∧ Ψ X n ad E) ∨ ∃ (pre : List ExceptionTableEntry) (x : ExceptionTableEntry) (suf : List ExceptionTableEntry) (name : String), tableOf M.2.2.2.2 = pre ++ x :: suf ∧ (∀ z ∈ pre, covers z pc = false ∨ (z.catchType ≠ 0 ∧ ∃ nm : String, Cond.classLink M.1.cls z.catchType nm ∈ TT ∧ (X, nm) ∈ jNc)) ∧ covers x pc = true ∧ x.catchType ≠ 0 ∧ Cond.classLink M.1.cls x.catchType name ∈ TT ∧ Cond.castable X name ∈ NW ∧ ∀ q : Nat, J g M d bc bs x.handlerPc L [.ref q] n ad E Φ Ψ
theorem jMeet {l : Launch} {p : Program} {e : Env} {R : Room} {s : State} {m : MethodId} {args : Array Value} {below : List Frame} {meth : Method} {c : Code} {H : Heap} {locs : List Loc} {cells slots : Nat} {ls : Array Slot} {q : Addr} {ce : Cell} {X : String} (C : jC g M d l p R s m args meth c) (h1 : cells + bc ≤ R.cells) (h2 : slots + bs ≤ R.slots) (hl : lh ls M.2.2.1 L) (hΨ : jMeets g M d bc bs pc L Φ Ψ X n ad E) (hW : jWd g n ad E H) (hS : va_S (jA g) s.heap H locs) (e1 : H[q]? = some ce) (e2 : ce.vm = .none) (e3 : s.vm.findClass X = some ce.cls) :
    vx_W p l e R s m args below meth c H locs cells slots (vx_MQ below (jQ g Φ) (jX g Ψ) args s R.cells R.slots (jA g)) (F0 m pc ls rest) q := by
  rcases hΨ with ⟨hh, hΨ⟩ | ⟨pre, x, suf, name, t1, t2, t3, t4, t5, t6, t7⟩
  · exact jOut C hh hΨ hW hS e1 e2 e3 (by omega) (by omega)
  · have hts := C.2.2.2.2.2.2.1
    have hK := C.2.2.2.2.2.2.2.2.2.2.2.2
    have hT : c.exceptionTable.toList = tableOf M.2.2.2.2 := C.2.2.2.2.2.2.2.1.resolve_left (fun z => by
      rw [z] at t1
      have hx : x ∈ tableOf jMk := by rw [t1]; exact List.mem_append_right _ List.mem_cons_self
      have hx0 : x = ⟨0, 0, 0, 0⟩ := by simpa [tableOf] using hx
      rw [hx0] at t3
      simp [covers] at t3)
    refine vx_catch (E := X) C.2.2.2.2.2.1 pre x suf (hT.trans t1) (fun z hz => ?_) t3 t4 (hts _ t5) (va_Nw.use rfl (hK.2.2.2.2.2.2.2.2.1 _ t6)) e1 e2 e3 (t7 q l p e R s m args below meth c H locs cells slots ls C h1 h2 hW hS hl)
    rcases t2 z hz with a | ⟨a, nm, b1, b2⟩
    · exact Or.inl a
    · exact Or.inr ⟨a, nm, hts _ b1, hK.2.2.2.2.2.2.2.2.2 _ b2⟩
theorem j_callV {k ci N0 : Nat} {T0 : u_T} {fs : List Value} (f : jYm M' nA) (fi : Cond.instanceMethod M'.1 ∈ TT) (fs' : Cond.selects M'.1.cls M'.1 M'.1 ∈ TT) (hh : M'.2.2.2.2 = []) (hl : Cond.methodLink M.1.cls idx M'.1 ∈ TT) (hcl : vwCl[ci]? = some (M'.1.cls, T0, N0)) (hd : decode M.2.1 pc = .ok (.invokevirtual idx, 3)) (hdep : d' + 1 ≤ d) (hk : k < n) (hE : E k = .inr (ci, fs)) (hA : As.length = nA) (hst : As.reverse ++ .ref (ad k) :: rest = st) (hcat : (rest.map fun v => v.category).sum ≤ 8) (hnL : (lg_sl (.ref (ad k) :: As)).length ≤ M'.2.2.1)
    (hJ : JE g M' d' bc' bs' (.ref (ad k) :: As) n ad E Φ' Ψ') (kk : ∀ v n' ad' E', Φ' v n' ad' E' → J g M d bc bs (pc + 3) L (v.toList ++ rest) n' ad' E' Φ Ψ) (kx : ∀ X n' ad' E', Ψ' X n' ad' E' → jMeets g M d bc bs pc L Φ Ψ X n' ad' E') : J g M d (bc' + bc) (bs' + bs) pc L st n ad E Φ Ψ := by
  intro l p e R s m args below meth c H locs cells slots ls C h1 h2 hW hS hlh
  subst hst
  have hts := C.2.2.2.2.2.2.1
  have hK := C.2.2.2.2.2.2.2.2.2.2.2.2
  have hdR := C.2.2.2.2.2.2.2.2.2.2.1
  have hlR := C.2.2.2.2.2.2.2.2.2.2.2.1
  have hM := jMet f.2.2.2.2.1 C.2.2.2.2.2.2.2.2.2.1 hnL hJ
  refine j_goes (vx_runV ⟨C.1, C.2.1, C.2.2.1, C.2.2.2.2.2.1, hts⟩ hM ⟨jB hts f hh hl (by omega) (by omega), hts _ fi, hts _ fs'⟩ ⟨jPre.blind, va_recv hK.1 hW.1 hcl (by rw [jws_at hk, hE]), fun U hU hWm => ⟨rfl, hK.to hS hU hWm, by rw [hU]; exact hW⟩⟩ rfl hA hlh.1 rfl (lv_room hcat) hd ⟨by omega, by omega⟩) hS
    (fun v n' ad' E' H1 locs1 q1 q2 q3 => kk v n' ad' E' q1 l p e R s m args below meth c H1 locs1 _ _ ls C (by omega) (by omega) q2 q3 hlh)
    (fun X ce q n' ad' E' H1 locs1 q1 q2 q3 q4 q5 q6 => jMeet C (by omega) (by omega) hlh (kx X n' ad' E' q1) q2 q3 q4 q5 q6)
theorem j_callS (f : jYm M' nA) (fi : Cond.static M'.1 ∈ TT) (hl : Cond.methodLink M.1.cls idx M'.1 ∈ TT) (hd : decode M.2.1 pc = .ok (.invokestatic idx, 3)) (hdep : d' + 1 ≤ d) (hA : As.length = nA) (hst : As.reverse ++ rest = st) (hcat : (rest.map fun v => v.category).sum ≤ 8) (hnL : (lg_sl As).length ≤ M'.2.2.1)
    (hJ : JE g M' d' bc' bs' As n ad E Φ' Ψ') (kk : ∀ v n' ad' E', Φ' v n' ad' E' → J g M d bc bs (pc + 3) L (v.toList ++ rest) n' ad' E' Φ Ψ) (kx : ∀ X n' ad' E', Ψ' X n' ad' E' → jMeets g M d bc bs pc L Φ Ψ X n' ad' E') : J g M d (bc' + bc) (bs' + bs) pc L st n ad E Φ Ψ := by
  intro l p e R s m args below meth c H locs cells slots ls C h1 h2 hW hS hlh
  subst hst
  have hts := C.2.2.2.2.2.2.1
  have hK := C.2.2.2.2.2.2.2.2.2.2.2.2
  have hdR := C.2.2.2.2.2.2.2.2.2.2.1
  have hlR := C.2.2.2.2.2.2.2.2.2.2.2.1
  have hM := jMet f.2.2.2.2.1 C.2.2.2.2.2.2.2.2.2.1 hnL hJ
  have hr : vx_Run p l e R s m args below meth c H locs cells slots bc' bs' (F0 m pc ls (As.reverse ++ rest)) rest (jQ g Φ' As.toArray) (jX g Ψ') (jA g) := by
    by_cases hh : M'.2.2.2.2.isEmpty = true
    · exact vx_runS ⟨C.1, C.2.1, C.2.2.1, C.2.2.2.2.2.1, hts⟩ hM ⟨jB hts f (List.isEmpty_iff.mp hh) hl (by omega) (by omega), hts _ fi⟩ ⟨jPre.blind, fun U hU hWm => ⟨rfl, hK.to hS hU hWm, by rw [hU]; exact hW⟩⟩ rfl hA hlh.1 rfl (lv_room hcat) hd ⟨by omega, by omega⟩
    · have hc : jCode M' = .codeWith M'.1 M'.2.1 M'.2.2.1 M'.2.2.2.1 M'.2.2.2.2 := if_neg hh
      obtain ⟨f1, f2, f3, f4, f5, f6⟩ := f
      refine vx_runSX (hh := M'.2.2.2.2) ⟨C.1, C.2.1, C.2.2.1, C.2.2.2.2.2.1, hts⟩ hM ⟨⟨rfl, rfl, by show d' + 1 ≤ R.frames; omega, by show 8 + (M'.2.2.1 + 11) + 32 * d' ≤ R.locals; omega, jW_pay hts f1, by rw [← hc]; exact List.mem_cons_self⟩, by rw [← hc]; exact hts _ f1, hts _ f2, f3, fun sig h => ?_, hts _ hl, hts _ fi⟩ ⟨jPre.blind, fun U hU hWm => ⟨rfl, hK.to hS hU hWm, by rw [hU]; exact hW⟩⟩ rfl hA hlh.1 rfl (lv_room hcat) hd ⟨by omega, by omega⟩
      rw [h] at f4
      exact (Option.some.inj f4).symm
  exact j_goes hr hS
    (fun v n' ad' E' H1 locs1 q1 q2 q3 => kk v n' ad' E' q1 l p e R s m args below meth c H1 locs1 _ _ ls C (by omega) (by omega) q2 q3 hlh)
    (fun X ce q n' ad' E' H1 locs1 q1 q2 q3 q4 q5 q6 => jMeet C (by omega) (by omega) hlh (kx X n' ad' E' q1) q2 q3 q4 q5 q6)
/-- a constructor of our own -/
theorem j_callI {k : Nat} (f : jYm M' nA) (hn1 : M'.1.name = "<init>") (hr1 : M'.2.2.2.1 = none) (fi : Cond.instanceMethod M'.1 ∈ TT) (hh : M'.2.2.2.2 = []) (hl : Cond.methodLink M.1.cls idx M'.1 ∈ TT ∨ ∃ host, Cond.methodLinkNest M.1.cls idx M'.1 host ∈ NW) (hd : decode M.2.1 pc = .ok (.invokespecial idx, 3)) (hdep : d' + 1 ≤ d) (hA : As.length = nA) (hst : As.reverse ++ .ref (ad k) :: rest = st) (hcat : (rest.map fun v => v.category).sum ≤ 8) (hnL : (lg_sl (.ref (ad k) :: As)).length ≤ M'.2.2.1)
    (hJ : JE g M' d' bc' bs' (.ref (ad k) :: As) n ad E Φ' Ψ') (kk : ∀ v n' ad' E', Φ' v n' ad' E' → J g M d bc bs (pc + 3) L (v.toList ++ rest) n' ad' E' Φ Ψ) (kx : ∀ X n' ad' E', Ψ' X n' ad' E' → jMeets g M d bc bs pc L Φ Ψ X n' ad' E') : J g M d (bc' + bc) (bs' + bs) pc L st n ad E Φ Ψ := by
  intro l p e R s m args below meth c H locs cells slots ls C h1 h2 hW hS hlh
  subst hst
  have hts := C.2.2.2.2.2.2.1
  have hK := C.2.2.2.2.2.2.2.2.2.2.2.2
  have hdR := C.2.2.2.2.2.2.2.2.2.2.1
  have hlR := C.2.2.2.2.2.2.2.2.2.2.2.1
  have hM := jMet f.2.2.2.2.1 C.2.2.2.2.2.2.2.2.2.1 hnL hJ
  have hr : vx_Run p l e R s m args below meth c H locs cells slots bc' bs' (F0 m pc ls (As.reverse ++ .ref (ad k) :: rest)) rest (jQ g Φ' (Value.ref (ad k) :: As).toArray) (jX g Ψ') (jA g) := by
    obtain ⟨f1, f2, f3, f4, f5, f6⟩ := f
    have hc : jCode M' = .code M'.1 M'.2.1 M'.2.2.1 none := by unfold jCode; rw [hh, hr1]; rfl
    have hsig : ∀ sig, parseMethodDescriptor M'.1.desc = some sig → nA = sig.parameters.length := fun sig h => by
      rw [h] at f4
      exact (Option.some.inj f4).symm
    rcases hl with hl | ⟨host, hl⟩
    · exact vx_runI ⟨C.1, C.2.1, C.2.2.1, C.2.2.2.2.2.1, hts⟩ hM ⟨⟨rfl, rfl, by show d' + 1 ≤ R.frames; omega, by show 8 + (M'.2.2.1 + 11) + 32 * d' ≤ R.locals; omega, jW_pay hts f1, by rw [← hc]; exact List.mem_cons_self, by rw [← hc]; exact hts _ f1, hts _ f2, f3, hsig, hts _ hl⟩, hn1, hts _ fi⟩ ⟨jPre.blind, fun U hU hWm => ⟨rfl, hK.to hS hU hWm, by rw [hU]; exact hW⟩⟩ rfl hA hlh.1 rfl (lv_room hcat) hd ⟨by omega, by omega⟩
    · exact vx_runIN ⟨C.1, C.2.1, C.2.2.1, C.2.2.2.2.2.1, hts⟩ hM ⟨⟨⟨rfl, rfl, by show d' + 1 ≤ R.frames; omega, by show 8 + (M'.2.2.1 + 11) + 32 * d' ≤ R.locals; omega, jW_pay hts f1, by rw [← hc]; exact List.mem_cons_self⟩, by rw [← hc]; exact hts _ f1, hts _ f2, f3, hsig, va_Nw.use rfl (hK.2.2.2.2.2.2.2.2.1 _ hl)⟩, hn1, hts _ fi⟩ ⟨jPre.blind, fun U hU hWm => ⟨rfl, hK.to hS hU hWm, by rw [hU]; exact hW⟩⟩ rfl hA hlh.1 rfl (lv_room hcat) hd ⟨by omega, by omega⟩
  exact j_goes hr hS
    (fun v n' ad' E' H1 locs1 q1 q2 q3 => kk v n' ad' E' q1 l p e R s m args below meth c H1 locs1 _ _ ls C (by omega) (by omega) q2 q3 hlh)
    (fun X ce q n' ad' E' H1 locs1 q1 q2 q3 q4 q5 q6 => jMeet C (by omega) (by omega) hlh (kx X n' ad' E' q1) q2 q3 q4 q5 q6)
/-- Object.<init> -/
theorem j_objInit {a : Nat} (f1 : Cond.methodLink M.1.cls idx Lib.objectInit ∈ TT) (f2 : Cond.instanceMethod Lib.objectInit ∈ TT) (f3 : Cond.code Lib.objectInit ⟨#[0xb1]⟩ 1 none ∈ TT) (hd : decode M.2.1 pc = .ok (.invokespecial idx, 3)) (hdep : 1 ≤ d) (hcat : (rest.map fun v => v.category).sum ≤ 8) (kk : J g M d bc bs (pc + 3) L rest n ad E Φ Ψ) : J g M d bc bs pc L (.ref a :: rest) n ad E Φ Ψ := by
  intro l p e R s m args below meth c H locs cells slots ls C h1 h2 hW hS hlh
  have hts := C.2.2.2.2.2.2.1
  have hdR := C.2.2.2.2.2.2.2.2.2.2.1
  have hlR := C.2.2.2.2.2.2.2.2.2.2.2.1
  exact W.objInit C.1 C.2.1 C.2.2.2.2.2.1 (hts _ f1) (hts _ f2) (hts _ f3) rfl (hlh.1.trans C.2.2.1.symm) rfl hd (by omega) (by show 2 * 0 + _ + 12 ≤ _; omega) (kk l p e R s m args below meth c H locs cells slots ls C h1 h2 hW hS hlh)
/-! Math -/
theorem j_mmax {x y : Int32} (f1 : Cond.methodLink M.1.cls idx Lib.Math.max.name ∈ TT) (f2 : Cond.static Lib.Math.max.name ∈ TT) (f3 : Cond.initialized "java/lang/Math" ∈ TT) (f4 : Cond.code Lib.Math.max.name Lib.Math.max.code 2 (some .int) ∈ TT) (hd : decode M.2.1 pc = .ok (.invokestatic idx, 3)) (hdep : 1 ≤ d) (hcat : (rest.map fun v => v.category).sum ≤ 8) (kk : J g M d bc bs (pc + 3) L (.int (if x < y then y else x) :: rest) n ad E Φ Ψ) : J g M d bc bs pc L (.int y :: .int x :: rest) n ad E Φ Ψ := by
  intro l p e R s m args below meth c H locs cells slots ls C h1 h2 hW hS hlh
  have hts := C.2.2.2.2.2.2.1
  have hdR := C.2.2.2.2.2.2.2.2.2.2.1
  have hlR := C.2.2.2.2.2.2.2.2.2.2.2.1
  exact va_mmax C.1 C.2.1 (C.2.2.1.trans hlh.1.symm) C.2.2.2.2.2.1 (hts _ f1) (hts _ f2) (hts _ f3) (hts _ f4) (by omega) (by omega) (by omega) (by omega) hd (kk l p e R s m args below meth c H locs cells slots ls C h1 h2 hW hS hlh)
theorem j_mmin {x y : Int32} (f1 : Cond.methodLink M.1.cls idx Lib.Math.min.name ∈ TT) (f2 : Cond.static Lib.Math.min.name ∈ TT) (f3 : Cond.initialized "java/lang/Math" ∈ TT) (f4 : Cond.code Lib.Math.min.name Lib.Math.min.code 2 (some .int) ∈ TT) (hd : decode M.2.1 pc = .ok (.invokestatic idx, 3)) (hdep : 1 ≤ d) (hcat : (rest.map fun v => v.category).sum ≤ 8) (kk : J g M d bc bs (pc + 3) L (.int (if y < x then y else x) :: rest) n ad E Φ Ψ) : J g M d bc bs pc L (.int y :: .int x :: rest) n ad E Φ Ψ := by
  intro l p e R s m args below meth c H locs cells slots ls C h1 h2 hW hS hlh
  have hts := C.2.2.2.2.2.2.1
  have hdR := C.2.2.2.2.2.2.2.2.2.2.1
  have hlR := C.2.2.2.2.2.2.2.2.2.2.2.1
  exact va_mmin C.1 C.2.1 (C.2.2.1.trans hlh.1.symm) C.2.2.2.2.2.1 (hts _ f1) (hts _ f2) (hts _ f3) (hts _ f4) (by omega) (by omega) (by omega) (by omega) hd (kk l p e R s m args below meth c H locs cells slots ls C h1 h2 hW hS hlh)
theorem j_mmaxl {x y : Int64} (f1 : Cond.methodLink M.1.cls idx Lib.MathLoose.max_long.x ∈ TT) (f2 : Cond.static Lib.MathLoose.max_long.x ∈ TT) (f3 : Cond.initialized "java/lang/Math" ∈ TT) (f4 : Cond.code Lib.MathLoose.max_long.x Lib.MathLoose.max_long.code 4 (some .long) ∈ TT) (hd : decode M.2.1 pc = .ok (.invokestatic idx, 3)) (hdep : 1 ≤ d) (hcat : (rest.map fun v => v.category).sum ≤ 8) (kk : J g M d bc bs (pc + 3) L (.long (if y < x then x else y) :: rest) n ad E Φ Ψ) : J g M d bc bs pc L (.long y :: .long x :: rest) n ad E Φ Ψ := by
  intro l p e R s m args below meth c H locs cells slots ls C h1 h2 hW hS hlh
  have hts := C.2.2.2.2.2.2.1
  have hdR := C.2.2.2.2.2.2.2.2.2.2.1
  have hlR := C.2.2.2.2.2.2.2.2.2.2.2.1
  exact va_mmax_long C.1 C.2.1 (C.2.2.1.trans hlh.1.symm) C.2.2.2.2.2.1 (hts _ f1) (hts _ f2) (hts _ f3) (hts _ f4) (by omega) (by omega) (by omega) (by omega) hd (kk l p e R s m args below meth c H locs cells slots ls C h1 h2 hW hS hlh)
/-! new -/
theorem j_new {C0 : String} {T0 : u_T} {ty0 : Nat → FieldType} {N0 ci : Nat} {fs : List Value} (hc : vwCl[ci]? = some (C0, T0, N0)) (f3 : ∀ w ∈ u_ws C0 T0 N0, w ∈ TT) (fp : jFp T0 N0 ty0) (w1 : Cond.classLink M.1.cls idx C0 ∈ TT) (w2 : Cond.instantiable C0 N0 ∈ TT) (w3 : Cond.initialized C0 ∈ TT) (hfs : ∀ j, j < N0 → defaultValue (ty0 j) = vp_V fs j) (hd : decode M.2.1 pc = .ok (.new idx, 3))
    (kk : ∀ ad' : Nat → Nat, (∀ i, i < n → ad' i = ad i) → J g M d bc bs (pc + 3) L (.ref (ad' n) :: st) (n + 1) ad' (va_up E n (.inr (ci, fs))) Φ Ψ) : J g M d (bc + 1) (bs + N0) pc L st n ad E Φ Ψ := by
  intro l p e R s m args below meth c H locs cells slots ls C h1 h2 hW hS hlh
  have hts := C.2.2.2.2.2.2.1
  have hK := C.2.2.2.2.2.2.2.2.2.2.2.2
  refine va_new C.1 C.2.1 hts f3 ty0 fp.1 C.2.2.2.2.2.1 (hts _ w1) (hts _ w2) (hts _ w3) hK.1 hW.1 hW.2 hS (fun q hq => Nat.le_trans hK.2.2.2.2.2.2.1 hq) hc hfs (by omega) (by omega) hd (fun q H1 r1 r2 r3 => ?_)
  rw [jws_push] at r1 r2
  have K := kk (va_up ad n q) (fun i hi => if_neg (Nat.ne_of_lt hi)) l p e R s m args below meth c H1 locs (cells + 1) (slots + N0) ls C (by omega) (by omega) ⟨r1, r2⟩ r3 hlh
  rwa [show va_up ad n q n = q from if_pos rfl] at K
theorem jRAi {s : State} {a b : ClassId} (h1 : va_RA s a .int) (h2 : va_RA s b .int) : a = b := Option.some.inj (Eq.trans (Eq.symm h1) h2)
theorem jRAo {s : State} {a b : ClassId} (h1 : va_RA s a (.array .int)) (h2 : va_RA s b (.array .int)) : a = b := Option.some.inj (Eq.trans (Eq.symm h1) h2)
theorem j_newI {N : Nat} (w1 : Cond.arrayClass .int ∈ TT) (hN : N ≤ 100000) (hd : decode M.2.1 pc = .ok (.newarray .int, 2)) (kk : ∀ ad' : Nat → Nat, (∀ i, i < n → ad' i = ad i) → J g M d bc bs (pc + 2) L (.ref (ad' n) :: st) (n + 1) ad' (va_up E n (aI g N (fun _ => 0))) Φ Ψ) : J g M d (bc + 1) (bs + N) pc L (.int (nI N) :: st) n ad E Φ Ψ := by
  intro l p e R s m args below meth c H locs cells slots ls C h1 h2 hW hS hlh
  have hts := C.2.2.2.2.2.2.1
  have hK := C.2.2.2.2.2.2.2.2.2.2.2.2
  refine va_newa (atype := .int) (ty := .int) (a0 := (N, .inl (fun _ => 0))) C.1 C.2.1 (hts _ w1) rfl hK.1 hW.1 hW.2 hS (fun q hq => Nat.le_trans hK.2.2.2.2.2.2.1 hq) (fun _ => rfl) (nI_pos (by omega)) (nI_clamp (by omega)) (by show N * 4 ≤ _; omega) (by omega) (by omega) hd (fun q cA H1 r0 r1 r2 r3 => ?_)
  obtain rfl : cA = g.2.2.1.1 := jRAi (r0.2 3 (cA, .int) rfl).2 (hK.1.2 0 _ rfl).2
  rw [jws_push] at r1 r2
  have K := kk (va_up ad n q) (fun i hi => if_neg (Nat.ne_of_lt hi)) l p e R s m args below meth c H1 locs (cells + 1) (slots + N) ls C (by omega) (by omega) ⟨r1, r2⟩ r3 hlh
  rwa [show va_up ad n q n = q from if_pos rfl] at K
/-- new int[N][K] -/
theorem j_newII {N K0 : Nat} (w1 : Cond.arrayClass .int ∈ TT) (w2 : Cond.classLink M.1.cls idx "[[I" ∈ TT) (hN : N ≤ 1000) (hK0 : K0 ≤ 1000) (hd : decode M.2.1 pc = .ok (.multianewarray idx 2, 4)) (kk : ∀ ad' : Nat → Nat, (∀ i, i < n → ad' i = ad i) → J g M d bc bs (pc + 4) L (.ref (ad' n) :: st) (n + 1 + N) ad' (fun k => if k < n then E k else if k = n then aO g N (fun i => if i < N then some (ad' (n + 1 + i)) else none) else aI g K0 (fun _ => 0)) Φ Ψ) : J g M d (bc + 1 + N) (bs + N + N * K0) pc L (.int (nI K0) :: .int (nI N) :: st) n ad E Φ Ψ := by
  intro l p e R s m args below meth c H locs cells slots ls C h1 h2 hW hS hlh
  have hts := C.2.2.2.2.2.2.1
  have hK := C.2.2.2.2.2.2.2.2.2.2.2.2
  have hP0 : va_P g.2.1 vwCl (jws n ad E ++ va_pl [] (fun _ => aI g K0 (fun _ => 0))) H := by
    show va_P g.2.1 vwCl (jws n ad E ++ []) H
    rw [List.append_nil]; exact hW.1
  have hD0 : va_D (jA g) (jws n ad E ++ va_pl [] (fun _ => aI g K0 (fun _ => 0))) := by
    show va_D (jA g) (jws n ad E ++ [])
    rw [List.append_nil]; exact hW.2
  refine va_mna (ty := .int) (cy := g.2.2.1.1) (z := (K0, .inl (fun _ => 0))) (N' := N) (K' := K0) C.1 C.2.1 C.2.2.2.2.2.1 (hts _ w2) hK.2.2.2.2.2.2.2.1.1 (hts _ w1) (hK.1.2 0 _ rfl).2 hK.1 hP0 hD0 hS (fun q hq => Nat.le_trans hK.2.2.2.2.2.2.1 hq) (nI_pos (by omega)) (nI_pos (by omega)) (nI_clamp (by omega)) (nI_clamp (by omega)) (by omega) (by show K0 * 4 ≤ _; omega) (by omega) rfl rfl (by omega) (by omega) (fun c => arrV_new c K0 (.int 0)) hd (fun q r cA H1 rinj rnot r0 r1 r2 r3 => ?_)
  obtain rfl : cA = g.2.2.1.2.2 := jRAo (r0.2 3 (cA, .array .int) rfl).2 (hK.1.2 2 _ rfl).2
  have hX : (jws n ad E ++ [(q, .inl (g.2.2.1.2.2, N, .inr (.inr (.inr (.inr (fun i => if i < N then some (r i) else none))))))]) ++ va_pl ([] ++ (List.range N).map r) (vr_up (fun _ => aI g K0 (fun _ => 0)) ((List.range N).map r) (.inl (g.2.2.1.1, (K0, .inl (fun _ => 0))))) = jws (n + 1 + N) (fun k => if k < n then ad k else if k = n then q else r (k - (n + 1))) (fun k => if k < n then E k else if k = n then aO g N (fun i => if i < N then some (r i) else none) else aI g K0 (fun _ => 0)) := by
    unfold jws
    rw [List.range_add, List.range_succ, List.map_append, List.map_append, List.map_map]
    congr 1
    · congr 1
      · apply List.map_congr_left
        intro k hk
        have := List.mem_range.mp hk
        simp [this]
      · simp
    · unfold va_pl
      rw [List.nil_append, List.map_map]
      apply List.map_congr_left
      intro k hk
      have hk' := List.mem_range.mp hk
      have e1 : ¬ (n + 1 + k < n) := by omega
      have e2 : ¬ (n + 1 + k = n) := by omega
      have e3 : n + 1 + k - (n + 1) = k := by omega
      simp only [Function.comp, e1, e2, e3, if_false]
      rw [vr_up_in (List.mem_map.mpr ⟨k, hk, rfl⟩)]
  rw [hX] at r1 r2
  have K := kk (fun k => if k < n then ad k else if k = n then q else r (k - (n + 1))) (fun i hi => if_pos hi) l p e R s m args below meth c H1 locs (cells + 1 + N) (slots + N + N * K0) ls C (by omega) (by omega) (jWd.congr ⟨r1, r2⟩ (fun _ _ => rfl) (fun k hk => ?_)) r3 hlh
  · simpa using K
  · have : (fun i => if i < N then some (r i) else none) = (fun i => if i < N then some (if n + 1 + i < n then ad (n + 1 + i) else if n + 1 + i = n then q else r (n + 1 + i - (n + 1))) else none) := by
      funext i
      have e1 : ¬ (n + 1 + i < n) := by omega
      have e2 : ¬ (n + 1 + i = n) := by omega
      have e3 : n + 1 + i - (n + 1) = i := by omega
      simp only [e1, e2, e3, if_false]
    rw [this]
/-! throw new X("text") -/
def jTh (own : String) (ik is ic : Nat) (cls text : String) (names : List String) : Prop := own = RX3 ∧ Bundle.fit cls = true ∧ (∀ x ∈ names, Bundle.fit x = true) ∧ Cond.classLink own ik cls ∈ TT ∧ Cond.initialized cls ∈ TT ∧ (is, text) ∈ jStr ∧ (∀ w ∈ vx_atS own ic cls names, w ∈ TT ∨ w ∈ NW) ∧ (∀ w ∈ Cond.classLink own ik cls :: Cond.initialized cls :: vx_atS own ic cls names, vx_ot w = true) ∧ names.length = 2
theorem jTh_hat {s : State} {args : Array Value} {own cls text : String} {ik is ic : Nat} {names : List String} (hts : ∀ w ∈ TT, w.before args s = true) (hK : jK g s) (f : jTh own ik is ic cls text names) : ∀ w ∈ vx_atS own ic cls names, w.before args s = true := fun w hw => by
  rcases f.2.2.2.2.2.2.1 w hw with h | h
  · exact hts w h
  · exact va_Nw.use (jNw_tab (List.mem_filter.mp h).2) (hK.2.2.2.2.2.2.2.2.1 w h)
theorem j_throw {ik is ic : Nat} {cls text : String} {names : List String} (f : jTh M.1.cls ik is ic cls text names) (hh : M.2.2.2.2 = []) (d0 : decode M.2.1 pc = .ok (.new ik, 3)) (d3 : decode M.2.1 (pc + 3) = .ok (.dup, 1)) (d4 : decode M.2.1 (pc + 4) = .ok (.ldc is, 2)) (d6 : decode M.2.1 (pc + 6) = .ok (.invokespecial ic, 3)) (d9 : decode M.2.1 (pc + 9) = .ok (.athrow, 1)) (hdep : 6 ≤ d) (hcat : (st.map fun v => v.category).sum ≤ 8) (h : Ψ cls n ad E) : J g M d (bc + 1) (bs + 6) pc L st n ad E Φ Ψ := by
  intro l p e R s m args below meth c H locs cells slots ls C h1 h2 hW hS hlh
  have hts := C.2.2.2.2.2.2.1
  have hK := C.2.2.2.2.2.2.2.2.2.2.2.2
  have hdR := C.2.2.2.2.2.2.2.2.2.2.1
  have hlR := C.2.2.2.2.2.2.2.2.2.2.2.1
  have hlen := f.2.2.2.2.2.2.2.2
  refine vx_throwS (cls := cls) (text := text) (names := names) (sa := g.2.2.2 is) C.1 C.2.1 C.2.2.2.2.2.2.2.2.2.1 C.2.2.2.2.2.1 f.2.1 f.2.2.1 (hts _ f.2.2.2.1) (hts _ f.2.2.2.2.1) (by rw [f.1]; exact hK.2.1 _ f.2.2.2.2.2.1) (jTh_hat hts hK f) f.2.2.2.2.2.2.2.1 hK.2.2.1 hK.2.2.2.1 hS (hlh.1.trans C.2.2.1.symm) d0 d3 d4 d6 d9 ?_ (by omega) (by rw [hlen]; omega) (by omega) (by omega) C.2.2.2.2.1 (fun t _ hz hq => ⟨⟨n, ad, E, h, ?_⟩, ?_⟩) hS.2.2 (by omega) (by omega)
  · have := C.2.2.2.2.2.2.2.1.resolve_left (by rw [hh]; exact fun z => by cases z)
    rw [hh] at this
    intro x hx
    rw [this] at hx
    cases hx
  · exact ⟨hW.1.kept (fun k q hk => hq q.1 ((hW.1 k q hk).lt)), hW.2⟩
  · exact ⟨Nat.le_trans hS.1 hz, fun q h1 h2 => (hq q (Nat.lt_of_lt_of_le h1 hS.1)).trans (hS.2.1 q h1 h2)⟩
theorem j_throwW {ik is ic : Nat} {cls text : String} {names : List String} (f : jTh M.1.cls ik is ic cls text names) (hh : M.2.2.2.2 = []) (d0 : decode M.2.1 pc = .ok (.new ik, 3)) (d3 : decode M.2.1 (pc + 3) = .ok (.dup, 1)) (d4 : decode M.2.1 (pc + 4) = .ok (.ldc_w is, 3)) (d6 : decode M.2.1 (pc + 7) = .ok (.invokespecial ic, 3)) (d9 : decode M.2.1 (pc + 10) = .ok (.athrow, 1)) (hdep : 6 ≤ d) (hcat : (st.map fun v => v.category).sum ≤ 8) (h : Ψ cls n ad E) : J g M d (bc + 1) (bs + 6) pc L st n ad E Φ Ψ := by
  intro l p e R s m args below meth c H locs cells slots ls C h1 h2 hW hS hlh
  have hts := C.2.2.2.2.2.2.1
  have hK := C.2.2.2.2.2.2.2.2.2.2.2.2
  have hdR := C.2.2.2.2.2.2.2.2.2.2.1
  have hlR := C.2.2.2.2.2.2.2.2.2.2.2.1
  have hlen := f.2.2.2.2.2.2.2.2
  refine vx_throwSW (cls := cls) (text := text) (names := names) (sa := g.2.2.2 is) C.1 C.2.1 C.2.2.2.2.2.2.2.2.2.1 C.2.2.2.2.2.1 f.2.1 f.2.2.1 (hts _ f.2.2.2.1) (hts _ f.2.2.2.2.1) (by rw [f.1]; exact hK.2.1 _ f.2.2.2.2.2.1) (jTh_hat hts hK f) f.2.2.2.2.2.2.2.1 hK.2.2.1 hK.2.2.2.1 hS (hlh.1.trans C.2.2.1.symm) d0 d3 d4 d6 d9 ?_ (by omega) (by rw [hlen]; omega) (by omega) (by omega) C.2.2.2.2.1 (fun t _ hz hq => ⟨⟨n, ad, E, h, ?_⟩, ?_⟩) hS.2.2 (by omega) (by omega)
  · have := C.2.2.2.2.2.2.2.1.resolve_left (by rw [hh]; exact fun z => by cases z)
    rw [hh] at this
    intro x hx
    rw [this] at hx
    cases hx
  · exact ⟨hW.1.kept (fun k q hk => hq q.1 ((hW.1 k q hk).lt)), hW.2⟩
  · exact ⟨Nat.le_trans hS.1 hz, fun q h1 h2 => (hq q (Nat.lt_of_lt_of_le h1 hS.1)).trans (hS.2.1 q h1 h2)⟩
end JCALL
