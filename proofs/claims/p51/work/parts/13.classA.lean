/-! The class: what its object holds, its checks and its questions. -/
theorem wat.up {g : jG} {n : Nat} {ad : Nat → Nat} {E : Nat → va_E} {w iL iE F S k : Nat} {su : Int32} {lv ed : Nat → Int32} {e : va_E} (W : wat g n ad E w iL iE F S su lv ed) (h1 : w ≠ k) (h2 : iL ≠ k) (h3 : iE ≠ k) : wat g n ad (va_up E k e) w iL iE F S su lv ed := W.kept (up_ne h1) (up_ne h2) (up_ne h3)
theorem rws.up {g : jG} {n : Nat} {ad : Nat → Nat} {E : Nat → va_E} {rw iO base lim old cnt k : Nat} {rows : Nat → Nat → Int32} {e : va_E} (W : rws g n ad E rw iO base lim old cnt rows) (h1 : rw ≠ k) (h2 : iO ≠ k) (h3 : ∀ i, i < lim → base + i ≠ k) : rws g n ad (va_up E k e) rw iO base lim old cnt rows := W.kept (up_ne h1) (up_ne h2) (fun i hi => up_ne (h3 i hi))
theorem frs.kept {g : jG} {n : Nat} {ad : Nat → Nat} {E E' : Nat → va_E} {fp iH base fc : Nat} {Hm : Nat → Nat → Int32} (W : frs g n ad E fp iH base fc Hm) (h1 : E' fp = E fp) (h2 : E' iH = E iH) (h3 : ∀ i, i < 8 → E' (base + i) = E (base + i)) : frs g n ad E' fp iH base fc Hm := by
  obtain ⟨q1, q2, q3, q4, q5, q6⟩ := W
  exact ⟨q1, q2, h1.trans q3, h2.trans q4, fun i hi => (h3 i hi).trans (q5 i hi), q6⟩
theorem frs.up {g : jG} {n : Nat} {ad : Nat → Nat} {E : Nat → va_E} {fp iH base fc k : Nat} {Hm : Nat → Nat → Int32} {e : va_E} (W : frs g n ad E fp iH base fc Hm) (h1 : fp ≠ k) (h2 : iH ≠ k) (h3 : ∀ i, i < 8 → base + i ≠ k) : frs g n ad (va_up E k e) fp iH base fc Hm := W.kept (up_ne h1) (up_ne h2) (fun i hi => up_ne (h3 i hi))
/-- the object at the places 0 to 62, and what it says -/
def CR (g : jG) (n : Nat) (ad : Nat → Nat) (E : Nat → va_E) (F S : Nat) (hrs su : Int32) (gone : Int64) (lv ed : Nat → Int32) (old cnt : Nat) (dr : Nat → Nat → Int32) (mc : Nat) (mr : Nat → Nat → Int32) : Prop :=
  E 0 = .inr (3, [.ref (ad 1), .ref (ad 4), .ref (ad 7), .ref (ad 39), .ref (ad 53), .int hrs, .long gone]) ∧ wat g n ad E 1 2 3 F S su lv ed ∧ (∃ F' S' su' lv' ed', wat g n ad E 4 5 6 F' S' su' lv' ed') ∧ rws g n ad E 7 8 9 30 old cnt dr ∧ rws g n ad E 39 40 41 12 0 mc mr ∧ (∃ fc Hm, frs g n ad E 53 54 55 fc Hm) ∧ 1 ≤ F ∧ 1 ≤ S ∧ 63 ≤ n
section CRL
variable {g : jG} {n : Nat} {ad : Nat → Nat} {E E' : Nat → va_E} {F S F' S' : Nat} {hrs su hrs' su' : Int32} {gone gone' : Int64} {lv ed lv' ed' : Nat → Int32} {old cnt mc old' cnt' mc' : Nat} {dr mr dr' mr' : Nat → Nat → Int32}
theorem CR.setLv (C : CR g n ad E F S hrs su gone lv ed old cnt dr mc mr) : CR g n ad (va_up E 2 (aI g 128 lv')) F S hrs su gone lv' ed old cnt dr mc mr := by
  obtain ⟨h0, W, ⟨_, _, _, _, _, T⟩, Z, Y, ⟨_, _, P⟩, r⟩ := C
  exact ⟨(up_ne (by decide)).trans h0, W.setL, ⟨_, _, _, _, _, T.up (by decide) (by decide) (by decide)⟩, Z.up (by decide) (by decide) (fun i hi => by omega), Y.up (by decide) (by decide) (fun i hi => by omega), ⟨_, _, P.up (by decide) (by decide) (fun i hi => by omega)⟩, r⟩
theorem CR.setEd (C : CR g n ad E F S hrs su gone lv ed old cnt dr mc mr) : CR g n ad (va_up E 3 (aI g 16 ed')) F S hrs su gone lv ed' old cnt dr mc mr := by
  obtain ⟨h0, W, ⟨_, _, _, _, _, T⟩, Z, Y, ⟨_, _, P⟩, r⟩ := C
  exact ⟨(up_ne (by decide)).trans h0, W.setE, ⟨_, _, _, _, _, T.up (by decide) (by decide) (by decide)⟩, Z.up (by decide) (by decide) (fun i hi => by omega), Y.up (by decide) (by decide) (fun i hi => by omega), ⟨_, _, P.up (by decide) (by decide) (fun i hi => by omega)⟩, r⟩
theorem CR.setW (C : CR g n ad E F S hrs su gone lv ed old cnt dr mc mr) (hF : F' ≤ 8) (hS : S' ≤ 16) (hF1 : 1 ≤ F') (hS1 : 1 ≤ S') : CR g n ad (va_up E 1 (.inr (2, [.ref (ad 2), .ref (ad 3), .int (nI F'), .int (nI S'), .int su']))) F' S' hrs su' gone lv ed old cnt dr mc mr := by
  obtain ⟨h0, W, ⟨_, _, _, _, _, T⟩, Z, Y, ⟨_, _, P⟩, r1, r2, r3⟩ := C
  exact ⟨(up_ne (by decide)).trans h0, W.setW hF hS, ⟨_, _, _, _, _, T.up (by decide) (by decide) (by decide)⟩, Z.up (by decide) (by decide) (fun i hi => by omega), Y.up (by decide) (by decide) (fun i hi => by omega), ⟨_, _, P.up (by decide) (by decide) (fun i hi => by omega)⟩, hF1, hS1, r3⟩
theorem CR.setTop (C : CR g n ad E F S hrs su gone lv ed old cnt dr mc mr) : CR g n ad (va_up E 0 (.inr (3, [.ref (ad 1), .ref (ad 4), .ref (ad 7), .ref (ad 39), .ref (ad 53), .int hrs', .long gone']))) F S hrs' su gone' lv ed old cnt dr mc mr := by
  obtain ⟨h0, W, ⟨_, _, _, _, _, T⟩, Z, Y, ⟨_, _, P⟩, r⟩ := C
  exact ⟨up_eq, W.up (by decide) (by decide) (by decide), ⟨_, _, _, _, _, T.up (by decide) (by decide) (by decide)⟩, Z.up (by decide) (by decide) (fun i hi => by omega), Y.up (by decide) (by decide) (fun i hi => by omega), ⟨_, _, P.up (by decide) (by decide) (fun i hi => by omega)⟩, r⟩
theorem CR.setDeeds (C : CR g n ad E F S hrs su gone lv ed old cnt dr mc mr) (Z' : rws g n ad E' 7 8 9 30 old' cnt' dr') (h : ∀ k, k < 7 ∨ k = 8 ∨ 39 ≤ k → E' k = E k) : CR g n ad E' F S hrs su gone lv ed old' cnt' dr' mc mr := by
  obtain ⟨h0, W, ⟨_, _, _, _, _, T⟩, Z, Y, ⟨_, _, P⟩, r⟩ := C
  exact ⟨(h 0 (by omega)).trans h0, W.kept (h _ (by omega)) (h _ (by omega)) (h _ (by omega)), ⟨_, _, _, _, _, T.kept (h _ (by omega)) (h _ (by omega)) (h _ (by omega))⟩, Z', Y.kept (h _ (by omega)) (h _ (by omega)) (fun i hi => h _ (by omega)), ⟨_, _, P.kept (h _ (by omega)) (h _ (by omega)) (fun i hi => h _ (by omega))⟩, r⟩
theorem CR.setMarks (C : CR g n ad E F S hrs su gone lv ed old cnt dr mc mr) (Y' : rws g n ad E' 39 40 41 12 0 mc' mr') (h : ∀ k, k < 39 ∨ 53 ≤ k → E' k = E k) : CR g n ad E' F S hrs su gone lv ed old cnt dr mc' mr' := by
  obtain ⟨h0, W, ⟨_, _, _, _, _, T⟩, Z, Y, ⟨_, _, P⟩, r⟩ := C
  exact ⟨(h 0 (by omega)).trans h0, W.kept (h _ (by omega)) (h _ (by omega)) (h _ (by omega)), ⟨_, _, _, _, _, T.kept (h _ (by omega)) (h _ (by omega)) (h _ (by omega))⟩, Z.kept (h _ (by omega)) (h _ (by omega)) (fun i hi => h _ (by omega)), Y', ⟨_, _, P.kept (h _ (by omega)) (h _ (by omega)) (fun i hi => h _ (by omega))⟩, r⟩
theorem CR.setTrial (C : CR g n ad E F S hrs su gone lv ed old cnt dr mc mr) (T' : wat g n ad E' 4 5 6 F' S' su' lv' ed') (h : ∀ k, k < 4 ∨ 7 ≤ k → E' k = E k) : CR g n ad E' F S hrs su gone lv ed old cnt dr mc mr := by
  obtain ⟨h0, W, ⟨_, _, _, _, _, T⟩, Z, Y, ⟨_, _, P⟩, r⟩ := C
  exact ⟨(h 0 (by omega)).trans h0, W.kept (h _ (by omega)) (h _ (by omega)) (h _ (by omega)), ⟨_, _, _, _, _, T'⟩, Z.kept (h _ (by omega)) (h _ (by omega)) (fun i hi => h _ (by omega)), Y.kept (h _ (by omega)) (h _ (by omega)) (fun i hi => h _ (by omega)), ⟨_, _, P.kept (h _ (by omega)) (h _ (by omega)) (fun i hi => h _ (by omega))⟩, r⟩
theorem CR.setPairs {fc' : Nat} {Hm' : Nat → Nat → Int32} (C : CR g n ad E F S hrs su gone lv ed old cnt dr mc mr) (P' : frs g n ad E' 53 54 55 fc' Hm') (h : ∀ k, k < 53 ∨ 63 ≤ k → E' k = E k) : CR g n ad E' F S hrs su gone lv ed old cnt dr mc mr := by
  obtain ⟨h0, W, ⟨_, _, _, _, _, T⟩, Z, Y, P, r⟩ := C
  exact ⟨(h 0 (by omega)).trans h0, W.kept (h _ (by omega)) (h _ (by omega)) (h _ (by omega)), ⟨_, _, _, _, _, T.kept (h _ (by omega)) (h _ (by omega)) (h _ (by omega))⟩, Z.kept (h _ (by omega)) (h _ (by omega)) (fun i hi => h _ (by omega)), Y.kept (h _ (by omega)) (h _ (by omega)) (fun i hi => h _ (by omega)), ⟨_, _, P'⟩, r⟩
theorem CR.kept (C : CR g n ad E F S hrs su gone lv ed old cnt dr mc mr) (h : ∀ k, k < 63 → E' k = E k) : CR g n ad E' F S hrs su gone lv ed old cnt dr mc mr := by
  obtain ⟨h0, W, ⟨_, _, _, _, _, T⟩, Z, Y, ⟨_, _, P⟩, r⟩ := C
  exact ⟨(h 0 (by omega)).trans h0, W.kept (h _ (by omega)) (h _ (by omega)) (h _ (by omega)), ⟨_, _, _, _, _, T.kept (h _ (by omega)) (h _ (by omega)) (h _ (by omega))⟩, Z.kept (h _ (by omega)) (h _ (by omega)) (fun i hi => h _ (by omega)), Y.kept (h _ (by omega)) (h _ (by omega)) (fun i hi => h _ (by omega)), ⟨_, _, P.kept (h _ (by omega)) (h _ (by omega)) (fun i hi => h _ (by omega))⟩, r⟩
theorem CR.more (C : CR g n ad E F S hrs su gone lv ed old cnt dr mc mr) {n' : Nat} (h : n ≤ n') : CR g n' ad E F S hrs su gone lv ed old cnt dr mc mr := by
  obtain ⟨h0, ⟨⟨a1, a2, a3⟩, W⟩, ⟨_, _, _, _, _, ⟨b1, b2, b3⟩, T⟩, ⟨⟨c1, c2, c3⟩, Z⟩, ⟨⟨d1, d2, d3⟩, Y⟩, ⟨_, _, ⟨e1, e2, e3⟩, P⟩, r1, r2, r3⟩ := C
  exact ⟨h0, ⟨⟨by omega, by omega, by omega⟩, W⟩, ⟨_, _, _, _, _, ⟨by omega, by omega, by omega⟩, T⟩, ⟨⟨by omega, by omega, by omega⟩, Z⟩, ⟨⟨by omega, by omega, by omega⟩, Y⟩, ⟨_, _, ⟨by omega, by omega, by omega⟩, P⟩, r1, r2, by omega⟩
end CRL
section JP
variable {g : jG} {M M' : jM} {d bc bs d' pc nA idx : Nat} {L : List (Option Value)} {st rest As : List Value} {n : Nat} {ad : Nat → Nat} {E : Nat → va_E} {Φ : Option Value → jR} {Ψ : String → jR}
/-- M, called so, answers v and leaves some world of which P holds -/
def RetP (g : jG) (M : jM) (d : Nat) (As : List Value) (n : Nat) (ad : Nat → Nat) (E : Nat → va_E) (v : Option Value) (P : (Nat → va_E) → Prop) : Prop := ∀ (Φ : Option Value → jR) (Ψ : String → jR), (∀ E', P E' → Φ v n ad E') → JE g M d 0 0 As n ad E Φ Ψ
theorem RetP.dep {v : Option Value} {P : (Nat → va_E) → Prop} (h : RetP g M d' As n ad E v P) (q : d' ≤ d) : RetP g M d As n ad E v P := fun Φ Ψ p => j_dep q (h Φ Ψ p)
theorem j_cVp {k ci N0 : Nat} {T0 : u_T} {fs : List Value} {v : Option Value} {P : (Nat → va_E) → Prop} (f : jYm M' nA) (fi : Cond.instanceMethod M'.1 ∈ TT) (fs' : Cond.selects M'.1.cls M'.1 M'.1 ∈ TT) (hh : M'.2.2.2.2 = []) (hl : Cond.methodLink M.1.cls idx M'.1 ∈ TT) (hcl : vwCl[ci]? = some (M'.1.cls, T0, N0)) (hd : decode M.2.1 pc = .ok (.invokevirtual idx, 3)) (hdep : d' + 1 ≤ d) (hk : k < n) (hE : E k = .inr (ci, fs)) (hA : As.length = nA) (hst : As.reverse ++ .ref (ad k) :: rest = st) (hcat : (rest.map fun v => v.category).sum ≤ 8) (hnL : (lg_sl (.ref (ad k) :: As)).length ≤ M'.2.2.1)
    (hJ : RetP g M' d' (.ref (ad k) :: As) n ad E v P) (kk : ∀ E', P E' → J g M d bc bs (pc + 3) L (v.toList ++ rest) n ad E' Φ Ψ) : J g M d bc bs pc L st n ad E Φ Ψ := by
  have h := j_callV (bc := bc) (bs := bs) (L := L) (Φ := Φ) (Ψ := Ψ) (Ψ' := fun _ _ _ _ => False) f fi fs' hh hl hcl hd hdep hk hE hA hst hcat hnL (hJ (fun v' n' ad' E'' => v' = v ∧ n' = n ∧ ad' = ad ∧ P E'') _ (fun E' p => ⟨rfl, rfl, rfl, p⟩)) (fun v' n' ad' E'' q => by obtain ⟨rfl, rfl, rfl, q⟩ := q; exact kk E'' q) (fun _ _ _ _ q => q.elim)
  rwa [Nat.zero_add, Nat.zero_add] at h
end JP
/-- an argument that is no number below c -/
def oob (x : Int32) (c : Nat) : Prop := x < 0 ∨ nI c ≤ x
theorem oob_or (x : Int32) {c : Nat} (hc : c < 2 ^ 31) : oob x c ∨ ∃ j : Nat, j < c ∧ x = nI j := by
  rcases pk_ix x hc with h | h | h
  · exact Or.inl (Or.inl h)
  · exact Or.inl (Or.inr h)
  · exact Or.inr h
theorem not_oob {j c : Nat} (h : j < c) (hc : c < 2 ^ 31) : ¬ oob (nI j) c := by
  rintro (q | q)
  · exact nI_pos (by omega) q
  · exact nI_ge h hc q
set_option maxRecDepth 100000 in
set_option maxHeartbeats 4000000 in
theorem s_checkIndex_ok {g : jG} {n : Nat} {ad : Nat → Nat} {E : Nat → va_E} (j c : Nat) (hj : j < c) (hc : c < 2 ^ 31) : Ret g mX3_checkIndex 6 [.int (nI j), .int (nI c)] n ad E none E := by
  intro Φ Ψ h
  show J g mX3_checkIndex 6 0 0 0 [some (.int (nI j)), some (.int (nI c))] [] n ad E Φ Ψ
  refine j_iload_n dX3_checkIndex_0 rfl ?_
  refine j_if_lt_f (tgt := 9) dX3_checkIndex_1 (by decide) (nI_pos (by omega)) ?_
  refine j_iload_n dX3_checkIndex_4 rfl ?_
  refine j_iload_n dX3_checkIndex_5 rfl ?_
  refine j_icmp_lt_t (tgt := 20) dX3_checkIndex_6 (by decide) (nI_lt' (by omega) (by omega) (by omega)) ?_
  exact j_vret dX3_checkIndex_20 rfl h
set_option maxRecDepth 100000 in
set_option maxHeartbeats 4000000 in
theorem s_checkIndex_bad {g : jG} {n : Nat} {ad : Nat → Nat} {E : Nat → va_E} (x : Int32) (c : Nat) (hx : oob x c) : Thr g mX3_checkIndex 6 [.int x, .int (nI c)] n ad E "java/lang/IndexOutOfBoundsException" := by
  intro Φ Ψ h
  show J g mX3_checkIndex 6 1 6 0 [some (.int x), some (.int (nI c))] [] n ad E Φ Ψ
  by_cases q : x < 0
  · skip
    refine j_iload_n dX3_checkIndex_0 rfl ?_
    refine j_if_lt_t (tgt := 9) dX3_checkIndex_1 (by decide) q ?_
    exact j_throwW (bc := 0) (bs := 0) th_290 rfl dX3_checkIndex_9 dX3_checkIndex_12 dX3_checkIndex_13 dX3_checkIndex_16 dX3_checkIndex_19 (by decide) (Nat.le_of_ble_eq_true rfl) h
  · skip
    refine j_iload_n dX3_checkIndex_0 rfl ?_
    refine j_if_lt_f (tgt := 9) dX3_checkIndex_1 (by decide) q ?_
    refine j_iload_n dX3_checkIndex_4 rfl ?_
    refine j_iload_n dX3_checkIndex_5 rfl ?_
    refine j_icmp_lt_f (tgt := 20) dX3_checkIndex_6 (by decide) (fun r => (hx.resolve_left q) |> fun u => absurd (Int32.lt_iff_toInt_lt.mp r) (Int.not_lt.mpr (Int32.le_iff_toInt_le.mp u))) ?_
    exact j_throwW (bc := 0) (bs := 0) th_290 rfl dX3_checkIndex_9 dX3_checkIndex_12 dX3_checkIndex_13 dX3_checkIndex_16 dX3_checkIndex_19 (by decide) (Nat.le_of_ble_eq_true rfl) h
set_option maxRecDepth 100000 in
set_option maxHeartbeats 4000000 in
theorem s_checkNumber_ok {g : jG} {n : Nat} {ad : Nat → Nat} {E : Nat → va_E} (x a b : Int32) (h1 : ¬ x < a) (h2 : x ≤ b) : Ret g mX3_checkNumber 6 [.int x, .int a, .int b] n ad E none E := by
  intro Φ Ψ h
  show J g mX3_checkNumber 6 0 0 0 [some (.int x), some (.int a), some (.int b)] [] n ad E Φ Ψ
  refine j_iload_n dX3_checkNumber_0 rfl ?_
  refine j_iload_n dX3_checkNumber_1 rfl ?_
  refine j_icmp_lt_f (tgt := 10) dX3_checkNumber_2 (by decide) h1 ?_
  refine j_iload_n dX3_checkNumber_5 rfl ?_
  refine j_iload_n dX3_checkNumber_6 rfl ?_
  refine j_icmp_le_t (tgt := 21) dX3_checkNumber_7 (by decide) h2 ?_
  exact j_vret dX3_checkNumber_21 rfl h
set_option maxRecDepth 100000 in
set_option maxHeartbeats 4000000 in
theorem s_checkNumber_bad {g : jG} {n : Nat} {ad : Nat → Nat} {E : Nat → va_E} (x a b : Int32) (hx : x < a ∨ ¬ x ≤ b) : Thr g mX3_checkNumber 6 [.int x, .int a, .int b] n ad E "java/lang/IllegalArgumentException" := by
  intro Φ Ψ h
  show J g mX3_checkNumber 6 1 6 0 [some (.int x), some (.int a), some (.int b)] [] n ad E Φ Ψ
  by_cases q : x < a
  · skip
    refine j_iload_n dX3_checkNumber_0 rfl ?_
    refine j_iload_n dX3_checkNumber_1 rfl ?_
    refine j_icmp_lt_t (tgt := 10) dX3_checkNumber_2 (by decide) q ?_
    exact j_throwW (bc := 0) (bs := 0) th_294 rfl dX3_checkNumber_10 dX3_checkNumber_13 dX3_checkNumber_14 dX3_checkNumber_17 dX3_checkNumber_20 (by decide) (Nat.le_of_ble_eq_true rfl) h
  · skip
    refine j_iload_n dX3_checkNumber_0 rfl ?_
    refine j_iload_n dX3_checkNumber_1 rfl ?_
    refine j_icmp_lt_f (tgt := 10) dX3_checkNumber_2 (by decide) q ?_
    refine j_iload_n dX3_checkNumber_5 rfl ?_
    refine j_iload_n dX3_checkNumber_6 rfl ?_
    refine j_icmp_le_f (tgt := 21) dX3_checkNumber_7 (by decide) (hx.resolve_left q) ?_
    exact j_throwW (bc := 0) (bs := 0) th_294 rfl dX3_checkNumber_10 dX3_checkNumber_13 dX3_checkNumber_14 dX3_checkNumber_17 dX3_checkNumber_20 (by decide) (Nat.le_of_ble_eq_true rfl) h
set_option maxRecDepth 100000 in
set_option maxHeartbeats 4000000 in
theorem s_checkFlight_ok {g : jG} {n : Nat} {ad : Nat → Nat} {E : Nat → va_E} {F S : Nat} {hrs su : Int32} {gone : Int64} {lv ed : Nat → Int32} {old cnt mc : Nat} {dr mr : Nat → Nat → Int32} (C : CR g n ad E F S hrs su gone lv ed old cnt dr mc mr) (j : Nat) (hj : j < F) : Ret g mX3_checkFlight 7 [.ref (ad 0), .int (nI j)] n ad E none E := by
  obtain ⟨h0, W, ⟨F4, S4, su4, lv4, ed4, T⟩, Z, Y, ⟨fc, Hm, P⟩, hFp, hSp, hn⟩ := id C
  obtain ⟨-, -, hw, hL, hE, hF, hS⟩ := id W
  obtain ⟨-, -, hz, hzO, hzr, -, -, hold, hcnt⟩ := id Z
  obtain ⟨-, -, hy, hyO, hyr, -, -, -, hmc⟩ := id Y
  intro Φ Ψ h
  show J g mX3_checkFlight 7 0 0 0 [some (.ref (ad 0)), some (.int (nI j))] [] n ad E Φ Ψ
  refine j_iload_n dX3_checkFlight_0 rfl ?_
  refine j_aload_n dX3_checkFlight_1 rfl ?_
  refine j_get fl_X3_12 dX3_checkFlight_2 (by omega) h0 rfl ?_
  refine j_get fl_X3_148 dX3_checkFlight_5 (by omega) hw rfl ?_
  refine j_cS (As := [.int (nI j), .int (nI F)]) (rest := []) cm_X3_checkIndex ct_X3_checkIndex ln_X3_177 dX3_checkFlight_8 (d' := 6) (by decide) rfl rfl (Nat.le_of_ble_eq_true rfl) (Nat.le_of_ble_eq_true rfl) (s_checkIndex_ok j F hj (by omega)) ?_
  exact j_vret dX3_checkFlight_11 rfl h
set_option maxRecDepth 100000 in
set_option maxHeartbeats 4000000 in
theorem s_checkFlight_bad {g : jG} {n : Nat} {ad : Nat → Nat} {E : Nat → va_E} {F S : Nat} {hrs su : Int32} {gone : Int64} {lv ed : Nat → Int32} {old cnt mc : Nat} {dr mr : Nat → Nat → Int32} (C : CR g n ad E F S hrs su gone lv ed old cnt dr mc mr) (x : Int32) (hx : oob x F) : Thr g mX3_checkFlight 7 [.ref (ad 0), .int x] n ad E "java/lang/IndexOutOfBoundsException" := by
  obtain ⟨h0, W, ⟨F4, S4, su4, lv4, ed4, T⟩, Z, Y, ⟨fc, Hm, P⟩, hFp, hSp, hn⟩ := id C
  obtain ⟨-, -, hw, hL, hE, hF, hS⟩ := id W
  obtain ⟨-, -, hz, hzO, hzr, -, -, hold, hcnt⟩ := id Z
  obtain ⟨-, -, hy, hyO, hyr, -, -, -, hmc⟩ := id Y
  intro Φ Ψ h
  show J g mX3_checkFlight 7 1 6 0 [some (.ref (ad 0)), some (.int x)] [] n ad E Φ Ψ
  refine j_iload_n dX3_checkFlight_0 rfl ?_
  refine j_aload_n dX3_checkFlight_1 rfl ?_
  refine j_get fl_X3_12 dX3_checkFlight_2 (by omega) h0 rfl ?_
  refine j_get fl_X3_148 dX3_checkFlight_5 (by omega) hw rfl ?_
  exact j_cSx (As := [.int x, .int (nI F)]) (rest := []) cm_X3_checkIndex ct_X3_checkIndex ln_X3_177 dX3_checkFlight_8 (d' := 6) (by decide) rfl rfl (Nat.le_of_ble_eq_true rfl) (Nat.le_of_ble_eq_true rfl) (s_checkIndex_bad x F hx) (jMeets_out rfl h)
set_option maxRecDepth 100000 in
set_option maxHeartbeats 4000000 in
theorem s_checkStep_ok {g : jG} {n : Nat} {ad : Nat → Nat} {E : Nat → va_E} {F S : Nat} {hrs su : Int32} {gone : Int64} {lv ed : Nat → Int32} {old cnt mc : Nat} {dr mr : Nat → Nat → Int32} (C : CR g n ad E F S hrs su gone lv ed old cnt dr mc mr) (j : Nat) (hj : j < S) : Ret g mX3_checkStep 7 [.ref (ad 0), .int (nI j)] n ad E none E := by
  obtain ⟨h0, W, ⟨F4, S4, su4, lv4, ed4, T⟩, Z, Y, ⟨fc, Hm, P⟩, hFp, hSp, hn⟩ := id C
  obtain ⟨-, -, hw, hL, hE, hF, hS⟩ := id W
  obtain ⟨-, -, hz, hzO, hzr, -, -, hold, hcnt⟩ := id Z
  obtain ⟨-, -, hy, hyO, hyr, -, -, -, hmc⟩ := id Y
  intro Φ Ψ h
  show J g mX3_checkStep 7 0 0 0 [some (.ref (ad 0)), some (.int (nI j))] [] n ad E Φ Ψ
  refine j_iload_n dX3_checkStep_0 rfl ?_
  refine j_aload_n dX3_checkStep_1 rfl ?_
  refine j_get fl_X3_12 dX3_checkStep_2 (by omega) h0 rfl ?_
  refine j_get fl_X3_77 dX3_checkStep_5 (by omega) hw rfl ?_
  refine j_cS (As := [.int (nI j), .int (nI S)]) (rest := []) cm_X3_checkIndex ct_X3_checkIndex ln_X3_177 dX3_checkStep_8 (d' := 6) (by decide) rfl rfl (Nat.le_of_ble_eq_true rfl) (Nat.le_of_ble_eq_true rfl) (s_checkIndex_ok j S hj (by omega)) ?_
  exact j_vret dX3_checkStep_11 rfl h
set_option maxRecDepth 100000 in
set_option maxHeartbeats 4000000 in
theorem s_checkStep_bad {g : jG} {n : Nat} {ad : Nat → Nat} {E : Nat → va_E} {F S : Nat} {hrs su : Int32} {gone : Int64} {lv ed : Nat → Int32} {old cnt mc : Nat} {dr mr : Nat → Nat → Int32} (C : CR g n ad E F S hrs su gone lv ed old cnt dr mc mr) (x : Int32) (hx : oob x S) : Thr g mX3_checkStep 7 [.ref (ad 0), .int x] n ad E "java/lang/IndexOutOfBoundsException" := by
  obtain ⟨h0, W, ⟨F4, S4, su4, lv4, ed4, T⟩, Z, Y, ⟨fc, Hm, P⟩, hFp, hSp, hn⟩ := id C
  obtain ⟨-, -, hw, hL, hE, hF, hS⟩ := id W
  obtain ⟨-, -, hz, hzO, hzr, -, -, hold, hcnt⟩ := id Z
  obtain ⟨-, -, hy, hyO, hyr, -, -, -, hmc⟩ := id Y
  intro Φ Ψ h
  show J g mX3_checkStep 7 1 6 0 [some (.ref (ad 0)), some (.int x)] [] n ad E Φ Ψ
  refine j_iload_n dX3_checkStep_0 rfl ?_
  refine j_aload_n dX3_checkStep_1 rfl ?_
  refine j_get fl_X3_12 dX3_checkStep_2 (by omega) h0 rfl ?_
  refine j_get fl_X3_77 dX3_checkStep_5 (by omega) hw rfl ?_
  exact j_cSx (As := [.int x, .int (nI S)]) (rest := []) cm_X3_checkIndex ct_X3_checkIndex ln_X3_177 dX3_checkStep_8 (d' := 6) (by decide) rfl rfl (Nat.le_of_ble_eq_true rfl) (Nat.le_of_ble_eq_true rfl) (s_checkIndex_bad x S hx) (jMeets_out rfl h)
set_option maxRecDepth 100000 in
set_option maxHeartbeats 4000000 in
theorem s_checkMark_ok {g : jG} {n : Nat} {ad : Nat → Nat} {E : Nat → va_E} {F S : Nat} {hrs su : Int32} {gone : Int64} {lv ed : Nat → Int32} {old cnt mc : Nat} {dr mr : Nat → Nat → Int32} (C : CR g n ad E F S hrs su gone lv ed old cnt dr mc mr) (j : Nat) (hj : j < mc) : Ret g mX3_checkMark 7 [.ref (ad 0), .int (nI j)] n ad E none E := by
  obtain ⟨h0, W, ⟨F4, S4, su4, lv4, ed4, T⟩, Z, Y, ⟨fc, Hm, P⟩, hFp, hSp, hn⟩ := id C
  obtain ⟨-, -, hw, hL, hE, hF, hS⟩ := id W
  obtain ⟨-, -, hz, hzO, hzr, -, -, hold, hcnt⟩ := id Z
  obtain ⟨-, -, hy, hyO, hyr, -, -, -, hmc⟩ := id Y
  intro Φ Ψ h
  show J g mX3_checkMark 7 0 0 0 [some (.ref (ad 0)), some (.int (nI j))] [] n ad E Φ Ψ
  refine j_iload_n dX3_checkMark_0 rfl ?_
  refine j_aload_n dX3_checkMark_1 rfl ?_
  refine j_get fl_X3_28 dX3_checkMark_2 (by omega) h0 rfl ?_
  refine j_get fl_X3_89 dX3_checkMark_5 (by omega) hy rfl ?_
  refine j_cS (As := [.int (nI j), .int (nI mc)]) (rest := []) cm_X3_checkIndex ct_X3_checkIndex ln_X3_177 dX3_checkMark_8 (d' := 6) (by decide) rfl rfl (Nat.le_of_ble_eq_true rfl) (Nat.le_of_ble_eq_true rfl) (s_checkIndex_ok j mc hj (by omega)) ?_
  exact j_vret dX3_checkMark_11 rfl h
set_option maxRecDepth 100000 in
set_option maxHeartbeats 4000000 in
theorem s_checkMark_bad {g : jG} {n : Nat} {ad : Nat → Nat} {E : Nat → va_E} {F S : Nat} {hrs su : Int32} {gone : Int64} {lv ed : Nat → Int32} {old cnt mc : Nat} {dr mr : Nat → Nat → Int32} (C : CR g n ad E F S hrs su gone lv ed old cnt dr mc mr) (x : Int32) (hx : oob x mc) : Thr g mX3_checkMark 7 [.ref (ad 0), .int x] n ad E "java/lang/IndexOutOfBoundsException" := by
  obtain ⟨h0, W, ⟨F4, S4, su4, lv4, ed4, T⟩, Z, Y, ⟨fc, Hm, P⟩, hFp, hSp, hn⟩ := id C
  obtain ⟨-, -, hw, hL, hE, hF, hS⟩ := id W
  obtain ⟨-, -, hz, hzO, hzr, -, -, hold, hcnt⟩ := id Z
  obtain ⟨-, -, hy, hyO, hyr, -, -, -, hmc⟩ := id Y
  intro Φ Ψ h
  show J g mX3_checkMark 7 1 6 0 [some (.ref (ad 0)), some (.int x)] [] n ad E Φ Ψ
  refine j_iload_n dX3_checkMark_0 rfl ?_
  refine j_aload_n dX3_checkMark_1 rfl ?_
  refine j_get fl_X3_28 dX3_checkMark_2 (by omega) h0 rfl ?_
  refine j_get fl_X3_89 dX3_checkMark_5 (by omega) hy rfl ?_
  exact j_cSx (As := [.int x, .int (nI mc)]) (rest := []) cm_X3_checkIndex ct_X3_checkIndex ln_X3_177 dX3_checkMark_8 (d' := 6) (by decide) rfl rfl (Nat.le_of_ble_eq_true rfl) (Nat.le_of_ble_eq_true rfl) (s_checkIndex_bad x mc hx) (jMeets_out rfl h)
set_option maxRecDepth 100000 in
set_option maxHeartbeats 4000000 in
theorem s_checkPuddle_ok {g : jG} {n : Nat} {ad : Nat → Nat} {E : Nat → va_E} {F S : Nat} {hrs su : Int32} {gone : Int64} {lv ed : Nat → Int32} {old cnt mc : Nat} {dr mr : Nat → Nat → Int32} (C : CR g n ad E F S hrs su gone lv ed old cnt dr mc mr) (a b : Nat) (ha : a < F) (hb : b < S) : Ret g mX3_checkPuddle 8 [.ref (ad 0), .int (nI a), .int (nI b)] n ad E none E := by
  obtain ⟨h0, W, ⟨F4, S4, su4, lv4, ed4, T⟩, Z, Y, ⟨fc, Hm, P⟩, hFp, hSp, hn⟩ := id C
  obtain ⟨-, -, hw, hL, hE, hF, hS⟩ := id W
  obtain ⟨-, -, hz, hzO, hzr, -, -, hold, hcnt⟩ := id Z
  obtain ⟨-, -, hy, hyO, hyr, -, -, -, hmc⟩ := id Y
  intro Φ Ψ h
  show J g mX3_checkPuddle 8 0 0 0 [some (.ref (ad 0)), some (.int (nI a)), some (.int (nI b))] [] n ad E Φ Ψ
  refine j_aload_n dX3_checkPuddle_0 rfl ?_
  refine j_iload_n dX3_checkPuddle_1 rfl ?_
  refine j_cV (As := [.int (nI a)]) (rest := []) cm_X3_checkFlight ci_X3_checkFlight cs_X3_checkFlight rfl ln_X3_74 (ci := 3) rfl dX3_checkPuddle_2 (d' := 7) (by decide) (by omega) h0 rfl rfl (Nat.le_of_ble_eq_true rfl) (Nat.le_of_ble_eq_true rfl) (s_checkFlight_ok C a ha) ?_
  refine j_aload_n dX3_checkPuddle_5 rfl ?_
  refine j_iload_n dX3_checkPuddle_6 rfl ?_
  refine j_cV (As := [.int (nI b)]) (rest := []) cm_X3_checkStep ci_X3_checkStep cs_X3_checkStep rfl ln_X3_141 (ci := 3) rfl dX3_checkPuddle_7 (d' := 7) (by decide) (by omega) h0 rfl rfl (Nat.le_of_ble_eq_true rfl) (Nat.le_of_ble_eq_true rfl) (s_checkStep_ok C b hb) ?_
  exact j_vret dX3_checkPuddle_10 rfl h
set_option maxRecDepth 100000 in
set_option maxHeartbeats 4000000 in
theorem s_checkPuddle_bad {g : jG} {n : Nat} {ad : Nat → Nat} {E : Nat → va_E} {F S : Nat} {hrs su : Int32} {gone : Int64} {lv ed : Nat → Int32} {old cnt mc : Nat} {dr mr : Nat → Nat → Int32} (C : CR g n ad E F S hrs su gone lv ed old cnt dr mc mr) (x y : Int32) (hx : oob x F ∨ oob y S) : Thr g mX3_checkPuddle 8 [.ref (ad 0), .int x, .int y] n ad E "java/lang/IndexOutOfBoundsException" := by
  obtain ⟨h0, W, ⟨F4, S4, su4, lv4, ed4, T⟩, Z, Y, ⟨fc, Hm, P⟩, hFp, hSp, hn⟩ := id C
  obtain ⟨-, -, hw, hL, hE, hF, hS⟩ := id W
  obtain ⟨-, -, hz, hzO, hzr, -, -, hold, hcnt⟩ := id Z
  obtain ⟨-, -, hy, hyO, hyr, -, -, -, hmc⟩ := id Y
  intro Φ Ψ h
  show J g mX3_checkPuddle 8 1 6 0 [some (.ref (ad 0)), some (.int x), some (.int y)] [] n ad E Φ Ψ
  rcases oob_or x (show F < 2 ^ 31 by omega) with q | ⟨a, ha, rfl⟩
  · skip
    refine j_aload_n dX3_checkPuddle_0 rfl ?_
    refine j_iload_n dX3_checkPuddle_1 rfl ?_
    exact j_cVx (As := [.int x]) (rest := []) cm_X3_checkFlight ci_X3_checkFlight cs_X3_checkFlight rfl ln_X3_74 (ci := 3) rfl dX3_checkPuddle_2 (d' := 7) (by decide) (by omega) h0 rfl rfl (Nat.le_of_ble_eq_true rfl) (Nat.le_of_ble_eq_true rfl) (s_checkFlight_bad C x q) (jMeets_out rfl h)
  · skip
    have hy := hx.resolve_left (not_oob ha (by omega))
    refine j_aload_n dX3_checkPuddle_0 rfl ?_
    refine j_iload_n dX3_checkPuddle_1 rfl ?_
    refine j_cV (As := [.int (nI a)]) (rest := []) cm_X3_checkFlight ci_X3_checkFlight cs_X3_checkFlight rfl ln_X3_74 (ci := 3) rfl dX3_checkPuddle_2 (d' := 7) (by decide) (by omega) h0 rfl rfl (Nat.le_of_ble_eq_true rfl) (Nat.le_of_ble_eq_true rfl) (s_checkFlight_ok C a ha) ?_
    refine j_aload_n dX3_checkPuddle_5 rfl ?_
    refine j_iload_n dX3_checkPuddle_6 rfl ?_
    exact j_cVx (As := [.int y]) (rest := []) cm_X3_checkStep ci_X3_checkStep cs_X3_checkStep rfl ln_X3_141 (ci := 3) rfl dX3_checkPuddle_7 (d' := 7) (by decide) (by omega) h0 rfl rfl (Nat.le_of_ble_eq_true rfl) (Nat.le_of_ble_eq_true rfl) (s_checkStep_bad C y hy) (jMeets_out rfl h)
set_option maxRecDepth 100000 in
set_option maxHeartbeats 4000000 in
theorem s_checkPart_ok {g : jG} {n : Nat} {ad : Nat → Nat} {E : Nat → va_E} {F S : Nat} {hrs su : Int32} {gone : Int64} {lv ed : Nat → Int32} {old cnt mc : Nat} {dr mr : Nat → Nat → Int32} (C : CR g n ad E F S hrs su gone lv ed old cnt dr mc mr) (fa sa fb sb : Nat) (hfa : fa < F) (hsa : sa < S) (hfb : fb < F) (hsb : sb < S) (h1 : fa ≤ fb) (h2 : sa ≤ sb) : Ret g mX3_checkPart 9 [.ref (ad 0), .int (nI fa), .int (nI sa), .int (nI fb), .int (nI sb)] n ad E none E := by
  obtain ⟨h0, W, ⟨F4, S4, su4, lv4, ed4, T⟩, Z, Y, ⟨fc, Hm, P⟩, hFp, hSp, hn⟩ := id C
  obtain ⟨-, -, hw, hL, hE, hF, hS⟩ := id W
  obtain ⟨-, -, hz, hzO, hzr, -, -, hold, hcnt⟩ := id Z
  obtain ⟨-, -, hy, hyO, hyr, -, -, -, hmc⟩ := id Y
  intro Φ Ψ h
  show J g mX3_checkPart 9 0 0 0 [some (.ref (ad 0)), some (.int (nI fa)), some (.int (nI sa)), some (.int (nI fb)), some (.int (nI sb))] [] n ad E Φ Ψ
  refine j_aload_n dX3_checkPart_0 rfl ?_
  refine j_iload_n dX3_checkPart_1 rfl ?_
  refine j_iload_n dX3_checkPart_2 rfl ?_
  refine j_cV (As := [.int (nI fa), .int (nI sa)]) (rest := []) cm_X3_checkPuddle ci_X3_checkPuddle cs_X3_checkPuddle rfl ln_X3_57 (ci := 3) rfl dX3_checkPart_3 (d' := 8) (by decide) (by omega) h0 rfl rfl (Nat.le_of_ble_eq_true rfl) (Nat.le_of_ble_eq_true rfl) (s_checkPuddle_ok C fa sa hfa hsa) ?_
  refine j_aload_n dX3_checkPart_6 rfl ?_
  refine j_iload_n dX3_checkPart_7 rfl ?_
  refine j_iload dX3_checkPart_8 rfl ?_
  refine j_cV (As := [.int (nI fb), .int (nI sb)]) (rest := []) cm_X3_checkPuddle ci_X3_checkPuddle cs_X3_checkPuddle rfl ln_X3_57 (ci := 3) rfl dX3_checkPart_10 (d' := 8) (by decide) (by omega) h0 rfl rfl (Nat.le_of_ble_eq_true rfl) (Nat.le_of_ble_eq_true rfl) (s_checkPuddle_ok C fb sb hfb hsb) ?_
  refine j_iload_n dX3_checkPart_13 rfl ?_
  refine j_iload_n dX3_checkPart_14 rfl ?_
  refine j_icmp_gt_f (tgt := 24) dX3_checkPart_15 (by decide) (nI_nlt' (by omega) (by omega) (by omega)) ?_
  refine j_iload_n dX3_checkPart_18 rfl ?_
  refine j_iload dX3_checkPart_19 rfl ?_
  refine j_icmp_le_t (tgt := 35) dX3_checkPart_21 (by decide) (nI_le' (by omega) (by omega) (by omega)) ?_
  exact j_vret dX3_checkPart_35 rfl h
set_option maxRecDepth 100000 in
set_option maxHeartbeats 4000000 in
theorem s_checkPart_iae {g : jG} {n : Nat} {ad : Nat → Nat} {E : Nat → va_E} {F S : Nat} {hrs su : Int32} {gone : Int64} {lv ed : Nat → Int32} {old cnt mc : Nat} {dr mr : Nat → Nat → Int32} (C : CR g n ad E F S hrs su gone lv ed old cnt dr mc mr) (fa sa fb sb : Nat) (hfa : fa < F) (hsa : sa < S) (hfb : fb < F) (hsb : sb < S) (hx : fb < fa ∨ sb < sa) : Thr g mX3_checkPart 9 [.ref (ad 0), .int (nI fa), .int (nI sa), .int (nI fb), .int (nI sb)] n ad E "java/lang/IllegalArgumentException" := by
  obtain ⟨h0, W, ⟨F4, S4, su4, lv4, ed4, T⟩, Z, Y, ⟨fc, Hm, P⟩, hFp, hSp, hn⟩ := id C
  obtain ⟨-, -, hw, hL, hE, hF, hS⟩ := id W
  obtain ⟨-, -, hz, hzO, hzr, -, -, hold, hcnt⟩ := id Z
  obtain ⟨-, -, hy, hyO, hyr, -, -, -, hmc⟩ := id Y
  intro Φ Ψ h
  show J g mX3_checkPart 9 1 6 0 [some (.ref (ad 0)), some (.int (nI fa)), some (.int (nI sa)), some (.int (nI fb)), some (.int (nI sb))] [] n ad E Φ Ψ
  by_cases q : fb < fa
  · skip
    refine j_aload_n dX3_checkPart_0 rfl ?_
    refine j_iload_n dX3_checkPart_1 rfl ?_
    refine j_iload_n dX3_checkPart_2 rfl ?_
    refine j_cV (As := [.int (nI fa), .int (nI sa)]) (rest := []) cm_X3_checkPuddle ci_X3_checkPuddle cs_X3_checkPuddle rfl ln_X3_57 (ci := 3) rfl dX3_checkPart_3 (d' := 8) (by decide) (by omega) h0 rfl rfl (Nat.le_of_ble_eq_true rfl) (Nat.le_of_ble_eq_true rfl) (s_checkPuddle_ok C fa sa hfa hsa) ?_
    refine j_aload_n dX3_checkPart_6 rfl ?_
    refine j_iload_n dX3_checkPart_7 rfl ?_
    refine j_iload dX3_checkPart_8 rfl ?_
    refine j_cV (As := [.int (nI fb), .int (nI sb)]) (rest := []) cm_X3_checkPuddle ci_X3_checkPuddle cs_X3_checkPuddle rfl ln_X3_57 (ci := 3) rfl dX3_checkPart_10 (d' := 8) (by decide) (by omega) h0 rfl rfl (Nat.le_of_ble_eq_true rfl) (Nat.le_of_ble_eq_true rfl) (s_checkPuddle_ok C fb sb hfb hsb) ?_
    refine j_iload_n dX3_checkPart_13 rfl ?_
    refine j_iload_n dX3_checkPart_14 rfl ?_
    refine j_icmp_gt_t (tgt := 24) dX3_checkPart_15 (by decide) (nI_lt' (by omega) (by omega) (by omega)) ?_
    exact j_throwW (bc := 0) (bs := 0) th_297 rfl dX3_checkPart_24 dX3_checkPart_27 dX3_checkPart_28 dX3_checkPart_31 dX3_checkPart_34 (by decide) (Nat.le_of_ble_eq_true rfl) h
  · skip
    refine j_aload_n dX3_checkPart_0 rfl ?_
    refine j_iload_n dX3_checkPart_1 rfl ?_
    refine j_iload_n dX3_checkPart_2 rfl ?_
    refine j_cV (As := [.int (nI fa), .int (nI sa)]) (rest := []) cm_X3_checkPuddle ci_X3_checkPuddle cs_X3_checkPuddle rfl ln_X3_57 (ci := 3) rfl dX3_checkPart_3 (d' := 8) (by decide) (by omega) h0 rfl rfl (Nat.le_of_ble_eq_true rfl) (Nat.le_of_ble_eq_true rfl) (s_checkPuddle_ok C fa sa hfa hsa) ?_
    refine j_aload_n dX3_checkPart_6 rfl ?_
    refine j_iload_n dX3_checkPart_7 rfl ?_
    refine j_iload dX3_checkPart_8 rfl ?_
    refine j_cV (As := [.int (nI fb), .int (nI sb)]) (rest := []) cm_X3_checkPuddle ci_X3_checkPuddle cs_X3_checkPuddle rfl ln_X3_57 (ci := 3) rfl dX3_checkPart_10 (d' := 8) (by decide) (by omega) h0 rfl rfl (Nat.le_of_ble_eq_true rfl) (Nat.le_of_ble_eq_true rfl) (s_checkPuddle_ok C fb sb hfb hsb) ?_
    refine j_iload_n dX3_checkPart_13 rfl ?_
    refine j_iload_n dX3_checkPart_14 rfl ?_
    refine j_icmp_gt_f (tgt := 24) dX3_checkPart_15 (by decide) (nI_nlt' (by omega) (by omega) (by omega)) ?_
    refine j_iload_n dX3_checkPart_18 rfl ?_
    refine j_iload dX3_checkPart_19 rfl ?_
    refine j_icmp_le_f (tgt := 35) dX3_checkPart_21 (by decide) (nI_nle' (by omega) (by omega) (by omega)) ?_
    exact j_throwW (bc := 0) (bs := 0) th_297 rfl dX3_checkPart_24 dX3_checkPart_27 dX3_checkPart_28 dX3_checkPart_31 dX3_checkPart_34 (by decide) (Nat.le_of_ble_eq_true rfl) h
set_option maxRecDepth 100000 in
set_option maxHeartbeats 4000000 in
theorem s_checkPart_bad {g : jG} {n : Nat} {ad : Nat → Nat} {E : Nat → va_E} {F S : Nat} {hrs su : Int32} {gone : Int64} {lv ed : Nat → Int32} {old cnt mc : Nat} {dr mr : Nat → Nat → Int32} (C : CR g n ad E F S hrs su gone lv ed old cnt dr mc mr) (x1 x2 x3 x4 : Int32) (hx : oob x1 F ∨ oob x2 S ∨ oob x3 F ∨ oob x4 S) : Thr g mX3_checkPart 9 [.ref (ad 0), .int x1, .int x2, .int x3, .int x4] n ad E "java/lang/IndexOutOfBoundsException" := by
  obtain ⟨h0, W, ⟨F4, S4, su4, lv4, ed4, T⟩, Z, Y, ⟨fc, Hm, P⟩, hFp, hSp, hn⟩ := id C
  obtain ⟨-, -, hw, hL, hE, hF, hS⟩ := id W
  obtain ⟨-, -, hz, hzO, hzr, -, -, hold, hcnt⟩ := id Z
  obtain ⟨-, -, hy, hyO, hyr, -, -, -, hmc⟩ := id Y
  intro Φ Ψ h
  show J g mX3_checkPart 9 1 6 0 [some (.ref (ad 0)), some (.int x1), some (.int x2), some (.int x3), some (.int x4)] [] n ad E Φ Ψ
  by_cases q : oob x1 F ∨ oob x2 S
  · skip
    refine j_aload_n dX3_checkPart_0 rfl ?_
    refine j_iload_n dX3_checkPart_1 rfl ?_
    refine j_iload_n dX3_checkPart_2 rfl ?_
    exact j_cVx (As := [.int x1, .int x2]) (rest := []) cm_X3_checkPuddle ci_X3_checkPuddle cs_X3_checkPuddle rfl ln_X3_57 (ci := 3) rfl dX3_checkPart_3 (d' := 8) (by decide) (by omega) h0 rfl rfl (Nat.le_of_ble_eq_true rfl) (Nat.le_of_ble_eq_true rfl) (s_checkPuddle_bad C x1 x2 q) (jMeets_out rfl h)
  · skip
    obtain ⟨a, ha, rfl⟩ := (oob_or x1 (show F < 2 ^ 31 by omega)).resolve_left (fun r => q (Or.inl r))
    obtain ⟨b, hb, rfl⟩ := (oob_or x2 (show S < 2 ^ 31 by omega)).resolve_left (fun r => q (Or.inr r))
    have hy : oob x3 F ∨ oob x4 S := (hx.resolve_left (fun r => q (Or.inl r))).resolve_left (fun r => q (Or.inr r))
    refine j_aload_n dX3_checkPart_0 rfl ?_
    refine j_iload_n dX3_checkPart_1 rfl ?_
    refine j_iload_n dX3_checkPart_2 rfl ?_
    refine j_cV (As := [.int (nI a), .int (nI b)]) (rest := []) cm_X3_checkPuddle ci_X3_checkPuddle cs_X3_checkPuddle rfl ln_X3_57 (ci := 3) rfl dX3_checkPart_3 (d' := 8) (by decide) (by omega) h0 rfl rfl (Nat.le_of_ble_eq_true rfl) (Nat.le_of_ble_eq_true rfl) (s_checkPuddle_ok C a b ha hb) ?_
    refine j_aload_n dX3_checkPart_6 rfl ?_
    refine j_iload_n dX3_checkPart_7 rfl ?_
    refine j_iload dX3_checkPart_8 rfl ?_
    exact j_cVx (As := [.int x3, .int x4]) (rest := []) cm_X3_checkPuddle ci_X3_checkPuddle cs_X3_checkPuddle rfl ln_X3_57 (ci := 3) rfl dX3_checkPart_10 (d' := 8) (by decide) (by omega) h0 rfl rfl (Nat.le_of_ble_eq_true rfl) (Nat.le_of_ble_eq_true rfl) (s_checkPuddle_bad C x3 x4 hy) (jMeets_out rfl h)
set_option maxRecDepth 100000 in
set_option maxHeartbeats 4000000 in
theorem s_X3_flights {g : jG} {n : Nat} {ad : Nat → Nat} {E : Nat → va_E} {F S : Nat} {hrs su : Int32} {gone : Int64} {lv ed : Nat → Int32} {old cnt mc : Nat} {dr mr : Nat → Nat → Int32} (C : CR g n ad E F S hrs su gone lv ed old cnt dr mc mr) : Ret g mX3_flights 0 [.ref (ad 0)] n ad E (some (.int (nI F))) E := by
  obtain ⟨h0, W, ⟨F4, S4, su4, lv4, ed4, T⟩, Z, Y, ⟨fc, Hm, P⟩, hFp, hSp, hn⟩ := id C
  obtain ⟨-, -, hw, hL, hE, hF, hS⟩ := id W
  obtain ⟨-, -, hz, hzO, hzr, -, -, hold, hcnt⟩ := id Z
  obtain ⟨-, -, hy, hyO, hyr, -, -, -, hmc⟩ := id Y
  intro Φ Ψ h
  show J g mX3_flights 0 0 0 0 [some (.ref (ad 0))] [] n ad E Φ Ψ
  refine j_aload_n dX3_flights_0 rfl ?_
  refine j_get fl_X3_12 dX3_flights_1 (by omega) h0 rfl ?_
  refine j_get fl_X3_148 dX3_flights_4 (by omega) hw rfl ?_
  exact j_iret dX3_flights_7 rfl h
set_option maxRecDepth 100000 in
set_option maxHeartbeats 4000000 in
theorem s_X3_steps {g : jG} {n : Nat} {ad : Nat → Nat} {E : Nat → va_E} {F S : Nat} {hrs su : Int32} {gone : Int64} {lv ed : Nat → Int32} {old cnt mc : Nat} {dr mr : Nat → Nat → Int32} (C : CR g n ad E F S hrs su gone lv ed old cnt dr mc mr) : Ret g mX3_steps 0 [.ref (ad 0)] n ad E (some (.int (nI S))) E := by
  obtain ⟨h0, W, ⟨F4, S4, su4, lv4, ed4, T⟩, Z, Y, ⟨fc, Hm, P⟩, hFp, hSp, hn⟩ := id C
  obtain ⟨-, -, hw, hL, hE, hF, hS⟩ := id W
  obtain ⟨-, -, hz, hzO, hzr, -, -, hold, hcnt⟩ := id Z
  obtain ⟨-, -, hy, hyO, hyr, -, -, -, hmc⟩ := id Y
  intro Φ Ψ h
  show J g mX3_steps 0 0 0 0 [some (.ref (ad 0))] [] n ad E Φ Ψ
  refine j_aload_n dX3_steps_0 rfl ?_
  refine j_get fl_X3_12 dX3_steps_1 (by omega) h0 rfl ?_
  refine j_get fl_X3_77 dX3_steps_4 (by omega) hw rfl ?_
  exact j_iret dX3_steps_7 rfl h
set_option maxRecDepth 100000 in
set_option maxHeartbeats 4000000 in
theorem s_X3_hours {g : jG} {n : Nat} {ad : Nat → Nat} {E : Nat → va_E} {F S : Nat} {hrs su : Int32} {gone : Int64} {lv ed : Nat → Int32} {old cnt mc : Nat} {dr mr : Nat → Nat → Int32} (C : CR g n ad E F S hrs su gone lv ed old cnt dr mc mr) : Ret g mX3_hours 0 [.ref (ad 0)] n ad E (some (.int hrs)) E := by
  obtain ⟨h0, W, ⟨F4, S4, su4, lv4, ed4, T⟩, Z, Y, ⟨fc, Hm, P⟩, hFp, hSp, hn⟩ := id C
  obtain ⟨-, -, hw, hL, hE, hF, hS⟩ := id W
  obtain ⟨-, -, hz, hzO, hzr, -, -, hold, hcnt⟩ := id Z
  obtain ⟨-, -, hy, hyO, hyr, -, -, -, hmc⟩ := id Y
  intro Φ Ψ h
  show J g mX3_hours 0 0 0 0 [some (.ref (ad 0))] [] n ad E Φ Ψ
  refine j_aload_n dX3_hours_0 rfl ?_
  refine j_get fl_X3_112 dX3_hours_1 (by omega) h0 rfl ?_
  exact j_iret dX3_hours_4 rfl h
set_option maxRecDepth 100000 in
set_option maxHeartbeats 4000000 in
theorem s_X3_sun {g : jG} {n : Nat} {ad : Nat → Nat} {E : Nat → va_E} {F S : Nat} {hrs su : Int32} {gone : Int64} {lv ed : Nat → Int32} {old cnt mc : Nat} {dr mr : Nat → Nat → Int32} (C : CR g n ad E F S hrs su gone lv ed old cnt dr mc mr) : Ret g mX3_sun 0 [.ref (ad 0)] n ad E (some (.int su)) E := by
  obtain ⟨h0, W, ⟨F4, S4, su4, lv4, ed4, T⟩, Z, Y, ⟨fc, Hm, P⟩, hFp, hSp, hn⟩ := id C
  obtain ⟨-, -, hw, hL, hE, hF, hS⟩ := id W
  obtain ⟨-, -, hz, hzO, hzr, -, -, hold, hcnt⟩ := id Z
  obtain ⟨-, -, hy, hyO, hyr, -, -, -, hmc⟩ := id Y
  intro Φ Ψ h
  show J g mX3_sun 0 0 0 0 [some (.ref (ad 0))] [] n ad E Φ Ψ
  refine j_aload_n dX3_sun_0 rfl ?_
  refine j_get fl_X3_12 dX3_sun_1 (by omega) h0 rfl ?_
  refine j_get fl_X3_38 dX3_sun_4 (by omega) hw rfl ?_
  exact j_iret dX3_sun_7 rfl h
set_option maxRecDepth 100000 in
set_option maxHeartbeats 4000000 in
theorem s_X3_marks {g : jG} {n : Nat} {ad : Nat → Nat} {E : Nat → va_E} {F S : Nat} {hrs su : Int32} {gone : Int64} {lv ed : Nat → Int32} {old cnt mc : Nat} {dr mr : Nat → Nat → Int32} (C : CR g n ad E F S hrs su gone lv ed old cnt dr mc mr) : Ret g mX3_marks 0 [.ref (ad 0)] n ad E (some (.int (nI mc))) E := by
  obtain ⟨h0, W, ⟨F4, S4, su4, lv4, ed4, T⟩, Z, Y, ⟨fc, Hm, P⟩, hFp, hSp, hn⟩ := id C
  obtain ⟨-, -, hw, hL, hE, hF, hS⟩ := id W
  obtain ⟨-, -, hz, hzO, hzr, -, -, hold, hcnt⟩ := id Z
  obtain ⟨-, -, hy, hyO, hyr, -, -, -, hmc⟩ := id Y
  intro Φ Ψ h
  show J g mX3_marks 0 0 0 0 [some (.ref (ad 0))] [] n ad E Φ Ψ
  refine j_aload_n dX3_marks_0 rfl ?_
  refine j_get fl_X3_28 dX3_marks_1 (by omega) h0 rfl ?_
  refine j_get fl_X3_89 dX3_marks_4 (by omega) hy rfl ?_
  exact j_iret dX3_marks_7 rfl h
set_option maxRecDepth 100000 in
set_option maxHeartbeats 4000000 in
theorem s_X3_deeds {g : jG} {n : Nat} {ad : Nat → Nat} {E : Nat → va_E} {F S : Nat} {hrs su : Int32} {gone : Int64} {lv ed : Nat → Int32} {old cnt mc : Nat} {dr mr : Nat → Nat → Int32} (C : CR g n ad E F S hrs su gone lv ed old cnt dr mc mr) : Ret g mX3_deeds 0 [.ref (ad 0)] n ad E (some (.int (nI cnt))) E := by
  obtain ⟨h0, W, ⟨F4, S4, su4, lv4, ed4, T⟩, Z, Y, ⟨fc, Hm, P⟩, hFp, hSp, hn⟩ := id C
  obtain ⟨-, -, hw, hL, hE, hF, hS⟩ := id W
  obtain ⟨-, -, hz, hzO, hzr, -, -, hold, hcnt⟩ := id Z
  obtain ⟨-, -, hy, hyO, hyr, -, -, -, hmc⟩ := id Y
  intro Φ Ψ h
  show J g mX3_deeds 0 0 0 0 [some (.ref (ad 0))] [] n ad E Φ Ψ
  refine j_aload_n dX3_deeds_0 rfl ?_
  refine j_get fl_X3_24 dX3_deeds_1 (by omega) h0 rfl ?_
  refine j_get fl_X3_89 dX3_deeds_4 (by omega) hz rfl ?_
  exact j_iret dX3_deeds_7 rfl h
set_option maxRecDepth 100000 in
set_option maxHeartbeats 4000000 in
theorem s_X3_gone {g : jG} {n : Nat} {ad : Nat → Nat} {E : Nat → va_E} {F S : Nat} {hrs su : Int32} {gone : Int64} {lv ed : Nat → Int32} {old cnt mc : Nat} {dr mr : Nat → Nat → Int32} (C : CR g n ad E F S hrs su gone lv ed old cnt dr mc mr) : Ret g mX3_gone 0 [.ref (ad 0)] n ad E (some (.long gone)) E := by
  obtain ⟨h0, W, ⟨F4, S4, su4, lv4, ed4, T⟩, Z, Y, ⟨fc, Hm, P⟩, hFp, hSp, hn⟩ := id C
  obtain ⟨-, -, hw, hL, hE, hF, hS⟩ := id W
  obtain ⟨-, -, hz, hzO, hzr, -, -, hold, hcnt⟩ := id Z
  obtain ⟨-, -, hy, hyO, hyr, -, -, -, hmc⟩ := id Y
  intro Φ Ψ h
  show J g mX3_gone 0 0 0 0 [some (.ref (ad 0))] [] n ad E Φ Ψ
  refine j_aload_n dX3_gone_0 rfl ?_
  refine j_get fl_X3_115 dX3_gone_1 (by omega) h0 rfl ?_
  exact j_lret dX3_gone_4 rfl h
set_option maxRecDepth 100000 in
set_option maxHeartbeats 4000000 in
theorem s_X3_edgeOf {g : jG} {n : Nat} {ad : Nat → Nat} {E : Nat → va_E} {F S : Nat} {hrs su : Int32} {gone : Int64} {lv ed : Nat → Int32} {old cnt mc : Nat} {dr mr : Nat → Nat → Int32} (C : CR g n ad E F S hrs su gone lv ed old cnt dr mc mr) (b : Nat) (hb : b < S) : Ret g mX3_edgeOf 8 [.ref (ad 0), .int (nI b)] n ad E (some (.int (ed b))) E := by
  obtain ⟨h0, W, ⟨F4, S4, su4, lv4, ed4, T⟩, Z, Y, ⟨fc, Hm, P⟩, hFp, hSp, hn⟩ := id C
  obtain ⟨-, -, hw, hL, hE, hF, hS⟩ := id W
  obtain ⟨-, -, hz, hzO, hzr, -, -, hold, hcnt⟩ := id Z
  obtain ⟨-, -, hy, hyO, hyr, -, -, -, hmc⟩ := id Y
  intro Φ Ψ h
  show J g mX3_edgeOf 8 0 0 0 [some (.ref (ad 0)), some (.int (nI b))] [] n ad E Φ Ψ
  refine j_aload_n dX3_edgeOf_0 rfl ?_
  refine j_iload_n dX3_edgeOf_1 rfl ?_
  refine j_cV (As := [.int (nI b)]) (rest := []) cm_X3_checkStep ci_X3_checkStep cs_X3_checkStep rfl ln_X3_141 (ci := 3) rfl dX3_edgeOf_2 (d' := 7) (by decide) (by omega) h0 rfl rfl (Nat.le_of_ble_eq_true rfl) (Nat.le_of_ble_eq_true rfl) (s_checkStep_ok C b hb) ?_
  refine j_aload_n dX3_edgeOf_5 rfl ?_
  refine j_get fl_X3_12 dX3_edgeOf_6 (by omega) h0 rfl ?_
  refine j_get fl_X3_144 dX3_edgeOf_9 (by omega) hw rfl ?_
  refine j_iload_n dX3_edgeOf_12 rfl ?_
  refine j_iald dX3_edgeOf_13 (by omega) hE (by decide) (by omega) rfl ?_
  exact j_iret dX3_edgeOf_14 rfl h
set_option maxRecDepth 100000 in
set_option maxHeartbeats 4000000 in
theorem s_X3_edgeOf_bad {g : jG} {n : Nat} {ad : Nat → Nat} {E : Nat → va_E} {F S : Nat} {hrs su : Int32} {gone : Int64} {lv ed : Nat → Int32} {old cnt mc : Nat} {dr mr : Nat → Nat → Int32} (C : CR g n ad E F S hrs su gone lv ed old cnt dr mc mr) (x : Int32) (hx : oob x S) : Thr g mX3_edgeOf 8 [.ref (ad 0), .int x] n ad E "java/lang/IndexOutOfBoundsException" := by
  obtain ⟨h0, W, ⟨F4, S4, su4, lv4, ed4, T⟩, Z, Y, ⟨fc, Hm, P⟩, hFp, hSp, hn⟩ := id C
  obtain ⟨-, -, hw, hL, hE, hF, hS⟩ := id W
  obtain ⟨-, -, hz, hzO, hzr, -, -, hold, hcnt⟩ := id Z
  obtain ⟨-, -, hy, hyO, hyr, -, -, -, hmc⟩ := id Y
  intro Φ Ψ h
  show J g mX3_edgeOf 8 1 6 0 [some (.ref (ad 0)), some (.int x)] [] n ad E Φ Ψ
  refine j_aload_n dX3_edgeOf_0 rfl ?_
  refine j_iload_n dX3_edgeOf_1 rfl ?_
  exact j_cVx (As := [.int x]) (rest := []) cm_X3_checkStep ci_X3_checkStep cs_X3_checkStep rfl ln_X3_141 (ci := 3) rfl dX3_edgeOf_2 (d' := 7) (by decide) (by omega) h0 rfl rfl (Nat.le_of_ble_eq_true rfl) (Nat.le_of_ble_eq_true rfl) (s_checkStep_bad C x hx) (jMeets_out rfl h)
set_option maxRecDepth 100000 in
set_option maxHeartbeats 4000000 in
theorem s_X3_levelAt {g : jG} {n : Nat} {ad : Nat → Nat} {E : Nat → va_E} {F S : Nat} {hrs su : Int32} {gone : Int64} {lv ed : Nat → Int32} {old cnt mc : Nat} {dr mr : Nat → Nat → Int32} (C : CR g n ad E F S hrs su gone lv ed old cnt dr mc mr) (a b : Nat) (ha : a < F) (hb : b < S) : Ret g mX3_levelAt 9 [.ref (ad 0), .int (nI a), .int (nI b)] n ad E (some (.int (lv (a * S + b)))) E := by
  obtain ⟨h0, W, ⟨F4, S4, su4, lv4, ed4, T⟩, Z, Y, ⟨fc, Hm, P⟩, hFp, hSp, hn⟩ := id C
  obtain ⟨-, -, hw, hL, hE, hF, hS⟩ := id W
  obtain ⟨-, -, hz, hzO, hzr, -, -, hold, hcnt⟩ := id Z
  obtain ⟨-, -, hy, hyO, hyr, -, -, -, hmc⟩ := id Y
  intro Φ Ψ h
  show J g mX3_levelAt 9 0 0 0 [some (.ref (ad 0)), some (.int (nI a)), some (.int (nI b))] [] n ad E Φ Ψ
  refine j_aload_n dX3_levelAt_0 rfl ?_
  refine j_iload_n dX3_levelAt_1 rfl ?_
  refine j_iload_n dX3_levelAt_2 rfl ?_
  refine j_cV (As := [.int (nI a), .int (nI b)]) (rest := []) cm_X3_checkPuddle ci_X3_checkPuddle cs_X3_checkPuddle rfl ln_X3_57 (ci := 3) rfl dX3_levelAt_3 (d' := 8) (by decide) (by omega) h0 rfl rfl (Nat.le_of_ble_eq_true rfl) (Nat.le_of_ble_eq_true rfl) (s_checkPuddle_ok C a b ha hb) ?_
  refine j_aload_n dX3_levelAt_6 rfl ?_
  refine j_get fl_X3_12 dX3_levelAt_7 (by omega) h0 rfl ?_
  refine j_iload_n dX3_levelAt_10 rfl ?_
  refine j_iload_n dX3_levelAt_11 rfl ?_
  refine j_cV (As := [.int (nI a), .int (nI b)]) (rest := []) cm_X2_level ci_X2_level cs_X2_level rfl ln_X3_66 (ci := 2) rfl dX3_levelAt_12 (d' := 1) (by decide) (by omega) hw rfl rfl (Nat.le_of_ble_eq_true rfl) (Nat.le_of_ble_eq_true rfl) (s_X2_level W a b (ix128 hF hS ha hb)) ?_
  exact j_iret dX3_levelAt_15 rfl h
set_option maxRecDepth 100000 in
set_option maxHeartbeats 4000000 in
theorem s_X3_levelAt_bad {g : jG} {n : Nat} {ad : Nat → Nat} {E : Nat → va_E} {F S : Nat} {hrs su : Int32} {gone : Int64} {lv ed : Nat → Int32} {old cnt mc : Nat} {dr mr : Nat → Nat → Int32} (C : CR g n ad E F S hrs su gone lv ed old cnt dr mc mr) (x y : Int32) (hx : oob x F ∨ oob y S) : Thr g mX3_levelAt 9 [.ref (ad 0), .int x, .int y] n ad E "java/lang/IndexOutOfBoundsException" := by
  obtain ⟨h0, W, ⟨F4, S4, su4, lv4, ed4, T⟩, Z, Y, ⟨fc, Hm, P⟩, hFp, hSp, hn⟩ := id C
  obtain ⟨-, -, hw, hL, hE, hF, hS⟩ := id W
  obtain ⟨-, -, hz, hzO, hzr, -, -, hold, hcnt⟩ := id Z
  obtain ⟨-, -, hy, hyO, hyr, -, -, -, hmc⟩ := id Y
  intro Φ Ψ h
  show J g mX3_levelAt 9 1 6 0 [some (.ref (ad 0)), some (.int x), some (.int y)] [] n ad E Φ Ψ
  refine j_aload_n dX3_levelAt_0 rfl ?_
  refine j_iload_n dX3_levelAt_1 rfl ?_
  refine j_iload_n dX3_levelAt_2 rfl ?_
  exact j_cVx (As := [.int x, .int y]) (rest := []) cm_X3_checkPuddle ci_X3_checkPuddle cs_X3_checkPuddle rfl ln_X3_57 (ci := 3) rfl dX3_levelAt_3 (d' := 8) (by decide) (by omega) h0 rfl rfl (Nat.le_of_ble_eq_true rfl) (Nat.le_of_ble_eq_true rfl) (s_checkPuddle_bad C x y hx) (jMeets_out rfl h)
set_option maxRecDepth 100000 in
set_option maxHeartbeats 4000000 in
theorem s_X3_sumOf {g : jG} {n : Nat} {ad : Nat → Nat} {E : Nat → va_E} {F S : Nat} {hrs su : Int32} {gone : Int64} {lv ed : Nat → Int32} {old cnt mc : Nat} {dr mr : Nat → Nat → Int32} (C : CR g n ad E F S hrs su gone lv ed old cnt dr mc mr) (fa sa fb sb : Nat) (hfa : fa < F) (hsa : sa < S) (hfb : fb < F) (hsb : sb < S) (h1 : fa ≤ fb) (h2 : sa ≤ sb) : Ret g mX3_sumOf 10 [.ref (ad 0), .int (nI fa), .int (nI sa), .int (nI fb), .int (nI sb)] n ad E (some (.long (sumP lv S fa sa fb sb))) E := by
  obtain ⟨h0, W, ⟨F4, S4, su4, lv4, ed4, T⟩, Z, Y, ⟨fc, Hm, P⟩, hFp, hSp, hn⟩ := id C
  obtain ⟨-, -, hw, hL, hE, hF, hS⟩ := id W
  obtain ⟨-, -, hz, hzO, hzr, -, -, hold, hcnt⟩ := id Z
  obtain ⟨-, -, hy, hyO, hyr, -, -, -, hmc⟩ := id Y
  intro Φ Ψ h
  show J g mX3_sumOf 10 0 0 0 [some (.ref (ad 0)), some (.int (nI fa)), some (.int (nI sa)), some (.int (nI fb)), some (.int (nI sb))] [] n ad E Φ Ψ
  refine j_aload_n dX3_sumOf_0 rfl ?_
  refine j_iload_n dX3_sumOf_1 rfl ?_
  refine j_iload_n dX3_sumOf_2 rfl ?_
  refine j_iload_n dX3_sumOf_3 rfl ?_
  refine j_iload dX3_sumOf_4 rfl ?_
  refine j_cV (As := [.int (nI fa), .int (nI sa), .int (nI fb), .int (nI sb)]) (rest := []) cm_X3_checkPart ci_X3_checkPart cs_X3_checkPart rfl ln_X3_70 (ci := 3) rfl dX3_sumOf_6 (d' := 9) (by decide) (by omega) h0 rfl rfl (Nat.le_of_ble_eq_true rfl) (Nat.le_of_ble_eq_true rfl) (s_checkPart_ok C fa sa fb sb hfa hsa hfb hsb h1 h2) ?_
  refine j_aload_n dX3_sumOf_9 rfl ?_
  refine j_get fl_X3_12 dX3_sumOf_10 (by omega) h0 rfl ?_
  refine j_iload_n dX3_sumOf_13 rfl ?_
  refine j_iload_n dX3_sumOf_14 rfl ?_
  refine j_iload_n dX3_sumOf_15 rfl ?_
  refine j_iload dX3_sumOf_16 rfl ?_
  refine j_cV (As := [.int (nI fa), .int (nI sa), .int (nI fb), .int (nI sb)]) (rest := []) cm_X2_partSum ci_X2_partSum cs_X2_partSum rfl ln_X3_151 (ci := 2) rfl dX3_sumOf_18 (d' := 2) (by decide) (by omega) hw rfl rfl (Nat.le_of_ble_eq_true rfl) (Nat.le_of_ble_eq_true rfl) (s_X2_partSum W fa sa fb sb (by omega) (by omega) (by omega) (by omega)) ?_
  exact j_lret dX3_sumOf_21 rfl h
set_option maxRecDepth 100000 in
set_option maxHeartbeats 4000000 in
theorem s_X3_sumOf_bad {g : jG} {n : Nat} {ad : Nat → Nat} {E : Nat → va_E} {F S : Nat} {hrs su : Int32} {gone : Int64} {lv ed : Nat → Int32} {old cnt mc : Nat} {dr mr : Nat → Nat → Int32} (C : CR g n ad E F S hrs su gone lv ed old cnt dr mc mr) (x1 x2 x3 x4 : Int32) (hx : oob x1 F ∨ oob x2 S ∨ oob x3 F ∨ oob x4 S) : Thr g mX3_sumOf 10 [.ref (ad 0), .int x1, .int x2, .int x3, .int x4] n ad E "java/lang/IndexOutOfBoundsException" := by
  obtain ⟨h0, W, ⟨F4, S4, su4, lv4, ed4, T⟩, Z, Y, ⟨fc, Hm, P⟩, hFp, hSp, hn⟩ := id C
  obtain ⟨-, -, hw, hL, hE, hF, hS⟩ := id W
  obtain ⟨-, -, hz, hzO, hzr, -, -, hold, hcnt⟩ := id Z
  obtain ⟨-, -, hy, hyO, hyr, -, -, -, hmc⟩ := id Y
  intro Φ Ψ h
  show J g mX3_sumOf 10 1 6 0 [some (.ref (ad 0)), some (.int x1), some (.int x2), some (.int x3), some (.int x4)] [] n ad E Φ Ψ
  refine j_aload_n dX3_sumOf_0 rfl ?_
  refine j_iload_n dX3_sumOf_1 rfl ?_
  refine j_iload_n dX3_sumOf_2 rfl ?_
  refine j_iload_n dX3_sumOf_3 rfl ?_
  refine j_iload dX3_sumOf_4 rfl ?_
  exact j_cVx (As := [.int x1, .int x2, .int x3, .int x4]) (rest := []) cm_X3_checkPart ci_X3_checkPart cs_X3_checkPart rfl ln_X3_70 (ci := 3) rfl dX3_sumOf_6 (d' := 9) (by decide) (by omega) h0 rfl rfl (Nat.le_of_ble_eq_true rfl) (Nat.le_of_ble_eq_true rfl) (s_checkPart_bad C x1 x2 x3 x4 hx) (jMeets_out rfl h)
set_option maxRecDepth 100000 in
set_option maxHeartbeats 4000000 in
theorem s_X3_sumOf_iae {g : jG} {n : Nat} {ad : Nat → Nat} {E : Nat → va_E} {F S : Nat} {hrs su : Int32} {gone : Int64} {lv ed : Nat → Int32} {old cnt mc : Nat} {dr mr : Nat → Nat → Int32} (C : CR g n ad E F S hrs su gone lv ed old cnt dr mc mr) (fa sa fb sb : Nat) (hfa : fa < F) (hsa : sa < S) (hfb : fb < F) (hsb : sb < S) (hx : fb < fa ∨ sb < sa) : Thr g mX3_sumOf 10 [.ref (ad 0), .int (nI fa), .int (nI sa), .int (nI fb), .int (nI sb)] n ad E "java/lang/IllegalArgumentException" := by
  obtain ⟨h0, W, ⟨F4, S4, su4, lv4, ed4, T⟩, Z, Y, ⟨fc, Hm, P⟩, hFp, hSp, hn⟩ := id C
  obtain ⟨-, -, hw, hL, hE, hF, hS⟩ := id W
  obtain ⟨-, -, hz, hzO, hzr, -, -, hold, hcnt⟩ := id Z
  obtain ⟨-, -, hy, hyO, hyr, -, -, -, hmc⟩ := id Y
  intro Φ Ψ h
  show J g mX3_sumOf 10 1 6 0 [some (.ref (ad 0)), some (.int (nI fa)), some (.int (nI sa)), some (.int (nI fb)), some (.int (nI sb))] [] n ad E Φ Ψ
  refine j_aload_n dX3_sumOf_0 rfl ?_
  refine j_iload_n dX3_sumOf_1 rfl ?_
  refine j_iload_n dX3_sumOf_2 rfl ?_
  refine j_iload_n dX3_sumOf_3 rfl ?_
  refine j_iload dX3_sumOf_4 rfl ?_
  exact j_cVx (As := [.int (nI fa), .int (nI sa), .int (nI fb), .int (nI sb)]) (rest := []) cm_X3_checkPart ci_X3_checkPart cs_X3_checkPart rfl ln_X3_70 (ci := 3) rfl dX3_sumOf_6 (d' := 9) (by decide) (by omega) h0 rfl rfl (Nat.le_of_ble_eq_true rfl) (Nat.le_of_ble_eq_true rfl) (s_checkPart_iae C fa sa fb sb hfa hsa hfb hsb hx) (jMeets_out rfl h)
set_option maxRecDepth 100000 in
set_option maxHeartbeats 4000000 in
theorem s_X3_sumTo {g : jG} {n : Nat} {ad : Nat → Nat} {E : Nat → va_E} {F S : Nat} {hrs su : Int32} {gone : Int64} {lv ed : Nat → Int32} {old cnt mc : Nat} {dr mr : Nat → Nat → Int32} (C : CR g n ad E F S hrs su gone lv ed old cnt dr mc mr) (a b : Nat) (ha : a < F) (hb : b < S) : Ret g mX3_sumTo 9 [.ref (ad 0), .int (nI a), .int (nI b)] n ad E (some (.long (sumP lv S 0 0 a b))) E := by
  obtain ⟨h0, W, ⟨F4, S4, su4, lv4, ed4, T⟩, Z, Y, ⟨fc, Hm, P⟩, hFp, hSp, hn⟩ := id C
  obtain ⟨-, -, hw, hL, hE, hF, hS⟩ := id W
  obtain ⟨-, -, hz, hzO, hzr, -, -, hold, hcnt⟩ := id Z
  obtain ⟨-, -, hy, hyO, hyr, -, -, -, hmc⟩ := id Y
  intro Φ Ψ h
  show J g mX3_sumTo 9 0 0 0 [some (.ref (ad 0)), some (.int (nI a)), some (.int (nI b))] [] n ad E Φ Ψ
  refine j_aload_n dX3_sumTo_0 rfl ?_
  refine j_iload_n dX3_sumTo_1 rfl ?_
  refine j_iload_n dX3_sumTo_2 rfl ?_
  refine j_cV (As := [.int (nI a), .int (nI b)]) (rest := []) cm_X3_checkPuddle ci_X3_checkPuddle cs_X3_checkPuddle rfl ln_X3_57 (ci := 3) rfl dX3_sumTo_3 (d' := 8) (by decide) (by omega) h0 rfl rfl (Nat.le_of_ble_eq_true rfl) (Nat.le_of_ble_eq_true rfl) (s_checkPuddle_ok C a b ha hb) ?_
  refine j_aload_n dX3_sumTo_6 rfl ?_
  refine j_get fl_X3_12 dX3_sumTo_7 (by omega) h0 rfl ?_
  refine j_iconst (v := nI 0) dX3_sumTo_10 (by decide) ?_
  refine j_iconst (v := nI 0) dX3_sumTo_11 (by decide) ?_
  refine j_iload_n dX3_sumTo_12 rfl ?_
  refine j_iload_n dX3_sumTo_13 rfl ?_
  refine j_cV (As := [.int (nI 0), .int (nI 0), .int (nI a), .int (nI b)]) (rest := []) cm_X2_partSum ci_X2_partSum cs_X2_partSum rfl ln_X3_151 (ci := 2) rfl dX3_sumTo_14 (d' := 2) (by decide) (by omega) hw rfl rfl (Nat.le_of_ble_eq_true rfl) (Nat.le_of_ble_eq_true rfl) (s_X2_partSum W 0 0 a b (by omega) (by omega) (by omega) (by omega)) ?_
  exact j_lret dX3_sumTo_17 rfl h
set_option maxRecDepth 100000 in
set_option maxHeartbeats 4000000 in
theorem s_X3_sumTo_bad {g : jG} {n : Nat} {ad : Nat → Nat} {E : Nat → va_E} {F S : Nat} {hrs su : Int32} {gone : Int64} {lv ed : Nat → Int32} {old cnt mc : Nat} {dr mr : Nat → Nat → Int32} (C : CR g n ad E F S hrs su gone lv ed old cnt dr mc mr) (x y : Int32) (hx : oob x F ∨ oob y S) : Thr g mX3_sumTo 9 [.ref (ad 0), .int x, .int y] n ad E "java/lang/IndexOutOfBoundsException" := by
  obtain ⟨h0, W, ⟨F4, S4, su4, lv4, ed4, T⟩, Z, Y, ⟨fc, Hm, P⟩, hFp, hSp, hn⟩ := id C
  obtain ⟨-, -, hw, hL, hE, hF, hS⟩ := id W
  obtain ⟨-, -, hz, hzO, hzr, -, -, hold, hcnt⟩ := id Z
  obtain ⟨-, -, hy, hyO, hyr, -, -, -, hmc⟩ := id Y
  intro Φ Ψ h
  show J g mX3_sumTo 9 1 6 0 [some (.ref (ad 0)), some (.int x), some (.int y)] [] n ad E Φ Ψ
  refine j_aload_n dX3_sumTo_0 rfl ?_
  refine j_iload_n dX3_sumTo_1 rfl ?_
  refine j_iload_n dX3_sumTo_2 rfl ?_
  exact j_cVx (As := [.int x, .int y]) (rest := []) cm_X3_checkPuddle ci_X3_checkPuddle cs_X3_checkPuddle rfl ln_X3_57 (ci := 3) rfl dX3_sumTo_3 (d' := 8) (by decide) (by omega) h0 rfl rfl (Nat.le_of_ble_eq_true rfl) (Nat.le_of_ble_eq_true rfl) (s_checkPuddle_bad C x y hx) (jMeets_out rfl h)
set_option maxRecDepth 100000 in
set_option maxHeartbeats 4000000 in
theorem s_X3_flightSum {g : jG} {n : Nat} {ad : Nat → Nat} {E : Nat → va_E} {F S : Nat} {hrs su : Int32} {gone : Int64} {lv ed : Nat → Int32} {old cnt mc : Nat} {dr mr : Nat → Nat → Int32} (C : CR g n ad E F S hrs su gone lv ed old cnt dr mc mr) (a : Nat) (ha : a < F) : Ret g mX3_flightSum 8 [.ref (ad 0), .int (nI a)] n ad E (some (.long (sumP lv S a 0 a (S - 1)))) E := by
  obtain ⟨h0, W, ⟨F4, S4, su4, lv4, ed4, T⟩, Z, Y, ⟨fc, Hm, P⟩, hFp, hSp, hn⟩ := id C
  obtain ⟨-, -, hw, hL, hE, hF, hS⟩ := id W
  obtain ⟨-, -, hz, hzO, hzr, -, -, hold, hcnt⟩ := id Z
  obtain ⟨-, -, hy, hyO, hyr, -, -, -, hmc⟩ := id Y
  intro Φ Ψ h
  show J g mX3_flightSum 8 0 0 0 [some (.ref (ad 0)), some (.int (nI a))] [] n ad E Φ Ψ
  refine j_aload_n dX3_flightSum_0 rfl ?_
  refine j_iload_n dX3_flightSum_1 rfl ?_
  refine j_cV (As := [.int (nI a)]) (rest := []) cm_X3_checkFlight ci_X3_checkFlight cs_X3_checkFlight rfl ln_X3_74 (ci := 3) rfl dX3_flightSum_2 (d' := 7) (by decide) (by omega) h0 rfl rfl (Nat.le_of_ble_eq_true rfl) (Nat.le_of_ble_eq_true rfl) (s_checkFlight_ok C a ha) ?_
  refine j_aload_n dX3_flightSum_5 rfl ?_
  refine j_get fl_X3_12 dX3_flightSum_6 (by omega) h0 rfl ?_
  refine j_iload_n dX3_flightSum_9 rfl ?_
  refine j_iconst (v := nI 0) dX3_flightSum_10 (by decide) ?_
  refine j_iload_n dX3_flightSum_11 rfl ?_
  refine j_aload_n dX3_flightSum_12 rfl ?_
  refine j_get fl_X3_12 dX3_flightSum_13 (by omega) h0 rfl ?_
  refine j_get fl_X3_77 dX3_flightSum_16 (by omega) hw rfl ?_
  refine j_iconst (v := 1) dX3_flightSum_19 (by decide) ?_
  refine j_isub dX3_flightSum_20 ?_
  refine j_topi (y := nI (S - 1)) (pk_sub (by omega)) ?_
  refine j_cV (As := [.int (nI a), .int (nI 0), .int (nI a), .int (nI (S - 1))]) (rest := []) cm_X2_partSum ci_X2_partSum cs_X2_partSum rfl ln_X3_151 (ci := 2) rfl dX3_flightSum_21 (d' := 2) (by decide) (by omega) hw rfl rfl (Nat.le_of_ble_eq_true rfl) (Nat.le_of_ble_eq_true rfl) (s_X2_partSum W a 0 a (S - 1) (by omega) (by omega) (by omega) (by omega)) ?_
  exact j_lret dX3_flightSum_24 rfl h
set_option maxRecDepth 100000 in
set_option maxHeartbeats 4000000 in
theorem s_X3_flightSum_bad {g : jG} {n : Nat} {ad : Nat → Nat} {E : Nat → va_E} {F S : Nat} {hrs su : Int32} {gone : Int64} {lv ed : Nat → Int32} {old cnt mc : Nat} {dr mr : Nat → Nat → Int32} (C : CR g n ad E F S hrs su gone lv ed old cnt dr mc mr) (x : Int32) (hx : oob x F) : Thr g mX3_flightSum 8 [.ref (ad 0), .int x] n ad E "java/lang/IndexOutOfBoundsException" := by
  obtain ⟨h0, W, ⟨F4, S4, su4, lv4, ed4, T⟩, Z, Y, ⟨fc, Hm, P⟩, hFp, hSp, hn⟩ := id C
  obtain ⟨-, -, hw, hL, hE, hF, hS⟩ := id W
  obtain ⟨-, -, hz, hzO, hzr, -, -, hold, hcnt⟩ := id Z
  obtain ⟨-, -, hy, hyO, hyr, -, -, -, hmc⟩ := id Y
  intro Φ Ψ h
  show J g mX3_flightSum 8 1 6 0 [some (.ref (ad 0)), some (.int x)] [] n ad E Φ Ψ
  refine j_aload_n dX3_flightSum_0 rfl ?_
  refine j_iload_n dX3_flightSum_1 rfl ?_
  exact j_cVx (As := [.int x]) (rest := []) cm_X3_checkFlight ci_X3_checkFlight cs_X3_checkFlight rfl ln_X3_74 (ci := 3) rfl dX3_flightSum_2 (d' := 7) (by decide) (by omega) h0 rfl rfl (Nat.le_of_ble_eq_true rfl) (Nat.le_of_ble_eq_true rfl) (s_checkFlight_bad C x hx) (jMeets_out rfl h)
set_option maxRecDepth 100000 in
set_option maxHeartbeats 4000000 in
theorem s_X3_stepSum {g : jG} {n : Nat} {ad : Nat → Nat} {E : Nat → va_E} {F S : Nat} {hrs su : Int32} {gone : Int64} {lv ed : Nat → Int32} {old cnt mc : Nat} {dr mr : Nat → Nat → Int32} (C : CR g n ad E F S hrs su gone lv ed old cnt dr mc mr) (b : Nat) (hb : b < S) : Ret g mX3_stepSum 8 [.ref (ad 0), .int (nI b)] n ad E (some (.long (sumP lv S 0 b (F - 1) b))) E := by
  obtain ⟨h0, W, ⟨F4, S4, su4, lv4, ed4, T⟩, Z, Y, ⟨fc, Hm, P⟩, hFp, hSp, hn⟩ := id C
  obtain ⟨-, -, hw, hL, hE, hF, hS⟩ := id W
  obtain ⟨-, -, hz, hzO, hzr, -, -, hold, hcnt⟩ := id Z
  obtain ⟨-, -, hy, hyO, hyr, -, -, -, hmc⟩ := id Y
  intro Φ Ψ h
  show J g mX3_stepSum 8 0 0 0 [some (.ref (ad 0)), some (.int (nI b))] [] n ad E Φ Ψ
  refine j_aload_n dX3_stepSum_0 rfl ?_
  refine j_iload_n dX3_stepSum_1 rfl ?_
  refine j_cV (As := [.int (nI b)]) (rest := []) cm_X3_checkStep ci_X3_checkStep cs_X3_checkStep rfl ln_X3_141 (ci := 3) rfl dX3_stepSum_2 (d' := 7) (by decide) (by omega) h0 rfl rfl (Nat.le_of_ble_eq_true rfl) (Nat.le_of_ble_eq_true rfl) (s_checkStep_ok C b hb) ?_
  refine j_aload_n dX3_stepSum_5 rfl ?_
  refine j_get fl_X3_12 dX3_stepSum_6 (by omega) h0 rfl ?_
  refine j_iconst (v := nI 0) dX3_stepSum_9 (by decide) ?_
  refine j_iload_n dX3_stepSum_10 rfl ?_
  refine j_aload_n dX3_stepSum_11 rfl ?_
  refine j_get fl_X3_12 dX3_stepSum_12 (by omega) h0 rfl ?_
  refine j_get fl_X3_148 dX3_stepSum_15 (by omega) hw rfl ?_
  refine j_iconst (v := 1) dX3_stepSum_18 (by decide) ?_
  refine j_isub dX3_stepSum_19 ?_
  refine j_topi (y := nI (F - 1)) (pk_sub (by omega)) ?_
  refine j_iload_n dX3_stepSum_20 rfl ?_
  refine j_cV (As := [.int (nI 0), .int (nI b), .int (nI (F - 1)), .int (nI b)]) (rest := []) cm_X2_partSum ci_X2_partSum cs_X2_partSum rfl ln_X3_151 (ci := 2) rfl dX3_stepSum_21 (d' := 2) (by decide) (by omega) hw rfl rfl (Nat.le_of_ble_eq_true rfl) (Nat.le_of_ble_eq_true rfl) (s_X2_partSum W 0 b (F - 1) b (by omega) (by omega) (by omega) (by omega)) ?_
  exact j_lret dX3_stepSum_24 rfl h
set_option maxRecDepth 100000 in
set_option maxHeartbeats 4000000 in
theorem s_X3_stepSum_bad {g : jG} {n : Nat} {ad : Nat → Nat} {E : Nat → va_E} {F S : Nat} {hrs su : Int32} {gone : Int64} {lv ed : Nat → Int32} {old cnt mc : Nat} {dr mr : Nat → Nat → Int32} (C : CR g n ad E F S hrs su gone lv ed old cnt dr mc mr) (x : Int32) (hx : oob x S) : Thr g mX3_stepSum 8 [.ref (ad 0), .int x] n ad E "java/lang/IndexOutOfBoundsException" := by
  obtain ⟨h0, W, ⟨F4, S4, su4, lv4, ed4, T⟩, Z, Y, ⟨fc, Hm, P⟩, hFp, hSp, hn⟩ := id C
  obtain ⟨-, -, hw, hL, hE, hF, hS⟩ := id W
  obtain ⟨-, -, hz, hzO, hzr, -, -, hold, hcnt⟩ := id Z
  obtain ⟨-, -, hy, hyO, hyr, -, -, -, hmc⟩ := id Y
  intro Φ Ψ h
  show J g mX3_stepSum 8 1 6 0 [some (.ref (ad 0)), some (.int x)] [] n ad E Φ Ψ
  refine j_aload_n dX3_stepSum_0 rfl ?_
  refine j_iload_n dX3_stepSum_1 rfl ?_
  exact j_cVx (As := [.int x]) (rest := []) cm_X3_checkStep ci_X3_checkStep cs_X3_checkStep rfl ln_X3_141 (ci := 3) rfl dX3_stepSum_2 (d' := 7) (by decide) (by omega) h0 rfl rfl (Nat.le_of_ble_eq_true rfl) (Nat.le_of_ble_eq_true rfl) (s_checkStep_bad C x hx) (jMeets_out rfl h)
set_option maxRecDepth 100000 in
set_option maxHeartbeats 4000000 in
theorem s_X3_total {g : jG} {n : Nat} {ad : Nat → Nat} {E : Nat → va_E} {F S : Nat} {hrs su : Int32} {gone : Int64} {lv ed : Nat → Int32} {old cnt mc : Nat} {dr mr : Nat → Nat → Int32} (C : CR g n ad E F S hrs su gone lv ed old cnt dr mc mr) : Ret g mX3_total 4 [.ref (ad 0)] n ad E (some (.long (sumP lv S 0 0 (F - 1) (S - 1)))) E := by
  obtain ⟨h0, W, ⟨F4, S4, su4, lv4, ed4, T⟩, Z, Y, ⟨fc, Hm, P⟩, hFp, hSp, hn⟩ := id C
  obtain ⟨-, -, hw, hL, hE, hF, hS⟩ := id W
  obtain ⟨-, -, hz, hzO, hzr, -, -, hold, hcnt⟩ := id Z
  obtain ⟨-, -, hy, hyO, hyr, -, -, -, hmc⟩ := id Y
  intro Φ Ψ h
  show J g mX3_total 4 0 0 0 [some (.ref (ad 0))] [] n ad E Φ Ψ
  refine j_aload_n dX3_total_0 rfl ?_
  refine j_get fl_X3_12 dX3_total_1 (by omega) h0 rfl ?_
  refine j_cV (As := []) (rest := []) cm_X2_wholeSum ci_X2_wholeSum cs_X2_wholeSum rfl ln_X3_155 (ci := 2) rfl dX3_total_4 (d' := 3) (by decide) (by omega) hw rfl rfl (Nat.le_of_ble_eq_true rfl) (Nat.le_of_ble_eq_true rfl) (s_X2_wholeSum W (by omega) (by omega)) ?_
  exact j_lret dX3_total_7 rfl h
set_option maxRecDepth 100000 in
set_option maxHeartbeats 4000000 in
theorem s_X3_dryIn {g : jG} {n : Nat} {ad : Nat → Nat} {E : Nat → va_E} {F S : Nat} {hrs su : Int32} {gone : Int64} {lv ed : Nat → Int32} {old cnt mc : Nat} {dr mr : Nat → Nat → Int32} (C : CR g n ad E F S hrs su gone lv ed old cnt dr mc mr) (fa sa fb sb : Nat) (hfa : fa < F) (hsa : sa < S) (hfb : fb < F) (hsb : sb < S) (h1 : fa ≤ fb) (h2 : sa ≤ sb) : Ret g mX3_dryIn 10 [.ref (ad 0), .int (nI fa), .int (nI sa), .int (nI fb), .int (nI sb)] n ad E (some (.int (dryP lv S fa sa fb sb))) E := by
  obtain ⟨h0, W, ⟨F4, S4, su4, lv4, ed4, T⟩, Z, Y, ⟨fc, Hm, P⟩, hFp, hSp, hn⟩ := id C
  obtain ⟨-, -, hw, hL, hE, hF, hS⟩ := id W
  obtain ⟨-, -, hz, hzO, hzr, -, -, hold, hcnt⟩ := id Z
  obtain ⟨-, -, hy, hyO, hyr, -, -, -, hmc⟩ := id Y
  intro Φ Ψ h
  show J g mX3_dryIn 10 0 0 0 [some (.ref (ad 0)), some (.int (nI fa)), some (.int (nI sa)), some (.int (nI fb)), some (.int (nI sb))] [] n ad E Φ Ψ
  refine j_aload_n dX3_dryIn_0 rfl ?_
  refine j_iload_n dX3_dryIn_1 rfl ?_
  refine j_iload_n dX3_dryIn_2 rfl ?_
  refine j_iload_n dX3_dryIn_3 rfl ?_
  refine j_iload dX3_dryIn_4 rfl ?_
  refine j_cV (As := [.int (nI fa), .int (nI sa), .int (nI fb), .int (nI sb)]) (rest := []) cm_X3_checkPart ci_X3_checkPart cs_X3_checkPart rfl ln_X3_70 (ci := 3) rfl dX3_dryIn_6 (d' := 9) (by decide) (by omega) h0 rfl rfl (Nat.le_of_ble_eq_true rfl) (Nat.le_of_ble_eq_true rfl) (s_checkPart_ok C fa sa fb sb hfa hsa hfb hsb h1 h2) ?_
  refine j_aload_n dX3_dryIn_9 rfl ?_
  refine j_get fl_X3_12 dX3_dryIn_10 (by omega) h0 rfl ?_
  refine j_iload_n dX3_dryIn_13 rfl ?_
  refine j_iload_n dX3_dryIn_14 rfl ?_
  refine j_iload_n dX3_dryIn_15 rfl ?_
  refine j_iload dX3_dryIn_16 rfl ?_
  refine j_cV (As := [.int (nI fa), .int (nI sa), .int (nI fb), .int (nI sb)]) (rest := []) cm_X2_dryInPart ci_X2_dryInPart cs_X2_dryInPart rfl ln_X3_162 (ci := 2) rfl dX3_dryIn_18 (d' := 2) (by decide) (by omega) hw rfl rfl (Nat.le_of_ble_eq_true rfl) (Nat.le_of_ble_eq_true rfl) (s_X2_dryInPart W fa sa fb sb (by omega) (by omega) (by omega) (by omega)) ?_
  exact j_iret dX3_dryIn_21 rfl h
set_option maxRecDepth 100000 in
set_option maxHeartbeats 4000000 in
theorem s_X3_dryIn_bad {g : jG} {n : Nat} {ad : Nat → Nat} {E : Nat → va_E} {F S : Nat} {hrs su : Int32} {gone : Int64} {lv ed : Nat → Int32} {old cnt mc : Nat} {dr mr : Nat → Nat → Int32} (C : CR g n ad E F S hrs su gone lv ed old cnt dr mc mr) (x1 x2 x3 x4 : Int32) (hx : oob x1 F ∨ oob x2 S ∨ oob x3 F ∨ oob x4 S) : Thr g mX3_dryIn 10 [.ref (ad 0), .int x1, .int x2, .int x3, .int x4] n ad E "java/lang/IndexOutOfBoundsException" := by
  obtain ⟨h0, W, ⟨F4, S4, su4, lv4, ed4, T⟩, Z, Y, ⟨fc, Hm, P⟩, hFp, hSp, hn⟩ := id C
  obtain ⟨-, -, hw, hL, hE, hF, hS⟩ := id W
  obtain ⟨-, -, hz, hzO, hzr, -, -, hold, hcnt⟩ := id Z
  obtain ⟨-, -, hy, hyO, hyr, -, -, -, hmc⟩ := id Y
  intro Φ Ψ h
  show J g mX3_dryIn 10 1 6 0 [some (.ref (ad 0)), some (.int x1), some (.int x2), some (.int x3), some (.int x4)] [] n ad E Φ Ψ
  refine j_aload_n dX3_dryIn_0 rfl ?_
  refine j_iload_n dX3_dryIn_1 rfl ?_
  refine j_iload_n dX3_dryIn_2 rfl ?_
  refine j_iload_n dX3_dryIn_3 rfl ?_
  refine j_iload dX3_dryIn_4 rfl ?_
  exact j_cVx (As := [.int x1, .int x2, .int x3, .int x4]) (rest := []) cm_X3_checkPart ci_X3_checkPart cs_X3_checkPart rfl ln_X3_70 (ci := 3) rfl dX3_dryIn_6 (d' := 9) (by decide) (by omega) h0 rfl rfl (Nat.le_of_ble_eq_true rfl) (Nat.le_of_ble_eq_true rfl) (s_checkPart_bad C x1 x2 x3 x4 hx) (jMeets_out rfl h)
set_option maxRecDepth 100000 in
set_option maxHeartbeats 4000000 in
theorem s_X3_dryIn_iae {g : jG} {n : Nat} {ad : Nat → Nat} {E : Nat → va_E} {F S : Nat} {hrs su : Int32} {gone : Int64} {lv ed : Nat → Int32} {old cnt mc : Nat} {dr mr : Nat → Nat → Int32} (C : CR g n ad E F S hrs su gone lv ed old cnt dr mc mr) (fa sa fb sb : Nat) (hfa : fa < F) (hsa : sa < S) (hfb : fb < F) (hsb : sb < S) (hx : fb < fa ∨ sb < sa) : Thr g mX3_dryIn 10 [.ref (ad 0), .int (nI fa), .int (nI sa), .int (nI fb), .int (nI sb)] n ad E "java/lang/IllegalArgumentException" := by
  obtain ⟨h0, W, ⟨F4, S4, su4, lv4, ed4, T⟩, Z, Y, ⟨fc, Hm, P⟩, hFp, hSp, hn⟩ := id C
  obtain ⟨-, -, hw, hL, hE, hF, hS⟩ := id W
  obtain ⟨-, -, hz, hzO, hzr, -, -, hold, hcnt⟩ := id Z
  obtain ⟨-, -, hy, hyO, hyr, -, -, -, hmc⟩ := id Y
  intro Φ Ψ h
  show J g mX3_dryIn 10 1 6 0 [some (.ref (ad 0)), some (.int (nI fa)), some (.int (nI sa)), some (.int (nI fb)), some (.int (nI sb))] [] n ad E Φ Ψ
  refine j_aload_n dX3_dryIn_0 rfl ?_
  refine j_iload_n dX3_dryIn_1 rfl ?_
  refine j_iload_n dX3_dryIn_2 rfl ?_
  refine j_iload_n dX3_dryIn_3 rfl ?_
  refine j_iload dX3_dryIn_4 rfl ?_
  exact j_cVx (As := [.int (nI fa), .int (nI sa), .int (nI fb), .int (nI sb)]) (rest := []) cm_X3_checkPart ci_X3_checkPart cs_X3_checkPart rfl ln_X3_70 (ci := 3) rfl dX3_dryIn_6 (d' := 9) (by decide) (by omega) h0 rfl rfl (Nat.le_of_ble_eq_true rfl) (Nat.le_of_ble_eq_true rfl) (s_checkPart_iae C fa sa fb sb hfa hsa hfb hsb hx) (jMeets_out rfl h)
set_option maxRecDepth 100000 in
set_option maxHeartbeats 4000000 in
theorem s_X3_dry {g : jG} {n : Nat} {ad : Nat → Nat} {E : Nat → va_E} {F S : Nat} {hrs su : Int32} {gone : Int64} {lv ed : Nat → Int32} {old cnt mc : Nat} {dr mr : Nat → Nat → Int32} (C : CR g n ad E F S hrs su gone lv ed old cnt dr mc mr) : Ret g mX3_dry 2 [.ref (ad 0)] n ad E (some (.int (uptC lv (F * S) 0))) E := by
  obtain ⟨h0, W, ⟨F4, S4, su4, lv4, ed4, T⟩, Z, Y, ⟨fc, Hm, P⟩, hFp, hSp, hn⟩ := id C
  obtain ⟨-, -, hw, hL, hE, hF, hS⟩ := id W
  obtain ⟨-, -, hz, hzO, hzr, -, -, hold, hcnt⟩ := id Z
  obtain ⟨-, -, hy, hyO, hyr, -, -, -, hmc⟩ := id Y
  intro Φ Ψ h
  show J g mX3_dry 2 0 0 0 [some (.ref (ad 0))] [] n ad E Φ Ψ
  refine j_aload_n dX3_dry_0 rfl ?_
  refine j_get fl_X3_12 dX3_dry_1 (by omega) h0 rfl ?_
  refine j_iconst (v := 0) dX3_dry_4 (by decide) ?_
  refine j_cV (As := [.int 0]) (rest := []) cm_X2_upToLevel ci_X2_upToLevel cs_X2_upToLevel rfl ln_X3_166 (ci := 2) rfl dX3_dry_5 (d' := 1) (by decide) (by omega) hw rfl rfl (Nat.le_of_ble_eq_true rfl) (Nat.le_of_ble_eq_true rfl) (s_X2_upToLevel W 0) ?_
  exact j_iret dX3_dry_8 rfl h
set_option maxRecDepth 100000 in
set_option maxHeartbeats 4000000 in
theorem s_X3_upTo {g : jG} {n : Nat} {ad : Nat → Nat} {E : Nat → va_E} {F S : Nat} {hrs su : Int32} {gone : Int64} {lv ed : Nat → Int32} {old cnt mc : Nat} {dr mr : Nat → Nat → Int32} (C : CR g n ad E F S hrs su gone lv ed old cnt dr mc mr) (x : Int32) : Ret g mX3_upTo 2 [.ref (ad 0), .int x] n ad E (some (.int (uptC lv (F * S) x))) E := by
  obtain ⟨h0, W, ⟨F4, S4, su4, lv4, ed4, T⟩, Z, Y, ⟨fc, Hm, P⟩, hFp, hSp, hn⟩ := id C
  obtain ⟨-, -, hw, hL, hE, hF, hS⟩ := id W
  obtain ⟨-, -, hz, hzO, hzr, -, -, hold, hcnt⟩ := id Z
  obtain ⟨-, -, hy, hyO, hyr, -, -, -, hmc⟩ := id Y
  intro Φ Ψ h
  show J g mX3_upTo 2 0 0 0 [some (.ref (ad 0)), some (.int x)] [] n ad E Φ Ψ
  refine j_aload_n dX3_upTo_0 rfl ?_
  refine j_get fl_X3_12 dX3_upTo_1 (by omega) h0 rfl ?_
  refine j_iload_n dX3_upTo_4 rfl ?_
  refine j_cV (As := [.int x]) (rest := []) cm_X2_upToLevel ci_X2_upToLevel cs_X2_upToLevel rfl ln_X3_166 (ci := 2) rfl dX3_upTo_5 (d' := 1) (by decide) (by omega) hw rfl rfl (Nat.le_of_ble_eq_true rfl) (Nat.le_of_ble_eq_true rfl) (s_X2_upToLevel W x) ?_
  exact j_iret dX3_upTo_8 rfl h
theorem slot0 {p lim : Nat} (h : p < lim) : slot 0 p lim = p := by
  unfold slot
  rw [if_pos (by omega)]
  omega
set_option maxRecDepth 100000 in
set_option maxHeartbeats 4000000 in
theorem s_X3_changedSince {g : jG} {n : Nat} {ad : Nat → Nat} {E : Nat → va_E} {F S : Nat} {hrs su : Int32} {gone : Int64} {lv ed : Nat → Int32} {old cnt mc : Nat} {dr mr : Nat → Nat → Int32} (C : CR g n ad E F S hrs su gone lv ed old cnt dr mc mr) (k : Nat) (hk : k < mc) : Ret g mX3_changedSince 8 [.ref (ad 0), .int (nI k)] n ad E (some (.int (chgC lv (mr k) (F * S)))) E := by
  obtain ⟨h0, W, ⟨F4, S4, su4, lv4, ed4, T⟩, Z, Y, ⟨fc, Hm, P⟩, hFp, hSp, hn⟩ := id C
  obtain ⟨-, -, hw, hL, hE, hF, hS⟩ := id W
  obtain ⟨-, -, hz, hzO, hzr, -, -, hold, hcnt⟩ := id Z
  obtain ⟨-, -, hy, hyO, hyr, -, -, -, hmc⟩ := id Y
  intro Φ Ψ h
  show J g mX3_changedSince 8 0 0 0 [some (.ref (ad 0)), some (.int (nI k))] [] n ad E Φ Ψ
  refine j_aload_n dX3_changedSince_0 rfl ?_
  refine j_iload_n dX3_changedSince_1 rfl ?_
  refine j_cV (As := [.int (nI k)]) (rest := []) cm_X3_checkMark ci_X3_checkMark cs_X3_checkMark rfl ln_X3_130 (ci := 3) rfl dX3_changedSince_2 (d' := 7) (by decide) (by omega) h0 rfl rfl (Nat.le_of_ble_eq_true rfl) (Nat.le_of_ble_eq_true rfl) (s_checkMark_ok C k hk) ?_
  refine j_aload_n dX3_changedSince_5 rfl ?_
  refine j_get fl_X3_12 dX3_changedSince_6 (by omega) h0 rfl ?_
  refine j_aload_n dX3_changedSince_9 rfl ?_
  refine j_get fl_X3_28 dX3_changedSince_10 (by omega) h0 rfl ?_
  refine j_iload_n dX3_changedSince_13 rfl ?_
  refine j_cV (As := [.int (nI k)]) (rest := [.ref (ad 1)]) cm_X1_row ci_X1_row cs_X1_row rfl ln_X3_92 (ci := 1) rfl dX3_changedSince_14 (d' := 0) (by decide) (by omega) hy rfl rfl (Nat.le_of_ble_eq_true rfl) (Nat.le_of_ble_eq_true rfl) (s_X1_row Y k (by omega)) ?_
  refine j_st (st' := [.ref (ad (41 + k)), .ref (ad 1)]) (by rw [slot0 (show k < 12 by omega)] <;> rfl) ?_
  refine j_cV (As := [.ref (ad (41 + k))]) (rest := []) cm_X2_changedFrom ci_X2_changedFrom cs_X2_changedFrom rfl ln_X3_96 (ci := 2) rfl dX3_changedSince_17 (d' := 1) (by decide) (by omega) hw rfl rfl (Nat.le_of_ble_eq_true rfl) (Nat.le_of_ble_eq_true rfl) (s_X2_changedFrom W (r := 41 + k) (by omega) (hyr k (by omega))) ?_
  exact j_iret dX3_changedSince_20 rfl h
set_option maxRecDepth 100000 in
set_option maxHeartbeats 4000000 in
theorem s_X3_changedSince_bad {g : jG} {n : Nat} {ad : Nat → Nat} {E : Nat → va_E} {F S : Nat} {hrs su : Int32} {gone : Int64} {lv ed : Nat → Int32} {old cnt mc : Nat} {dr mr : Nat → Nat → Int32} (C : CR g n ad E F S hrs su gone lv ed old cnt dr mc mr) (x : Int32) (hx : oob x mc) : Thr g mX3_changedSince 8 [.ref (ad 0), .int x] n ad E "java/lang/IndexOutOfBoundsException" := by
  obtain ⟨h0, W, ⟨F4, S4, su4, lv4, ed4, T⟩, Z, Y, ⟨fc, Hm, P⟩, hFp, hSp, hn⟩ := id C
  obtain ⟨-, -, hw, hL, hE, hF, hS⟩ := id W
  obtain ⟨-, -, hz, hzO, hzr, -, -, hold, hcnt⟩ := id Z
  obtain ⟨-, -, hy, hyO, hyr, -, -, -, hmc⟩ := id Y
  intro Φ Ψ h
  show J g mX3_changedSince 8 1 6 0 [some (.ref (ad 0)), some (.int x)] [] n ad E Φ Ψ
  refine j_aload_n dX3_changedSince_0 rfl ?_
  refine j_iload_n dX3_changedSince_1 rfl ?_
  exact j_cVx (As := [.int x]) (rest := []) cm_X3_checkMark ci_X3_checkMark cs_X3_checkMark rfl ln_X3_130 (ci := 3) rfl dX3_changedSince_2 (d' := 7) (by decide) (by omega) h0 rfl rfl (Nat.le_of_ble_eq_true rfl) (Nat.le_of_ble_eq_true rfl) (s_checkMark_bad C x hx) (jMeets_out rfl h)
def reachR (lv : Nat → Int32) (S a : Nat) (x : Int32) : Int64 ⊕ Nat := lpe (fun s y => if lg_cmp (y + (lv (a * S + s)).toInt64) x.toInt64 < 0 then .inl (y + (lv (a * S + s)).toInt64) else .inr s) 0 S 0
def runB2 (lv : Nat → Int32) (S a s : Nat) (y : Int64 × Int64) : Int64 × Int64 := (if ((if y.2 < 0 then 0 else y.2) + (lv (a * S + s)).toInt64) < y.1 then y.1 else (if y.2 < 0 then 0 else y.2) + (lv (a * S + s)).toInt64, (if y.2 < 0 then 0 else y.2) + (lv (a * S + s)).toInt64)
def bestRunR (lv : Nat → Int32) (S a : Nat) : Int64 × Int64 := lpf (runB2 lv S a) 0 S (-9223372036854775808, 0)
def dryAtR (lv : Nat → Int32) (N : Nat) (x : Int32) : Int32 ⊕ Nat := lpe (fun k c => if 0 < lv k then .inl c else if c = x then .inr k else .inl (c + 1)) 0 N 0
def longR (lv : Nat → Int32) (S a : Nat) : Int32 × Int32 := lpf (fun s y => (if y.1 < (if 0 < lv (a * S + s) then 0 else y.2 + 1) then (if 0 < lv (a * S + s) then 0 else y.2 + 1) else y.1, if 0 < lv (a * S + s) then 0 else y.2 + 1)) 0 S (0, 0)
def driestR (lv : Nat → Int32) (F S : Nat) : Nat × Int32 := lpf (fun f y => if dryP lv S f 0 f (S - 1) ≤ y.2 then y else (f, dryP lv S f 0 f (S - 1))) 0 F (0, -1)
def lowR (lv : Nat → Int32) (S fa sa fb sb : Nat) : Int32 := lpf (fun f x => lpf (fun s x => if lv (f * S + s) < x then lv (f * S + s) else x) sa (sb + 1 - sa) x) fa (fb + 1 - fa) 2147483647
def highR (lv : Nat → Int32) (S a : Nat) : Nat := lpf (fun s h => if lv (a * S + s) ≤ lv (a * S + h) then h else s) 1 (S - 1) 0
def orderR (lv : Nat → Int32) (N : Nat) (x : Int32) : Int32 := lpf (fun k y => if y ≤ lv k then y else if uptC lv N (lv k) ≤ x then y else lv k) 0 N 2147483647
set_option maxRecDepth 100000 in
set_option maxHeartbeats 4000000 in
theorem s_X3_firstReaching_some {g : jG} {n : Nat} {ad : Nat → Nat} {E : Nat → va_E} {F S : Nat} {hrs su : Int32} {gone : Int64} {lv ed : Nat → Int32} {old cnt mc : Nat} {dr mr : Nat → Nat → Int32} (C : CR g n ad E F S hrs su gone lv ed old cnt dr mc mr) (a : Nat) (ha : a < F) (x : Int32) (s0 : Nat) (hs0 : reachR lv S a x = .inr s0) : Ret g mX3_firstReaching 8 [.ref (ad 0), .int (nI a), .int x] n ad E (some (.int (nI s0))) E := by
  obtain ⟨h0, W, ⟨F4, S4, su4, lv4, ed4, T⟩, Z, Y, ⟨fc, Hm, P⟩, hFp, hSp, hn⟩ := id C
  obtain ⟨-, -, hw, hL, hE, hF, hS⟩ := id W
  obtain ⟨-, -, hz, hzO, hzr, -, -, hold, hcnt⟩ := id Z
  obtain ⟨-, -, hy, hyO, hyr, -, -, -, hmc⟩ := id Y
  intro Φ Ψ h
  show J g mX3_firstReaching 8 0 0 0 [some (.ref (ad 0)), some (.int (nI a)), some (.int x), none, none, none] [] n ad E Φ Ψ
  refine j_aload_n dX3_firstReaching_0 rfl ?_
  refine j_iload_n dX3_firstReaching_1 rfl ?_
  refine j_cV (As := [.int (nI a)]) (rest := []) cm_X3_checkFlight ci_X3_checkFlight cs_X3_checkFlight rfl ln_X3_74 (ci := 3) rfl dX3_firstReaching_2 (d' := 7) (by decide) (by omega) h0 rfl rfl (Nat.le_of_ble_eq_true rfl) (Nat.le_of_ble_eq_true rfl) (s_checkFlight_ok C a ha) ?_
  refine j_lconst (v := 0) dX3_firstReaching_5 rfl ?_
  refine j_lstore_n (L' := [some (.ref (ad 0)), some (.int (nI a)), some (.int x), some (.long 0), none, none]) dX3_firstReaching_6 (by decide) rfl rfl ?_
  refine j_iconst (v := nI 0) dX3_firstReaching_7 (by decide) ?_
  refine j_istore (L' := [some (.ref (ad 0)), some (.int (nI a)), some (.int x), some (.long 0), none, some (.int (nI 0))]) dX3_firstReaching_8 (by decide) rfl rfl ?_
  refine lpe_ind (b := fun s y => if lg_cmp (y + (lv (a * S + s)).toInt64) x.toInt64 < 0 then .inl (y + (lv (a * S + s)).toInt64) else .inr s) (P := fun (s : Nat) (y : Int64) => J g mX3_firstReaching 8 0 0 10 [some (.ref (ad 0)), some (.int (nI a)), some (.int x), some (.long y), none, some (.int (nI s))] [] n ad E Φ Ψ) (Pb := fun s0 => Φ (some (.int (nI s0))) n ad E) (N := S) 0 ?_ S 0 (by omega) ?_
  · intro s y hs0 hs ih
    show J g mX3_firstReaching 8 0 0 10 [some (.ref (ad 0)), some (.int (nI a)), some (.int x), some (.long y), none, some (.int (nI s))] [] n ad E Φ Ψ
    refine j_iload dX3_firstReaching_10 rfl ?_
    refine j_aload_n dX3_firstReaching_12 rfl ?_
    refine j_get fl_X3_12 dX3_firstReaching_13 (by omega) h0 rfl ?_
    refine j_get fl_X3_77 dX3_firstReaching_16 (by omega) hw rfl ?_
    refine j_icmp_ge_f (tgt := 52) dX3_firstReaching_19 (by decide) (nI_nle' (by omega) (by omega) (by omega)) ?_
    refine j_lload_n dX3_firstReaching_22 rfl ?_
    refine j_aload_n dX3_firstReaching_23 rfl ?_
    refine j_get fl_X3_12 dX3_firstReaching_24 (by omega) h0 rfl ?_
    refine j_iload_n dX3_firstReaching_27 rfl ?_
    refine j_iload dX3_firstReaching_28 rfl ?_
    refine j_cV (As := [.int (nI a), .int (nI s)]) (rest := [.long y]) cm_X2_level ci_X2_level cs_X2_level rfl ln_X3_66 (ci := 2) rfl dX3_firstReaching_30 (d' := 1) (by decide) (by omega) hw rfl rfl (Nat.le_of_ble_eq_true rfl) (Nat.le_of_ble_eq_true rfl) (s_X2_level W a s (ix128 hF hS ha hs)) ?_
    refine j_i2l dX3_firstReaching_33 ?_
    refine j_ladd dX3_firstReaching_34 ?_
    refine j_lstore_n (L' := [some (.ref (ad 0)), some (.int (nI a)), some (.int x), some (.long (y + ((lv (a * S + s)).toInt64))), none, some (.int (nI s))]) dX3_firstReaching_35 (by decide) rfl rfl ?_
    refine j_lload_n dX3_firstReaching_36 rfl ?_
    refine j_iload_n dX3_firstReaching_37 rfl ?_
    refine j_i2l dX3_firstReaching_38 ?_
    refine j_lcmp dX3_firstReaching_39 ?_
    refine j_if_lt (tgt := 46) dX3_firstReaching_40 (by decide) (fun hq => ?_) (fun hq => ?_)
    · skip
      refine j_iinc (v := nI (s + 1)) (L' := [some (.ref (ad 0)), some (.int (nI a)), some (.int x), some (.long (y + ((lv (a * S + s)).toInt64))), none, some (.int (nI (s + 1)))]) dX3_firstReaching_46 (by decide) rfl (nI_1 _) rfl rfl ?_
      refine j_goto (tgt := 10) dX3_firstReaching_49 (by decide) ?_
      exact ih (.inl (y + (lv (a * S + s)).toInt64)) (by simp only [hq, if_true])
    · skip
      refine j_iload dX3_firstReaching_43 rfl ?_
      exact j_iret dX3_firstReaching_45 rfl (ih (.inr s) (by simp only [hq, if_false]))
  · skip
    show lpeP _ _ (reachR lv S a x)
    rw [hs0]
    exact h
set_option maxRecDepth 100000 in
set_option maxHeartbeats 4000000 in
theorem s_X3_firstReaching_none {g : jG} {n : Nat} {ad : Nat → Nat} {E : Nat → va_E} {F S : Nat} {hrs su : Int32} {gone : Int64} {lv ed : Nat → Int32} {old cnt mc : Nat} {dr mr : Nat → Nat → Int32} (C : CR g n ad E F S hrs su gone lv ed old cnt dr mc mr) (a : Nat) (ha : a < F) (x : Int32) (y0 : Int64) (hs0 : reachR lv S a x = .inl y0) : Ret g mX3_firstReaching 8 [.ref (ad 0), .int (nI a), .int x] n ad E (some (.int (-1))) E := by
  obtain ⟨h0, W, ⟨F4, S4, su4, lv4, ed4, T⟩, Z, Y, ⟨fc, Hm, P⟩, hFp, hSp, hn⟩ := id C
  obtain ⟨-, -, hw, hL, hE, hF, hS⟩ := id W
  obtain ⟨-, -, hz, hzO, hzr, -, -, hold, hcnt⟩ := id Z
  obtain ⟨-, -, hy, hyO, hyr, -, -, -, hmc⟩ := id Y
  intro Φ Ψ h
  show J g mX3_firstReaching 8 0 0 0 [some (.ref (ad 0)), some (.int (nI a)), some (.int x), none, none, none] [] n ad E Φ Ψ
  refine j_aload_n dX3_firstReaching_0 rfl ?_
  refine j_iload_n dX3_firstReaching_1 rfl ?_
  refine j_cV (As := [.int (nI a)]) (rest := []) cm_X3_checkFlight ci_X3_checkFlight cs_X3_checkFlight rfl ln_X3_74 (ci := 3) rfl dX3_firstReaching_2 (d' := 7) (by decide) (by omega) h0 rfl rfl (Nat.le_of_ble_eq_true rfl) (Nat.le_of_ble_eq_true rfl) (s_checkFlight_ok C a ha) ?_
  refine j_lconst (v := 0) dX3_firstReaching_5 rfl ?_
  refine j_lstore_n (L' := [some (.ref (ad 0)), some (.int (nI a)), some (.int x), some (.long 0), none, none]) dX3_firstReaching_6 (by decide) rfl rfl ?_
  refine j_iconst (v := nI 0) dX3_firstReaching_7 (by decide) ?_
  refine j_istore (L' := [some (.ref (ad 0)), some (.int (nI a)), some (.int x), some (.long 0), none, some (.int (nI 0))]) dX3_firstReaching_8 (by decide) rfl rfl ?_
  refine lpe_ind (b := fun s y => if lg_cmp (y + (lv (a * S + s)).toInt64) x.toInt64 < 0 then .inl (y + (lv (a * S + s)).toInt64) else .inr s) (P := fun (s : Nat) (y : Int64) => J g mX3_firstReaching 8 0 0 10 [some (.ref (ad 0)), some (.int (nI a)), some (.int x), some (.long y), none, some (.int (nI s))] [] n ad E Φ Ψ) (Pb := fun s0 => Φ (some (.int (nI s0))) n ad E) (N := S) 0 ?_ S 0 (by omega) ?_
  · intro s y hs0 hs ih
    show J g mX3_firstReaching 8 0 0 10 [some (.ref (ad 0)), some (.int (nI a)), some (.int x), some (.long y), none, some (.int (nI s))] [] n ad E Φ Ψ
    refine j_iload dX3_firstReaching_10 rfl ?_
    refine j_aload_n dX3_firstReaching_12 rfl ?_
    refine j_get fl_X3_12 dX3_firstReaching_13 (by omega) h0 rfl ?_
    refine j_get fl_X3_77 dX3_firstReaching_16 (by omega) hw rfl ?_
    refine j_icmp_ge_f (tgt := 52) dX3_firstReaching_19 (by decide) (nI_nle' (by omega) (by omega) (by omega)) ?_
    refine j_lload_n dX3_firstReaching_22 rfl ?_
    refine j_aload_n dX3_firstReaching_23 rfl ?_
    refine j_get fl_X3_12 dX3_firstReaching_24 (by omega) h0 rfl ?_
    refine j_iload_n dX3_firstReaching_27 rfl ?_
    refine j_iload dX3_firstReaching_28 rfl ?_
    refine j_cV (As := [.int (nI a), .int (nI s)]) (rest := [.long y]) cm_X2_level ci_X2_level cs_X2_level rfl ln_X3_66 (ci := 2) rfl dX3_firstReaching_30 (d' := 1) (by decide) (by omega) hw rfl rfl (Nat.le_of_ble_eq_true rfl) (Nat.le_of_ble_eq_true rfl) (s_X2_level W a s (ix128 hF hS ha hs)) ?_
    refine j_i2l dX3_firstReaching_33 ?_
    refine j_ladd dX3_firstReaching_34 ?_
    refine j_lstore_n (L' := [some (.ref (ad 0)), some (.int (nI a)), some (.int x), some (.long (y + ((lv (a * S + s)).toInt64))), none, some (.int (nI s))]) dX3_firstReaching_35 (by decide) rfl rfl ?_
    refine j_lload_n dX3_firstReaching_36 rfl ?_
    refine j_iload_n dX3_firstReaching_37 rfl ?_
    refine j_i2l dX3_firstReaching_38 ?_
    refine j_lcmp dX3_firstReaching_39 ?_
    refine j_if_lt (tgt := 46) dX3_firstReaching_40 (by decide) (fun hq => ?_) (fun hq => ?_)
    · skip
      refine j_iinc (v := nI (s + 1)) (L' := [some (.ref (ad 0)), some (.int (nI a)), some (.int x), some (.long (y + ((lv (a * S + s)).toInt64))), none, some (.int (nI (s + 1)))]) dX3_firstReaching_46 (by decide) rfl (nI_1 _) rfl rfl ?_
      refine j_goto (tgt := 10) dX3_firstReaching_49 (by decide) ?_
      exact ih (.inl (y + (lv (a * S + s)).toInt64)) (by simp only [hq, if_true])
    · skip
      refine j_iload dX3_firstReaching_43 rfl ?_
      exact j_iret dX3_firstReaching_45 rfl (ih (.inr s) (by simp only [hq, if_false]))
  · skip
    show lpeP _ _ (reachR lv S a x)
    rw [hs0]
    show J g mX3_firstReaching 8 0 0 10 [some (.ref (ad 0)), some (.int (nI a)), some (.int x), some (.long y0), none, some (.int (nI S))] [] n ad E Φ Ψ
    refine j_iload dX3_firstReaching_10 rfl ?_
    refine j_aload_n dX3_firstReaching_12 rfl ?_
    refine j_get fl_X3_12 dX3_firstReaching_13 (by omega) h0 rfl ?_
    refine j_get fl_X3_77 dX3_firstReaching_16 (by omega) hw rfl ?_
    refine j_icmp_ge_t (tgt := 52) dX3_firstReaching_19 (by decide) (nI_le' (by omega) (by omega) (by omega)) ?_
    refine j_iconst (v := (-1)) dX3_firstReaching_52 (by decide) ?_
    exact j_iret dX3_firstReaching_53 rfl h
set_option maxRecDepth 100000 in
set_option maxHeartbeats 4000000 in
theorem s_X3_firstReaching_bad {g : jG} {n : Nat} {ad : Nat → Nat} {E : Nat → va_E} {F S : Nat} {hrs su : Int32} {gone : Int64} {lv ed : Nat → Int32} {old cnt mc : Nat} {dr mr : Nat → Nat → Int32} (C : CR g n ad E F S hrs su gone lv ed old cnt dr mc mr) (x : Int32) (y : Int32) (hx : oob x F) : Thr g mX3_firstReaching 8 [.ref (ad 0), .int x, .int y] n ad E "java/lang/IndexOutOfBoundsException" := by
  obtain ⟨h0, W, ⟨F4, S4, su4, lv4, ed4, T⟩, Z, Y, ⟨fc, Hm, P⟩, hFp, hSp, hn⟩ := id C
  obtain ⟨-, -, hw, hL, hE, hF, hS⟩ := id W
  obtain ⟨-, -, hz, hzO, hzr, -, -, hold, hcnt⟩ := id Z
  obtain ⟨-, -, hy, hyO, hyr, -, -, -, hmc⟩ := id Y
  intro Φ Ψ h
  show J g mX3_firstReaching 8 1 6 0 [some (.ref (ad 0)), some (.int x), some (.int y), none, none, none] [] n ad E Φ Ψ
  refine j_aload_n dX3_firstReaching_0 rfl ?_
  refine j_iload_n dX3_firstReaching_1 rfl ?_
  exact j_cVx (As := [.int x]) (rest := []) cm_X3_checkFlight ci_X3_checkFlight cs_X3_checkFlight rfl ln_X3_74 (ci := 3) rfl dX3_firstReaching_2 (d' := 7) (by decide) (by omega) h0 rfl rfl (Nat.le_of_ble_eq_true rfl) (Nat.le_of_ble_eq_true rfl) (s_checkFlight_bad C x hx) (jMeets_out rfl h)
theorem le_maxC (x : Int32) : x ≤ 2147483647 := by
  rw [Int32.le_iff_toInt_le]
  have h1 := Int32.toInt_lt x
  have h2 : (2147483647 : Int32).toInt = 2147483647 := by decide
  omega
def bestRunN (lv : Nat → Int32) (S a : Nat) : Int64 × Int64 := lpf (runB2 lv S a) 1 (S - 1) ((lv (a * S + 0)).toInt64, (lv (a * S + 0)).toInt64)
theorem bestRunN_eq (lv : Nat → Int32) {S : Nat} (a : Nat) (hS : 1 ≤ S) : bestRunN lv S a = bestRunR lv S a := by
  obtain ⟨T, rfl⟩ : ∃ T, S = T + 1 := ⟨S - 1, by omega⟩
  unfold bestRunN bestRunR
  show lpf _ 1 (T + 1 - 1) _ = lpf _ (0 + 1) T (runB2 lv (T + 1) a 0 (-9223372036854775808, 0))
  have e : runB2 lv (T + 1) a 0 (-9223372036854775808, 0) = ((lv (a * (T + 1) + 0)).toInt64, (lv (a * (T + 1) + 0)).toInt64) := by
    unfold runB2
    have e0 : (if ((-9223372036854775808 : Int64), (0 : Int64)).2 < 0 then (0 : Int64) else ((-9223372036854775808 : Int64), (0 : Int64)).2) = 0 := by
      show (if (0 : Int64) < 0 then (0 : Int64) else 0) = 0
      split <;> rfl
    rw [e0, Int64.zero_add, if_neg]
    intro q
    rw [Int64.lt_iff_toInt_lt, Int32.toInt_toInt64] at q
    have h1 := Int32.le_toInt (lv (a * (T + 1) + 0))
    have h2 : (-9223372036854775808 : Int64).toInt = -9223372036854775808 := by decide
    have h3 : (((-9223372036854775808 : Int64), (0 : Int64)).fst).toInt = -9223372036854775808 := h2
    omega
  rw [e, Nat.zero_add, show T + 1 - 1 = T by omega]
set_option maxRecDepth 100000 in
set_option maxHeartbeats 4000000 in
theorem s_X3_bestRun0 {g : jG} {n : Nat} {ad : Nat → Nat} {E : Nat → va_E} {F S : Nat} {hrs su : Int32} {gone : Int64} {lv ed : Nat → Int32} {old cnt mc : Nat} {dr mr : Nat → Nat → Int32} (C : CR g n ad E F S hrs su gone lv ed old cnt dr mc mr) (a : Nat) (ha : a < F) : Ret g mX3_bestRun 8 [.ref (ad 0), .int (nI a)] n ad E (some (.long ((bestRunN lv S a).1))) E := by
  obtain ⟨h0, W, ⟨F4, S4, su4, lv4, ed4, T⟩, Z, Y, ⟨fc, Hm, P⟩, hFp, hSp, hn⟩ := id C
  obtain ⟨-, -, hw, hL, hE, hF, hS⟩ := id W
  obtain ⟨-, -, hz, hzO, hzr, -, -, hold, hcnt⟩ := id Z
  obtain ⟨-, -, hy, hyO, hyr, -, -, -, hmc⟩ := id Y
  intro Φ Ψ h
  show J g mX3_bestRun 8 0 0 0 [some (.ref (ad 0)), some (.int (nI a)), none, none, none, none, none] [] n ad E Φ Ψ
  refine j_aload_n dX3_bestRun_0 rfl ?_
  refine j_iload_n dX3_bestRun_1 rfl ?_
  refine j_cV (As := [.int (nI a)]) (rest := []) cm_X3_checkFlight ci_X3_checkFlight cs_X3_checkFlight rfl ln_X3_74 (ci := 3) rfl dX3_bestRun_2 (d' := 7) (by decide) (by omega) h0 rfl rfl (Nat.le_of_ble_eq_true rfl) (Nat.le_of_ble_eq_true rfl) (s_checkFlight_ok C a ha) ?_
  refine j_aload_n dX3_bestRun_5 rfl ?_
  refine j_get fl_X3_12 dX3_bestRun_6 (by omega) h0 rfl ?_
  refine j_iload_n dX3_bestRun_9 rfl ?_
  refine j_iconst (v := nI 0) dX3_bestRun_10 (by decide) ?_
  refine j_cV (As := [.int (nI a), .int (nI 0)]) (rest := []) cm_X2_level ci_X2_level cs_X2_level rfl ln_X3_66 (ci := 2) rfl dX3_bestRun_11 (d' := 1) (by decide) (by omega) hw rfl rfl (Nat.le_of_ble_eq_true rfl) (Nat.le_of_ble_eq_true rfl) (s_X2_level W a 0 (ix128 hF hS ha (show 0 < S by omega))) ?_
  refine j_i2l dX3_bestRun_14 ?_
  refine j_lstore_n (L' := [some (.ref (ad 0)), some (.int (nI a)), some (.long ((lv (a * S + 0)).toInt64)), none, none, none, none]) dX3_bestRun_15 (by decide) rfl rfl ?_
  refine j_lload_n dX3_bestRun_16 rfl ?_
  refine j_lstore (L' := [some (.ref (ad 0)), some (.int (nI a)), some (.long ((lv (a * S + 0)).toInt64)), none, some (.long ((lv (a * S + 0)).toInt64)), none, none]) dX3_bestRun_17 (by decide) rfl rfl ?_
  refine j_iconst (v := nI 1) dX3_bestRun_19 (by decide) ?_
  refine j_istore (L' := [some (.ref (ad 0)), some (.int (nI a)), some (.long ((lv (a * S + 0)).toInt64)), none, some (.long ((lv (a * S + 0)).toInt64)), none, some (.int (nI 1))]) dX3_bestRun_20 (by decide) rfl rfl ?_
  refine lpf_ind (b := runB2 lv S a) (P := fun (s : Nat) (y : Int64 × Int64) => J g mX3_bestRun 8 0 0 22 [some (.ref (ad 0)), some (.int (nI a)), some (.long y.1), none, some (.long y.2), none, some (.int (nI s))] [] n ad E Φ Ψ) (N := S) 1 ?_ (S - 1) (((lv (a * S + 0)).toInt64, (lv (a * S + 0)).toInt64) : Int64 × Int64) (by omega) ?_
  · intro s y hs0 hs ih
    obtain ⟨b1, e1⟩ := y
    show J g mX3_bestRun 8 0 0 22 [some (.ref (ad 0)), some (.int (nI a)), some (.long b1), none, some (.long e1), none, some (.int (nI s))] [] n ad E Φ Ψ
    refine j_iload dX3_bestRun_22 rfl ?_
    refine j_aload_n dX3_bestRun_24 rfl ?_
    refine j_get fl_X3_12 dX3_bestRun_25 (by omega) h0 rfl ?_
    refine j_get fl_X3_77 dX3_bestRun_28 (by omega) hw rfl ?_
    refine j_icmp_ge_f (tgt := 67) dX3_bestRun_31 (by decide) (nI_nle' (by omega) (by omega) (by omega)) ?_
    refine j_lconst (v := 0) dX3_bestRun_34 rfl ?_
    refine j_lload dX3_bestRun_35 rfl ?_
    refine j_mmaxl ln_X3_159 js_maxl iz_java_lang_Math jc_maxl dX3_bestRun_37 (by decide) (Nat.le_of_ble_eq_true rfl) ?_
    refine j_aload_n dX3_bestRun_40 rfl ?_
    refine j_get fl_X3_12 dX3_bestRun_41 (by omega) h0 rfl ?_
    refine j_iload_n dX3_bestRun_44 rfl ?_
    refine j_iload dX3_bestRun_45 rfl ?_
    refine j_cV (As := [.int (nI a), .int (nI s)]) (rest := [.long (if e1 < 0 then 0 else e1)]) cm_X2_level ci_X2_level cs_X2_level rfl ln_X3_66 (ci := 2) rfl dX3_bestRun_47 (d' := 1) (by decide) (by omega) hw rfl rfl (Nat.le_of_ble_eq_true rfl) (Nat.le_of_ble_eq_true rfl) (s_X2_level W a s (ix128 hF hS ha hs)) ?_
    refine j_i2l dX3_bestRun_50 ?_
    refine j_ladd dX3_bestRun_51 ?_
    refine j_lstore (L' := [some (.ref (ad 0)), some (.int (nI a)), some (.long b1), none, some (.long ((if e1 < 0 then 0 else e1) + ((lv (a * S + s)).toInt64))), none, some (.int (nI s))]) dX3_bestRun_52 (by decide) rfl rfl ?_
    refine j_lload_n dX3_bestRun_54 rfl ?_
    refine j_lload dX3_bestRun_55 rfl ?_
    refine j_mmaxl ln_X3_159 js_maxl iz_java_lang_Math jc_maxl dX3_bestRun_57 (by decide) (Nat.le_of_ble_eq_true rfl) ?_
    refine j_lstore_n (L' := [some (.ref (ad 0)), some (.int (nI a)), some (.long (if ((if e1 < 0 then 0 else e1) + ((lv (a * S + s)).toInt64)) < b1 then b1 else ((if e1 < 0 then 0 else e1) + ((lv (a * S + s)).toInt64)))), none, some (.long ((if e1 < 0 then 0 else e1) + ((lv (a * S + s)).toInt64))), none, some (.int (nI s))]) dX3_bestRun_60 (by decide) rfl rfl ?_
    refine j_iinc (v := nI (s + 1)) (L' := [some (.ref (ad 0)), some (.int (nI a)), some (.long (if ((if e1 < 0 then 0 else e1) + ((lv (a * S + s)).toInt64)) < b1 then b1 else ((if e1 < 0 then 0 else e1) + ((lv (a * S + s)).toInt64)))), none, some (.long ((if e1 < 0 then 0 else e1) + ((lv (a * S + s)).toInt64))), none, some (.int (nI (s + 1)))]) dX3_bestRun_61 (by decide) rfl (nI_1 _) rfl rfl ?_
    refine j_goto (tgt := 22) dX3_bestRun_64 (by decide) ?_
    exact ih (runB2 lv S a s (b1, e1)) rfl
  · skip
    show J g mX3_bestRun 8 0 0 22 [some (.ref (ad 0)), some (.int (nI a)), some (.long ((bestRunN lv S a).1)), none, some (.long ((bestRunN lv S a).2)), none, some (.int (nI S))] [] n ad E Φ Ψ
    refine j_iload dX3_bestRun_22 rfl ?_
    refine j_aload_n dX3_bestRun_24 rfl ?_
    refine j_get fl_X3_12 dX3_bestRun_25 (by omega) h0 rfl ?_
    refine j_get fl_X3_77 dX3_bestRun_28 (by omega) hw rfl ?_
    refine j_icmp_ge_t (tgt := 67) dX3_bestRun_31 (by decide) (nI_le' (by omega) (by omega) (by omega)) ?_
    refine j_lload_n dX3_bestRun_67 rfl ?_
    exact j_lret dX3_bestRun_68 rfl h
theorem s_X3_bestRun {g : jG} {n : Nat} {ad : Nat → Nat} {E : Nat → va_E} {F S : Nat} {hrs su : Int32} {gone : Int64} {lv ed : Nat → Int32} {old cnt mc : Nat} {dr mr : Nat → Nat → Int32} (C : CR g n ad E F S hrs su gone lv ed old cnt dr mc mr) (a : Nat) (ha : a < F) : Ret g mX3_bestRun 8 [.ref (ad 0), .int (nI a)] n ad E (some (.long (bestRunR lv S a).1)) E := by
  obtain ⟨-, -, -, -, -, -, -, hSp, -⟩ := id C
  rw [← bestRunN_eq lv a hSp]
  exact s_X3_bestRun0 C a ha
set_option maxRecDepth 100000 in
set_option maxHeartbeats 4000000 in
theorem s_X3_bestRun_bad {g : jG} {n : Nat} {ad : Nat → Nat} {E : Nat → va_E} {F S : Nat} {hrs su : Int32} {gone : Int64} {lv ed : Nat → Int32} {old cnt mc : Nat} {dr mr : Nat → Nat → Int32} (C : CR g n ad E F S hrs su gone lv ed old cnt dr mc mr) (x : Int32) (hx : oob x F) : Thr g mX3_bestRun 8 [.ref (ad 0), .int x] n ad E "java/lang/IndexOutOfBoundsException" := by
  obtain ⟨h0, W, ⟨F4, S4, su4, lv4, ed4, T⟩, Z, Y, ⟨fc, Hm, P⟩, hFp, hSp, hn⟩ := id C
  obtain ⟨-, -, hw, hL, hE, hF, hS⟩ := id W
  obtain ⟨-, -, hz, hzO, hzr, -, -, hold, hcnt⟩ := id Z
  obtain ⟨-, -, hy, hyO, hyr, -, -, -, hmc⟩ := id Y
  intro Φ Ψ h
  show J g mX3_bestRun 8 1 6 0 [some (.ref (ad 0)), some (.int x), none, none, none, none, none] [] n ad E Φ Ψ
  refine j_aload_n dX3_bestRun_0 rfl ?_
  refine j_iload_n dX3_bestRun_1 rfl ?_
  exact j_cVx (As := [.int x]) (rest := []) cm_X3_checkFlight ci_X3_checkFlight cs_X3_checkFlight rfl ln_X3_74 (ci := 3) rfl dX3_bestRun_2 (d' := 7) (by decide) (by omega) h0 rfl rfl (Nat.le_of_ble_eq_true rfl) (Nat.le_of_ble_eq_true rfl) (s_checkFlight_bad C x hx) (jMeets_out rfl h)
set_option maxRecDepth 100000 in
set_option maxHeartbeats 4000000 in
theorem s_X3_dryAt_some {g : jG} {n : Nat} {ad : Nat → Nat} {E : Nat → va_E} {F S : Nat} {hrs su : Int32} {gone : Int64} {lv ed : Nat → Int32} {old cnt mc : Nat} {dr mr : Nat → Nat → Int32} (C : CR g n ad E F S hrs su gone lv ed old cnt dr mc mr) (x : Int32) (k0 : Nat) (hs0 : dryAtR lv (F * S) x = .inr k0) : Ret g mX3_dryAt 6 [.ref (ad 0), .int x] n ad E (some (.int (nI k0))) E := by
  obtain ⟨h0, W, ⟨F4, S4, su4, lv4, ed4, T⟩, Z, Y, ⟨fc, Hm, P⟩, hFp, hSp, hn⟩ := id C
  obtain ⟨-, -, hw, hL, hE, hF, hS⟩ := id W
  obtain ⟨-, -, hz, hzO, hzr, -, -, hold, hcnt⟩ := id Z
  obtain ⟨-, -, hy, hyO, hyr, -, -, -, hmc⟩ := id Y
  have hFS := fs128 hF hS
  intro Φ Ψ h
  show J g mX3_dryAt 6 0 0 0 [some (.ref (ad 0)), some (.int x), none, none] [] n ad E Φ Ψ
  refine j_iconst (v := 0) dX3_dryAt_0 (by decide) ?_
  refine j_istore_n (L' := [some (.ref (ad 0)), some (.int x), some (.int 0), none]) dX3_dryAt_1 (by decide) rfl rfl ?_
  refine j_iconst (v := nI 0) dX3_dryAt_2 (by decide) ?_
  refine j_istore_n (L' := [some (.ref (ad 0)), some (.int x), some (.int 0), some (.int (nI 0))]) dX3_dryAt_3 (by decide) rfl rfl ?_
  refine lpe_ind (b := fun k c => if 0 < lv k then .inl c else if c = x then .inr k else .inl (c + 1)) (P := fun (k : Nat) (c : Int32) => J g mX3_dryAt 6 0 0 4 [some (.ref (ad 0)), some (.int x), some (.int c), some (.int (nI k))] [] n ad E Φ Ψ) (Pb := fun k0 => Φ (some (.int (nI k0))) n ad E) (N := F * S) 0 ?_ (F * S) 0 (by omega) ?_
  · intro k c hk0 hk ih
    show J g mX3_dryAt 6 0 0 4 [some (.ref (ad 0)), some (.int x), some (.int c), some (.int (nI k))] [] n ad E Φ Ψ
    refine j_iload_n dX3_dryAt_4 rfl ?_
    refine j_aload_n dX3_dryAt_5 rfl ?_
    refine j_get fl_X3_12 dX3_dryAt_6 (by omega) h0 rfl ?_
    refine j_cV (As := []) (rest := [.int (nI k)]) cm_X2_puddleCount ci_X2_puddleCount cs_X2_puddleCount rfl ln_X3_53 (ci := 2) rfl dX3_dryAt_9 (d' := 0) (by decide) (by omega) hw rfl rfl (Nat.le_of_ble_eq_true rfl) (Nat.le_of_ble_eq_true rfl) (s_X2_puddleCount W) ?_
    refine j_icmp_ge_f (tgt := 43) dX3_dryAt_12 (by decide) (nI_nle' (by omega) (by omega) (by omega)) ?_
    refine j_aload_n dX3_dryAt_15 rfl ?_
    refine j_get fl_X3_12 dX3_dryAt_16 (by omega) h0 rfl ?_
    refine j_get fl_X3_169 dX3_dryAt_19 (by omega) hw rfl ?_
    refine j_iload_n dX3_dryAt_22 rfl ?_
    refine j_iald dX3_dryAt_23 (by omega) hL (by decide) (by omega) rfl ?_
    refine j_if_gt (tgt := 37) dX3_dryAt_24 (by decide) (fun hq => ?_) (fun hq => ?_)
    · skip
      refine j_iinc (v := nI (k + 1)) (L' := [some (.ref (ad 0)), some (.int x), some (.int c), some (.int (nI (k + 1)))]) dX3_dryAt_37 (by decide) rfl (nI_1 _) rfl rfl ?_
      refine j_goto (tgt := 4) dX3_dryAt_40 (by decide) ?_
      exact ih (.inl (c)) (by simp only [hq, if_true])
    · skip
      refine j_iload_n dX3_dryAt_27 rfl ?_
      refine j_iload_n dX3_dryAt_28 rfl ?_
      refine j_icmp_ne (tgt := 34) dX3_dryAt_29 (by decide) (fun hr => ?_) (fun hr => ?_)
      · skip
        refine j_iinc (v := c + 1) (L' := [some (.ref (ad 0)), some (.int x), some (.int (c + 1)), some (.int (nI k))]) dX3_dryAt_34 (by decide) rfl rfl rfl rfl ?_
        refine j_iinc (v := nI (k + 1)) (L' := [some (.ref (ad 0)), some (.int x), some (.int (c + 1)), some (.int (nI (k + 1)))]) dX3_dryAt_37 (by decide) rfl (nI_1 _) rfl rfl ?_
        refine j_goto (tgt := 4) dX3_dryAt_40 (by decide) ?_
        exact ih (.inl (c + 1)) (by simp only [hq, hr, if_false])
      · skip
        refine j_iload_n dX3_dryAt_32 rfl ?_
        exact j_iret dX3_dryAt_33 rfl (ih (.inr k) (by simp only [hq, hr, if_false, if_true]))
  · skip
    show lpeP _ _ (dryAtR lv (F * S) x)
    rw [hs0]
    exact h
set_option maxRecDepth 100000 in
set_option maxHeartbeats 4000000 in
theorem s_X3_dryAt_none {g : jG} {n : Nat} {ad : Nat → Nat} {E : Nat → va_E} {F S : Nat} {hrs su : Int32} {gone : Int64} {lv ed : Nat → Int32} {old cnt mc : Nat} {dr mr : Nat → Nat → Int32} (C : CR g n ad E F S hrs su gone lv ed old cnt dr mc mr) (x : Int32) (c0 : Int32) (hs0 : dryAtR lv (F * S) x = .inl c0) : Thr g mX3_dryAt 6 [.ref (ad 0), .int x] n ad E "java/lang/IndexOutOfBoundsException" := by
  obtain ⟨h0, W, ⟨F4, S4, su4, lv4, ed4, T⟩, Z, Y, ⟨fc, Hm, P⟩, hFp, hSp, hn⟩ := id C
  obtain ⟨-, -, hw, hL, hE, hF, hS⟩ := id W
  obtain ⟨-, -, hz, hzO, hzr, -, -, hold, hcnt⟩ := id Z
  obtain ⟨-, -, hy, hyO, hyr, -, -, -, hmc⟩ := id Y
  have hFS := fs128 hF hS
  intro Φ Ψ h
  show J g mX3_dryAt 6 1 6 0 [some (.ref (ad 0)), some (.int x), none, none] [] n ad E Φ Ψ
  refine j_iconst (v := 0) dX3_dryAt_0 (by decide) ?_
  refine j_istore_n (L' := [some (.ref (ad 0)), some (.int x), some (.int 0), none]) dX3_dryAt_1 (by decide) rfl rfl ?_
  refine j_iconst (v := nI 0) dX3_dryAt_2 (by decide) ?_
  refine j_istore_n (L' := [some (.ref (ad 0)), some (.int x), some (.int 0), some (.int (nI 0))]) dX3_dryAt_3 (by decide) rfl rfl ?_
  refine lpe_ind (b := fun k c => if 0 < lv k then .inl c else if c = x then .inr k else .inl (c + 1)) (P := fun (k : Nat) (c : Int32) => J g mX3_dryAt 6 1 6 4 [some (.ref (ad 0)), some (.int x), some (.int c), some (.int (nI k))] [] n ad E Φ Ψ) (Pb := fun k0 => Φ (some (.int (nI k0))) n ad E) (N := F * S) 0 ?_ (F * S) 0 (by omega) ?_
  · intro k c hk0 hk ih
    show J g mX3_dryAt 6 1 6 4 [some (.ref (ad 0)), some (.int x), some (.int c), some (.int (nI k))] [] n ad E Φ Ψ
    refine j_iload_n dX3_dryAt_4 rfl ?_
    refine j_aload_n dX3_dryAt_5 rfl ?_
    refine j_get fl_X3_12 dX3_dryAt_6 (by omega) h0 rfl ?_
    refine j_cV (As := []) (rest := [.int (nI k)]) cm_X2_puddleCount ci_X2_puddleCount cs_X2_puddleCount rfl ln_X3_53 (ci := 2) rfl dX3_dryAt_9 (d' := 0) (by decide) (by omega) hw rfl rfl (Nat.le_of_ble_eq_true rfl) (Nat.le_of_ble_eq_true rfl) (s_X2_puddleCount W) ?_
    refine j_icmp_ge_f (tgt := 43) dX3_dryAt_12 (by decide) (nI_nle' (by omega) (by omega) (by omega)) ?_
    refine j_aload_n dX3_dryAt_15 rfl ?_
    refine j_get fl_X3_12 dX3_dryAt_16 (by omega) h0 rfl ?_
    refine j_get fl_X3_169 dX3_dryAt_19 (by omega) hw rfl ?_
    refine j_iload_n dX3_dryAt_22 rfl ?_
    refine j_iald dX3_dryAt_23 (by omega) hL (by decide) (by omega) rfl ?_
    refine j_if_gt (tgt := 37) dX3_dryAt_24 (by decide) (fun hq => ?_) (fun hq => ?_)
    · skip
      refine j_iinc (v := nI (k + 1)) (L' := [some (.ref (ad 0)), some (.int x), some (.int c), some (.int (nI (k + 1)))]) dX3_dryAt_37 (by decide) rfl (nI_1 _) rfl rfl ?_
      refine j_goto (tgt := 4) dX3_dryAt_40 (by decide) ?_
      exact ih (.inl (c)) (by simp only [hq, if_true])
    · skip
      refine j_iload_n dX3_dryAt_27 rfl ?_
      refine j_iload_n dX3_dryAt_28 rfl ?_
      refine j_icmp_ne (tgt := 34) dX3_dryAt_29 (by decide) (fun hr => ?_) (fun hr => ?_)
      · skip
        refine j_iinc (v := c + 1) (L' := [some (.ref (ad 0)), some (.int x), some (.int (c + 1)), some (.int (nI k))]) dX3_dryAt_34 (by decide) rfl rfl rfl rfl ?_
        refine j_iinc (v := nI (k + 1)) (L' := [some (.ref (ad 0)), some (.int x), some (.int (c + 1)), some (.int (nI (k + 1)))]) dX3_dryAt_37 (by decide) rfl (nI_1 _) rfl rfl ?_
        refine j_goto (tgt := 4) dX3_dryAt_40 (by decide) ?_
        exact ih (.inl (c + 1)) (by simp only [hq, hr, if_false])
      · skip
        refine j_iload_n dX3_dryAt_32 rfl ?_
        exact j_iret dX3_dryAt_33 rfl (ih (.inr k) (by simp only [hq, hr, if_false, if_true]))
  · skip
    show lpeP _ _ (dryAtR lv (F * S) x)
    rw [hs0]
    show J g mX3_dryAt 6 1 6 4 [some (.ref (ad 0)), some (.int x), some (.int c0), some (.int (nI (F * S)))] [] n ad E Φ Ψ
    refine j_iload_n dX3_dryAt_4 rfl ?_
    refine j_aload_n dX3_dryAt_5 rfl ?_
    refine j_get fl_X3_12 dX3_dryAt_6 (by omega) h0 rfl ?_
    refine j_cV (As := []) (rest := [.int (nI (F * S))]) cm_X2_puddleCount ci_X2_puddleCount cs_X2_puddleCount rfl ln_X3_53 (ci := 2) rfl dX3_dryAt_9 (d' := 0) (by decide) (by omega) hw rfl rfl (Nat.le_of_ble_eq_true rfl) (Nat.le_of_ble_eq_true rfl) (s_X2_puddleCount W) ?_
    refine j_icmp_ge_t (tgt := 43) dX3_dryAt_12 (by decide) (nI_le' (by omega) (by omega) (by omega)) ?_
    exact j_throw (bc := 0) (bs := 0) th_174 rfl dX3_dryAt_43 dX3_dryAt_46 dX3_dryAt_47 dX3_dryAt_49 dX3_dryAt_52 (by decide) (Nat.le_of_ble_eq_true rfl) h
set_option maxRecDepth 100000 in
set_option maxHeartbeats 4000000 in
theorem s_X3_longestDry {g : jG} {n : Nat} {ad : Nat → Nat} {E : Nat → va_E} {F S : Nat} {hrs su : Int32} {gone : Int64} {lv ed : Nat → Int32} {old cnt mc : Nat} {dr mr : Nat → Nat → Int32} (C : CR g n ad E F S hrs su gone lv ed old cnt dr mc mr) (a : Nat) (ha : a < F) : Ret g mX3_longestDry 8 [.ref (ad 0), .int (nI a)] n ad E (some (.int ((longR lv S a).1))) E := by
  obtain ⟨h0, W, ⟨F4, S4, su4, lv4, ed4, T⟩, Z, Y, ⟨fc, Hm, P⟩, hFp, hSp, hn⟩ := id C
  obtain ⟨-, -, hw, hL, hE, hF, hS⟩ := id W
  obtain ⟨-, -, hz, hzO, hzr, -, -, hold, hcnt⟩ := id Z
  obtain ⟨-, -, hy, hyO, hyr, -, -, -, hmc⟩ := id Y
  intro Φ Ψ h
  show J g mX3_longestDry 8 0 0 0 [some (.ref (ad 0)), some (.int (nI a)), none, none, none] [] n ad E Φ Ψ
  refine j_aload_n dX3_longestDry_0 rfl ?_
  refine j_iload_n dX3_longestDry_1 rfl ?_
  refine j_cV (As := [.int (nI a)]) (rest := []) cm_X3_checkFlight ci_X3_checkFlight cs_X3_checkFlight rfl ln_X3_74 (ci := 3) rfl dX3_longestDry_2 (d' := 7) (by decide) (by omega) h0 rfl rfl (Nat.le_of_ble_eq_true rfl) (Nat.le_of_ble_eq_true rfl) (s_checkFlight_ok C a ha) ?_
  refine j_iconst (v := 0) dX3_longestDry_5 (by decide) ?_
  refine j_istore_n (L' := [some (.ref (ad 0)), some (.int (nI a)), some (.int 0), none, none]) dX3_longestDry_6 (by decide) rfl rfl ?_
  refine j_iconst (v := 0) dX3_longestDry_7 (by decide) ?_
  refine j_istore_n (L' := [some (.ref (ad 0)), some (.int (nI a)), some (.int 0), some (.int 0), none]) dX3_longestDry_8 (by decide) rfl rfl ?_
  refine j_iconst (v := nI 0) dX3_longestDry_9 (by decide) ?_
  refine j_istore (L' := [some (.ref (ad 0)), some (.int (nI a)), some (.int 0), some (.int 0), some (.int (nI 0))]) dX3_longestDry_10 (by decide) rfl rfl ?_
  refine lpf_ind (b := fun s y => (if y.1 < (if 0 < lv (a * S + s) then 0 else y.2 + 1) then (if 0 < lv (a * S + s) then 0 else y.2 + 1) else y.1, if 0 < lv (a * S + s) then 0 else y.2 + 1)) (P := fun (s : Nat) (y : Int32 × Int32) => J g mX3_longestDry 8 0 0 12 [some (.ref (ad 0)), some (.int (nI a)), some (.int y.1), some (.int y.2), some (.int (nI s))] [] n ad E Φ Ψ) (N := S) 0 ?_ S ((0, 0) : Int32 × Int32) (by omega) ?_
  · intro s y hs0 hs ih
    obtain ⟨l1, e1⟩ := y
    show J g mX3_longestDry 8 0 0 12 [some (.ref (ad 0)), some (.int (nI a)), some (.int l1), some (.int e1), some (.int (nI s))] [] n ad E Φ Ψ
    refine j_iload dX3_longestDry_12 rfl ?_
    refine j_aload_n dX3_longestDry_14 rfl ?_
    refine j_get fl_X3_12 dX3_longestDry_15 (by omega) h0 rfl ?_
    refine j_get fl_X3_77 dX3_longestDry_18 (by omega) hw rfl ?_
    refine j_icmp_ge_f (tgt := 57) dX3_longestDry_21 (by decide) (nI_nle' (by omega) (by omega) (by omega)) ?_
    refine j_aload_n dX3_longestDry_24 rfl ?_
    refine j_get fl_X3_12 dX3_longestDry_25 (by omega) h0 rfl ?_
    refine j_iload_n dX3_longestDry_28 rfl ?_
    refine j_iload dX3_longestDry_29 rfl ?_
    refine j_cV (As := [.int (nI a), .int (nI s)]) (rest := []) cm_X2_level ci_X2_level cs_X2_level rfl ln_X3_66 (ci := 2) rfl dX3_longestDry_31 (d' := 1) (by decide) (by omega) hw rfl rfl (Nat.le_of_ble_eq_true rfl) (Nat.le_of_ble_eq_true rfl) (s_X2_level W a s (ix128 hF hS ha hs)) ?_
    refine j_if_gt (tgt := 43) dX3_longestDry_34 (by decide) (fun hq => ?_) (fun hq => ?_)
    · skip
      refine j_iconst (v := 0) dX3_longestDry_43 (by decide) ?_
      refine j_istore_n (L' := [some (.ref (ad 0)), some (.int (nI a)), some (.int l1), some (.int 0), some (.int (nI s))]) dX3_longestDry_44 (by decide) rfl rfl ?_
      refine j_iload_n dX3_longestDry_45 rfl ?_
      refine j_iload_n dX3_longestDry_46 rfl ?_
      refine j_mmax ln_X3_100 js_max iz_java_lang_Math jc_max dX3_longestDry_47 (by decide) (Nat.le_of_ble_eq_true rfl) ?_
      refine j_istore_n (L' := [some (.ref (ad 0)), some (.int (nI a)), some (.int (if l1 < 0 then 0 else l1)), some (.int 0), some (.int (nI s))]) dX3_longestDry_50 (by decide) rfl rfl ?_
      refine j_iinc (v := nI (s + 1)) (L' := [some (.ref (ad 0)), some (.int (nI a)), some (.int (if l1 < 0 then 0 else l1)), some (.int 0), some (.int (nI (s + 1)))]) dX3_longestDry_51 (by decide) rfl (nI_1 _) rfl rfl ?_
      refine j_goto (tgt := 12) dX3_longestDry_54 (by decide) ?_
      exact ih (if l1 < 0 then 0 else l1, 0) (by simp only [hq, if_true, if_false])
    · skip
      refine j_iload_n dX3_longestDry_37 rfl ?_
      refine j_iconst (v := 1) dX3_longestDry_38 (by decide) ?_
      refine j_iadd dX3_longestDry_39 ?_
      refine j_goto (tgt := 44) dX3_longestDry_40 (by decide) ?_
      refine j_istore_n (L' := [some (.ref (ad 0)), some (.int (nI a)), some (.int l1), some (.int (e1 + 1)), some (.int (nI s))]) dX3_longestDry_44 (by decide) rfl rfl ?_
      refine j_iload_n dX3_longestDry_45 rfl ?_
      refine j_iload_n dX3_longestDry_46 rfl ?_
      refine j_mmax ln_X3_100 js_max iz_java_lang_Math jc_max dX3_longestDry_47 (by decide) (Nat.le_of_ble_eq_true rfl) ?_
      refine j_istore_n (L' := [some (.ref (ad 0)), some (.int (nI a)), some (.int (if l1 < (e1 + 1) then (e1 + 1) else l1)), some (.int (e1 + 1)), some (.int (nI s))]) dX3_longestDry_50 (by decide) rfl rfl ?_
      refine j_iinc (v := nI (s + 1)) (L' := [some (.ref (ad 0)), some (.int (nI a)), some (.int (if l1 < (e1 + 1) then (e1 + 1) else l1)), some (.int (e1 + 1)), some (.int (nI (s + 1)))]) dX3_longestDry_51 (by decide) rfl (nI_1 _) rfl rfl ?_
      refine j_goto (tgt := 12) dX3_longestDry_54 (by decide) ?_
      exact ih (if l1 < (e1 + 1) then (e1 + 1) else l1, e1 + 1) (by simp only [hq, if_true, if_false])
  · skip
    show J g mX3_longestDry 8 0 0 12 [some (.ref (ad 0)), some (.int (nI a)), some (.int ((longR lv S a).1)), some (.int ((longR lv S a).2)), some (.int (nI S))] [] n ad E Φ Ψ
    refine j_iload dX3_longestDry_12 rfl ?_
    refine j_aload_n dX3_longestDry_14 rfl ?_
    refine j_get fl_X3_12 dX3_longestDry_15 (by omega) h0 rfl ?_
    refine j_get fl_X3_77 dX3_longestDry_18 (by omega) hw rfl ?_
    refine j_icmp_ge_t (tgt := 57) dX3_longestDry_21 (by decide) (nI_le' (by omega) (by omega) (by omega)) ?_
    refine j_iload_n dX3_longestDry_57 rfl ?_
    exact j_iret dX3_longestDry_58 rfl h
set_option maxRecDepth 100000 in
set_option maxHeartbeats 4000000 in
theorem s_X3_longestDry_bad {g : jG} {n : Nat} {ad : Nat → Nat} {E : Nat → va_E} {F S : Nat} {hrs su : Int32} {gone : Int64} {lv ed : Nat → Int32} {old cnt mc : Nat} {dr mr : Nat → Nat → Int32} (C : CR g n ad E F S hrs su gone lv ed old cnt dr mc mr) (x : Int32) (hx : oob x F) : Thr g mX3_longestDry 8 [.ref (ad 0), .int x] n ad E "java/lang/IndexOutOfBoundsException" := by
  obtain ⟨h0, W, ⟨F4, S4, su4, lv4, ed4, T⟩, Z, Y, ⟨fc, Hm, P⟩, hFp, hSp, hn⟩ := id C
  obtain ⟨-, -, hw, hL, hE, hF, hS⟩ := id W
  obtain ⟨-, -, hz, hzO, hzr, -, -, hold, hcnt⟩ := id Z
  obtain ⟨-, -, hy, hyO, hyr, -, -, -, hmc⟩ := id Y
  intro Φ Ψ h
  show J g mX3_longestDry 8 1 6 0 [some (.ref (ad 0)), some (.int x), none, none, none] [] n ad E Φ Ψ
  refine j_aload_n dX3_longestDry_0 rfl ?_
  refine j_iload_n dX3_longestDry_1 rfl ?_
  exact j_cVx (As := [.int x]) (rest := []) cm_X3_checkFlight ci_X3_checkFlight cs_X3_checkFlight rfl ln_X3_74 (ci := 3) rfl dX3_longestDry_2 (d' := 7) (by decide) (by omega) h0 rfl rfl (Nat.le_of_ble_eq_true rfl) (Nat.le_of_ble_eq_true rfl) (s_checkFlight_bad C x hx) (jMeets_out rfl h)
set_option maxRecDepth 100000 in
set_option maxHeartbeats 4000000 in
theorem s_X3_driestFlight {g : jG} {n : Nat} {ad : Nat → Nat} {E : Nat → va_E} {F S : Nat} {hrs su : Int32} {gone : Int64} {lv ed : Nat → Int32} {old cnt mc : Nat} {dr mr : Nat → Nat → Int32} (C : CR g n ad E F S hrs su gone lv ed old cnt dr mc mr) : Ret g mX3_driestFlight 3 [.ref (ad 0)] n ad E (some (.int (nI ((driestR lv F S).1)))) E := by
  obtain ⟨h0, W, ⟨F4, S4, su4, lv4, ed4, T⟩, Z, Y, ⟨fc, Hm, P⟩, hFp, hSp, hn⟩ := id C
  obtain ⟨-, -, hw, hL, hE, hF, hS⟩ := id W
  obtain ⟨-, -, hz, hzO, hzr, -, -, hold, hcnt⟩ := id Z
  obtain ⟨-, -, hy, hyO, hyr, -, -, -, hmc⟩ := id Y
  intro Φ Ψ h
  show J g mX3_driestFlight 3 0 0 0 [some (.ref (ad 0)), none, none, none, none] [] n ad E Φ Ψ
  refine j_iconst (v := nI 0) dX3_driestFlight_0 (by decide) ?_
  refine j_istore_n (L' := [some (.ref (ad 0)), some (.int (nI 0)), none, none, none]) dX3_driestFlight_1 (by decide) rfl rfl ?_
  refine j_iconst (v := (-1)) dX3_driestFlight_2 (by decide) ?_
  refine j_istore_n (L' := [some (.ref (ad 0)), some (.int (nI 0)), some (.int (-1)), none, none]) dX3_driestFlight_3 (by decide) rfl rfl ?_
  refine j_iconst (v := nI 0) dX3_driestFlight_4 (by decide) ?_
  refine j_istore_n (L' := [some (.ref (ad 0)), some (.int (nI 0)), some (.int (-1)), some (.int (nI 0)), none]) dX3_driestFlight_5 (by decide) rfl rfl ?_
  refine lpf_ind (b := fun f y => if dryP lv S f 0 f (S - 1) ≤ y.2 then y else (f, dryP lv S f 0 f (S - 1))) (P := fun (f : Nat) (y : Nat × Int32) => J g mX3_driestFlight 3 0 0 6 [some (.ref (ad 0)), some (.int (nI y.1)), some (.int y.2), some (.int (nI f)), none] [] n ad E Φ Ψ) (N := F) 0 ?_ F ((0, -1) : Nat × Int32) (by omega) ?_
  · intro f y hf0 hf ih
    obtain ⟨d1, m1⟩ := y
    show J g mX3_driestFlight 3 0 0 6 [some (.ref (ad 0)), some (.int (nI d1)), some (.int m1), some (.int (nI f)), none] [] n ad E Φ Ψ
    refine j_iload_n dX3_driestFlight_6 rfl ?_
    refine j_aload_n dX3_driestFlight_7 rfl ?_
    refine j_get fl_X3_12 dX3_driestFlight_8 (by omega) h0 rfl ?_
    refine j_get fl_X3_148 dX3_driestFlight_11 (by omega) hw rfl ?_
    refine j_icmp_ge_f (tgt := 55) dX3_driestFlight_14 (by decide) (nI_nle' (by omega) (by omega) (by omega)) ?_
    refine j_aload_n dX3_driestFlight_17 rfl ?_
    refine j_get fl_X3_12 dX3_driestFlight_18 (by omega) h0 rfl ?_
    refine j_iload_n dX3_driestFlight_21 rfl ?_
    refine j_iconst (v := nI 0) dX3_driestFlight_22 (by decide) ?_
    refine j_iload_n dX3_driestFlight_23 rfl ?_
    refine j_aload_n dX3_driestFlight_24 rfl ?_
    refine j_get fl_X3_12 dX3_driestFlight_25 (by omega) h0 rfl ?_
    refine j_get fl_X3_77 dX3_driestFlight_28 (by omega) hw rfl ?_
    refine j_iconst (v := 1) dX3_driestFlight_31 (by decide) ?_
    refine j_isub dX3_driestFlight_32 ?_
    refine j_topi (y := nI (S - 1)) (pk_sub (by omega)) ?_
    refine j_cV (As := [.int (nI f), .int (nI 0), .int (nI f), .int (nI (S - 1))]) (rest := []) cm_X2_dryInPart ci_X2_dryInPart cs_X2_dryInPart rfl ln_X3_162 (ci := 2) rfl dX3_driestFlight_33 (d' := 2) (by decide) (by omega) hw rfl rfl (Nat.le_of_ble_eq_true rfl) (Nat.le_of_ble_eq_true rfl) (s_X2_dryInPart W f 0 f (S - 1) (by omega) (by omega) (by omega) (by omega)) ?_
    refine j_istore (L' := [some (.ref (ad 0)), some (.int (nI d1)), some (.int m1), some (.int (nI f)), some (.int (dryP lv S f 0 f (S - 1)))]) dX3_driestFlight_36 (by decide) rfl rfl ?_
    refine j_iload dX3_driestFlight_38 rfl ?_
    refine j_iload_n dX3_driestFlight_40 rfl ?_
    refine j_icmp_le (tgt := 49) dX3_driestFlight_41 (by decide) (fun hq => ?_) (fun hq => ?_)
    · skip
      refine j_iinc (v := nI (f + 1)) (L' := [some (.ref (ad 0)), some (.int (nI d1)), some (.int m1), some (.int (nI (f + 1))), some (.int (dryP lv S f 0 f (S - 1)))]) dX3_driestFlight_49 (by decide) rfl (nI_1 _) rfl rfl ?_
      refine j_goto (tgt := 6) dX3_driestFlight_52 (by decide) ?_
      refine j_clr 4 ?_
      exact ih (d1, m1) (by simp only [hq, if_true, if_false])
    · skip
      refine j_iload dX3_driestFlight_44 rfl ?_
      refine j_istore_n (L' := [some (.ref (ad 0)), some (.int (nI d1)), some (.int (dryP lv S f 0 f (S - 1))), some (.int (nI f)), some (.int (dryP lv S f 0 f (S - 1)))]) dX3_driestFlight_46 (by decide) rfl rfl ?_
      refine j_iload_n dX3_driestFlight_47 rfl ?_
      refine j_istore_n (L' := [some (.ref (ad 0)), some (.int (nI f)), some (.int (dryP lv S f 0 f (S - 1))), some (.int (nI f)), some (.int (dryP lv S f 0 f (S - 1)))]) dX3_driestFlight_48 (by decide) rfl rfl ?_
      refine j_iinc (v := nI (f + 1)) (L' := [some (.ref (ad 0)), some (.int (nI f)), some (.int (dryP lv S f 0 f (S - 1))), some (.int (nI (f + 1))), some (.int (dryP lv S f 0 f (S - 1)))]) dX3_driestFlight_49 (by decide) rfl (nI_1 _) rfl rfl ?_
      refine j_goto (tgt := 6) dX3_driestFlight_52 (by decide) ?_
      refine j_clr 4 ?_
      exact ih (f, dryP lv S f 0 f (S - 1)) (by simp only [hq, if_true, if_false])
  · skip
    show J g mX3_driestFlight 3 0 0 6 [some (.ref (ad 0)), some (.int (nI ((driestR lv F S).1))), some (.int ((driestR lv F S).2)), some (.int (nI F)), none] [] n ad E Φ Ψ
    refine j_iload_n dX3_driestFlight_6 rfl ?_
    refine j_aload_n dX3_driestFlight_7 rfl ?_
    refine j_get fl_X3_12 dX3_driestFlight_8 (by omega) h0 rfl ?_
    refine j_get fl_X3_148 dX3_driestFlight_11 (by omega) hw rfl ?_
    refine j_icmp_ge_t (tgt := 55) dX3_driestFlight_14 (by decide) (nI_le' (by omega) (by omega) (by omega)) ?_
    refine j_iload_n dX3_driestFlight_55 rfl ?_
    exact j_iret dX3_driestFlight_56 rfl h
def lowN (lv : Nat → Int32) (S fa sa fb sb : Nat) : Int32 := lpf (fun f x => lpf (fun s x => if lv (f * S + s) < x then lv (f * S + s) else x) sa (sb + 1 - sa) x) fa (fb + 1 - fa) (lv (fa * S + sa))
theorem lowN_eq (lv : Nat → Int32) (S : Nat) {fa sa fb sb : Nat} (h1 : fa ≤ fb) (h2 : sa ≤ sb) : lowN lv S fa sa fb sb = lowR lv S fa sa fb sb := by
  unfold lowN lowR
  obtain ⟨T, hT⟩ : ∃ T, fb + 1 - fa = T + 1 := ⟨fb - fa, by omega⟩
  obtain ⟨U, hU⟩ : ∃ U, sb + 1 - sa = U + 1 := ⟨sb - sa, by omega⟩
  rw [hT, hU]
  show lpf _ (fa + 1) T (lpf _ (sa + 1) U (if _ then _ else _)) = lpf _ (fa + 1) T (lpf _ (sa + 1) U (if _ then _ else _))
  congr 2
  by_cases q : lv (fa * S + sa) < 2147483647
  · rw [if_pos q]
    split <;> rfl
  · rw [if_neg q, if_neg]
    · have := le_maxC (lv (fa * S + sa))
      rw [← Int32.toInt_inj]
      rw [Int32.lt_iff_toInt_lt] at q
      rw [Int32.le_iff_toInt_le] at this
      omega
    · rw [Int32.lt_iff_toInt_lt]
      omega
set_option maxRecDepth 100000 in
set_option maxHeartbeats 4000000 in
theorem s_X3_lowestIn0 {g : jG} {n : Nat} {ad : Nat → Nat} {E : Nat → va_E} {F S : Nat} {hrs su : Int32} {gone : Int64} {lv ed : Nat → Int32} {old cnt mc : Nat} {dr mr : Nat → Nat → Int32} (C : CR g n ad E F S hrs su gone lv ed old cnt dr mc mr) (fa sa fb sb : Nat) (hfa : fa < F) (hsa : sa < S) (hfb : fb < F) (hsb : sb < S) (h1 : fa ≤ fb) (h2 : sa ≤ sb) : Ret g mX3_lowestIn 10 [.ref (ad 0), .int (nI fa), .int (nI sa), .int (nI fb), .int (nI sb)] n ad E (some (.int (lowN lv S fa sa fb sb))) E := by
  obtain ⟨h0, W, ⟨F4, S4, su4, lv4, ed4, T⟩, Z, Y, ⟨fc, Hm, P⟩, hFp, hSp, hn⟩ := id C
  obtain ⟨-, -, hw, hL, hE, hF, hS⟩ := id W
  obtain ⟨-, -, hz, hzO, hzr, -, -, hold, hcnt⟩ := id Z
  obtain ⟨-, -, hy, hyO, hyr, -, -, -, hmc⟩ := id Y
  intro Φ Ψ h
  show J g mX3_lowestIn 10 0 0 0 [some (.ref (ad 0)), some (.int (nI fa)), some (.int (nI sa)), some (.int (nI fb)), some (.int (nI sb)), none, none, none] [] n ad E Φ Ψ
  refine j_aload_n dX3_lowestIn_0 rfl ?_
  refine j_iload_n dX3_lowestIn_1 rfl ?_
  refine j_iload_n dX3_lowestIn_2 rfl ?_
  refine j_iload_n dX3_lowestIn_3 rfl ?_
  refine j_iload dX3_lowestIn_4 rfl ?_
  refine j_cV (As := [.int (nI fa), .int (nI sa), .int (nI fb), .int (nI sb)]) (rest := []) cm_X3_checkPart ci_X3_checkPart cs_X3_checkPart rfl ln_X3_70 (ci := 3) rfl dX3_lowestIn_6 (d' := 9) (by decide) (by omega) h0 rfl rfl (Nat.le_of_ble_eq_true rfl) (Nat.le_of_ble_eq_true rfl) (s_checkPart_ok C fa sa fb sb hfa hsa hfb hsb h1 h2) ?_
  refine j_aload_n dX3_lowestIn_9 rfl ?_
  refine j_get fl_X3_12 dX3_lowestIn_10 (by omega) h0 rfl ?_
  refine j_iload_n dX3_lowestIn_13 rfl ?_
  refine j_iload_n dX3_lowestIn_14 rfl ?_
  refine j_cV (As := [.int (nI fa), .int (nI sa)]) (rest := []) cm_X2_level ci_X2_level cs_X2_level rfl ln_X3_66 (ci := 2) rfl dX3_lowestIn_15 (d' := 1) (by decide) (by omega) hw rfl rfl (Nat.le_of_ble_eq_true rfl) (Nat.le_of_ble_eq_true rfl) (s_X2_level W fa sa (ix128 hF hS hfa hsa)) ?_
  refine j_istore (L' := [some (.ref (ad 0)), some (.int (nI fa)), some (.int (nI sa)), some (.int (nI fb)), some (.int (nI sb)), some (.int (lv (fa * S + sa))), none, none]) dX3_lowestIn_18 (by decide) rfl rfl ?_
  refine j_iload_n dX3_lowestIn_20 rfl ?_
  refine j_istore (L' := [some (.ref (ad 0)), some (.int (nI fa)), some (.int (nI sa)), some (.int (nI fb)), some (.int (nI sb)), some (.int (lv (fa * S + sa))), some (.int (nI fa)), none]) dX3_lowestIn_21 (by decide) rfl rfl ?_
  refine lpf_ind (b := fun f x => lpf (fun s x => if lv (f * S + s) < x then lv (f * S + s) else x) sa (sb + 1 - sa) x) (P := fun (f : Nat) (x : Int32) => J g mX3_lowestIn 10 0 0 23 [some (.ref (ad 0)), some (.int (nI fa)), some (.int (nI sa)), some (.int (nI fb)), some (.int (nI sb)), some (.int x), some (.int (nI f)), none] [] n ad E Φ Ψ) (N := fa + (fb + 1 - fa)) fa ?_ (fb + 1 - fa) (lv (fa * S + sa)) (by omega) ?_
  · intro f x hf0 hf ih
    show J g mX3_lowestIn 10 0 0 23 [some (.ref (ad 0)), some (.int (nI fa)), some (.int (nI sa)), some (.int (nI fb)), some (.int (nI sb)), some (.int x), some (.int (nI f)), none] [] n ad E Φ Ψ
    have ih0 := ih
    clear ih
    refine j_iload dX3_lowestIn_23 rfl ?_
    refine j_iload_n dX3_lowestIn_25 rfl ?_
    refine j_icmp_gt_f (tgt := 69) dX3_lowestIn_26 (by decide) (nI_nlt' (by omega) (by omega) (by omega)) ?_
    refine j_iload_n dX3_lowestIn_29 rfl ?_
    refine j_istore (L' := [some (.ref (ad 0)), some (.int (nI fa)), some (.int (nI sa)), some (.int (nI fb)), some (.int (nI sb)), some (.int x), some (.int (nI f)), some (.int (nI sa))]) dX3_lowestIn_30 (by decide) rfl rfl ?_
    refine lpf_ind (b := fun s x => if lv (f * S + s) < x then lv (f * S + s) else x) (P := fun (s : Nat) (x : Int32) => J g mX3_lowestIn 10 0 0 32 [some (.ref (ad 0)), some (.int (nI fa)), some (.int (nI sa)), some (.int (nI fb)), some (.int (nI sb)), some (.int x), some (.int (nI f)), some (.int (nI s))] [] n ad E Φ Ψ) (N := sa + (sb + 1 - sa)) sa ?_ (sb + 1 - sa) x (by omega) ?_
    · intro s x hs0 hs ih
      show J g mX3_lowestIn 10 0 0 32 [some (.ref (ad 0)), some (.int (nI fa)), some (.int (nI sa)), some (.int (nI fb)), some (.int (nI sb)), some (.int x), some (.int (nI f)), some (.int (nI s))] [] n ad E Φ Ψ
      refine j_iload dX3_lowestIn_32 rfl ?_
      refine j_iload dX3_lowestIn_34 rfl ?_
      refine j_icmp_gt_f (tgt := 63) dX3_lowestIn_36 (by decide) (nI_nlt' (by omega) (by omega) (by omega)) ?_
      refine j_iload dX3_lowestIn_39 rfl ?_
      refine j_aload_n dX3_lowestIn_41 rfl ?_
      refine j_get fl_X3_12 dX3_lowestIn_42 (by omega) h0 rfl ?_
      refine j_iload dX3_lowestIn_45 rfl ?_
      refine j_iload dX3_lowestIn_47 rfl ?_
      refine j_cV (As := [.int (nI f), .int (nI s)]) (rest := [.int x]) cm_X2_level ci_X2_level cs_X2_level rfl ln_X3_66 (ci := 2) rfl dX3_lowestIn_49 (d' := 1) (by decide) (by omega) hw rfl rfl (Nat.le_of_ble_eq_true rfl) (Nat.le_of_ble_eq_true rfl) (s_X2_level W f s (ix128 hF hS (show f < F by omega) (show s < S by omega))) ?_
      refine j_mmin ln_X3_105 js_min iz_java_lang_Math jc_min dX3_lowestIn_52 (by decide) (Nat.le_of_ble_eq_true rfl) ?_
      refine j_istore (L' := [some (.ref (ad 0)), some (.int (nI fa)), some (.int (nI sa)), some (.int (nI fb)), some (.int (nI sb)), some (.int (if (lv (f * S + s)) < x then (lv (f * S + s)) else x)), some (.int (nI f)), some (.int (nI s))]) dX3_lowestIn_55 (by decide) rfl rfl ?_
      refine j_iinc (v := nI (s + 1)) (L' := [some (.ref (ad 0)), some (.int (nI fa)), some (.int (nI sa)), some (.int (nI fb)), some (.int (nI sb)), some (.int (if (lv (f * S + s)) < x then (lv (f * S + s)) else x)), some (.int (nI f)), some (.int (nI (s + 1)))]) dX3_lowestIn_57 (by decide) rfl (nI_1 _) rfl rfl ?_
      refine j_goto (tgt := 32) dX3_lowestIn_60 (by decide) ?_
      exact ih _ rfl
    · skip
      show J g mX3_lowestIn 10 0 0 32 [some (.ref (ad 0)), some (.int (nI fa)), some (.int (nI sa)), some (.int (nI fb)), some (.int (nI sb)), some (.int (lpf (fun s x => if lv (f * S + s) < x then lv (f * S + s) else x) sa (sb + 1 - sa) x)), some (.int (nI f)), some (.int (nI (sa + (sb + 1 - sa))))] [] n ad E Φ Ψ
      refine j_iload dX3_lowestIn_32 rfl ?_
      refine j_iload dX3_lowestIn_34 rfl ?_
      refine j_icmp_gt_t (tgt := 63) dX3_lowestIn_36 (by decide) (nI_lt' (by omega) (by omega) (by omega)) ?_
      refine j_iinc (v := nI (f + 1)) (L' := [some (.ref (ad 0)), some (.int (nI fa)), some (.int (nI sa)), some (.int (nI fb)), some (.int (nI sb)), some (.int (lpf (fun s x => if lv (f * S + s) < x then lv (f * S + s) else x) sa (sb + 1 - sa) x)), some (.int (nI (f + 1))), some (.int (nI (sa + (sb + 1 - sa))))]) dX3_lowestIn_63 (by decide) rfl (nI_1 _) rfl rfl ?_
      refine j_goto (tgt := 23) dX3_lowestIn_66 (by decide) ?_
      refine j_clr 7 ?_
      exact ih0 _ rfl
  · skip
    show J g mX3_lowestIn 10 0 0 23 [some (.ref (ad 0)), some (.int (nI fa)), some (.int (nI sa)), some (.int (nI fb)), some (.int (nI sb)), some (.int (lowN lv S fa sa fb sb)), some (.int (nI (fa + (fb + 1 - fa)))), none] [] n ad E Φ Ψ
    refine j_iload dX3_lowestIn_23 rfl ?_
    refine j_iload_n dX3_lowestIn_25 rfl ?_
    refine j_icmp_gt_t (tgt := 69) dX3_lowestIn_26 (by decide) (nI_lt' (by omega) (by omega) (by omega)) ?_
    refine j_iload dX3_lowestIn_69 rfl ?_
    exact j_iret dX3_lowestIn_71 rfl h
theorem s_X3_lowestIn {g : jG} {n : Nat} {ad : Nat → Nat} {E : Nat → va_E} {F S : Nat} {hrs su : Int32} {gone : Int64} {lv ed : Nat → Int32} {old cnt mc : Nat} {dr mr : Nat → Nat → Int32} (C : CR g n ad E F S hrs su gone lv ed old cnt dr mc mr) (fa sa fb sb : Nat) (hfa : fa < F) (hsa : sa < S) (hfb : fb < F) (hsb : sb < S) (h1 : fa ≤ fb) (h2 : sa ≤ sb) : Ret g mX3_lowestIn 10 [.ref (ad 0), .int (nI fa), .int (nI sa), .int (nI fb), .int (nI sb)] n ad E (some (.int (lowR lv S fa sa fb sb))) E := by
  rw [← lowN_eq lv S h1 h2]
  exact s_X3_lowestIn0 C fa sa fb sb hfa hsa hfb hsb h1 h2
set_option maxRecDepth 100000 in
set_option maxHeartbeats 4000000 in
theorem s_X3_lowestIn_bad {g : jG} {n : Nat} {ad : Nat → Nat} {E : Nat → va_E} {F S : Nat} {hrs su : Int32} {gone : Int64} {lv ed : Nat → Int32} {old cnt mc : Nat} {dr mr : Nat → Nat → Int32} (C : CR g n ad E F S hrs su gone lv ed old cnt dr mc mr) (x1 x2 x3 x4 : Int32) (hx : oob x1 F ∨ oob x2 S ∨ oob x3 F ∨ oob x4 S) : Thr g mX3_lowestIn 10 [.ref (ad 0), .int x1, .int x2, .int x3, .int x4] n ad E "java/lang/IndexOutOfBoundsException" := by
  obtain ⟨h0, W, ⟨F4, S4, su4, lv4, ed4, T⟩, Z, Y, ⟨fc, Hm, P⟩, hFp, hSp, hn⟩ := id C
  obtain ⟨-, -, hw, hL, hE, hF, hS⟩ := id W
  obtain ⟨-, -, hz, hzO, hzr, -, -, hold, hcnt⟩ := id Z
  obtain ⟨-, -, hy, hyO, hyr, -, -, -, hmc⟩ := id Y
  intro Φ Ψ h
  show J g mX3_lowestIn 10 1 6 0 [some (.ref (ad 0)), some (.int x1), some (.int x2), some (.int x3), some (.int x4), none, none, none] [] n ad E Φ Ψ
  refine j_aload_n dX3_lowestIn_0 rfl ?_
  refine j_iload_n dX3_lowestIn_1 rfl ?_
  refine j_iload_n dX3_lowestIn_2 rfl ?_
  refine j_iload_n dX3_lowestIn_3 rfl ?_
  refine j_iload dX3_lowestIn_4 rfl ?_
  exact j_cVx (As := [.int x1, .int x2, .int x3, .int x4]) (rest := []) cm_X3_checkPart ci_X3_checkPart cs_X3_checkPart rfl ln_X3_70 (ci := 3) rfl dX3_lowestIn_6 (d' := 9) (by decide) (by omega) h0 rfl rfl (Nat.le_of_ble_eq_true rfl) (Nat.le_of_ble_eq_true rfl) (s_checkPart_bad C x1 x2 x3 x4 hx) (jMeets_out rfl h)
set_option maxRecDepth 100000 in
set_option maxHeartbeats 4000000 in
theorem s_X3_lowestIn_iae {g : jG} {n : Nat} {ad : Nat → Nat} {E : Nat → va_E} {F S : Nat} {hrs su : Int32} {gone : Int64} {lv ed : Nat → Int32} {old cnt mc : Nat} {dr mr : Nat → Nat → Int32} (C : CR g n ad E F S hrs su gone lv ed old cnt dr mc mr) (fa sa fb sb : Nat) (hfa : fa < F) (hsa : sa < S) (hfb : fb < F) (hsb : sb < S) (hx : fb < fa ∨ sb < sa) : Thr g mX3_lowestIn 10 [.ref (ad 0), .int (nI fa), .int (nI sa), .int (nI fb), .int (nI sb)] n ad E "java/lang/IllegalArgumentException" := by
  obtain ⟨h0, W, ⟨F4, S4, su4, lv4, ed4, T⟩, Z, Y, ⟨fc, Hm, P⟩, hFp, hSp, hn⟩ := id C
  obtain ⟨-, -, hw, hL, hE, hF, hS⟩ := id W
  obtain ⟨-, -, hz, hzO, hzr, -, -, hold, hcnt⟩ := id Z
  obtain ⟨-, -, hy, hyO, hyr, -, -, -, hmc⟩ := id Y
  intro Φ Ψ h
  show J g mX3_lowestIn 10 1 6 0 [some (.ref (ad 0)), some (.int (nI fa)), some (.int (nI sa)), some (.int (nI fb)), some (.int (nI sb)), none, none, none] [] n ad E Φ Ψ
  refine j_aload_n dX3_lowestIn_0 rfl ?_
  refine j_iload_n dX3_lowestIn_1 rfl ?_
  refine j_iload_n dX3_lowestIn_2 rfl ?_
  refine j_iload_n dX3_lowestIn_3 rfl ?_
  refine j_iload dX3_lowestIn_4 rfl ?_
  exact j_cVx (As := [.int (nI fa), .int (nI sa), .int (nI fb), .int (nI sb)]) (rest := []) cm_X3_checkPart ci_X3_checkPart cs_X3_checkPart rfl ln_X3_70 (ci := 3) rfl dX3_lowestIn_6 (d' := 9) (by decide) (by omega) h0 rfl rfl (Nat.le_of_ble_eq_true rfl) (Nat.le_of_ble_eq_true rfl) (s_checkPart_iae C fa sa fb sb hfa hsa hfb hsb hx) (jMeets_out rfl h)
def orderN (lv : Nat → Int32) (N : Nat) (x : Int32) : Int32 := lpf (fun k y => if y ≤ lv k then y else if uptC lv N (lv k) ≤ x then y else lv k) 0 N (hiW lv N)
theorem lpf_relH {α β : Type} {R : Nat → α → β → Prop} {b : Nat → α → α} {b' : Nat → β → β} : ∀ (k j : Nat) (a : α) (a' : β), (∀ i x y, j ≤ i → i < j + k → R i x y → R (i + 1) (b i x) (b' i y)) → R j a a' → R (j + k) (lpf b j k a) (lpf b' j k a') := by
  intro k
  induction k with
  | zero => intro j a a' _ h; exact h
  | succ k ih =>
    intro j a a' hs h
    have := ih (j + 1) _ _ (fun i x y q1 q2 r => hs i x y (by omega) (by omega) r) (hs j a a' (Nat.le_refl _) (by omega) h)
    rwa [show j + 1 + k = j + (k + 1) by omega] at this
theorem hiW_top (lv : Nat → Int32) {N : Nat} (hN : 1 ≤ N) : (∃ k, k < N ∧ hiW lv N = lv k) ∧ ∀ j, j < N → (lv j).toInt ≤ (hiW lv N).toInt := by
  have key := lpf_relH (R := fun i (x : Int32) (_ : Int32) => (∃ k, k < i ∧ x = lv k) ∧ ∀ j, j < i → (lv j).toInt ≤ x.toInt) (b := fun k x => if x < lv k then lv k else x) (b' := fun k x => if x < lv k then lv k else x) (N - 1) 1 (lv 0) (lv 0) (fun i x y _ _ r => ?_) ⟨⟨0, by omega, rfl⟩, fun j hj => by rw [show j = 0 by omega]; exact Int.le_refl _⟩
  · rw [show 1 + (N - 1) = N by omega] at key
    exact key
  · obtain ⟨⟨k, h1, h2⟩, h3⟩ := r
    by_cases q : x < lv i
    · have e : (if x < lv i then lv i else x) = lv i := if_pos q
      rw [Int32.lt_iff_toInt_lt] at q
      refine ⟨⟨i, by omega, e⟩, fun j hj => ?_⟩
      show (lv j).toInt ≤ (if x < lv i then lv i else x).toInt
      rw [e]
      by_cases w : j = i
      · rw [w]; exact Int.le_refl _
      · have := h3 j (by omega)
        omega
    · have e : (if x < lv i then lv i else x) = x := if_neg q
      rw [Int32.lt_iff_toInt_lt] at q
      refine ⟨⟨k, by omega, e.trans h2⟩, fun j hj => ?_⟩
      show (lv j).toInt ≤ (if x < lv i then lv i else x).toInt
      rw [e]
      by_cases w : j = i
      · rw [w]; omega
      · exact h3 j (by omega)
theorem uptC_top (lv : Nat → Int32) (x : Int32) {N : Nat} (h : ∀ j, j < N → (lv j).toInt ≤ x.toInt) : uptC lv N x = nI N := by
  have key := lpf_relH (R := fun i (c : Int32) (_ : Int32) => c = nI i) (b := fun k c => if x < lv k then c else c + 1) (b' := fun _ c => c) N 0 0 0 (fun i c y _ hi r => ?_) rfl
  · rw [Nat.zero_add] at key
    exact key
  · show (if x < lv i then c else c + 1) = nI (i + 1)
    rw [if_neg, r, nI_1]
    rw [Int32.lt_iff_toInt_lt]
    have := h i (by omega)
    omega
theorem orderN_eq (lv : Nat → Int32) {N p : Nat} (hN : N < 2 ^ 31) (hp : p < N) : orderN lv N (nI p) = orderR lv N (nI p) := by
  obtain ⟨⟨k, hk, ek⟩, hmax⟩ := hiW_top lv (show 1 ≤ N by omega)
  have hq : ¬ uptC lv N (lv k) ≤ nI p := by
    rw [uptC_top lv (lv k) (fun j hj => by rw [← ek]; exact hmax j hj)]
    exact nI_nle' hN (by omega) hp
  have key := lpf_relH (R := fun i (x : Int32) (y : Int32) => ((x.toInt = y.toInt ∧ y.toInt ≤ (hiW lv N).toInt) ∨ (x.toInt = (hiW lv N).toInt ∧ (hiW lv N).toInt ≤ y.toInt)) ∧ ∀ j, j < i → ¬ uptC lv N (lv j) ≤ nI p → y.toInt ≤ (lv j).toInt) (b := fun k y => if y ≤ lv k then y else if uptC lv N (lv k) ≤ nI p then y else lv k) (b' := fun k y => if y ≤ lv k then y else if uptC lv N (lv k) ≤ nI p then y else lv k) N 0 (hiW lv N) 2147483647 (fun i x y _ hi r => ?_) ⟨Or.inr ⟨rfl, ?_⟩, fun j hj => absurd hj (Nat.not_lt_zero j)⟩
  · rw [Nat.zero_add] at key
    obtain ⟨h1, h2⟩ := key
    have h3 := h2 k hk hq
    rw [← ek] at h3
    rw [← Int32.toInt_inj]
    unfold orderN orderR
    omega
  · obtain ⟨r1, r2⟩ := r
    have hl := hmax i (by omega)
    by_cases q : uptC lv N (lv i) ≤ nI p
    · have ex : (if x ≤ lv i then x else if uptC lv N (lv i) ≤ nI p then x else lv i) = x := by rw [if_pos q, ite_self]
      have ey : (if y ≤ lv i then y else if uptC lv N (lv i) ≤ nI p then y else lv i) = y := by rw [if_pos q, ite_self]
      show ((((if x ≤ lv i then x else if uptC lv N (lv i) ≤ nI p then x else lv i) : Int32).toInt = (if y ≤ lv i then y else if uptC lv N (lv i) ≤ nI p then y else lv i : Int32).toInt ∧ _) ∨ _) ∧ _
      simp only [ex, ey]
      refine ⟨r1, fun j hj nq => ?_⟩
      by_cases w : j = i
      · exact absurd (w ▸ q) nq
      · exact r2 j (by omega) nq
    · have ex : (if x ≤ lv i then x else if uptC lv N (lv i) ≤ nI p then x else lv i).toInt = if x.toInt ≤ (lv i).toInt then x.toInt else (lv i).toInt := by
        rw [if_neg q]
        by_cases w : x ≤ lv i
        · rw [if_pos w, if_pos (Int32.le_iff_toInt_le.mp w)]
        · rw [if_neg w, if_neg (fun t => w (Int32.le_iff_toInt_le.mpr t))]
      have ey : (if y ≤ lv i then y else if uptC lv N (lv i) ≤ nI p then y else lv i).toInt = if y.toInt ≤ (lv i).toInt then y.toInt else (lv i).toInt := by
        rw [if_neg q]
        by_cases w : y ≤ lv i
        · rw [if_pos w, if_pos (Int32.le_iff_toInt_le.mp w)]
        · rw [if_neg w, if_neg (fun t => w (Int32.le_iff_toInt_le.mpr t))]
      simp only [ex, ey]
      refine ⟨by split <;> split <;> omega, fun j hj nq => ?_⟩
      by_cases w : j = i
      · rw [w]; split <;> omega
      · have := r2 j (by omega) nq
        split <;> omega
  · have := Int32.toInt_lt (hiW lv N)
    have h2 : (2147483647 : Int32).toInt = 2147483647 := by decide
    omega
set_option maxRecDepth 100000 in
set_option maxHeartbeats 4000000 in
theorem s_X3_levelInOrder0 {g : jG} {n : Nat} {ad : Nat → Nat} {E : Nat → va_E} {F S : Nat} {hrs su : Int32} {gone : Int64} {lv ed : Nat → Int32} {old cnt mc : Nat} {dr mr : Nat → Nat → Int32} (C : CR g n ad E F S hrs su gone lv ed old cnt dr mc mr) (p : Nat) (hp : p < F * S) : Ret g mX3_levelInOrder 7 [.ref (ad 0), .int (nI p)] n ad E (some (.int (orderN lv (F * S) (nI p)))) E := by
  obtain ⟨h0, W, ⟨F4, S4, su4, lv4, ed4, T⟩, Z, Y, ⟨fc, Hm, P⟩, hFp, hSp, hn⟩ := id C
  obtain ⟨-, -, hw, hL, hE, hF, hS⟩ := id W
  obtain ⟨-, -, hz, hzO, hzr, -, -, hold, hcnt⟩ := id Z
  obtain ⟨-, -, hy, hyO, hyr, -, -, -, hmc⟩ := id Y
  have hFS := fs128 hF hS
  intro Φ Ψ h
  show J g mX3_levelInOrder 7 0 0 0 [some (.ref (ad 0)), some (.int (nI p)), none, none, none] [] n ad E Φ Ψ
  refine j_iload_n dX3_levelInOrder_0 rfl ?_
  refine j_aload_n dX3_levelInOrder_1 rfl ?_
  refine j_get fl_X3_12 dX3_levelInOrder_2 (by omega) h0 rfl ?_
  refine j_cV (As := []) (rest := [.int (nI p)]) cm_X2_puddleCount ci_X2_puddleCount cs_X2_puddleCount rfl ln_X3_53 (ci := 2) rfl dX3_levelInOrder_5 (d' := 0) (by decide) (by omega) hw rfl rfl (Nat.le_of_ble_eq_true rfl) (Nat.le_of_ble_eq_true rfl) (s_X2_puddleCount W) ?_
  refine j_cS (As := [.int (nI p), .int (nI (F * S))]) (rest := []) cm_X3_checkIndex ct_X3_checkIndex ln_X3_177 dX3_levelInOrder_8 (d' := 6) (by decide) rfl rfl (Nat.le_of_ble_eq_true rfl) (Nat.le_of_ble_eq_true rfl) (s_checkIndex_ok p (F * S) hp (by omega)) ?_
  refine j_aload_n dX3_levelInOrder_11 rfl ?_
  refine j_get fl_X3_12 dX3_levelInOrder_12 (by omega) h0 rfl ?_
  refine j_cV (As := []) (rest := []) cm_X2_highest ci_X2_highest cs_X2_highest rfl ln_X3_180 (ci := 2) rfl dX3_levelInOrder_15 (d' := 1) (by decide) (by omega) hw rfl rfl (Nat.le_of_ble_eq_true rfl) (Nat.le_of_ble_eq_true rfl) (s_X2_highest W (by omega)) ?_
  refine j_istore_n (L' := [some (.ref (ad 0)), some (.int (nI p)), some (.int (hiW lv (F * S))), none, none]) dX3_levelInOrder_18 (by decide) rfl rfl ?_
  refine j_iconst (v := nI 0) dX3_levelInOrder_19 (by decide) ?_
  refine j_istore_n (L' := [some (.ref (ad 0)), some (.int (nI p)), some (.int (hiW lv (F * S))), some (.int (nI 0)), none]) dX3_levelInOrder_20 (by decide) rfl rfl ?_
  refine lpf_ind (b := fun k y => if y ≤ lv k then y else if uptC lv (F * S) (lv k) ≤ nI p then y else lv k) (P := fun (k : Nat) (y : Int32) => J g mX3_levelInOrder 7 0 0 21 [some (.ref (ad 0)), some (.int (nI p)), some (.int y), some (.int (nI k)), none] [] n ad E Φ Ψ) (N := F * S) 0 ?_ (F * S) (hiW lv (F * S)) (by omega) ?_
  · intro k y hk0 hk ih
    show J g mX3_levelInOrder 7 0 0 21 [some (.ref (ad 0)), some (.int (nI p)), some (.int y), some (.int (nI k)), none] [] n ad E Φ Ψ
    refine j_iload_n dX3_levelInOrder_21 rfl ?_
    refine j_aload_n dX3_levelInOrder_22 rfl ?_
    refine j_get fl_X3_12 dX3_levelInOrder_23 (by omega) h0 rfl ?_
    refine j_cV (As := []) (rest := [.int (nI k)]) cm_X2_puddleCount ci_X2_puddleCount cs_X2_puddleCount rfl ln_X3_53 (ci := 2) rfl dX3_levelInOrder_26 (d' := 0) (by decide) (by omega) hw rfl rfl (Nat.le_of_ble_eq_true rfl) (Nat.le_of_ble_eq_true rfl) (s_X2_puddleCount W) ?_
    refine j_icmp_ge_f (tgt := 71) dX3_levelInOrder_29 (by decide) (nI_nle' (by omega) (by omega) (by omega)) ?_
    refine j_aload_n dX3_levelInOrder_32 rfl ?_
    refine j_get fl_X3_12 dX3_levelInOrder_33 (by omega) h0 rfl ?_
    refine j_get fl_X3_169 dX3_levelInOrder_36 (by omega) hw rfl ?_
    refine j_iload_n dX3_levelInOrder_39 rfl ?_
    refine j_iald dX3_levelInOrder_40 (by omega) hL (by decide) (by omega) rfl ?_
    refine j_istore (L' := [some (.ref (ad 0)), some (.int (nI p)), some (.int y), some (.int (nI k)), some (.int (lv k))]) dX3_levelInOrder_41 (by decide) rfl rfl ?_
    refine j_iload dX3_levelInOrder_43 rfl ?_
    refine j_iload_n dX3_levelInOrder_45 rfl ?_
    refine j_icmp_ge (tgt := 65) dX3_levelInOrder_46 (by decide) (fun hq => ?_) (fun hq => ?_)
    · skip
      refine j_iinc (v := nI (k + 1)) (L' := [some (.ref (ad 0)), some (.int (nI p)), some (.int y), some (.int (nI (k + 1))), some (.int (lv k))]) dX3_levelInOrder_65 (by decide) rfl (nI_1 _) rfl rfl ?_
      refine j_goto (tgt := 21) dX3_levelInOrder_68 (by decide) ?_
      refine j_clr 4 ?_
      exact ih (y) (by first | (simp only [hq, hr, if_true, if_false]; done) | (simp only [hq, if_true]; done))
    · skip
      refine j_aload_n dX3_levelInOrder_49 rfl ?_
      refine j_get fl_X3_12 dX3_levelInOrder_50 (by omega) h0 rfl ?_
      refine j_iload dX3_levelInOrder_53 rfl ?_
      refine j_cV (As := [.int (lv k)]) (rest := []) cm_X2_upToLevel ci_X2_upToLevel cs_X2_upToLevel rfl ln_X3_166 (ci := 2) rfl dX3_levelInOrder_55 (d' := 1) (by decide) (by omega) hw rfl rfl (Nat.le_of_ble_eq_true rfl) (Nat.le_of_ble_eq_true rfl) (s_X2_upToLevel W (lv k)) ?_
      refine j_iload_n dX3_levelInOrder_58 rfl ?_
      refine j_icmp_le (tgt := 65) dX3_levelInOrder_59 (by decide) (fun hr => ?_) (fun hr => ?_)
      · skip
        refine j_iinc (v := nI (k + 1)) (L' := [some (.ref (ad 0)), some (.int (nI p)), some (.int y), some (.int (nI (k + 1))), some (.int (lv k))]) dX3_levelInOrder_65 (by decide) rfl (nI_1 _) rfl rfl ?_
        refine j_goto (tgt := 21) dX3_levelInOrder_68 (by decide) ?_
        refine j_clr 4 ?_
        exact ih (y) (by first | (simp only [hq, hr, if_true, if_false]; done) | (simp only [hq, if_true]; done))
      · skip
        refine j_iload dX3_levelInOrder_62 rfl ?_
        refine j_istore_n (L' := [some (.ref (ad 0)), some (.int (nI p)), some (.int (lv k)), some (.int (nI k)), some (.int (lv k))]) dX3_levelInOrder_64 (by decide) rfl rfl ?_
        refine j_iinc (v := nI (k + 1)) (L' := [some (.ref (ad 0)), some (.int (nI p)), some (.int (lv k)), some (.int (nI (k + 1))), some (.int (lv k))]) dX3_levelInOrder_65 (by decide) rfl (nI_1 _) rfl rfl ?_
        refine j_goto (tgt := 21) dX3_levelInOrder_68 (by decide) ?_
        refine j_clr 4 ?_
        exact ih (lv k) (by first | (simp only [hq, hr, if_true, if_false]; done) | (simp only [hq, if_true]; done))
  · skip
    show J g mX3_levelInOrder 7 0 0 21 [some (.ref (ad 0)), some (.int (nI p)), some (.int (orderN lv (F * S) (nI p))), some (.int (nI (F * S))), none] [] n ad E Φ Ψ
    refine j_iload_n dX3_levelInOrder_21 rfl ?_
    refine j_aload_n dX3_levelInOrder_22 rfl ?_
    refine j_get fl_X3_12 dX3_levelInOrder_23 (by omega) h0 rfl ?_
    refine j_cV (As := []) (rest := [.int (nI (F * S))]) cm_X2_puddleCount ci_X2_puddleCount cs_X2_puddleCount rfl ln_X3_53 (ci := 2) rfl dX3_levelInOrder_26 (d' := 0) (by decide) (by omega) hw rfl rfl (Nat.le_of_ble_eq_true rfl) (Nat.le_of_ble_eq_true rfl) (s_X2_puddleCount W) ?_
    refine j_icmp_ge_t (tgt := 71) dX3_levelInOrder_29 (by decide) (nI_le' (by omega) (by omega) (by omega)) ?_
    refine j_iload_n dX3_levelInOrder_71 rfl ?_
    exact j_iret dX3_levelInOrder_72 rfl h
theorem s_X3_levelInOrder {g : jG} {n : Nat} {ad : Nat → Nat} {E : Nat → va_E} {F S : Nat} {hrs su : Int32} {gone : Int64} {lv ed : Nat → Int32} {old cnt mc : Nat} {dr mr : Nat → Nat → Int32} (C : CR g n ad E F S hrs su gone lv ed old cnt dr mc mr) (p : Nat) (hp : p < F * S) : Ret g mX3_levelInOrder 7 [.ref (ad 0), .int (nI p)] n ad E (some (.int (orderR lv (F * S) (nI p)))) E := by
  have hFS := fs128 C.2.1.2.2.2.2.2.1 C.2.1.2.2.2.2.2.2
  rw [← orderN_eq lv (by omega) hp]
  exact s_X3_levelInOrder0 C p hp
set_option maxRecDepth 100000 in
set_option maxHeartbeats 4000000 in
theorem s_X3_levelInOrder_bad {g : jG} {n : Nat} {ad : Nat → Nat} {E : Nat → va_E} {F S : Nat} {hrs su : Int32} {gone : Int64} {lv ed : Nat → Int32} {old cnt mc : Nat} {dr mr : Nat → Nat → Int32} (C : CR g n ad E F S hrs su gone lv ed old cnt dr mc mr) (x : Int32) (hx : oob x (F * S)) : Thr g mX3_levelInOrder 7 [.ref (ad 0), .int x] n ad E "java/lang/IndexOutOfBoundsException" := by
  obtain ⟨h0, W, ⟨F4, S4, su4, lv4, ed4, T⟩, Z, Y, ⟨fc, Hm, P⟩, hFp, hSp, hn⟩ := id C
  obtain ⟨-, -, hw, hL, hE, hF, hS⟩ := id W
  obtain ⟨-, -, hz, hzO, hzr, -, -, hold, hcnt⟩ := id Z
  obtain ⟨-, -, hy, hyO, hyr, -, -, -, hmc⟩ := id Y
  intro Φ Ψ h
  show J g mX3_levelInOrder 7 1 6 0 [some (.ref (ad 0)), some (.int x), none, none, none] [] n ad E Φ Ψ
  refine j_iload_n dX3_levelInOrder_0 rfl ?_
  refine j_aload_n dX3_levelInOrder_1 rfl ?_
  refine j_get fl_X3_12 dX3_levelInOrder_2 (by omega) h0 rfl ?_
  refine j_cV (As := []) (rest := [.int x]) cm_X2_puddleCount ci_X2_puddleCount cs_X2_puddleCount rfl ln_X3_53 (ci := 2) rfl dX3_levelInOrder_5 (d' := 0) (by decide) (by omega) hw rfl rfl (Nat.le_of_ble_eq_true rfl) (Nat.le_of_ble_eq_true rfl) (s_X2_puddleCount W) ?_
  exact j_cSx (As := [.int x, .int (nI (F * S))]) (rest := []) cm_X3_checkIndex ct_X3_checkIndex ln_X3_177 dX3_levelInOrder_8 (d' := 6) (by decide) rfl rfl (Nat.le_of_ble_eq_true rfl) (Nat.le_of_ble_eq_true rfl) (s_checkIndex_bad x (F * S) hx) (jMeets_out rfl h)
theorem highR_step (lv : Nat → Int32) (S a : Nat) : ∀ (k j h : Nat), j + k = S → h < S → lpf (fun s h => if lv (a * S + s) ≤ lv (a * S + h) then h else s) j k h < S := by
  intro k
  induction k with
  | zero => intro j h _ hh; exact hh
  | succ k ih =>
    intro j h hj hh
    refine ih (j + 1) _ (by omega) ?_
    show (if _ then h else j) < S
    split
    · exact hh
    · omega
theorem lpfB_ind {b : Nat → Nat → Nat} {P : Nat → Nat → Prop} {N : Nat} (j0 : Nat) (B : Nat → Prop) (hB : ∀ j a, j < N → B a → B (b j a)) (hs : ∀ j a, j0 ≤ j → j < N → B a → (∀ x, x = b j a → P (j + 1) x) → P j a) (k : Nat) (a : Nat) (ha : B a) (h : j0 + k = N) (q : P N (lpf b j0 k a)) : P j0 a := by
  have key : ∀ (k j : Nat) (a : Nat), j0 ≤ j → B a → j + k = N → P N (lpf b j k a) → P j a := by
    intro k
    induction k with
    | zero =>
      intro j a _ _ h q
      have : j = N := by omega
      subst this
      exact q
    | succ k ih =>
      intro j a h0 hb h q
      exact hs j a h0 (by omega) hb (fun x hx => by rw [hx]; exact ih (j + 1) (b j a) (by omega) (hB j a (by omega) hb) (by omega) q)
  exact key k j0 a (Nat.le_refl _) ha h q
set_option maxRecDepth 100000 in
set_option maxHeartbeats 4000000 in
theorem s_X3_highestAt {g : jG} {n : Nat} {ad : Nat → Nat} {E : Nat → va_E} {F S : Nat} {hrs su : Int32} {gone : Int64} {lv ed : Nat → Int32} {old cnt mc : Nat} {dr mr : Nat → Nat → Int32} (C : CR g n ad E F S hrs su gone lv ed old cnt dr mc mr) (a : Nat) (ha : a < F) : Ret g mX3_highestAt 8 [.ref (ad 0), .int (nI a)] n ad E (some (.int (nI (highR lv S a)))) E := by
  obtain ⟨h0, W, ⟨F4, S4, su4, lv4, ed4, T⟩, Z, Y, ⟨fc, Hm, P⟩, hFp, hSp, hn⟩ := id C
  obtain ⟨-, -, hw, hL, hE, hF, hS⟩ := id W
  obtain ⟨-, -, hz, hzO, hzr, -, -, hold, hcnt⟩ := id Z
  obtain ⟨-, -, hy, hyO, hyr, -, -, -, hmc⟩ := id Y
  intro Φ Ψ h
  show J g mX3_highestAt 8 0 0 0 [some (.ref (ad 0)), some (.int (nI a)), none, none] [] n ad E Φ Ψ
  refine j_aload_n dX3_highestAt_0 rfl ?_
  refine j_iload_n dX3_highestAt_1 rfl ?_
  refine j_cV (As := [.int (nI a)]) (rest := []) cm_X3_checkFlight ci_X3_checkFlight cs_X3_checkFlight rfl ln_X3_74 (ci := 3) rfl dX3_highestAt_2 (d' := 7) (by decide) (by omega) h0 rfl rfl (Nat.le_of_ble_eq_true rfl) (Nat.le_of_ble_eq_true rfl) (s_checkFlight_ok C a ha) ?_
  refine j_iconst (v := nI 0) dX3_highestAt_5 (by decide) ?_
  refine j_istore_n (L' := [some (.ref (ad 0)), some (.int (nI a)), some (.int (nI 0)), none]) dX3_highestAt_6 (by decide) rfl rfl ?_
  refine j_iconst (v := nI 1) dX3_highestAt_7 (by decide) ?_
  refine j_istore_n (L' := [some (.ref (ad 0)), some (.int (nI a)), some (.int (nI 0)), some (.int (nI 1))]) dX3_highestAt_8 (by decide) rfl rfl ?_
  refine lpfB_ind (b := fun s h => if lv (a * S + s) ≤ lv (a * S + h) then h else s) (P := fun (s y : Nat) => J g mX3_highestAt 8 0 0 9 [some (.ref (ad 0)), some (.int (nI a)), some (.int (nI y)), some (.int (nI s))] [] n ad E Φ Ψ) (N := S) 1 (fun y => y < S) (fun j y hj hy => by show (if _ then y else j) < S; split <;> omega) ?_ (S - 1) 0 (by omega) (by omega) ?_
  · intro s y hs0 hs hb1 ih
    show J g mX3_highestAt 8 0 0 9 [some (.ref (ad 0)), some (.int (nI a)), some (.int (nI y)), some (.int (nI s))] [] n ad E Φ Ψ
    refine j_iload_n dX3_highestAt_9 rfl ?_
    refine j_aload_n dX3_highestAt_10 rfl ?_
    refine j_get fl_X3_12 dX3_highestAt_11 (by omega) h0 rfl ?_
    refine j_get fl_X3_77 dX3_highestAt_14 (by omega) hw rfl ?_
    refine j_icmp_ge_f (tgt := 49) dX3_highestAt_17 (by decide) (nI_nle' (by omega) (by omega) (by omega)) ?_
    refine j_aload_n dX3_highestAt_20 rfl ?_
    refine j_get fl_X3_12 dX3_highestAt_21 (by omega) h0 rfl ?_
    refine j_iload_n dX3_highestAt_24 rfl ?_
    refine j_iload_n dX3_highestAt_25 rfl ?_
    refine j_cV (As := [.int (nI a), .int (nI s)]) (rest := []) cm_X2_level ci_X2_level cs_X2_level rfl ln_X3_66 (ci := 2) rfl dX3_highestAt_26 (d' := 1) (by decide) (by omega) hw rfl rfl (Nat.le_of_ble_eq_true rfl) (Nat.le_of_ble_eq_true rfl) (s_X2_level W a s (ix128 hF hS ha hs)) ?_
    refine j_aload_n dX3_highestAt_29 rfl ?_
    refine j_get fl_X3_12 dX3_highestAt_30 (by omega) h0 rfl ?_
    refine j_iload_n dX3_highestAt_33 rfl ?_
    refine j_iload_n dX3_highestAt_34 rfl ?_
    refine j_cV (As := [.int (nI a), .int (nI y)]) (rest := [.int (lv (a * S + s))]) cm_X2_level ci_X2_level cs_X2_level rfl ln_X3_66 (ci := 2) rfl dX3_highestAt_35 (d' := 1) (by decide) (by omega) hw rfl rfl (Nat.le_of_ble_eq_true rfl) (Nat.le_of_ble_eq_true rfl) (s_X2_level W a y (ix128 hF hS ha hb1)) ?_
    refine j_icmp_le (tgt := 43) dX3_highestAt_38 (by decide) (fun hq => ?_) (fun hq => ?_)
    · skip
      refine j_iinc (v := nI (s + 1)) (L' := [some (.ref (ad 0)), some (.int (nI a)), some (.int (nI y)), some (.int (nI (s + 1)))]) dX3_highestAt_43 (by decide) rfl (nI_1 _) rfl rfl ?_
      refine j_goto (tgt := 9) dX3_highestAt_46 (by decide) ?_
      exact ih _ (by simp only [hq, if_true, if_false])
    · skip
      refine j_iload_n dX3_highestAt_41 rfl ?_
      refine j_istore_n (L' := [some (.ref (ad 0)), some (.int (nI a)), some (.int (nI s)), some (.int (nI s))]) dX3_highestAt_42 (by decide) rfl rfl ?_
      refine j_iinc (v := nI (s + 1)) (L' := [some (.ref (ad 0)), some (.int (nI a)), some (.int (nI s)), some (.int (nI (s + 1)))]) dX3_highestAt_43 (by decide) rfl (nI_1 _) rfl rfl ?_
      refine j_goto (tgt := 9) dX3_highestAt_46 (by decide) ?_
      exact ih _ (by simp only [hq, if_true, if_false])
  · skip
    show J g mX3_highestAt 8 0 0 9 [some (.ref (ad 0)), some (.int (nI a)), some (.int (nI (highR lv S a))), some (.int (nI S))] [] n ad E Φ Ψ
    refine j_iload_n dX3_highestAt_9 rfl ?_
    refine j_aload_n dX3_highestAt_10 rfl ?_
    refine j_get fl_X3_12 dX3_highestAt_11 (by omega) h0 rfl ?_
    refine j_get fl_X3_77 dX3_highestAt_14 (by omega) hw rfl ?_
    refine j_icmp_ge_t (tgt := 49) dX3_highestAt_17 (by decide) (nI_le' (by omega) (by omega) (by omega)) ?_
    refine j_iload_n dX3_highestAt_49 rfl ?_
    exact j_iret dX3_highestAt_50 rfl h
set_option maxRecDepth 100000 in
set_option maxHeartbeats 4000000 in
theorem s_X3_highestAt_bad {g : jG} {n : Nat} {ad : Nat → Nat} {E : Nat → va_E} {F S : Nat} {hrs su : Int32} {gone : Int64} {lv ed : Nat → Int32} {old cnt mc : Nat} {dr mr : Nat → Nat → Int32} (C : CR g n ad E F S hrs su gone lv ed old cnt dr mc mr) (x : Int32) (hx : oob x F) : Thr g mX3_highestAt 8 [.ref (ad 0), .int x] n ad E "java/lang/IndexOutOfBoundsException" := by
  obtain ⟨h0, W, ⟨F4, S4, su4, lv4, ed4, T⟩, Z, Y, ⟨fc, Hm, P⟩, hFp, hSp, hn⟩ := id C
  obtain ⟨-, -, hw, hL, hE, hF, hS⟩ := id W
  obtain ⟨-, -, hz, hzO, hzr, -, -, hold, hcnt⟩ := id Z
  obtain ⟨-, -, hy, hyO, hyr, -, -, -, hmc⟩ := id Y
  intro Φ Ψ h
  show J g mX3_highestAt 8 1 6 0 [some (.ref (ad 0)), some (.int x), none, none] [] n ad E Φ Ψ
  refine j_aload_n dX3_highestAt_0 rfl ?_
  refine j_iload_n dX3_highestAt_1 rfl ?_
  exact j_cVx (As := [.int x]) (rest := []) cm_X3_checkFlight ci_X3_checkFlight cs_X3_checkFlight rfl ln_X3_74 (ci := 3) rfl dX3_highestAt_2 (d' := 7) (by decide) (by omega) h0 rfl rfl (Nat.le_of_ble_eq_true rfl) (Nat.le_of_ble_eq_true rfl) (s_checkFlight_bad C x hx) (jMeets_out rfl h)
