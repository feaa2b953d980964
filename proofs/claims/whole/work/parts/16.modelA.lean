/-! The model: what it holds, its private methods and its questions. -/
def MR (g : jG) (n : Nat) (ad : Nat → Nat) (E : Nat → va_E) (th : Int32) (F S : Nat) (hrs su : Int32) (gone : Int64) (lv ed : Nat → Int32) (first cnt : Nat) (ah : Nat → Int32) (mc : Nat) (mk : Nat → Int32) : Prop :=
  E 63 = .inr (4, [.int th, .int (nI F), .int (nI S), .int hrs, .int su, .long gone, .ref (ad 64), .ref (ad 65), .ref (ad 66), .int (nI first), .int (nI cnt), .ref (ad 67), .int (nI mc), .ref (ad 68)]) ∧ E 64 = aI g 16 ed ∧ E 65 = aI g 128 lv ∧ E 66 = aI g 3840 ah ∧ E 67 = aI g 1536 mk ∧ (∃ wk, E 68 = aI g 128 wk) ∧ F ≤ 8 ∧ S ≤ 16 ∧ 1 ≤ F ∧ 1 ≤ S ∧ first < 30 ∧ cnt ≤ 30 ∧ mc ≤ 12 ∧ 69 ≤ n
section MRL
variable {g : jG} {n : Nat} {ad : Nat → Nat} {E E' : Nat → va_E} {th th' : Int32} {F S F' S' : Nat} {hrs su hrs' su' : Int32} {gone gone' : Int64} {lv ed lv' ed' : Nat → Int32} {first cnt first' cnt' : Nat} {ah ah' : Nat → Int32} {mc mc' : Nat} {mk mk' wk' : Nat → Int32}
theorem MR.setO (D : MR g n ad E th F S hrs su gone lv ed first cnt ah mc mk) (h : F' ≤ 8 ∧ S' ≤ 16 ∧ 1 ≤ F' ∧ 1 ≤ S' ∧ first' < 30 ∧ cnt' ≤ 30 ∧ mc' ≤ 12) : MR g n ad (va_up E 63 (.inr (4, [.int th', .int (nI F'), .int (nI S'), .int hrs', .int su', .long gone', .ref (ad 64), .ref (ad 65), .ref (ad 66), .int (nI first'), .int (nI cnt'), .ref (ad 67), .int (nI mc'), .ref (ad 68)]))) th' F' S' hrs' su' gone' lv ed first' cnt' ah mc' mk := by
  obtain ⟨m0, m1, m2, m3, m4, ⟨wk, m5⟩, r⟩ := D
  exact ⟨up_eq, (up_ne (by decide)).trans m1, (up_ne (by decide)).trans m2, (up_ne (by decide)).trans m3, (up_ne (by decide)).trans m4, ⟨wk, (up_ne (by decide)).trans m5⟩, h.1, h.2.1, h.2.2.1, h.2.2.2.1, h.2.2.2.2.1, h.2.2.2.2.2.1, h.2.2.2.2.2.2, r.2.2.2.2.2.2.2⟩
theorem MR.setEd (D : MR g n ad E th F S hrs su gone lv ed first cnt ah mc mk) : MR g n ad (va_up E 64 (aI g 16 ed')) th F S hrs su gone lv ed' first cnt ah mc mk := by
  obtain ⟨m0, m1, m2, m3, m4, ⟨wk, m5⟩, r⟩ := D
  exact ⟨(up_ne (by decide)).trans m0, up_eq, (up_ne (by decide)).trans m2, (up_ne (by decide)).trans m3, (up_ne (by decide)).trans m4, ⟨wk, (up_ne (by decide)).trans m5⟩, r⟩
theorem MR.setLv (D : MR g n ad E th F S hrs su gone lv ed first cnt ah mc mk) : MR g n ad (va_up E 65 (aI g 128 lv')) th F S hrs su gone lv' ed first cnt ah mc mk := by
  obtain ⟨m0, m1, m2, m3, m4, ⟨wk, m5⟩, r⟩ := D
  exact ⟨(up_ne (by decide)).trans m0, (up_ne (by decide)).trans m1, up_eq, (up_ne (by decide)).trans m3, (up_ne (by decide)).trans m4, ⟨wk, (up_ne (by decide)).trans m5⟩, r⟩
theorem MR.setAh (D : MR g n ad E th F S hrs su gone lv ed first cnt ah mc mk) : MR g n ad (va_up E 66 (aI g 3840 ah')) th F S hrs su gone lv ed first cnt ah' mc mk := by
  obtain ⟨m0, m1, m2, m3, m4, ⟨wk, m5⟩, r⟩ := D
  exact ⟨(up_ne (by decide)).trans m0, (up_ne (by decide)).trans m1, (up_ne (by decide)).trans m2, up_eq, (up_ne (by decide)).trans m4, ⟨wk, (up_ne (by decide)).trans m5⟩, r⟩
theorem MR.setMk (D : MR g n ad E th F S hrs su gone lv ed first cnt ah mc mk) : MR g n ad (va_up E 67 (aI g 1536 mk')) th F S hrs su gone lv ed first cnt ah mc mk' := by
  obtain ⟨m0, m1, m2, m3, m4, ⟨wk, m5⟩, r⟩ := D
  exact ⟨(up_ne (by decide)).trans m0, (up_ne (by decide)).trans m1, (up_ne (by decide)).trans m2, (up_ne (by decide)).trans m3, up_eq, ⟨wk, (up_ne (by decide)).trans m5⟩, r⟩
theorem MR.setWk (D : MR g n ad E th F S hrs su gone lv ed first cnt ah mc mk) : MR g n ad (va_up E 68 (aI g 128 wk')) th F S hrs su gone lv ed first cnt ah mc mk := by
  obtain ⟨m0, m1, m2, m3, m4, ⟨wk, m5⟩, r⟩ := D
  exact ⟨(up_ne (by decide)).trans m0, (up_ne (by decide)).trans m1, (up_ne (by decide)).trans m2, (up_ne (by decide)).trans m3, (up_ne (by decide)).trans m4, ⟨_, up_eq⟩, r⟩
theorem MR.kept (D : MR g n ad E th F S hrs su gone lv ed first cnt ah mc mk) (h : ∀ k, 63 ≤ k → k < 69 → E' k = E k) : MR g n ad E' th F S hrs su gone lv ed first cnt ah mc mk := by
  obtain ⟨m0, m1, m2, m3, m4, ⟨wk, m5⟩, r⟩ := D
  exact ⟨(h _ (by omega) (by omega)).trans m0, (h _ (by omega) (by omega)).trans m1, (h _ (by omega) (by omega)).trans m2, (h _ (by omega) (by omega)).trans m3, (h _ (by omega) (by omega)).trans m4, ⟨wk, (h _ (by omega) (by omega)).trans m5⟩, r⟩
theorem MR.more (D : MR g n ad E th F S hrs su gone lv ed first cnt ah mc mk) {n' : Nat} (h : n ≤ n') : MR g n' ad E th F S hrs su gone lv ed first cnt ah mc mk := by
  obtain ⟨m0, m1, m2, m3, m4, m5, h1, h2, h3, h4, h5, h6, h7, h8⟩ := D
  exact ⟨m0, m1, m2, m3, m4, m5, h1, h2, h3, h4, h5, h6, h7, Nat.le_trans h8 h⟩
end MRL
theorem pred_lt {F : Nat} {x : Int32} (h1 : 1 ≤ F) (h2 : F < 2 ^ 31) (hx : nI F ≤ x) : nI (F - 1) < x := by
  rw [Int32.lt_iff_toInt_lt]
  rw [Int32.le_iff_toInt_le] at hx
  have e1 := nI_toInt h2
  have e2 := nI_toInt (n := F - 1) (by omega)
  omega
set_option maxRecDepth 100000 in
set_option maxHeartbeats 4000000 in
theorem s_X4_thrown {g : jG} {n : Nat} {ad : Nat → Nat} {E : Nat → va_E} {th : Int32} {F S : Nat} {hrs su : Int32} {gone : Int64} {lv ed : Nat → Int32} {first cnt : Nat} {ah : Nat → Int32} {mc : Nat} {mk : Nat → Int32} (D : MR g n ad E th F S hrs su gone lv ed first cnt ah mc mk) : Ret g mX4_thrown 0 [.ref (ad 63)] n ad E (some (.int th)) E := by
  obtain ⟨m0, m1, m2, m3, m4, ⟨wk, m5⟩, hF, hS, hFp, hSp, hfi, hcn, hmc, hn⟩ := id D
  intro Φ Ψ h
  show J g mX4_thrown 0 0 0 0 [some (.ref (ad 63))] [] n ad E Φ Ψ
  refine j_aload_n dX4_thrown_0 rfl ?_
  refine j_get fl_X4_38 dX4_thrown_1 (by omega) m0 rfl ?_
  exact j_iret dX4_thrown_4 rfl h
set_option maxRecDepth 100000 in
set_option maxHeartbeats 4000000 in
theorem s_X4_no {g : jG} {n : Nat} {ad : Nat → Nat} {E : Nat → va_E} {th : Int32} {F S : Nat} {hrs su : Int32} {gone : Int64} {lv ed : Nat → Int32} {first cnt : Nat} {ah : Nat → Int32} {mc : Nat} {mk : Nat → Int32} (D : MR g n ad E th F S hrs su gone lv ed first cnt ah mc mk) (k : Int32) : Ret g mX4_no 0 [.ref (ad 63), .int k] n ad E (some (.int 0)) (va_up E 63 (.inr (4, [.int k, .int (nI F), .int (nI S), .int hrs, .int su, .long gone, .ref (ad 64), .ref (ad 65), .ref (ad 66), .int (nI first), .int (nI cnt), .ref (ad 67), .int (nI mc), .ref (ad 68)]))) := by
  obtain ⟨m0, m1, m2, m3, m4, ⟨wk, m5⟩, hF, hS, hFp, hSp, hfi, hcn, hmc, hn⟩ := id D
  intro Φ Ψ h
  show J g mX4_no 0 0 0 0 [some (.ref (ad 63)), some (.int k)] [] n ad E Φ Ψ
  refine j_aload_n dX4_no_0 rfl ?_
  refine j_iload_n dX4_no_1 rfl ?_
  refine j_put fl_X4_38 fp_X4 dX4_no_2 (by omega) m0 (Or.inl rfl) rfl rfl (Nat.le_of_ble_eq_true rfl) ?_
  refine j_iconst (v := 0) dX4_no_5 (by decide) ?_
  exact j_iret dX4_no_6 rfl h
set_option maxRecDepth 100000 in
set_option maxHeartbeats 4000000 in
theorem s_X4_ok {g : jG} {n : Nat} {ad : Nat → Nat} {E : Nat → va_E} {th : Int32} {F S : Nat} {hrs su : Int32} {gone : Int64} {lv ed : Nat → Int32} {first cnt : Nat} {ah : Nat → Int32} {mc : Nat} {mk : Nat → Int32} (D : MR g n ad E th F S hrs su gone lv ed first cnt ah mc mk) (k : Int32) : Ret g mX4_ok 0 [.ref (ad 63), .int k] n ad E (some (.int k)) (va_up E 63 (.inr (4, [.int 0, .int (nI F), .int (nI S), .int hrs, .int su, .long gone, .ref (ad 64), .ref (ad 65), .ref (ad 66), .int (nI first), .int (nI cnt), .ref (ad 67), .int (nI mc), .ref (ad 68)]))) := by
  obtain ⟨m0, m1, m2, m3, m4, ⟨wk, m5⟩, hF, hS, hFp, hSp, hfi, hcn, hmc, hn⟩ := id D
  intro Φ Ψ h
  show J g mX4_ok 0 0 0 0 [some (.ref (ad 63)), some (.int k)] [] n ad E Φ Ψ
  refine j_aload_n dX4_ok_0 rfl ?_
  refine j_iconst (v := 0) dX4_ok_1 (by decide) ?_
  refine j_put fl_X4_38 fp_X4 dX4_ok_2 (by omega) m0 (Or.inl rfl) rfl rfl (Nat.le_of_ble_eq_true rfl) ?_
  refine j_iload_n dX4_ok_5 rfl ?_
  exact j_iret dX4_ok_6 rfl h
set_option maxRecDepth 100000 in
set_option maxHeartbeats 4000000 in
theorem s_X4_okay {g : jG} {n : Nat} {ad : Nat → Nat} {E : Nat → va_E} {th : Int32} {F S : Nat} {hrs su : Int32} {gone : Int64} {lv ed : Nat → Int32} {first cnt : Nat} {ah : Nat → Int32} {mc : Nat} {mk : Nat → Int32} (D : MR g n ad E th F S hrs su gone lv ed first cnt ah mc mk) (k : Int64) : Ret g mX4_okay 0 [.ref (ad 63), .long k] n ad E (some (.long k)) (va_up E 63 (.inr (4, [.int 0, .int (nI F), .int (nI S), .int hrs, .int su, .long gone, .ref (ad 64), .ref (ad 65), .ref (ad 66), .int (nI first), .int (nI cnt), .ref (ad 67), .int (nI mc), .ref (ad 68)]))) := by
  obtain ⟨m0, m1, m2, m3, m4, ⟨wk, m5⟩, hF, hS, hFp, hSp, hfi, hcn, hmc, hn⟩ := id D
  intro Φ Ψ h
  show J g mX4_okay 0 0 0 0 [some (.ref (ad 63)), some (.long k), none] [] n ad E Φ Ψ
  refine j_aload_n dX4_okay_0 rfl ?_
  refine j_iconst (v := 0) dX4_okay_1 (by decide) ?_
  refine j_put fl_X4_38 fp_X4 dX4_okay_2 (by omega) m0 (Or.inl rfl) rfl rfl (Nat.le_of_ble_eq_true rfl) ?_
  refine j_lload_n dX4_okay_5 rfl ?_
  exact j_lret dX4_okay_6 rfl h
set_option maxRecDepth 100000 in
set_option maxHeartbeats 4000000 in
theorem s_isIn_t {g : jG} {n : Nat} {ad : Nat → Nat} {E : Nat → va_E} (x a b : Int32) (h1 : ¬ x < a) (h2 : ¬ b < x) : Ret g mX4_isIn 0 [.int x, .int a, .int b] n ad E (some (.int 1)) E := by
  intro Φ Ψ h
  show J g mX4_isIn 0 0 0 0 [some (.int x), some (.int a), some (.int b)] [] n ad E Φ Ψ
  refine j_iload_n dX4_isIn_0 rfl ?_
  refine j_iload_n dX4_isIn_1 rfl ?_
  refine j_icmp_lt_f (tgt := 14) dX4_isIn_2 (by decide) h1 ?_
  refine j_iload_n dX4_isIn_5 rfl ?_
  refine j_iload_n dX4_isIn_6 rfl ?_
  refine j_icmp_gt_f (tgt := 14) dX4_isIn_7 (by decide) h2 ?_
  refine j_iconst (v := 1) dX4_isIn_10 (by decide) ?_
  refine j_goto (tgt := 15) dX4_isIn_11 (by decide) ?_
  exact j_zret dX4_isIn_15 rfl rfl h
set_option maxRecDepth 100000 in
set_option maxHeartbeats 4000000 in
theorem s_isIn_f {g : jG} {n : Nat} {ad : Nat → Nat} {E : Nat → va_E} (x a b : Int32) (hx : x < a ∨ b < x) : Ret g mX4_isIn 0 [.int x, .int a, .int b] n ad E (some (.int 0)) E := by
  intro Φ Ψ h
  show J g mX4_isIn 0 0 0 0 [some (.int x), some (.int a), some (.int b)] [] n ad E Φ Ψ
  by_cases q : x < a
  · skip
    refine j_iload_n dX4_isIn_0 rfl ?_
    refine j_iload_n dX4_isIn_1 rfl ?_
    refine j_icmp_lt_t (tgt := 14) dX4_isIn_2 (by decide) q ?_
    refine j_iconst (v := 0) dX4_isIn_14 (by decide) ?_
    exact j_zret dX4_isIn_15 rfl rfl h
  · skip
    refine j_iload_n dX4_isIn_0 rfl ?_
    refine j_iload_n dX4_isIn_1 rfl ?_
    refine j_icmp_lt_f (tgt := 14) dX4_isIn_2 (by decide) q ?_
    refine j_iload_n dX4_isIn_5 rfl ?_
    refine j_iload_n dX4_isIn_6 rfl ?_
    refine j_icmp_gt_t (tgt := 14) dX4_isIn_7 (by decide) (hx.resolve_left q) ?_
    refine j_iconst (v := 0) dX4_isIn_14 (by decide) ?_
    exact j_zret dX4_isIn_15 rfl rfl h
set_option maxRecDepth 100000 in
set_option maxHeartbeats 4000000 in
theorem s_isFlight_t {g : jG} {n : Nat} {ad : Nat → Nat} {E : Nat → va_E} {th : Int32} {F S : Nat} {hrs su : Int32} {gone : Int64} {lv ed : Nat → Int32} {first cnt : Nat} {ah : Nat → Int32} {mc : Nat} {mk : Nat → Int32} (D : MR g n ad E th F S hrs su gone lv ed first cnt ah mc mk) (j : Nat) (hj : j < F) : Ret g mX4_isFlight 1 [.ref (ad 63), .int (nI j)] n ad E (some (.int 1)) E := by
  obtain ⟨m0, m1, m2, m3, m4, ⟨wk, m5⟩, hF, hS, hFp, hSp, hfi, hcn, hmc, hn⟩ := id D
  intro Φ Ψ h
  show J g mX4_isFlight 1 0 0 0 [some (.ref (ad 63)), some (.int (nI j))] [] n ad E Φ Ψ
  refine j_iload_n dX4_isFlight_0 rfl ?_
  refine j_iconst (v := nI 0) dX4_isFlight_1 (by decide) ?_
  refine j_aload_n dX4_isFlight_2 rfl ?_
  refine j_get fl_X4_9 dX4_isFlight_3 (by omega) m0 rfl ?_
  refine j_iconst (v := nI 1) dX4_isFlight_6 (by decide) ?_
  refine j_isub dX4_isFlight_7 ?_
  refine j_topi (y := nI (F - 1)) (pk_sub (by omega)) ?_
  refine j_cS (As := [.int (nI j), .int (nI 0), .int (nI (F - 1))]) (rest := []) cm_X4_isIn ct_X4_isIn ln_X4_41 dX4_isFlight_8 (d' := 0) (by decide) rfl rfl (Nat.le_of_ble_eq_true rfl) (Nat.le_of_ble_eq_true rfl) (s_isIn_t (nI j) (nI 0) (nI (F - 1)) (nI_nlt' (by omega) (by omega) (by omega)) (nI_nlt' (by omega) (by omega) (by omega))) ?_
  exact j_zret dX4_isFlight_11 rfl rfl h
set_option maxRecDepth 100000 in
set_option maxHeartbeats 4000000 in
theorem s_isFlight_f {g : jG} {n : Nat} {ad : Nat → Nat} {E : Nat → va_E} {th : Int32} {F S : Nat} {hrs su : Int32} {gone : Int64} {lv ed : Nat → Int32} {first cnt : Nat} {ah : Nat → Int32} {mc : Nat} {mk : Nat → Int32} (D : MR g n ad E th F S hrs su gone lv ed first cnt ah mc mk) (x : Int32) (hx : oob x F) : Ret g mX4_isFlight 1 [.ref (ad 63), .int x] n ad E (some (.int 0)) E := by
  obtain ⟨m0, m1, m2, m3, m4, ⟨wk, m5⟩, hF, hS, hFp, hSp, hfi, hcn, hmc, hn⟩ := id D
  intro Φ Ψ h
  show J g mX4_isFlight 1 0 0 0 [some (.ref (ad 63)), some (.int x)] [] n ad E Φ Ψ
  refine j_iload_n dX4_isFlight_0 rfl ?_
  refine j_iconst (v := nI 0) dX4_isFlight_1 (by decide) ?_
  refine j_aload_n dX4_isFlight_2 rfl ?_
  refine j_get fl_X4_9 dX4_isFlight_3 (by omega) m0 rfl ?_
  refine j_iconst (v := nI 1) dX4_isFlight_6 (by decide) ?_
  refine j_isub dX4_isFlight_7 ?_
  refine j_topi (y := nI (F - 1)) (pk_sub (by omega)) ?_
  refine j_cS (As := [.int x, .int (nI 0), .int (nI (F - 1))]) (rest := []) cm_X4_isIn ct_X4_isIn ln_X4_41 dX4_isFlight_8 (d' := 0) (by decide) rfl rfl (Nat.le_of_ble_eq_true rfl) (Nat.le_of_ble_eq_true rfl) (s_isIn_f x (nI 0) (nI (F - 1)) (hx.imp id (fun q => pred_lt (by omega) (by omega) q))) ?_
  exact j_zret dX4_isFlight_11 rfl rfl h
set_option maxRecDepth 100000 in
set_option maxHeartbeats 4000000 in
theorem s_isStep_t {g : jG} {n : Nat} {ad : Nat → Nat} {E : Nat → va_E} {th : Int32} {F S : Nat} {hrs su : Int32} {gone : Int64} {lv ed : Nat → Int32} {first cnt : Nat} {ah : Nat → Int32} {mc : Nat} {mk : Nat → Int32} (D : MR g n ad E th F S hrs su gone lv ed first cnt ah mc mk) (j : Nat) (hj : j < S) : Ret g mX4_isStep 1 [.ref (ad 63), .int (nI j)] n ad E (some (.int 1)) E := by
  obtain ⟨m0, m1, m2, m3, m4, ⟨wk, m5⟩, hF, hS, hFp, hSp, hfi, hcn, hmc, hn⟩ := id D
  intro Φ Ψ h
  show J g mX4_isStep 1 0 0 0 [some (.ref (ad 63)), some (.int (nI j))] [] n ad E Φ Ψ
  refine j_iload_n dX4_isStep_0 rfl ?_
  refine j_iconst (v := nI 0) dX4_isStep_1 (by decide) ?_
  refine j_aload_n dX4_isStep_2 rfl ?_
  refine j_get fl_X4_13 dX4_isStep_3 (by omega) m0 rfl ?_
  refine j_iconst (v := nI 1) dX4_isStep_6 (by decide) ?_
  refine j_isub dX4_isStep_7 ?_
  refine j_topi (y := nI (S - 1)) (pk_sub (by omega)) ?_
  refine j_cS (As := [.int (nI j), .int (nI 0), .int (nI (S - 1))]) (rest := []) cm_X4_isIn ct_X4_isIn ln_X4_41 dX4_isStep_8 (d' := 0) (by decide) rfl rfl (Nat.le_of_ble_eq_true rfl) (Nat.le_of_ble_eq_true rfl) (s_isIn_t (nI j) (nI 0) (nI (S - 1)) (nI_nlt' (by omega) (by omega) (by omega)) (nI_nlt' (by omega) (by omega) (by omega))) ?_
  exact j_zret dX4_isStep_11 rfl rfl h
set_option maxRecDepth 100000 in
set_option maxHeartbeats 4000000 in
theorem s_isStep_f {g : jG} {n : Nat} {ad : Nat → Nat} {E : Nat → va_E} {th : Int32} {F S : Nat} {hrs su : Int32} {gone : Int64} {lv ed : Nat → Int32} {first cnt : Nat} {ah : Nat → Int32} {mc : Nat} {mk : Nat → Int32} (D : MR g n ad E th F S hrs su gone lv ed first cnt ah mc mk) (x : Int32) (hx : oob x S) : Ret g mX4_isStep 1 [.ref (ad 63), .int x] n ad E (some (.int 0)) E := by
  obtain ⟨m0, m1, m2, m3, m4, ⟨wk, m5⟩, hF, hS, hFp, hSp, hfi, hcn, hmc, hn⟩ := id D
  intro Φ Ψ h
  show J g mX4_isStep 1 0 0 0 [some (.ref (ad 63)), some (.int x)] [] n ad E Φ Ψ
  refine j_iload_n dX4_isStep_0 rfl ?_
  refine j_iconst (v := nI 0) dX4_isStep_1 (by decide) ?_
  refine j_aload_n dX4_isStep_2 rfl ?_
  refine j_get fl_X4_13 dX4_isStep_3 (by omega) m0 rfl ?_
  refine j_iconst (v := nI 1) dX4_isStep_6 (by decide) ?_
  refine j_isub dX4_isStep_7 ?_
  refine j_topi (y := nI (S - 1)) (pk_sub (by omega)) ?_
  refine j_cS (As := [.int x, .int (nI 0), .int (nI (S - 1))]) (rest := []) cm_X4_isIn ct_X4_isIn ln_X4_41 dX4_isStep_8 (d' := 0) (by decide) rfl rfl (Nat.le_of_ble_eq_true rfl) (Nat.le_of_ble_eq_true rfl) (s_isIn_f x (nI 0) (nI (S - 1)) (hx.imp id (fun q => pred_lt (by omega) (by omega) q))) ?_
  exact j_zret dX4_isStep_11 rfl rfl h
set_option maxRecDepth 100000 in
set_option maxHeartbeats 4000000 in
theorem s_isMark_t {g : jG} {n : Nat} {ad : Nat → Nat} {E : Nat → va_E} {th : Int32} {F S : Nat} {hrs su : Int32} {gone : Int64} {lv ed : Nat → Int32} {first cnt : Nat} {ah : Nat → Int32} {mc : Nat} {mk : Nat → Int32} (D : MR g n ad E th F S hrs su gone lv ed first cnt ah mc mk) (j : Nat) (hj : j < mc) : Ret g mX4_isMark 1 [.ref (ad 63), .int (nI j)] n ad E (some (.int 1)) E := by
  obtain ⟨m0, m1, m2, m3, m4, ⟨wk, m5⟩, hF, hS, hFp, hSp, hfi, hcn, hmc, hn⟩ := id D
  intro Φ Ψ h
  show J g mX4_isMark 1 0 0 0 [some (.ref (ad 63)), some (.int (nI j))] [] n ad E Φ Ψ
  refine j_iload_n dX4_isMark_0 rfl ?_
  refine j_iconst (v := nI 0) dX4_isMark_1 (by decide) ?_
  refine j_aload_n dX4_isMark_2 rfl ?_
  refine j_get fl_X4_45 dX4_isMark_3 (by omega) m0 rfl ?_
  refine j_iconst (v := nI 1) dX4_isMark_6 (by decide) ?_
  refine j_isub dX4_isMark_7 ?_
  refine j_topi (y := nI (mc - 1)) (pk_sub (by omega)) ?_
  refine j_cS (As := [.int (nI j), .int (nI 0), .int (nI (mc - 1))]) (rest := []) cm_X4_isIn ct_X4_isIn ln_X4_41 dX4_isMark_8 (d' := 0) (by decide) rfl rfl (Nat.le_of_ble_eq_true rfl) (Nat.le_of_ble_eq_true rfl) (s_isIn_t (nI j) (nI 0) (nI (mc - 1)) (nI_nlt' (by omega) (by omega) (by omega)) (nI_nlt' (by omega) (by omega) (by omega))) ?_
  exact j_zret dX4_isMark_11 rfl rfl h
theorem pred_lt0 {F : Nat} {x : Int32} (h2 : F < 1000) (hx : nI F ≤ x) : nI F - nI 1 < x := by
  rw [Int32.lt_iff_toInt_lt, pk_sub_toInt (by omega) (by omega)]
  rw [Int32.le_iff_toInt_le] at hx
  have e1 := nI_toInt (n := F) (by omega)
  omega
set_option maxRecDepth 100000 in
set_option maxHeartbeats 4000000 in
theorem s_isMark_f {g : jG} {n : Nat} {ad : Nat → Nat} {E : Nat → va_E} {th : Int32} {F S : Nat} {hrs su : Int32} {gone : Int64} {lv ed : Nat → Int32} {first cnt : Nat} {ah : Nat → Int32} {mc : Nat} {mk : Nat → Int32} (D : MR g n ad E th F S hrs su gone lv ed first cnt ah mc mk) (x : Int32) (hx : oob x mc) : Ret g mX4_isMark 1 [.ref (ad 63), .int x] n ad E (some (.int 0)) E := by
  obtain ⟨m0, m1, m2, m3, m4, ⟨wk, m5⟩, hF, hS, hFp, hSp, hfi, hcn, hmc, hn⟩ := id D
  intro Φ Ψ h
  show J g mX4_isMark 1 0 0 0 [some (.ref (ad 63)), some (.int x)] [] n ad E Φ Ψ
  refine j_iload_n dX4_isMark_0 rfl ?_
  refine j_iconst (v := nI 0) dX4_isMark_1 (by decide) ?_
  refine j_aload_n dX4_isMark_2 rfl ?_
  refine j_get fl_X4_45 dX4_isMark_3 (by omega) m0 rfl ?_
  refine j_iconst (v := nI 1) dX4_isMark_6 (by decide) ?_
  refine j_isub dX4_isMark_7 ?_
  refine j_topi (y := nI mc - nI 1) rfl ?_
  refine j_cS (As := [.int x, .int (nI 0), .int (nI mc - nI 1)]) (rest := []) cm_X4_isIn ct_X4_isIn ln_X4_41 dX4_isMark_8 (d' := 0) (by decide) rfl rfl (Nat.le_of_ble_eq_true rfl) (Nat.le_of_ble_eq_true rfl) (s_isIn_f x (nI 0) (nI mc - nI 1) (hx.imp id (fun q => pred_lt0 (by omega) q))) ?_
  exact j_zret dX4_isMark_11 rfl rfl h
set_option maxRecDepth 100000 in
set_option maxHeartbeats 4000000 in
theorem s_X4_all {g : jG} {n : Nat} {ad : Nat → Nat} {E : Nat → va_E} {th : Int32} {F S : Nat} {hrs su : Int32} {gone : Int64} {lv ed : Nat → Int32} {first cnt : Nat} {ah : Nat → Int32} {mc : Nat} {mk : Nat → Int32} (D : MR g n ad E th F S hrs su gone lv ed first cnt ah mc mk) : Ret g mX4_all 0 [.ref (ad 63)] n ad E (some (.int (nI (F * S)))) E := by
  obtain ⟨m0, m1, m2, m3, m4, ⟨wk, m5⟩, hF, hS, hFp, hSp, hfi, hcn, hmc, hn⟩ := id D
  intro Φ Ψ h
  show J g mX4_all 0 0 0 0 [some (.ref (ad 63))] [] n ad E Φ Ψ
  refine j_aload_n dX4_all_0 rfl ?_
  refine j_get fl_X4_9 dX4_all_1 (by omega) m0 rfl ?_
  refine j_aload_n dX4_all_4 rfl ?_
  refine j_get fl_X4_13 dX4_all_5 (by omega) m0 rfl ?_
  refine j_imul dX4_all_8 ?_
  refine j_topi (y := nI (F * S)) (pk_mul _ _) ?_
  exact j_iret dX4_all_9 rfl h
set_option maxRecDepth 100000 in
set_option maxHeartbeats 4000000 in
theorem s_X4_at {g : jG} {n : Nat} {ad : Nat → Nat} {E : Nat → va_E} {th : Int32} {F S : Nat} {hrs su : Int32} {gone : Int64} {lv ed : Nat → Int32} {first cnt : Nat} {ah : Nat → Int32} {mc : Nat} {mk : Nat → Int32} (D : MR g n ad E th F S hrs su gone lv ed first cnt ah mc mk) (a b : Nat) (hb : a * S + b < 128) : Ret g mX4_at 0 [.ref (ad 63), .int (nI a), .int (nI b)] n ad E (some (.int (lv (a * S + b)))) E := by
  obtain ⟨m0, m1, m2, m3, m4, ⟨wk, m5⟩, hF, hS, hFp, hSp, hfi, hcn, hmc, hn⟩ := id D
  intro Φ Ψ h
  show J g mX4_at 0 0 0 0 [some (.ref (ad 63)), some (.int (nI a)), some (.int (nI b))] [] n ad E Φ Ψ
  refine j_aload_n dX4_at_0 rfl ?_
  refine j_get fl_X4_23 dX4_at_1 (by omega) m0 rfl ?_
  refine j_iload_n dX4_at_4 rfl ?_
  refine j_aload_n dX4_at_5 rfl ?_
  refine j_get fl_X4_13 dX4_at_6 (by omega) m0 rfl ?_
  refine j_imul dX4_at_9 ?_
  refine j_topi (y := nI (a * S)) (pk_mul _ _) ?_
  refine j_iload_n dX4_at_10 rfl ?_
  refine j_iadd dX4_at_11 ?_
  refine j_topi (y := nI ((a * S) + b)) (nI_add _ _) ?_
  refine j_iald dX4_at_12 (by omega) m2 (by decide) (by omega) rfl ?_
  exact j_iret dX4_at_13 rfl h
set_option maxRecDepth 100000 in
set_option maxHeartbeats 4000000 in
theorem s_part_ok {g : jG} {n : Nat} {ad : Nat → Nat} {E : Nat → va_E} {th : Int32} {F S : Nat} {hrs su : Int32} {gone : Int64} {lv ed : Nat → Int32} {first cnt : Nat} {ah : Nat → Int32} {mc : Nat} {mk : Nat → Int32} (D : MR g n ad E th F S hrs su gone lv ed first cnt ah mc mk) (fa sa fb sb : Nat) (hfa : fa < F) (hsa : sa < S) (hfb : fb < F) (hsb : sb < S) (h1 : fa ≤ fb) (h2 : sa ≤ sb) : Ret g mX4_part 2 [.ref (ad 63), .int (nI fa), .int (nI sa), .int (nI fb), .int (nI sb)] n ad E (some (.int 0)) E := by
  obtain ⟨m0, m1, m2, m3, m4, ⟨wk, m5⟩, hF, hS, hFp, hSp, hfi, hcn, hmc, hn⟩ := id D
  intro Φ Ψ h
  show J g mX4_part 2 0 0 0 [some (.ref (ad 63)), some (.int (nI fa)), some (.int (nI sa)), some (.int (nI fb)), some (.int (nI sb))] [] n ad E Φ Ψ
  refine j_aload_n dX4_part_0 rfl ?_
  refine j_iload_n dX4_part_1 rfl ?_
  refine j_cV (As := [.int (nI fa)]) (rest := []) cm_X4_isFlight ci_X4_isFlight cs_X4_isFlight rfl ln_X4_48 (ci := 4) rfl dX4_part_2 (d' := 1) (by decide) (by omega) m0 rfl rfl (Nat.le_of_ble_eq_true rfl) (Nat.le_of_ble_eq_true rfl) (s_isFlight_t D fa hfa) ?_
  refine j_if_eq_f (tgt := 33) dX4_part_5 (by decide) (by decide) ?_
  refine j_aload_n dX4_part_8 rfl ?_
  refine j_iload_n dX4_part_9 rfl ?_
  refine j_cV (As := [.int (nI fb)]) (rest := []) cm_X4_isFlight ci_X4_isFlight cs_X4_isFlight rfl ln_X4_48 (ci := 4) rfl dX4_part_10 (d' := 1) (by decide) (by omega) m0 rfl rfl (Nat.le_of_ble_eq_true rfl) (Nat.le_of_ble_eq_true rfl) (s_isFlight_t D fb hfb) ?_
  refine j_if_eq_f (tgt := 33) dX4_part_13 (by decide) (by decide) ?_
  refine j_aload_n dX4_part_16 rfl ?_
  refine j_iload_n dX4_part_17 rfl ?_
  refine j_cV (As := [.int (nI sa)]) (rest := []) cm_X4_isStep ci_X4_isStep cs_X4_isStep rfl ln_X4_52 (ci := 4) rfl dX4_part_18 (d' := 1) (by decide) (by omega) m0 rfl rfl (Nat.le_of_ble_eq_true rfl) (Nat.le_of_ble_eq_true rfl) (s_isStep_t D sa hsa) ?_
  refine j_if_eq_f (tgt := 33) dX4_part_21 (by decide) (by decide) ?_
  refine j_aload_n dX4_part_24 rfl ?_
  refine j_iload dX4_part_25 rfl ?_
  refine j_cV (As := [.int (nI sb)]) (rest := []) cm_X4_isStep ci_X4_isStep cs_X4_isStep rfl ln_X4_52 (ci := 4) rfl dX4_part_27 (d' := 1) (by decide) (by omega) m0 rfl rfl (Nat.le_of_ble_eq_true rfl) (Nat.le_of_ble_eq_true rfl) (s_isStep_t D sb hsb) ?_
  refine j_if_ne_t (tgt := 35) dX4_part_30 (by decide) (by decide) ?_
  refine j_iload_n dX4_part_35 rfl ?_
  refine j_iload_n dX4_part_36 rfl ?_
  refine j_icmp_gt_f (tgt := 46) dX4_part_37 (by decide) (nI_nlt' (by omega) (by omega) (by omega)) ?_
  refine j_iload_n dX4_part_40 rfl ?_
  refine j_iload dX4_part_41 rfl ?_
  refine j_icmp_le_t (tgt := 50) dX4_part_43 (by decide) (nI_le' (by omega) (by omega) (by omega)) ?_
  refine j_iconst (v := 0) dX4_part_50 (by decide) ?_
  exact j_iret dX4_part_51 rfl h
set_option maxRecDepth 100000 in
set_option maxHeartbeats 4000000 in
theorem s_part_iae {g : jG} {n : Nat} {ad : Nat → Nat} {E : Nat → va_E} {th : Int32} {F S : Nat} {hrs su : Int32} {gone : Int64} {lv ed : Nat → Int32} {first cnt : Nat} {ah : Nat → Int32} {mc : Nat} {mk : Nat → Int32} (D : MR g n ad E th F S hrs su gone lv ed first cnt ah mc mk) (fa sa fb sb : Nat) (hfa : fa < F) (hsa : sa < S) (hfb : fb < F) (hsb : sb < S) (hx : fb < fa ∨ sb < sa) : Ret g mX4_part 2 [.ref (ad 63), .int (nI fa), .int (nI sa), .int (nI fb), .int (nI sb)] n ad E (some (.int 2)) E := by
  obtain ⟨m0, m1, m2, m3, m4, ⟨wk, m5⟩, hF, hS, hFp, hSp, hfi, hcn, hmc, hn⟩ := id D
  intro Φ Ψ h
  show J g mX4_part 2 0 0 0 [some (.ref (ad 63)), some (.int (nI fa)), some (.int (nI sa)), some (.int (nI fb)), some (.int (nI sb))] [] n ad E Φ Ψ
  by_cases q : fb < fa
  · skip
    refine j_aload_n dX4_part_0 rfl ?_
    refine j_iload_n dX4_part_1 rfl ?_
    refine j_cV (As := [.int (nI fa)]) (rest := []) cm_X4_isFlight ci_X4_isFlight cs_X4_isFlight rfl ln_X4_48 (ci := 4) rfl dX4_part_2 (d' := 1) (by decide) (by omega) m0 rfl rfl (Nat.le_of_ble_eq_true rfl) (Nat.le_of_ble_eq_true rfl) (s_isFlight_t D fa hfa) ?_
    refine j_if_eq_f (tgt := 33) dX4_part_5 (by decide) (by decide) ?_
    refine j_aload_n dX4_part_8 rfl ?_
    refine j_iload_n dX4_part_9 rfl ?_
    refine j_cV (As := [.int (nI fb)]) (rest := []) cm_X4_isFlight ci_X4_isFlight cs_X4_isFlight rfl ln_X4_48 (ci := 4) rfl dX4_part_10 (d' := 1) (by decide) (by omega) m0 rfl rfl (Nat.le_of_ble_eq_true rfl) (Nat.le_of_ble_eq_true rfl) (s_isFlight_t D fb hfb) ?_
    refine j_if_eq_f (tgt := 33) dX4_part_13 (by decide) (by decide) ?_
    refine j_aload_n dX4_part_16 rfl ?_
    refine j_iload_n dX4_part_17 rfl ?_
    refine j_cV (As := [.int (nI sa)]) (rest := []) cm_X4_isStep ci_X4_isStep cs_X4_isStep rfl ln_X4_52 (ci := 4) rfl dX4_part_18 (d' := 1) (by decide) (by omega) m0 rfl rfl (Nat.le_of_ble_eq_true rfl) (Nat.le_of_ble_eq_true rfl) (s_isStep_t D sa hsa) ?_
    refine j_if_eq_f (tgt := 33) dX4_part_21 (by decide) (by decide) ?_
    refine j_aload_n dX4_part_24 rfl ?_
    refine j_iload dX4_part_25 rfl ?_
    refine j_cV (As := [.int (nI sb)]) (rest := []) cm_X4_isStep ci_X4_isStep cs_X4_isStep rfl ln_X4_52 (ci := 4) rfl dX4_part_27 (d' := 1) (by decide) (by omega) m0 rfl rfl (Nat.le_of_ble_eq_true rfl) (Nat.le_of_ble_eq_true rfl) (s_isStep_t D sb hsb) ?_
    refine j_if_ne_t (tgt := 35) dX4_part_30 (by decide) (by decide) ?_
    refine j_iload_n dX4_part_35 rfl ?_
    refine j_iload_n dX4_part_36 rfl ?_
    refine j_icmp_gt_t (tgt := 46) dX4_part_37 (by decide) (nI_lt' (by omega) (by omega) (by omega)) ?_
    refine j_iconst (v := 2) dX4_part_46 (by decide) ?_
    refine j_goto (tgt := 51) dX4_part_47 (by decide) ?_
    exact j_iret dX4_part_51 rfl h
  · skip
    refine j_aload_n dX4_part_0 rfl ?_
    refine j_iload_n dX4_part_1 rfl ?_
    refine j_cV (As := [.int (nI fa)]) (rest := []) cm_X4_isFlight ci_X4_isFlight cs_X4_isFlight rfl ln_X4_48 (ci := 4) rfl dX4_part_2 (d' := 1) (by decide) (by omega) m0 rfl rfl (Nat.le_of_ble_eq_true rfl) (Nat.le_of_ble_eq_true rfl) (s_isFlight_t D fa hfa) ?_
    refine j_if_eq_f (tgt := 33) dX4_part_5 (by decide) (by decide) ?_
    refine j_aload_n dX4_part_8 rfl ?_
    refine j_iload_n dX4_part_9 rfl ?_
    refine j_cV (As := [.int (nI fb)]) (rest := []) cm_X4_isFlight ci_X4_isFlight cs_X4_isFlight rfl ln_X4_48 (ci := 4) rfl dX4_part_10 (d' := 1) (by decide) (by omega) m0 rfl rfl (Nat.le_of_ble_eq_true rfl) (Nat.le_of_ble_eq_true rfl) (s_isFlight_t D fb hfb) ?_
    refine j_if_eq_f (tgt := 33) dX4_part_13 (by decide) (by decide) ?_
    refine j_aload_n dX4_part_16 rfl ?_
    refine j_iload_n dX4_part_17 rfl ?_
    refine j_cV (As := [.int (nI sa)]) (rest := []) cm_X4_isStep ci_X4_isStep cs_X4_isStep rfl ln_X4_52 (ci := 4) rfl dX4_part_18 (d' := 1) (by decide) (by omega) m0 rfl rfl (Nat.le_of_ble_eq_true rfl) (Nat.le_of_ble_eq_true rfl) (s_isStep_t D sa hsa) ?_
    refine j_if_eq_f (tgt := 33) dX4_part_21 (by decide) (by decide) ?_
    refine j_aload_n dX4_part_24 rfl ?_
    refine j_iload dX4_part_25 rfl ?_
    refine j_cV (As := [.int (nI sb)]) (rest := []) cm_X4_isStep ci_X4_isStep cs_X4_isStep rfl ln_X4_52 (ci := 4) rfl dX4_part_27 (d' := 1) (by decide) (by omega) m0 rfl rfl (Nat.le_of_ble_eq_true rfl) (Nat.le_of_ble_eq_true rfl) (s_isStep_t D sb hsb) ?_
    refine j_if_ne_t (tgt := 35) dX4_part_30 (by decide) (by decide) ?_
    refine j_iload_n dX4_part_35 rfl ?_
    refine j_iload_n dX4_part_36 rfl ?_
    refine j_icmp_gt_f (tgt := 46) dX4_part_37 (by decide) (nI_nlt' (by omega) (by omega) (by omega)) ?_
    refine j_iload_n dX4_part_40 rfl ?_
    refine j_iload dX4_part_41 rfl ?_
    refine j_icmp_le_f (tgt := 50) dX4_part_43 (by decide) (nI_nle' (by omega) (by omega) (by omega)) ?_
    refine j_iconst (v := 2) dX4_part_46 (by decide) ?_
    refine j_goto (tgt := 51) dX4_part_47 (by decide) ?_
    exact j_iret dX4_part_51 rfl h
set_option maxRecDepth 100000 in
set_option maxHeartbeats 4000000 in
theorem s_part_bad {g : jG} {n : Nat} {ad : Nat → Nat} {E : Nat → va_E} {th : Int32} {F S : Nat} {hrs su : Int32} {gone : Int64} {lv ed : Nat → Int32} {first cnt : Nat} {ah : Nat → Int32} {mc : Nat} {mk : Nat → Int32} (D : MR g n ad E th F S hrs su gone lv ed first cnt ah mc mk) (x1 x2 x3 x4 : Int32) (hx : oob x1 F ∨ oob x2 S ∨ oob x3 F ∨ oob x4 S) : Ret g mX4_part 2 [.ref (ad 63), .int x1, .int x2, .int x3, .int x4] n ad E (some (.int 1)) E := by
  obtain ⟨m0, m1, m2, m3, m4, ⟨wk, m5⟩, hF, hS, hFp, hSp, hfi, hcn, hmc, hn⟩ := id D
  intro Φ Ψ h
  show J g mX4_part 2 0 0 0 [some (.ref (ad 63)), some (.int x1), some (.int x2), some (.int x3), some (.int x4)] [] n ad E Φ Ψ
  rcases oob_or x1 (show F < 2 ^ 31 by omega) with r0 | ⟨a1, ha1, rfl⟩
  · skip
    refine j_aload_n dX4_part_0 rfl ?_
    refine j_iload_n dX4_part_1 rfl ?_
    refine j_cV (As := [.int x1]) (rest := []) cm_X4_isFlight ci_X4_isFlight cs_X4_isFlight rfl ln_X4_48 (ci := 4) rfl dX4_part_2 (d' := 1) (by decide) (by omega) m0 rfl rfl (Nat.le_of_ble_eq_true rfl) (Nat.le_of_ble_eq_true rfl) (s_isFlight_f D x1 r0) ?_
    refine j_if_eq_t (tgt := 33) dX4_part_5 (by decide) (by decide) ?_
    refine j_iconst (v := 1) dX4_part_33 (by decide) ?_
    exact j_iret dX4_part_34 rfl h
  · skip
    rcases oob_or x3 (show F < 2 ^ 31 by omega) with r1 | ⟨a3, ha3, rfl⟩
    · skip
      refine j_aload_n dX4_part_0 rfl ?_
      refine j_iload_n dX4_part_1 rfl ?_
      refine j_cV (As := [.int (nI a1)]) (rest := []) cm_X4_isFlight ci_X4_isFlight cs_X4_isFlight rfl ln_X4_48 (ci := 4) rfl dX4_part_2 (d' := 1) (by decide) (by omega) m0 rfl rfl (Nat.le_of_ble_eq_true rfl) (Nat.le_of_ble_eq_true rfl) (s_isFlight_t D a1 ha1) ?_
      refine j_if_eq_f (tgt := 33) dX4_part_5 (by decide) (by decide) ?_
      refine j_aload_n dX4_part_8 rfl ?_
      refine j_iload_n dX4_part_9 rfl ?_
      refine j_cV (As := [.int x3]) (rest := []) cm_X4_isFlight ci_X4_isFlight cs_X4_isFlight rfl ln_X4_48 (ci := 4) rfl dX4_part_10 (d' := 1) (by decide) (by omega) m0 rfl rfl (Nat.le_of_ble_eq_true rfl) (Nat.le_of_ble_eq_true rfl) (s_isFlight_f D x3 r1) ?_
      refine j_if_eq_t (tgt := 33) dX4_part_13 (by decide) (by decide) ?_
      refine j_iconst (v := 1) dX4_part_33 (by decide) ?_
      exact j_iret dX4_part_34 rfl h
    · skip
      rcases oob_or x2 (show S < 2 ^ 31 by omega) with r2 | ⟨a2, ha2, rfl⟩
      · skip
        refine j_aload_n dX4_part_0 rfl ?_
        refine j_iload_n dX4_part_1 rfl ?_
        refine j_cV (As := [.int (nI a1)]) (rest := []) cm_X4_isFlight ci_X4_isFlight cs_X4_isFlight rfl ln_X4_48 (ci := 4) rfl dX4_part_2 (d' := 1) (by decide) (by omega) m0 rfl rfl (Nat.le_of_ble_eq_true rfl) (Nat.le_of_ble_eq_true rfl) (s_isFlight_t D a1 ha1) ?_
        refine j_if_eq_f (tgt := 33) dX4_part_5 (by decide) (by decide) ?_
        refine j_aload_n dX4_part_8 rfl ?_
        refine j_iload_n dX4_part_9 rfl ?_
        refine j_cV (As := [.int (nI a3)]) (rest := []) cm_X4_isFlight ci_X4_isFlight cs_X4_isFlight rfl ln_X4_48 (ci := 4) rfl dX4_part_10 (d' := 1) (by decide) (by omega) m0 rfl rfl (Nat.le_of_ble_eq_true rfl) (Nat.le_of_ble_eq_true rfl) (s_isFlight_t D a3 ha3) ?_
        refine j_if_eq_f (tgt := 33) dX4_part_13 (by decide) (by decide) ?_
        refine j_aload_n dX4_part_16 rfl ?_
        refine j_iload_n dX4_part_17 rfl ?_
        refine j_cV (As := [.int x2]) (rest := []) cm_X4_isStep ci_X4_isStep cs_X4_isStep rfl ln_X4_52 (ci := 4) rfl dX4_part_18 (d' := 1) (by decide) (by omega) m0 rfl rfl (Nat.le_of_ble_eq_true rfl) (Nat.le_of_ble_eq_true rfl) (s_isStep_f D x2 r2) ?_
        refine j_if_eq_t (tgt := 33) dX4_part_21 (by decide) (by decide) ?_
        refine j_iconst (v := 1) dX4_part_33 (by decide) ?_
        exact j_iret dX4_part_34 rfl h
      · skip
        have hy : oob x4 S := ((hx.resolve_left (not_oob ha1 (by omega))).resolve_left (not_oob ha2 (by omega))).resolve_left (not_oob ha3 (by omega))
        refine j_aload_n dX4_part_0 rfl ?_
        refine j_iload_n dX4_part_1 rfl ?_
        refine j_cV (As := [.int (nI a1)]) (rest := []) cm_X4_isFlight ci_X4_isFlight cs_X4_isFlight rfl ln_X4_48 (ci := 4) rfl dX4_part_2 (d' := 1) (by decide) (by omega) m0 rfl rfl (Nat.le_of_ble_eq_true rfl) (Nat.le_of_ble_eq_true rfl) (s_isFlight_t D a1 ha1) ?_
        refine j_if_eq_f (tgt := 33) dX4_part_5 (by decide) (by decide) ?_
        refine j_aload_n dX4_part_8 rfl ?_
        refine j_iload_n dX4_part_9 rfl ?_
        refine j_cV (As := [.int (nI a3)]) (rest := []) cm_X4_isFlight ci_X4_isFlight cs_X4_isFlight rfl ln_X4_48 (ci := 4) rfl dX4_part_10 (d' := 1) (by decide) (by omega) m0 rfl rfl (Nat.le_of_ble_eq_true rfl) (Nat.le_of_ble_eq_true rfl) (s_isFlight_t D a3 ha3) ?_
        refine j_if_eq_f (tgt := 33) dX4_part_13 (by decide) (by decide) ?_
        refine j_aload_n dX4_part_16 rfl ?_
        refine j_iload_n dX4_part_17 rfl ?_
        refine j_cV (As := [.int (nI a2)]) (rest := []) cm_X4_isStep ci_X4_isStep cs_X4_isStep rfl ln_X4_52 (ci := 4) rfl dX4_part_18 (d' := 1) (by decide) (by omega) m0 rfl rfl (Nat.le_of_ble_eq_true rfl) (Nat.le_of_ble_eq_true rfl) (s_isStep_t D a2 ha2) ?_
        refine j_if_eq_f (tgt := 33) dX4_part_21 (by decide) (by decide) ?_
        refine j_aload_n dX4_part_24 rfl ?_
        refine j_iload dX4_part_25 rfl ?_
        refine j_cV (As := [.int x4]) (rest := []) cm_X4_isStep ci_X4_isStep cs_X4_isStep rfl ln_X4_52 (ci := 4) rfl dX4_part_27 (d' := 1) (by decide) (by omega) m0 rfl rfl (Nat.le_of_ble_eq_true rfl) (Nat.le_of_ble_eq_true rfl) (s_isStep_f D x4 hy) ?_
        refine j_if_ne_f (tgt := 35) dX4_part_30 (by decide) (by decide) ?_
        refine j_iconst (v := 1) dX4_part_33 (by decide) ?_
        exact j_iret dX4_part_34 rfl h
set_option maxRecDepth 100000 in
set_option maxHeartbeats 4000000 in
theorem s_X4_flights {g : jG} {n : Nat} {ad : Nat → Nat} {E : Nat → va_E} {th : Int32} {F S : Nat} {hrs su : Int32} {gone : Int64} {lv ed : Nat → Int32} {first cnt : Nat} {ah : Nat → Int32} {mc : Nat} {mk : Nat → Int32} (D : MR g n ad E th F S hrs su gone lv ed first cnt ah mc mk) : RetP g mX4_flights 1 [.ref (ad 63)] n ad E (some (.int (nI F))) (fun E9 => MR g n ad E9 0 F S hrs su gone lv ed first cnt ah mc mk ∧ ∀ k, (k < 63 ∨ 69 ≤ k) → E9 k = E k) := by
  obtain ⟨m0, m1, m2, m3, m4, ⟨wk, m5⟩, hF, hS, hFp, hSp, hfi, hcn, hmc, hn⟩ := id D
  intro Φ Ψ h
  show J g mX4_flights 1 0 0 0 [some (.ref (ad 63))] [] n ad E Φ Ψ
  refine j_aload_n dX4_flights_0 rfl ?_
  refine j_aload_n dX4_flights_1 rfl ?_
  refine j_get fl_X4_9 dX4_flights_2 (by omega) m0 rfl ?_
  refine j_cV (As := [.int (nI F)]) (rest := []) cm_X4_ok ci_X4_ok cs_X4_ok rfl ln_X4_114 (ci := 4) rfl dX4_flights_5 (d' := 0) (by decide) (by omega) m0 rfl rfl (Nat.le_of_ble_eq_true rfl) (Nat.le_of_ble_eq_true rfl) (s_X4_ok D (nI F)) ?_
  exact j_iret dX4_flights_8 rfl (h _ ⟨(MR.setO D ⟨by omega, by omega, by omega, by omega, by omega, by omega, by omega⟩), (fun k hk => ((up_ne (by omega)).trans rfl))⟩)
set_option maxRecDepth 100000 in
set_option maxHeartbeats 4000000 in
theorem s_X4_steps {g : jG} {n : Nat} {ad : Nat → Nat} {E : Nat → va_E} {th : Int32} {F S : Nat} {hrs su : Int32} {gone : Int64} {lv ed : Nat → Int32} {first cnt : Nat} {ah : Nat → Int32} {mc : Nat} {mk : Nat → Int32} (D : MR g n ad E th F S hrs su gone lv ed first cnt ah mc mk) : RetP g mX4_steps 1 [.ref (ad 63)] n ad E (some (.int (nI S))) (fun E9 => MR g n ad E9 0 F S hrs su gone lv ed first cnt ah mc mk ∧ ∀ k, (k < 63 ∨ 69 ≤ k) → E9 k = E k) := by
  obtain ⟨m0, m1, m2, m3, m4, ⟨wk, m5⟩, hF, hS, hFp, hSp, hfi, hcn, hmc, hn⟩ := id D
  intro Φ Ψ h
  show J g mX4_steps 1 0 0 0 [some (.ref (ad 63))] [] n ad E Φ Ψ
  refine j_aload_n dX4_steps_0 rfl ?_
  refine j_aload_n dX4_steps_1 rfl ?_
  refine j_get fl_X4_13 dX4_steps_2 (by omega) m0 rfl ?_
  refine j_cV (As := [.int (nI S)]) (rest := []) cm_X4_ok ci_X4_ok cs_X4_ok rfl ln_X4_114 (ci := 4) rfl dX4_steps_5 (d' := 0) (by decide) (by omega) m0 rfl rfl (Nat.le_of_ble_eq_true rfl) (Nat.le_of_ble_eq_true rfl) (s_X4_ok D (nI S)) ?_
  exact j_iret dX4_steps_8 rfl (h _ ⟨(MR.setO D ⟨by omega, by omega, by omega, by omega, by omega, by omega, by omega⟩), (fun k hk => ((up_ne (by omega)).trans rfl))⟩)
set_option maxRecDepth 100000 in
set_option maxHeartbeats 4000000 in
theorem s_X4_hours {g : jG} {n : Nat} {ad : Nat → Nat} {E : Nat → va_E} {th : Int32} {F S : Nat} {hrs su : Int32} {gone : Int64} {lv ed : Nat → Int32} {first cnt : Nat} {ah : Nat → Int32} {mc : Nat} {mk : Nat → Int32} (D : MR g n ad E th F S hrs su gone lv ed first cnt ah mc mk) : RetP g mX4_hours 1 [.ref (ad 63)] n ad E (some (.int hrs)) (fun E9 => MR g n ad E9 0 F S hrs su gone lv ed first cnt ah mc mk ∧ ∀ k, (k < 63 ∨ 69 ≤ k) → E9 k = E k) := by
  obtain ⟨m0, m1, m2, m3, m4, ⟨wk, m5⟩, hF, hS, hFp, hSp, hfi, hcn, hmc, hn⟩ := id D
  intro Φ Ψ h
  show J g mX4_hours 1 0 0 0 [some (.ref (ad 63))] [] n ad E Φ Ψ
  refine j_aload_n dX4_hours_0 rfl ?_
  refine j_aload_n dX4_hours_1 rfl ?_
  refine j_get fl_X4_101 dX4_hours_2 (by omega) m0 rfl ?_
  refine j_cV (As := [.int hrs]) (rest := []) cm_X4_ok ci_X4_ok cs_X4_ok rfl ln_X4_114 (ci := 4) rfl dX4_hours_5 (d' := 0) (by decide) (by omega) m0 rfl rfl (Nat.le_of_ble_eq_true rfl) (Nat.le_of_ble_eq_true rfl) (s_X4_ok D hrs) ?_
  exact j_iret dX4_hours_8 rfl (h _ ⟨(MR.setO D ⟨by omega, by omega, by omega, by omega, by omega, by omega, by omega⟩), (fun k hk => ((up_ne (by omega)).trans rfl))⟩)
set_option maxRecDepth 100000 in
set_option maxHeartbeats 4000000 in
theorem s_X4_sun {g : jG} {n : Nat} {ad : Nat → Nat} {E : Nat → va_E} {th : Int32} {F S : Nat} {hrs su : Int32} {gone : Int64} {lv ed : Nat → Int32} {first cnt : Nat} {ah : Nat → Int32} {mc : Nat} {mk : Nat → Int32} (D : MR g n ad E th F S hrs su gone lv ed first cnt ah mc mk) : RetP g mX4_sun 1 [.ref (ad 63)] n ad E (some (.int su)) (fun E9 => MR g n ad E9 0 F S hrs su gone lv ed first cnt ah mc mk ∧ ∀ k, (k < 63 ∨ 69 ≤ k) → E9 k = E k) := by
  obtain ⟨m0, m1, m2, m3, m4, ⟨wk, m5⟩, hF, hS, hFp, hSp, hfi, hcn, hmc, hn⟩ := id D
  intro Φ Ψ h
  show J g mX4_sun 1 0 0 0 [some (.ref (ad 63))] [] n ad E Φ Ψ
  refine j_aload_n dX4_sun_0 rfl ?_
  refine j_aload_n dX4_sun_1 rfl ?_
  refine j_get fl_X4_16 dX4_sun_2 (by omega) m0 rfl ?_
  refine j_cV (As := [.int su]) (rest := []) cm_X4_ok ci_X4_ok cs_X4_ok rfl ln_X4_114 (ci := 4) rfl dX4_sun_5 (d' := 0) (by decide) (by omega) m0 rfl rfl (Nat.le_of_ble_eq_true rfl) (Nat.le_of_ble_eq_true rfl) (s_X4_ok D su) ?_
  exact j_iret dX4_sun_8 rfl (h _ ⟨(MR.setO D ⟨by omega, by omega, by omega, by omega, by omega, by omega, by omega⟩), (fun k hk => ((up_ne (by omega)).trans rfl))⟩)
set_option maxRecDepth 100000 in
set_option maxHeartbeats 4000000 in
theorem s_X4_marks {g : jG} {n : Nat} {ad : Nat → Nat} {E : Nat → va_E} {th : Int32} {F S : Nat} {hrs su : Int32} {gone : Int64} {lv ed : Nat → Int32} {first cnt : Nat} {ah : Nat → Int32} {mc : Nat} {mk : Nat → Int32} (D : MR g n ad E th F S hrs su gone lv ed first cnt ah mc mk) : RetP g mX4_marks 1 [.ref (ad 63)] n ad E (some (.int (nI mc))) (fun E9 => MR g n ad E9 0 F S hrs su gone lv ed first cnt ah mc mk ∧ ∀ k, (k < 63 ∨ 69 ≤ k) → E9 k = E k) := by
  obtain ⟨m0, m1, m2, m3, m4, ⟨wk, m5⟩, hF, hS, hFp, hSp, hfi, hcn, hmc, hn⟩ := id D
  intro Φ Ψ h
  show J g mX4_marks 1 0 0 0 [some (.ref (ad 63))] [] n ad E Φ Ψ
  refine j_aload_n dX4_marks_0 rfl ?_
  refine j_aload_n dX4_marks_1 rfl ?_
  refine j_get fl_X4_45 dX4_marks_2 (by omega) m0 rfl ?_
  refine j_cV (As := [.int (nI mc)]) (rest := []) cm_X4_ok ci_X4_ok cs_X4_ok rfl ln_X4_114 (ci := 4) rfl dX4_marks_5 (d' := 0) (by decide) (by omega) m0 rfl rfl (Nat.le_of_ble_eq_true rfl) (Nat.le_of_ble_eq_true rfl) (s_X4_ok D (nI mc)) ?_
  exact j_iret dX4_marks_8 rfl (h _ ⟨(MR.setO D ⟨by omega, by omega, by omega, by omega, by omega, by omega, by omega⟩), (fun k hk => ((up_ne (by omega)).trans rfl))⟩)
set_option maxRecDepth 100000 in
set_option maxHeartbeats 4000000 in
theorem s_X4_deeds {g : jG} {n : Nat} {ad : Nat → Nat} {E : Nat → va_E} {th : Int32} {F S : Nat} {hrs su : Int32} {gone : Int64} {lv ed : Nat → Int32} {first cnt : Nat} {ah : Nat → Int32} {mc : Nat} {mk : Nat → Int32} (D : MR g n ad E th F S hrs su gone lv ed first cnt ah mc mk) : RetP g mX4_deeds 1 [.ref (ad 63)] n ad E (some (.int (nI cnt))) (fun E9 => MR g n ad E9 0 F S hrs su gone lv ed first cnt ah mc mk ∧ ∀ k, (k < 63 ∨ 69 ≤ k) → E9 k = E k) := by
  obtain ⟨m0, m1, m2, m3, m4, ⟨wk, m5⟩, hF, hS, hFp, hSp, hfi, hcn, hmc, hn⟩ := id D
  intro Φ Ψ h
  show J g mX4_deeds 1 0 0 0 [some (.ref (ad 63))] [] n ad E Φ Ψ
  refine j_aload_n dX4_deeds_0 rfl ?_
  refine j_aload_n dX4_deeds_1 rfl ?_
  refine j_get fl_X4_55 dX4_deeds_2 (by omega) m0 rfl ?_
  refine j_cV (As := [.int (nI cnt)]) (rest := []) cm_X4_ok ci_X4_ok cs_X4_ok rfl ln_X4_114 (ci := 4) rfl dX4_deeds_5 (d' := 0) (by decide) (by omega) m0 rfl rfl (Nat.le_of_ble_eq_true rfl) (Nat.le_of_ble_eq_true rfl) (s_X4_ok D (nI cnt)) ?_
  exact j_iret dX4_deeds_8 rfl (h _ ⟨(MR.setO D ⟨by omega, by omega, by omega, by omega, by omega, by omega, by omega⟩), (fun k hk => ((up_ne (by omega)).trans rfl))⟩)
set_option maxRecDepth 100000 in
set_option maxHeartbeats 4000000 in
theorem s_X4_gone {g : jG} {n : Nat} {ad : Nat → Nat} {E : Nat → va_E} {th : Int32} {F S : Nat} {hrs su : Int32} {gone : Int64} {lv ed : Nat → Int32} {first cnt : Nat} {ah : Nat → Int32} {mc : Nat} {mk : Nat → Int32} (D : MR g n ad E th F S hrs su gone lv ed first cnt ah mc mk) : RetP g mX4_gone 1 [.ref (ad 63)] n ad E (some (.long gone)) (fun E9 => MR g n ad E9 0 F S hrs su gone lv ed first cnt ah mc mk ∧ ∀ k, (k < 63 ∨ 69 ≤ k) → E9 k = E k) := by
  obtain ⟨m0, m1, m2, m3, m4, ⟨wk, m5⟩, hF, hS, hFp, hSp, hfi, hcn, hmc, hn⟩ := id D
  intro Φ Ψ h
  show J g mX4_gone 1 0 0 0 [some (.ref (ad 63))] [] n ad E Φ Ψ
  refine j_aload_n dX4_gone_0 rfl ?_
  refine j_aload_n dX4_gone_1 rfl ?_
  refine j_get fl_X4_104 dX4_gone_2 (by omega) m0 rfl ?_
  refine j_cV (As := [.long gone]) (rest := []) cm_X4_okay ci_X4_okay cs_X4_okay rfl ln_X4_117 (ci := 4) rfl dX4_gone_5 (d' := 0) (by decide) (by omega) m0 rfl rfl (Nat.le_of_ble_eq_true rfl) (Nat.le_of_ble_eq_true rfl) (s_X4_okay D gone) ?_
  exact j_lret dX4_gone_8 rfl (h _ ⟨(MR.setO D ⟨by omega, by omega, by omega, by omega, by omega, by omega, by omega⟩), (fun k hk => ((up_ne (by omega)).trans rfl))⟩)
set_option maxRecDepth 100000 in
set_option maxHeartbeats 4000000 in
theorem s_X4_edgeOf_ok {g : jG} {n : Nat} {ad : Nat → Nat} {E : Nat → va_E} {th : Int32} {F S : Nat} {hrs su : Int32} {gone : Int64} {lv ed : Nat → Int32} {first cnt : Nat} {ah : Nat → Int32} {mc : Nat} {mk : Nat → Int32} (D : MR g n ad E th F S hrs su gone lv ed first cnt ah mc mk) (b : Nat) (hb : b < S) : RetP g mX4_edgeOf 2 [.ref (ad 63), .int (nI b)] n ad E (some (.int (ed b))) (fun E9 => MR g n ad E9 0 F S hrs su gone lv ed first cnt ah mc mk ∧ ∀ k, (k < 63 ∨ 69 ≤ k) → E9 k = E k) := by
  obtain ⟨m0, m1, m2, m3, m4, ⟨wk, m5⟩, hF, hS, hFp, hSp, hfi, hcn, hmc, hn⟩ := id D
  intro Φ Ψ h
  show J g mX4_edgeOf 2 0 0 0 [some (.ref (ad 63)), some (.int (nI b))] [] n ad E Φ Ψ
  refine j_aload_n dX4_edgeOf_0 rfl ?_
  refine j_iconst (v := 0) dX4_edgeOf_1 (by decide) ?_
  refine j_put fl_X4_38 fp_X4 dX4_edgeOf_2 (by omega) m0 (Or.inl rfl) rfl rfl (Nat.le_of_ble_eq_true rfl) ?_
  refine j_aload_n dX4_edgeOf_5 rfl ?_
  refine j_iload_n dX4_edgeOf_6 rfl ?_
  refine j_cV (As := [.int (nI b)]) (rest := []) cm_X4_isStep ci_X4_isStep cs_X4_isStep rfl ln_X4_52 (ci := 4) rfl dX4_edgeOf_7 (d' := 1) (by decide) (by omega) up_eq rfl rfl (Nat.le_of_ble_eq_true rfl) (Nat.le_of_ble_eq_true rfl) (s_isStep_t (MR.setO D ⟨by omega, by omega, by omega, by omega, by omega, by omega, by omega⟩) b hb) ?_
  refine j_if_eq_f (tgt := 22) dX4_edgeOf_10 (by decide) (by decide) ?_
  refine j_aload_n dX4_edgeOf_13 rfl ?_
  refine j_get fl_X4_19 dX4_edgeOf_14 (by omega) up_eq rfl ?_
  refine j_iload_n dX4_edgeOf_17 rfl ?_
  refine j_iald dX4_edgeOf_18 (by omega) ((up_ne (by decide)).trans m1) (by decide) (by omega) rfl ?_
  refine j_goto (tgt := 27) dX4_edgeOf_19 (by decide) ?_
  exact j_iret dX4_edgeOf_27 rfl (h _ ⟨(MR.setO D ⟨by omega, by omega, by omega, by omega, by omega, by omega, by omega⟩), (fun k hk => ((up_ne (by omega)).trans rfl))⟩)
set_option maxRecDepth 100000 in
set_option maxHeartbeats 4000000 in
theorem s_X4_edgeOf_bad {g : jG} {n : Nat} {ad : Nat → Nat} {E : Nat → va_E} {th : Int32} {F S : Nat} {hrs su : Int32} {gone : Int64} {lv ed : Nat → Int32} {first cnt : Nat} {ah : Nat → Int32} {mc : Nat} {mk : Nat → Int32} (D : MR g n ad E th F S hrs su gone lv ed first cnt ah mc mk) (x : Int32) (hx : oob x S) : RetP g mX4_edgeOf 2 [.ref (ad 63), .int x] n ad E (some (.int 0)) (fun E9 => MR g n ad E9 1 F S hrs su gone lv ed first cnt ah mc mk ∧ ∀ k, (k < 63 ∨ 69 ≤ k) → E9 k = E k) := by
  obtain ⟨m0, m1, m2, m3, m4, ⟨wk, m5⟩, hF, hS, hFp, hSp, hfi, hcn, hmc, hn⟩ := id D
  intro Φ Ψ h
  show J g mX4_edgeOf 2 0 0 0 [some (.ref (ad 63)), some (.int x)] [] n ad E Φ Ψ
  refine j_aload_n dX4_edgeOf_0 rfl ?_
  refine j_iconst (v := 0) dX4_edgeOf_1 (by decide) ?_
  refine j_put fl_X4_38 fp_X4 dX4_edgeOf_2 (by omega) m0 (Or.inl rfl) rfl rfl (Nat.le_of_ble_eq_true rfl) ?_
  refine j_aload_n dX4_edgeOf_5 rfl ?_
  refine j_iload_n dX4_edgeOf_6 rfl ?_
  refine j_cV (As := [.int x]) (rest := []) cm_X4_isStep ci_X4_isStep cs_X4_isStep rfl ln_X4_52 (ci := 4) rfl dX4_edgeOf_7 (d' := 1) (by decide) (by omega) up_eq rfl rfl (Nat.le_of_ble_eq_true rfl) (Nat.le_of_ble_eq_true rfl) (s_isStep_f (MR.setO D ⟨by omega, by omega, by omega, by omega, by omega, by omega, by omega⟩) x hx) ?_
  refine j_if_eq_t (tgt := 22) dX4_edgeOf_10 (by decide) (by decide) ?_
  refine j_aload_n dX4_edgeOf_22 rfl ?_
  refine j_iconst (v := 1) dX4_edgeOf_23 (by decide) ?_
  refine j_cV (As := [.int 1]) (rest := []) cm_X4_no ci_X4_no cs_X4_no rfl ln_X4_84 (ci := 4) rfl dX4_edgeOf_24 (d' := 0) (by decide) (by omega) up_eq rfl rfl (Nat.le_of_ble_eq_true rfl) (Nat.le_of_ble_eq_true rfl) (s_X4_no (MR.setO D ⟨by omega, by omega, by omega, by omega, by omega, by omega, by omega⟩) 1) ?_
  refine j_E up_up ?_
  exact j_iret dX4_edgeOf_27 rfl (h _ ⟨(MR.setO D ⟨by omega, by omega, by omega, by omega, by omega, by omega, by omega⟩), (fun k hk => ((up_ne (by omega)).trans rfl))⟩)
set_option maxRecDepth 100000 in
set_option maxHeartbeats 4000000 in
theorem s_X4_levelAt_ok {g : jG} {n : Nat} {ad : Nat → Nat} {E : Nat → va_E} {th : Int32} {F S : Nat} {hrs su : Int32} {gone : Int64} {lv ed : Nat → Int32} {first cnt : Nat} {ah : Nat → Int32} {mc : Nat} {mk : Nat → Int32} (D : MR g n ad E th F S hrs su gone lv ed first cnt ah mc mk) (a b : Nat) (ha : a < F) (hb : b < S) : RetP g mX4_levelAt 2 [.ref (ad 63), .int (nI a), .int (nI b)] n ad E (some (.int (lv (a * S + b)))) (fun E9 => MR g n ad E9 0 F S hrs su gone lv ed first cnt ah mc mk ∧ ∀ k, (k < 63 ∨ 69 ≤ k) → E9 k = E k) := by
  obtain ⟨m0, m1, m2, m3, m4, ⟨wk, m5⟩, hF, hS, hFp, hSp, hfi, hcn, hmc, hn⟩ := id D
  intro Φ Ψ h
  show J g mX4_levelAt 2 0 0 0 [some (.ref (ad 63)), some (.int (nI a)), some (.int (nI b))] [] n ad E Φ Ψ
  refine j_aload_n dX4_levelAt_0 rfl ?_
  refine j_iconst (v := 0) dX4_levelAt_1 (by decide) ?_
  refine j_put fl_X4_38 fp_X4 dX4_levelAt_2 (by omega) m0 (Or.inl rfl) rfl rfl (Nat.le_of_ble_eq_true rfl) ?_
  refine j_aload_n dX4_levelAt_5 rfl ?_
  refine j_iload_n dX4_levelAt_6 rfl ?_
  refine j_cV (As := [.int (nI a)]) (rest := []) cm_X4_isFlight ci_X4_isFlight cs_X4_isFlight rfl ln_X4_48 (ci := 4) rfl dX4_levelAt_7 (d' := 1) (by decide) (by omega) up_eq rfl rfl (Nat.le_of_ble_eq_true rfl) (Nat.le_of_ble_eq_true rfl) (s_isFlight_t (MR.setO D ⟨by omega, by omega, by omega, by omega, by omega, by omega, by omega⟩) a ha) ?_
  refine j_if_eq_f (tgt := 30) dX4_levelAt_10 (by decide) (by decide) ?_
  refine j_aload_n dX4_levelAt_13 rfl ?_
  refine j_iload_n dX4_levelAt_14 rfl ?_
  refine j_cV (As := [.int (nI b)]) (rest := []) cm_X4_isStep ci_X4_isStep cs_X4_isStep rfl ln_X4_52 (ci := 4) rfl dX4_levelAt_15 (d' := 1) (by decide) (by omega) up_eq rfl rfl (Nat.le_of_ble_eq_true rfl) (Nat.le_of_ble_eq_true rfl) (s_isStep_t (MR.setO D ⟨by omega, by omega, by omega, by omega, by omega, by omega, by omega⟩) b hb) ?_
  refine j_if_eq_f (tgt := 30) dX4_levelAt_18 (by decide) (by decide) ?_
  refine j_aload_n dX4_levelAt_21 rfl ?_
  refine j_iload_n dX4_levelAt_22 rfl ?_
  refine j_iload_n dX4_levelAt_23 rfl ?_
  refine j_cV (As := [.int (nI a), .int (nI b)]) (rest := []) cm_X4_at ci_X4_at cs_X4_at rfl ln_X4_121 (ci := 4) rfl dX4_levelAt_24 (d' := 0) (by decide) (by omega) up_eq rfl rfl (Nat.le_of_ble_eq_true rfl) (Nat.le_of_ble_eq_true rfl) (s_X4_at (MR.setO D ⟨by omega, by omega, by omega, by omega, by omega, by omega, by omega⟩) a b (ix128 hF hS ha hb)) ?_
  refine j_goto (tgt := 35) dX4_levelAt_27 (by decide) ?_
  exact j_iret dX4_levelAt_35 rfl (h _ ⟨(MR.setO D ⟨by omega, by omega, by omega, by omega, by omega, by omega, by omega⟩), (fun k hk => ((up_ne (by omega)).trans rfl))⟩)
set_option maxRecDepth 100000 in
set_option maxHeartbeats 4000000 in
theorem s_X4_levelAt_bad {g : jG} {n : Nat} {ad : Nat → Nat} {E : Nat → va_E} {th : Int32} {F S : Nat} {hrs su : Int32} {gone : Int64} {lv ed : Nat → Int32} {first cnt : Nat} {ah : Nat → Int32} {mc : Nat} {mk : Nat → Int32} (D : MR g n ad E th F S hrs su gone lv ed first cnt ah mc mk) (x y : Int32) (hx : oob x F ∨ oob y S) : RetP g mX4_levelAt 2 [.ref (ad 63), .int x, .int y] n ad E (some (.int 0)) (fun E9 => MR g n ad E9 1 F S hrs su gone lv ed first cnt ah mc mk ∧ ∀ k, (k < 63 ∨ 69 ≤ k) → E9 k = E k) := by
  obtain ⟨m0, m1, m2, m3, m4, ⟨wk, m5⟩, hF, hS, hFp, hSp, hfi, hcn, hmc, hn⟩ := id D
  intro Φ Ψ h
  show J g mX4_levelAt 2 0 0 0 [some (.ref (ad 63)), some (.int x), some (.int y)] [] n ad E Φ Ψ
  rcases oob_or x (show F < 2 ^ 31 by omega) with q | ⟨a, ha, rfl⟩
  · skip
    refine j_aload_n dX4_levelAt_0 rfl ?_
    refine j_iconst (v := 0) dX4_levelAt_1 (by decide) ?_
    refine j_put fl_X4_38 fp_X4 dX4_levelAt_2 (by omega) m0 (Or.inl rfl) rfl rfl (Nat.le_of_ble_eq_true rfl) ?_
    refine j_aload_n dX4_levelAt_5 rfl ?_
    refine j_iload_n dX4_levelAt_6 rfl ?_
    refine j_cV (As := [.int x]) (rest := []) cm_X4_isFlight ci_X4_isFlight cs_X4_isFlight rfl ln_X4_48 (ci := 4) rfl dX4_levelAt_7 (d' := 1) (by decide) (by omega) up_eq rfl rfl (Nat.le_of_ble_eq_true rfl) (Nat.le_of_ble_eq_true rfl) (s_isFlight_f (MR.setO D ⟨by omega, by omega, by omega, by omega, by omega, by omega, by omega⟩) x q) ?_
    refine j_if_eq_t (tgt := 30) dX4_levelAt_10 (by decide) (by decide) ?_
    refine j_aload_n dX4_levelAt_30 rfl ?_
    refine j_iconst (v := 1) dX4_levelAt_31 (by decide) ?_
    refine j_cV (As := [.int 1]) (rest := []) cm_X4_no ci_X4_no cs_X4_no rfl ln_X4_84 (ci := 4) rfl dX4_levelAt_32 (d' := 0) (by decide) (by omega) up_eq rfl rfl (Nat.le_of_ble_eq_true rfl) (Nat.le_of_ble_eq_true rfl) (s_X4_no (MR.setO D ⟨by omega, by omega, by omega, by omega, by omega, by omega, by omega⟩) 1) ?_
    refine j_E up_up ?_
    exact j_iret dX4_levelAt_35 rfl (h _ ⟨(MR.setO D ⟨by omega, by omega, by omega, by omega, by omega, by omega, by omega⟩), (fun k hk => ((up_ne (by omega)).trans rfl))⟩)
  · skip
    have hy := hx.resolve_left (not_oob ha (by omega))
    refine j_aload_n dX4_levelAt_0 rfl ?_
    refine j_iconst (v := 0) dX4_levelAt_1 (by decide) ?_
    refine j_put fl_X4_38 fp_X4 dX4_levelAt_2 (by omega) m0 (Or.inl rfl) rfl rfl (Nat.le_of_ble_eq_true rfl) ?_
    refine j_aload_n dX4_levelAt_5 rfl ?_
    refine j_iload_n dX4_levelAt_6 rfl ?_
    refine j_cV (As := [.int (nI a)]) (rest := []) cm_X4_isFlight ci_X4_isFlight cs_X4_isFlight rfl ln_X4_48 (ci := 4) rfl dX4_levelAt_7 (d' := 1) (by decide) (by omega) up_eq rfl rfl (Nat.le_of_ble_eq_true rfl) (Nat.le_of_ble_eq_true rfl) (s_isFlight_t (MR.setO D ⟨by omega, by omega, by omega, by omega, by omega, by omega, by omega⟩) a ha) ?_
    refine j_if_eq_f (tgt := 30) dX4_levelAt_10 (by decide) (by decide) ?_
    refine j_aload_n dX4_levelAt_13 rfl ?_
    refine j_iload_n dX4_levelAt_14 rfl ?_
    refine j_cV (As := [.int y]) (rest := []) cm_X4_isStep ci_X4_isStep cs_X4_isStep rfl ln_X4_52 (ci := 4) rfl dX4_levelAt_15 (d' := 1) (by decide) (by omega) up_eq rfl rfl (Nat.le_of_ble_eq_true rfl) (Nat.le_of_ble_eq_true rfl) (s_isStep_f (MR.setO D ⟨by omega, by omega, by omega, by omega, by omega, by omega, by omega⟩) y hy) ?_
    refine j_if_eq_t (tgt := 30) dX4_levelAt_18 (by decide) (by decide) ?_
    refine j_aload_n dX4_levelAt_30 rfl ?_
    refine j_iconst (v := 1) dX4_levelAt_31 (by decide) ?_
    refine j_cV (As := [.int 1]) (rest := []) cm_X4_no ci_X4_no cs_X4_no rfl ln_X4_84 (ci := 4) rfl dX4_levelAt_32 (d' := 0) (by decide) (by omega) up_eq rfl rfl (Nat.le_of_ble_eq_true rfl) (Nat.le_of_ble_eq_true rfl) (s_X4_no (MR.setO D ⟨by omega, by omega, by omega, by omega, by omega, by omega, by omega⟩) 1) ?_
    refine j_E up_up ?_
    exact j_iret dX4_levelAt_35 rfl (h _ ⟨(MR.setO D ⟨by omega, by omega, by omega, by omega, by omega, by omega, by omega⟩), (fun k hk => ((up_ne (by omega)).trans rfl))⟩)
set_option maxRecDepth 100000 in
set_option maxHeartbeats 4000000 in
theorem s_X4_added {g : jG} {n : Nat} {ad : Nat → Nat} {E : Nat → va_E} {th : Int32} {F S : Nat} {hrs su : Int32} {gone : Int64} {lv ed : Nat → Int32} {first cnt : Nat} {ah : Nat → Int32} {mc : Nat} {mk : Nat → Int32} (D : MR g n ad E th F S hrs su gone lv ed first cnt ah mc mk) (fa sa fb sb : Nat) (hfa : fa < F) (hsa : sa < S) (hfb : fb < F) (hsb : sb < S) : Ret g mX4_added 1 [.ref (ad 63), .int (nI fa), .int (nI sa), .int (nI fb), .int (nI sb)] n ad E (some (.long (sumP lv S fa sa fb sb))) E := by
  obtain ⟨m0, m1, m2, m3, m4, ⟨wk, m5⟩, hF, hS, hFp, hSp, hfi, hcn, hmc, hn⟩ := id D
  intro Φ Ψ h
  show J g mX4_added 1 0 0 0 [some (.ref (ad 63)), some (.int (nI fa)), some (.int (nI sa)), some (.int (nI fb)), some (.int (nI sb)), none, none, none, none] [] n ad E Φ Ψ
  refine j_lconst (v := 0) dX4_added_0 rfl ?_
  refine j_lstore (L' := [some (.ref (ad 63)), some (.int (nI fa)), some (.int (nI sa)), some (.int (nI fb)), some (.int (nI sb)), some (.long 0), none, none, none]) dX4_added_1 (by decide) rfl rfl ?_
  refine j_iload_n dX4_added_3 rfl ?_
  refine j_istore (L' := [some (.ref (ad 63)), some (.int (nI fa)), some (.int (nI sa)), some (.int (nI fb)), some (.int (nI sb)), some (.long 0), none, some (.int (nI fa)), none]) dX4_added_4 (by decide) rfl rfl ?_
  refine lpf_ind (b := fun f x => lpf (fun s x => x + (lv (f * S + s)).toInt64) sa (sb + 1 - sa) x) (P := fun (f : Nat) (x : Int64) => J g mX4_added 1 0 0 6 [some (.ref (ad 63)), some (.int (nI fa)), some (.int (nI sa)), some (.int (nI fb)), some (.int (nI sb)), some (.long x), none, some (.int (nI f)), none] [] n ad E Φ Ψ) (N := fa + (fb + 1 - fa)) fa ?_ (fb + 1 - fa) 0 (by omega) ?_
  · intro f x hf0 hf ih
    show J g mX4_added 1 0 0 6 [some (.ref (ad 63)), some (.int (nI fa)), some (.int (nI sa)), some (.int (nI fb)), some (.int (nI sb)), some (.long x), none, some (.int (nI f)), none] [] n ad E Φ Ψ
    have ih0 := ih
    clear ih
    refine j_iload dX4_added_6 rfl ?_
    refine j_iload_n dX4_added_8 rfl ?_
    refine j_icmp_gt_f (tgt := 48) dX4_added_9 (by decide) (nI_nlt' (by omega) (by omega) (by omega)) ?_
    refine j_iload_n dX4_added_12 rfl ?_
    refine j_istore (L' := [some (.ref (ad 63)), some (.int (nI fa)), some (.int (nI sa)), some (.int (nI fb)), some (.int (nI sb)), some (.long x), none, some (.int (nI f)), some (.int (nI sa))]) dX4_added_13 (by decide) rfl rfl ?_
    refine lpf_ind (b := fun s x => x + (lv (f * S + s)).toInt64) (P := fun (s : Nat) (x : Int64) => J g mX4_added 1 0 0 15 [some (.ref (ad 63)), some (.int (nI fa)), some (.int (nI sa)), some (.int (nI fb)), some (.int (nI sb)), some (.long x), none, some (.int (nI f)), some (.int (nI s))] [] n ad E Φ Ψ) (N := sa + (sb + 1 - sa)) sa ?_ (sb + 1 - sa) x (by omega) ?_
    · intro s x hs0 hs ih
      show J g mX4_added 1 0 0 15 [some (.ref (ad 63)), some (.int (nI fa)), some (.int (nI sa)), some (.int (nI fb)), some (.int (nI sb)), some (.long x), none, some (.int (nI f)), some (.int (nI s))] [] n ad E Φ Ψ
      refine j_iload dX4_added_15 rfl ?_
      refine j_iload dX4_added_17 rfl ?_
      refine j_icmp_gt_f (tgt := 42) dX4_added_19 (by decide) (nI_nlt' (by omega) (by omega) (by omega)) ?_
      refine j_lload dX4_added_22 rfl ?_
      refine j_aload_n dX4_added_24 rfl ?_
      refine j_iload dX4_added_25 rfl ?_
      refine j_iload dX4_added_27 rfl ?_
      refine j_cV (As := [.int (nI f), .int (nI s)]) (rest := [.long x]) cm_X4_at ci_X4_at cs_X4_at rfl ln_X4_121 (ci := 4) rfl dX4_added_29 (d' := 0) (by decide) (by omega) m0 rfl rfl (Nat.le_of_ble_eq_true rfl) (Nat.le_of_ble_eq_true rfl) (s_X4_at D f s (ix128 hF hS (show f < F by omega) (show s < S by omega))) ?_
      refine j_i2l dX4_added_32 ?_
      refine j_ladd dX4_added_33 ?_
      refine j_lstore (L' := [some (.ref (ad 63)), some (.int (nI fa)), some (.int (nI sa)), some (.int (nI fb)), some (.int (nI sb)), some (.long (x + ((lv (f * S + s)).toInt64))), none, some (.int (nI f)), some (.int (nI s))]) dX4_added_34 (by decide) rfl rfl ?_
      refine j_iinc (v := nI (s + 1)) (L' := [some (.ref (ad 63)), some (.int (nI fa)), some (.int (nI sa)), some (.int (nI fb)), some (.int (nI sb)), some (.long (x + ((lv (f * S + s)).toInt64))), none, some (.int (nI f)), some (.int (nI (s + 1)))]) dX4_added_36 (by decide) rfl (nI_1 _) rfl rfl ?_
      refine j_goto (tgt := 15) dX4_added_39 (by decide) ?_
      exact ih _ (by first | rfl | simp only [hq, if_true, if_false, Int32.add_zero])
    · skip
      show J g mX4_added 1 0 0 15 [some (.ref (ad 63)), some (.int (nI fa)), some (.int (nI sa)), some (.int (nI fb)), some (.int (nI sb)), some (.long (lpf (fun s x => x + (lv (f * S + s)).toInt64) sa (sb + 1 - sa) x)), none, some (.int (nI f)), some (.int (nI (sa + (sb + 1 - sa))))] [] n ad E Φ Ψ
      refine j_iload dX4_added_15 rfl ?_
      refine j_iload dX4_added_17 rfl ?_
      refine j_icmp_gt_t (tgt := 42) dX4_added_19 (by decide) (nI_lt' (by omega) (by omega) (by omega)) ?_
      refine j_iinc (v := nI (f + 1)) (L' := [some (.ref (ad 63)), some (.int (nI fa)), some (.int (nI sa)), some (.int (nI fb)), some (.int (nI sb)), some (.long (lpf (fun s x => x + (lv (f * S + s)).toInt64) sa (sb + 1 - sa) x)), none, some (.int (nI (f + 1))), some (.int (nI (sa + (sb + 1 - sa))))]) dX4_added_42 (by decide) rfl (nI_1 _) rfl rfl ?_
      refine j_goto (tgt := 6) dX4_added_45 (by decide) ?_
      refine j_clr 8 ?_
      exact ih0 _ rfl
  · skip
    show J g mX4_added 1 0 0 6 [some (.ref (ad 63)), some (.int (nI fa)), some (.int (nI sa)), some (.int (nI fb)), some (.int (nI sb)), some (.long (sumP lv S fa sa fb sb)), none, some (.int (nI (fa + (fb + 1 - fa)))), none] [] n ad E Φ Ψ
    refine j_iload dX4_added_6 rfl ?_
    refine j_iload_n dX4_added_8 rfl ?_
    refine j_icmp_gt_t (tgt := 48) dX4_added_9 (by decide) (nI_lt' (by omega) (by omega) (by omega)) ?_
    refine j_lload dX4_added_48 rfl ?_
    exact j_lret dX4_added_50 rfl h
set_option maxRecDepth 100000 in
set_option maxHeartbeats 4000000 in
theorem s_X4_dryPart {g : jG} {n : Nat} {ad : Nat → Nat} {E : Nat → va_E} {th : Int32} {F S : Nat} {hrs su : Int32} {gone : Int64} {lv ed : Nat → Int32} {first cnt : Nat} {ah : Nat → Int32} {mc : Nat} {mk : Nat → Int32} (D : MR g n ad E th F S hrs su gone lv ed first cnt ah mc mk) (fa sa fb sb : Nat) (hfa : fa < F) (hsa : sa < S) (hfb : fb < F) (hsb : sb < S) : Ret g mX4_dryPart 1 [.ref (ad 63), .int (nI fa), .int (nI sa), .int (nI fb), .int (nI sb)] n ad E (some (.int (dryP lv S fa sa fb sb))) E := by
  obtain ⟨m0, m1, m2, m3, m4, ⟨wk, m5⟩, hF, hS, hFp, hSp, hfi, hcn, hmc, hn⟩ := id D
  intro Φ Ψ h
  show J g mX4_dryPart 1 0 0 0 [some (.ref (ad 63)), some (.int (nI fa)), some (.int (nI sa)), some (.int (nI fb)), some (.int (nI sb)), none, none, none] [] n ad E Φ Ψ
  refine j_iconst (v := 0) dX4_dryPart_0 (by decide) ?_
  refine j_istore (L' := [some (.ref (ad 63)), some (.int (nI fa)), some (.int (nI sa)), some (.int (nI fb)), some (.int (nI sb)), some (.int 0), none, none]) dX4_dryPart_1 (by decide) rfl rfl ?_
  refine j_iload_n dX4_dryPart_3 rfl ?_
  refine j_istore (L' := [some (.ref (ad 63)), some (.int (nI fa)), some (.int (nI sa)), some (.int (nI fb)), some (.int (nI sb)), some (.int 0), some (.int (nI fa)), none]) dX4_dryPart_4 (by decide) rfl rfl ?_
  refine lpf_ind (b := fun f x => lpf (fun s x => if 0 < lv (f * S + s) then x else x + 1) sa (sb + 1 - sa) x) (P := fun (f : Nat) (x : Int32) => J g mX4_dryPart 1 0 0 6 [some (.ref (ad 63)), some (.int (nI fa)), some (.int (nI sa)), some (.int (nI fb)), some (.int (nI sb)), some (.int x), some (.int (nI f)), none] [] n ad E Φ Ψ) (N := fa + (fb + 1 - fa)) fa ?_ (fb + 1 - fa) 0 (by omega) ?_
  · intro f x hf0 hf ih
    show J g mX4_dryPart 1 0 0 6 [some (.ref (ad 63)), some (.int (nI fa)), some (.int (nI sa)), some (.int (nI fb)), some (.int (nI sb)), some (.int x), some (.int (nI f)), none] [] n ad E Φ Ψ
    have ih0 := ih
    clear ih
    refine j_iload dX4_dryPart_6 rfl ?_
    refine j_iload_n dX4_dryPart_8 rfl ?_
    refine j_icmp_gt_f (tgt := 55) dX4_dryPart_9 (by decide) (nI_nlt' (by omega) (by omega) (by omega)) ?_
    refine j_iload_n dX4_dryPart_12 rfl ?_
    refine j_istore (L' := [some (.ref (ad 63)), some (.int (nI fa)), some (.int (nI sa)), some (.int (nI fb)), some (.int (nI sb)), some (.int x), some (.int (nI f)), some (.int (nI sa))]) dX4_dryPart_13 (by decide) rfl rfl ?_
    refine lpf_ind (b := fun s x => if 0 < lv (f * S + s) then x else x + 1) (P := fun (s : Nat) (x : Int32) => J g mX4_dryPart 1 0 0 15 [some (.ref (ad 63)), some (.int (nI fa)), some (.int (nI sa)), some (.int (nI fb)), some (.int (nI sb)), some (.int x), some (.int (nI f)), some (.int (nI s))] [] n ad E Φ Ψ) (N := sa + (sb + 1 - sa)) sa ?_ (sb + 1 - sa) x (by omega) ?_
    · intro s x hs0 hs ih
      show J g mX4_dryPart 1 0 0 15 [some (.ref (ad 63)), some (.int (nI fa)), some (.int (nI sa)), some (.int (nI fb)), some (.int (nI sb)), some (.int x), some (.int (nI f)), some (.int (nI s))] [] n ad E Φ Ψ
      refine j_iload dX4_dryPart_15 rfl ?_
      refine j_iload dX4_dryPart_17 rfl ?_
      refine j_icmp_gt_f (tgt := 49) dX4_dryPart_19 (by decide) (nI_nlt' (by omega) (by omega) (by omega)) ?_
      refine j_iload dX4_dryPart_22 rfl ?_
      refine j_aload_n dX4_dryPart_24 rfl ?_
      refine j_iload dX4_dryPart_25 rfl ?_
      refine j_iload dX4_dryPart_27 rfl ?_
      refine j_cV (As := [.int (nI f), .int (nI s)]) (rest := [.int x]) cm_X4_at ci_X4_at cs_X4_at rfl ln_X4_121 (ci := 4) rfl dX4_dryPart_29 (d' := 0) (by decide) (by omega) m0 rfl rfl (Nat.le_of_ble_eq_true rfl) (Nat.le_of_ble_eq_true rfl) (s_X4_at D f s (ix128 hF hS (show f < F by omega) (show s < S by omega))) ?_
      refine j_if_gt (tgt := 39) dX4_dryPart_32 (by decide) (fun hq => ?_) (fun hq => ?_)
      · skip
        refine j_iconst (v := 0) dX4_dryPart_39 (by decide) ?_
        refine j_iadd dX4_dryPart_40 ?_
        refine j_istore (L' := [some (.ref (ad 63)), some (.int (nI fa)), some (.int (nI sa)), some (.int (nI fb)), some (.int (nI sb)), some (.int (x + 0)), some (.int (nI f)), some (.int (nI s))]) dX4_dryPart_41 (by decide) rfl rfl ?_
        refine j_iinc (v := nI (s + 1)) (L' := [some (.ref (ad 63)), some (.int (nI fa)), some (.int (nI sa)), some (.int (nI fb)), some (.int (nI sb)), some (.int (x + 0)), some (.int (nI f)), some (.int (nI (s + 1)))]) dX4_dryPart_43 (by decide) rfl (nI_1 _) rfl rfl ?_
        refine j_goto (tgt := 15) dX4_dryPart_46 (by decide) ?_
        exact ih _ (by first | rfl | simp only [hq, if_true, if_false, Int32.add_zero])
      · skip
        refine j_iconst (v := 1) dX4_dryPart_35 (by decide) ?_
        refine j_goto (tgt := 40) dX4_dryPart_36 (by decide) ?_
        refine j_iadd dX4_dryPart_40 ?_
        refine j_istore (L' := [some (.ref (ad 63)), some (.int (nI fa)), some (.int (nI sa)), some (.int (nI fb)), some (.int (nI sb)), some (.int (x + 1)), some (.int (nI f)), some (.int (nI s))]) dX4_dryPart_41 (by decide) rfl rfl ?_
        refine j_iinc (v := nI (s + 1)) (L' := [some (.ref (ad 63)), some (.int (nI fa)), some (.int (nI sa)), some (.int (nI fb)), some (.int (nI sb)), some (.int (x + 1)), some (.int (nI f)), some (.int (nI (s + 1)))]) dX4_dryPart_43 (by decide) rfl (nI_1 _) rfl rfl ?_
        refine j_goto (tgt := 15) dX4_dryPart_46 (by decide) ?_
        exact ih _ (by first | rfl | simp only [hq, if_true, if_false, Int32.add_zero])
    · skip
      show J g mX4_dryPart 1 0 0 15 [some (.ref (ad 63)), some (.int (nI fa)), some (.int (nI sa)), some (.int (nI fb)), some (.int (nI sb)), some (.int (lpf (fun s x => if 0 < lv (f * S + s) then x else x + 1) sa (sb + 1 - sa) x)), some (.int (nI f)), some (.int (nI (sa + (sb + 1 - sa))))] [] n ad E Φ Ψ
      refine j_iload dX4_dryPart_15 rfl ?_
      refine j_iload dX4_dryPart_17 rfl ?_
      refine j_icmp_gt_t (tgt := 49) dX4_dryPart_19 (by decide) (nI_lt' (by omega) (by omega) (by omega)) ?_
      refine j_iinc (v := nI (f + 1)) (L' := [some (.ref (ad 63)), some (.int (nI fa)), some (.int (nI sa)), some (.int (nI fb)), some (.int (nI sb)), some (.int (lpf (fun s x => if 0 < lv (f * S + s) then x else x + 1) sa (sb + 1 - sa) x)), some (.int (nI (f + 1))), some (.int (nI (sa + (sb + 1 - sa))))]) dX4_dryPart_49 (by decide) rfl (nI_1 _) rfl rfl ?_
      refine j_goto (tgt := 6) dX4_dryPart_52 (by decide) ?_
      refine j_clr 7 ?_
      exact ih0 _ rfl
  · skip
    show J g mX4_dryPart 1 0 0 6 [some (.ref (ad 63)), some (.int (nI fa)), some (.int (nI sa)), some (.int (nI fb)), some (.int (nI sb)), some (.int (dryP lv S fa sa fb sb)), some (.int (nI (fa + (fb + 1 - fa)))), none] [] n ad E Φ Ψ
    refine j_iload dX4_dryPart_6 rfl ?_
    refine j_iload_n dX4_dryPart_8 rfl ?_
    refine j_icmp_gt_t (tgt := 55) dX4_dryPart_9 (by decide) (nI_lt' (by omega) (by omega) (by omega)) ?_
    refine j_iload dX4_dryPart_55 rfl ?_
    exact j_iret dX4_dryPart_57 rfl h
set_option maxRecDepth 100000 in
set_option maxHeartbeats 4000000 in
theorem s_X4_sumOfAll {g : jG} {n : Nat} {ad : Nat → Nat} {E : Nat → va_E} {th : Int32} {F S : Nat} {hrs su : Int32} {gone : Int64} {lv ed : Nat → Int32} {first cnt : Nat} {ah : Nat → Int32} {mc : Nat} {mk : Nat → Int32} (D : MR g n ad E th F S hrs su gone lv ed first cnt ah mc mk) : Ret g mX4_sumOfAll 2 [.ref (ad 63)] n ad E (some (.long (sumP lv S 0 0 (F - 1) (S - 1)))) E := by
  obtain ⟨m0, m1, m2, m3, m4, ⟨wk, m5⟩, hF, hS, hFp, hSp, hfi, hcn, hmc, hn⟩ := id D
  intro Φ Ψ h
  show J g mX4_sumOfAll 2 0 0 0 [some (.ref (ad 63))] [] n ad E Φ Ψ
  refine j_aload_n dX4_sumOfAll_0 rfl ?_
  refine j_iconst (v := nI 0) dX4_sumOfAll_1 (by decide) ?_
  refine j_iconst (v := nI 0) dX4_sumOfAll_2 (by decide) ?_
  refine j_aload_n dX4_sumOfAll_3 rfl ?_
  refine j_get fl_X4_9 dX4_sumOfAll_4 (by omega) m0 rfl ?_
  refine j_iconst (v := nI 1) dX4_sumOfAll_7 (by decide) ?_
  refine j_isub dX4_sumOfAll_8 ?_
  refine j_topi (y := nI (F - 1)) (pk_sub (by omega)) ?_
  refine j_aload_n dX4_sumOfAll_9 rfl ?_
  refine j_get fl_X4_13 dX4_sumOfAll_10 (by omega) m0 rfl ?_
  refine j_iconst (v := nI 1) dX4_sumOfAll_13 (by decide) ?_
  refine j_isub dX4_sumOfAll_14 ?_
  refine j_topi (y := nI (S - 1)) (pk_sub (by omega)) ?_
  refine j_cV (As := [.int (nI 0), .int (nI 0), .int (nI (F - 1)), .int (nI (S - 1))]) (rest := []) cm_X4_added ci_X4_added cs_X4_added rfl ln_X4_124 (ci := 4) rfl dX4_sumOfAll_15 (d' := 1) (by decide) (by omega) m0 rfl rfl (Nat.le_of_ble_eq_true rfl) (Nat.le_of_ble_eq_true rfl) (s_X4_added D 0 0 (F - 1) (S - 1) (by omega) (by omega) (by omega) (by omega)) ?_
  exact j_lret dX4_sumOfAll_18 rfl h
set_option maxRecDepth 100000 in
set_option maxHeartbeats 4000000 in
theorem s_X4_dryNow {g : jG} {n : Nat} {ad : Nat → Nat} {E : Nat → va_E} {th : Int32} {F S : Nat} {hrs su : Int32} {gone : Int64} {lv ed : Nat → Int32} {first cnt : Nat} {ah : Nat → Int32} {mc : Nat} {mk : Nat → Int32} (D : MR g n ad E th F S hrs su gone lv ed first cnt ah mc mk) : Ret g mX4_dryNow 2 [.ref (ad 63)] n ad E (some (.int (dryP lv S 0 0 (F - 1) (S - 1)))) E := by
  obtain ⟨m0, m1, m2, m3, m4, ⟨wk, m5⟩, hF, hS, hFp, hSp, hfi, hcn, hmc, hn⟩ := id D
  intro Φ Ψ h
  show J g mX4_dryNow 2 0 0 0 [some (.ref (ad 63))] [] n ad E Φ Ψ
  refine j_aload_n dX4_dryNow_0 rfl ?_
  refine j_iconst (v := nI 0) dX4_dryNow_1 (by decide) ?_
  refine j_iconst (v := nI 0) dX4_dryNow_2 (by decide) ?_
  refine j_aload_n dX4_dryNow_3 rfl ?_
  refine j_get fl_X4_9 dX4_dryNow_4 (by omega) m0 rfl ?_
  refine j_iconst (v := nI 1) dX4_dryNow_7 (by decide) ?_
  refine j_isub dX4_dryNow_8 ?_
  refine j_topi (y := nI (F - 1)) (pk_sub (by omega)) ?_
  refine j_aload_n dX4_dryNow_9 rfl ?_
  refine j_get fl_X4_13 dX4_dryNow_10 (by omega) m0 rfl ?_
  refine j_iconst (v := nI 1) dX4_dryNow_13 (by decide) ?_
  refine j_isub dX4_dryNow_14 ?_
  refine j_topi (y := nI (S - 1)) (pk_sub (by omega)) ?_
  refine j_cV (As := [.int (nI 0), .int (nI 0), .int (nI (F - 1)), .int (nI (S - 1))]) (rest := []) cm_X4_dryPart ci_X4_dryPart cs_X4_dryPart rfl ln_X4_148 (ci := 4) rfl dX4_dryNow_15 (d' := 1) (by decide) (by omega) m0 rfl rfl (Nat.le_of_ble_eq_true rfl) (Nat.le_of_ble_eq_true rfl) (s_X4_dryPart D 0 0 (F - 1) (S - 1) (by omega) (by omega) (by omega) (by omega)) ?_
  exact j_iret dX4_dryNow_18 rfl h
set_option maxRecDepth 100000 in
set_option maxHeartbeats 4000000 in
theorem s_X4_ofFlight {g : jG} {n : Nat} {ad : Nat → Nat} {E : Nat → va_E} {th : Int32} {F S : Nat} {hrs su : Int32} {gone : Int64} {lv ed : Nat → Int32} {first cnt : Nat} {ah : Nat → Int32} {mc : Nat} {mk : Nat → Int32} (D : MR g n ad E th F S hrs su gone lv ed first cnt ah mc mk) (a : Nat) (ha : a < F) : Ret g mX4_ofFlight 2 [.ref (ad 63), .int (nI a)] n ad E (some (.long (sumP lv S a 0 a (S - 1)))) E := by
  obtain ⟨m0, m1, m2, m3, m4, ⟨wk, m5⟩, hF, hS, hFp, hSp, hfi, hcn, hmc, hn⟩ := id D
  intro Φ Ψ h
  show J g mX4_ofFlight 2 0 0 0 [some (.ref (ad 63)), some (.int (nI a))] [] n ad E Φ Ψ
  refine j_aload_n dX4_ofFlight_0 rfl ?_
  refine j_iload_n dX4_ofFlight_1 rfl ?_
  refine j_iconst (v := nI 0) dX4_ofFlight_2 (by decide) ?_
  refine j_iload_n dX4_ofFlight_3 rfl ?_
  refine j_aload_n dX4_ofFlight_4 rfl ?_
  refine j_get fl_X4_13 dX4_ofFlight_5 (by omega) m0 rfl ?_
  refine j_iconst (v := nI 1) dX4_ofFlight_8 (by decide) ?_
  refine j_isub dX4_ofFlight_9 ?_
  refine j_topi (y := nI (S - 1)) (pk_sub (by omega)) ?_
  refine j_cV (As := [.int (nI a), .int (nI 0), .int (nI a), .int (nI (S - 1))]) (rest := []) cm_X4_added ci_X4_added cs_X4_added rfl ln_X4_124 (ci := 4) rfl dX4_ofFlight_10 (d' := 1) (by decide) (by omega) m0 rfl rfl (Nat.le_of_ble_eq_true rfl) (Nat.le_of_ble_eq_true rfl) (s_X4_added D a 0 a (S - 1) (by omega) (by omega) (by omega) (by omega)) ?_
  exact j_lret dX4_ofFlight_13 rfl h
set_option maxRecDepth 100000 in
set_option maxHeartbeats 4000000 in
theorem s_X4_ofStep {g : jG} {n : Nat} {ad : Nat → Nat} {E : Nat → va_E} {th : Int32} {F S : Nat} {hrs su : Int32} {gone : Int64} {lv ed : Nat → Int32} {first cnt : Nat} {ah : Nat → Int32} {mc : Nat} {mk : Nat → Int32} (D : MR g n ad E th F S hrs su gone lv ed first cnt ah mc mk) (b : Nat) (hb : b < S) : Ret g mX4_ofStep 2 [.ref (ad 63), .int (nI b)] n ad E (some (.long (sumP lv S 0 b (F - 1) b))) E := by
  obtain ⟨m0, m1, m2, m3, m4, ⟨wk, m5⟩, hF, hS, hFp, hSp, hfi, hcn, hmc, hn⟩ := id D
  intro Φ Ψ h
  show J g mX4_ofStep 2 0 0 0 [some (.ref (ad 63)), some (.int (nI b))] [] n ad E Φ Ψ
  refine j_aload_n dX4_ofStep_0 rfl ?_
  refine j_iconst (v := nI 0) dX4_ofStep_1 (by decide) ?_
  refine j_iload_n dX4_ofStep_2 rfl ?_
  refine j_aload_n dX4_ofStep_3 rfl ?_
  refine j_get fl_X4_9 dX4_ofStep_4 (by omega) m0 rfl ?_
  refine j_iconst (v := nI 1) dX4_ofStep_7 (by decide) ?_
  refine j_isub dX4_ofStep_8 ?_
  refine j_topi (y := nI (F - 1)) (pk_sub (by omega)) ?_
  refine j_iload_n dX4_ofStep_9 rfl ?_
  refine j_cV (As := [.int (nI 0), .int (nI b), .int (nI (F - 1)), .int (nI b)]) (rest := []) cm_X4_added ci_X4_added cs_X4_added rfl ln_X4_124 (ci := 4) rfl dX4_ofStep_10 (d' := 1) (by decide) (by omega) m0 rfl rfl (Nat.le_of_ble_eq_true rfl) (Nat.le_of_ble_eq_true rfl) (s_X4_added D 0 b (F - 1) b (by omega) (by omega) (by omega) (by omega)) ?_
  exact j_lret dX4_ofStep_13 rfl h
set_option maxRecDepth 100000 in
set_option maxHeartbeats 4000000 in
theorem s_X4_total {g : jG} {n : Nat} {ad : Nat → Nat} {E : Nat → va_E} {th : Int32} {F S : Nat} {hrs su : Int32} {gone : Int64} {lv ed : Nat → Int32} {first cnt : Nat} {ah : Nat → Int32} {mc : Nat} {mk : Nat → Int32} (D : MR g n ad E th F S hrs su gone lv ed first cnt ah mc mk) : RetP g mX4_total 3 [.ref (ad 63)] n ad E (some (.long (sumP lv S 0 0 (F - 1) (S - 1)))) (fun E9 => MR g n ad E9 0 F S hrs su gone lv ed first cnt ah mc mk ∧ ∀ k, (k < 63 ∨ 69 ≤ k) → E9 k = E k) := by
  obtain ⟨m0, m1, m2, m3, m4, ⟨wk, m5⟩, hF, hS, hFp, hSp, hfi, hcn, hmc, hn⟩ := id D
  intro Φ Ψ h
  show J g mX4_total 3 0 0 0 [some (.ref (ad 63))] [] n ad E Φ Ψ
  refine j_aload_n dX4_total_0 rfl ?_
  refine j_aload_n dX4_total_1 rfl ?_
  refine j_cV (As := []) (rest := [.ref (ad 63)]) cm_X4_sumOfAll ci_X4_sumOfAll cs_X4_sumOfAll rfl ln_X4_135 (ci := 4) rfl dX4_total_2 (d' := 2) (by decide) (by omega) m0 rfl rfl (Nat.le_of_ble_eq_true rfl) (Nat.le_of_ble_eq_true rfl) (s_X4_sumOfAll D) ?_
  refine j_cV (As := [.long (sumP lv S 0 0 (F - 1) (S - 1))]) (rest := []) cm_X4_okay ci_X4_okay cs_X4_okay rfl ln_X4_117 (ci := 4) rfl dX4_total_5 (d' := 0) (by decide) (by omega) m0 rfl rfl (Nat.le_of_ble_eq_true rfl) (Nat.le_of_ble_eq_true rfl) (s_X4_okay D (sumP lv S 0 0 (F - 1) (S - 1))) ?_
  exact j_lret dX4_total_8 rfl (h _ ⟨(MR.setO D ⟨by omega, by omega, by omega, by omega, by omega, by omega, by omega⟩), (fun k hk => ((up_ne (by omega)).trans rfl))⟩)
set_option maxRecDepth 100000 in
set_option maxHeartbeats 4000000 in
theorem s_X4_dry {g : jG} {n : Nat} {ad : Nat → Nat} {E : Nat → va_E} {th : Int32} {F S : Nat} {hrs su : Int32} {gone : Int64} {lv ed : Nat → Int32} {first cnt : Nat} {ah : Nat → Int32} {mc : Nat} {mk : Nat → Int32} (D : MR g n ad E th F S hrs su gone lv ed first cnt ah mc mk) : RetP g mX4_dry 3 [.ref (ad 63)] n ad E (some (.int (dryP lv S 0 0 (F - 1) (S - 1)))) (fun E9 => MR g n ad E9 0 F S hrs su gone lv ed first cnt ah mc mk ∧ ∀ k, (k < 63 ∨ 69 ≤ k) → E9 k = E k) := by
  obtain ⟨m0, m1, m2, m3, m4, ⟨wk, m5⟩, hF, hS, hFp, hSp, hfi, hcn, hmc, hn⟩ := id D
  intro Φ Ψ h
  show J g mX4_dry 3 0 0 0 [some (.ref (ad 63))] [] n ad E Φ Ψ
  refine j_aload_n dX4_dry_0 rfl ?_
  refine j_aload_n dX4_dry_1 rfl ?_
  refine j_cV (As := []) (rest := [.ref (ad 63)]) cm_X4_dryNow ci_X4_dryNow cs_X4_dryNow rfl ln_X4_151 (ci := 4) rfl dX4_dry_2 (d' := 2) (by decide) (by omega) m0 rfl rfl (Nat.le_of_ble_eq_true rfl) (Nat.le_of_ble_eq_true rfl) (s_X4_dryNow D) ?_
  refine j_cV (As := [.int (dryP lv S 0 0 (F - 1) (S - 1))]) (rest := []) cm_X4_ok ci_X4_ok cs_X4_ok rfl ln_X4_114 (ci := 4) rfl dX4_dry_5 (d' := 0) (by decide) (by omega) m0 rfl rfl (Nat.le_of_ble_eq_true rfl) (Nat.le_of_ble_eq_true rfl) (s_X4_ok D (dryP lv S 0 0 (F - 1) (S - 1))) ?_
  exact j_iret dX4_dry_8 rfl (h _ ⟨(MR.setO D ⟨by omega, by omega, by omega, by omega, by omega, by omega, by omega⟩), (fun k hk => ((up_ne (by omega)).trans rfl))⟩)
set_option maxRecDepth 100000 in
set_option maxHeartbeats 4000000 in
theorem s_X4_sumOf_ok {g : jG} {n : Nat} {ad : Nat → Nat} {E : Nat → va_E} {th : Int32} {F S : Nat} {hrs su : Int32} {gone : Int64} {lv ed : Nat → Int32} {first cnt : Nat} {ah : Nat → Int32} {mc : Nat} {mk : Nat → Int32} (D : MR g n ad E th F S hrs su gone lv ed first cnt ah mc mk) (fa sa fb sb : Nat) (hfa : fa < F) (hsa : sa < S) (hfb : fb < F) (hsb : sb < S) (h1 : fa ≤ fb) (h2 : sa ≤ sb) : RetP g mX4_sumOf 3 [.ref (ad 63), .int (nI fa), .int (nI sa), .int (nI fb), .int (nI sb)] n ad E (some (.long (sumP lv S fa sa fb sb))) (fun E9 => MR g n ad E9 0 F S hrs su gone lv ed first cnt ah mc mk ∧ ∀ k, (k < 63 ∨ 69 ≤ k) → E9 k = E k) := by
  obtain ⟨m0, m1, m2, m3, m4, ⟨wk, m5⟩, hF, hS, hFp, hSp, hfi, hcn, hmc, hn⟩ := id D
  intro Φ Ψ h
  show J g mX4_sumOf 3 0 0 0 [some (.ref (ad 63)), some (.int (nI fa)), some (.int (nI sa)), some (.int (nI fb)), some (.int (nI sb))] [] n ad E Φ Ψ
  refine j_aload_n dX4_sumOf_0 rfl ?_
  refine j_aload_n dX4_sumOf_1 rfl ?_
  refine j_iload_n dX4_sumOf_2 rfl ?_
  refine j_iload_n dX4_sumOf_3 rfl ?_
  refine j_iload_n dX4_sumOf_4 rfl ?_
  refine j_iload dX4_sumOf_5 rfl ?_
  refine j_cV (As := [.int (nI fa), .int (nI sa), .int (nI fb), .int (nI sb)]) (rest := [.ref (ad 63)]) cm_X4_part ci_X4_part cs_X4_part rfl ln_X4_91 (ci := 4) rfl dX4_sumOf_7 (d' := 2) (by decide) (by omega) m0 rfl rfl (Nat.le_of_ble_eq_true rfl) (Nat.le_of_ble_eq_true rfl) (s_part_ok D fa sa fb sb hfa hsa hfb hsb h1 h2) ?_
  refine j_put fl_X4_38 fp_X4 dX4_sumOf_10 (by omega) m0 (Or.inl rfl) rfl rfl (Nat.le_of_ble_eq_true rfl) ?_
  refine j_aload_n dX4_sumOf_13 rfl ?_
  refine j_get fl_X4_38 dX4_sumOf_14 (by omega) up_eq rfl ?_
  refine j_if_le_t (tgt := 24) dX4_sumOf_17 (by decide) (by decide) ?_
  refine j_aload_n dX4_sumOf_24 rfl ?_
  refine j_iload_n dX4_sumOf_25 rfl ?_
  refine j_iload_n dX4_sumOf_26 rfl ?_
  refine j_iload_n dX4_sumOf_27 rfl ?_
  refine j_iload dX4_sumOf_28 rfl ?_
  refine j_cV (As := [.int (nI fa), .int (nI sa), .int (nI fb), .int (nI sb)]) (rest := []) cm_X4_added ci_X4_added cs_X4_added rfl ln_X4_124 (ci := 4) rfl dX4_sumOf_30 (d' := 1) (by decide) (by omega) up_eq rfl rfl (Nat.le_of_ble_eq_true rfl) (Nat.le_of_ble_eq_true rfl) (s_X4_added (MR.setO D ⟨by omega, by omega, by omega, by omega, by omega, by omega, by omega⟩) fa sa fb sb (by omega) (by omega) (by omega) (by omega)) ?_
  exact j_lret dX4_sumOf_33 rfl (h _ ⟨(MR.setO D ⟨by omega, by omega, by omega, by omega, by omega, by omega, by omega⟩), (fun k hk => ((up_ne (by omega)).trans rfl))⟩)
set_option maxRecDepth 100000 in
set_option maxHeartbeats 4000000 in
theorem s_X4_sumOf_bad {g : jG} {n : Nat} {ad : Nat → Nat} {E : Nat → va_E} {th : Int32} {F S : Nat} {hrs su : Int32} {gone : Int64} {lv ed : Nat → Int32} {first cnt : Nat} {ah : Nat → Int32} {mc : Nat} {mk : Nat → Int32} (D : MR g n ad E th F S hrs su gone lv ed first cnt ah mc mk) (x1 x2 x3 x4 : Int32) (hx : oob x1 F ∨ oob x2 S ∨ oob x3 F ∨ oob x4 S) : RetP g mX4_sumOf 3 [.ref (ad 63), .int x1, .int x2, .int x3, .int x4] n ad E (some (.long 0)) (fun E9 => MR g n ad E9 1 F S hrs su gone lv ed first cnt ah mc mk ∧ ∀ k, (k < 63 ∨ 69 ≤ k) → E9 k = E k) := by
  obtain ⟨m0, m1, m2, m3, m4, ⟨wk, m5⟩, hF, hS, hFp, hSp, hfi, hcn, hmc, hn⟩ := id D
  intro Φ Ψ h
  show J g mX4_sumOf 3 0 0 0 [some (.ref (ad 63)), some (.int x1), some (.int x2), some (.int x3), some (.int x4)] [] n ad E Φ Ψ
  refine j_aload_n dX4_sumOf_0 rfl ?_
  refine j_aload_n dX4_sumOf_1 rfl ?_
  refine j_iload_n dX4_sumOf_2 rfl ?_
  refine j_iload_n dX4_sumOf_3 rfl ?_
  refine j_iload_n dX4_sumOf_4 rfl ?_
  refine j_iload dX4_sumOf_5 rfl ?_
  refine j_cV (As := [.int x1, .int x2, .int x3, .int x4]) (rest := [.ref (ad 63)]) cm_X4_part ci_X4_part cs_X4_part rfl ln_X4_91 (ci := 4) rfl dX4_sumOf_7 (d' := 2) (by decide) (by omega) m0 rfl rfl (Nat.le_of_ble_eq_true rfl) (Nat.le_of_ble_eq_true rfl) (s_part_bad D x1 x2 x3 x4 hx) ?_
  refine j_put fl_X4_38 fp_X4 dX4_sumOf_10 (by omega) m0 (Or.inl rfl) rfl rfl (Nat.le_of_ble_eq_true rfl) ?_
  refine j_aload_n dX4_sumOf_13 rfl ?_
  refine j_get fl_X4_38 dX4_sumOf_14 (by omega) up_eq rfl ?_
  refine j_if_le_f (tgt := 24) dX4_sumOf_17 (by decide) (by decide) ?_
  refine j_lconst (v := 0) dX4_sumOf_20 rfl ?_
  refine j_goto (tgt := 33) dX4_sumOf_21 (by decide) ?_
  exact j_lret dX4_sumOf_33 rfl (h _ ⟨(MR.setO D ⟨by omega, by omega, by omega, by omega, by omega, by omega, by omega⟩), (fun k hk => ((up_ne (by omega)).trans rfl))⟩)
set_option maxRecDepth 100000 in
set_option maxHeartbeats 4000000 in
theorem s_X4_sumOf_iae {g : jG} {n : Nat} {ad : Nat → Nat} {E : Nat → va_E} {th : Int32} {F S : Nat} {hrs su : Int32} {gone : Int64} {lv ed : Nat → Int32} {first cnt : Nat} {ah : Nat → Int32} {mc : Nat} {mk : Nat → Int32} (D : MR g n ad E th F S hrs su gone lv ed first cnt ah mc mk) (fa sa fb sb : Nat) (hfa : fa < F) (hsa : sa < S) (hfb : fb < F) (hsb : sb < S) (hx : fb < fa ∨ sb < sa) : RetP g mX4_sumOf 3 [.ref (ad 63), .int (nI fa), .int (nI sa), .int (nI fb), .int (nI sb)] n ad E (some (.long 0)) (fun E9 => MR g n ad E9 2 F S hrs su gone lv ed first cnt ah mc mk ∧ ∀ k, (k < 63 ∨ 69 ≤ k) → E9 k = E k) := by
  obtain ⟨m0, m1, m2, m3, m4, ⟨wk, m5⟩, hF, hS, hFp, hSp, hfi, hcn, hmc, hn⟩ := id D
  intro Φ Ψ h
  show J g mX4_sumOf 3 0 0 0 [some (.ref (ad 63)), some (.int (nI fa)), some (.int (nI sa)), some (.int (nI fb)), some (.int (nI sb))] [] n ad E Φ Ψ
  refine j_aload_n dX4_sumOf_0 rfl ?_
  refine j_aload_n dX4_sumOf_1 rfl ?_
  refine j_iload_n dX4_sumOf_2 rfl ?_
  refine j_iload_n dX4_sumOf_3 rfl ?_
  refine j_iload_n dX4_sumOf_4 rfl ?_
  refine j_iload dX4_sumOf_5 rfl ?_
  refine j_cV (As := [.int (nI fa), .int (nI sa), .int (nI fb), .int (nI sb)]) (rest := [.ref (ad 63)]) cm_X4_part ci_X4_part cs_X4_part rfl ln_X4_91 (ci := 4) rfl dX4_sumOf_7 (d' := 2) (by decide) (by omega) m0 rfl rfl (Nat.le_of_ble_eq_true rfl) (Nat.le_of_ble_eq_true rfl) (s_part_iae D fa sa fb sb hfa hsa hfb hsb hx) ?_
  refine j_put fl_X4_38 fp_X4 dX4_sumOf_10 (by omega) m0 (Or.inl rfl) rfl rfl (Nat.le_of_ble_eq_true rfl) ?_
  refine j_aload_n dX4_sumOf_13 rfl ?_
  refine j_get fl_X4_38 dX4_sumOf_14 (by omega) up_eq rfl ?_
  refine j_if_le_f (tgt := 24) dX4_sumOf_17 (by decide) (by decide) ?_
  refine j_lconst (v := 0) dX4_sumOf_20 rfl ?_
  refine j_goto (tgt := 33) dX4_sumOf_21 (by decide) ?_
  exact j_lret dX4_sumOf_33 rfl (h _ ⟨(MR.setO D ⟨by omega, by omega, by omega, by omega, by omega, by omega, by omega⟩), (fun k hk => ((up_ne (by omega)).trans rfl))⟩)
set_option maxRecDepth 100000 in
set_option maxHeartbeats 4000000 in
theorem s_X4_dryIn_ok {g : jG} {n : Nat} {ad : Nat → Nat} {E : Nat → va_E} {th : Int32} {F S : Nat} {hrs su : Int32} {gone : Int64} {lv ed : Nat → Int32} {first cnt : Nat} {ah : Nat → Int32} {mc : Nat} {mk : Nat → Int32} (D : MR g n ad E th F S hrs su gone lv ed first cnt ah mc mk) (fa sa fb sb : Nat) (hfa : fa < F) (hsa : sa < S) (hfb : fb < F) (hsb : sb < S) (h1 : fa ≤ fb) (h2 : sa ≤ sb) : RetP g mX4_dryIn 3 [.ref (ad 63), .int (nI fa), .int (nI sa), .int (nI fb), .int (nI sb)] n ad E (some (.int (dryP lv S fa sa fb sb))) (fun E9 => MR g n ad E9 0 F S hrs su gone lv ed first cnt ah mc mk ∧ ∀ k, (k < 63 ∨ 69 ≤ k) → E9 k = E k) := by
  obtain ⟨m0, m1, m2, m3, m4, ⟨wk, m5⟩, hF, hS, hFp, hSp, hfi, hcn, hmc, hn⟩ := id D
  intro Φ Ψ h
  show J g mX4_dryIn 3 0 0 0 [some (.ref (ad 63)), some (.int (nI fa)), some (.int (nI sa)), some (.int (nI fb)), some (.int (nI sb))] [] n ad E Φ Ψ
  refine j_aload_n dX4_dryIn_0 rfl ?_
  refine j_aload_n dX4_dryIn_1 rfl ?_
  refine j_iload_n dX4_dryIn_2 rfl ?_
  refine j_iload_n dX4_dryIn_3 rfl ?_
  refine j_iload_n dX4_dryIn_4 rfl ?_
  refine j_iload dX4_dryIn_5 rfl ?_
  refine j_cV (As := [.int (nI fa), .int (nI sa), .int (nI fb), .int (nI sb)]) (rest := [.ref (ad 63)]) cm_X4_part ci_X4_part cs_X4_part rfl ln_X4_91 (ci := 4) rfl dX4_dryIn_7 (d' := 2) (by decide) (by omega) m0 rfl rfl (Nat.le_of_ble_eq_true rfl) (Nat.le_of_ble_eq_true rfl) (s_part_ok D fa sa fb sb hfa hsa hfb hsb h1 h2) ?_
  refine j_put fl_X4_38 fp_X4 dX4_dryIn_10 (by omega) m0 (Or.inl rfl) rfl rfl (Nat.le_of_ble_eq_true rfl) ?_
  refine j_aload_n dX4_dryIn_13 rfl ?_
  refine j_get fl_X4_38 dX4_dryIn_14 (by omega) up_eq rfl ?_
  refine j_if_le_t (tgt := 24) dX4_dryIn_17 (by decide) (by decide) ?_
  refine j_aload_n dX4_dryIn_24 rfl ?_
  refine j_iload_n dX4_dryIn_25 rfl ?_
  refine j_iload_n dX4_dryIn_26 rfl ?_
  refine j_iload_n dX4_dryIn_27 rfl ?_
  refine j_iload dX4_dryIn_28 rfl ?_
  refine j_cV (As := [.int (nI fa), .int (nI sa), .int (nI fb), .int (nI sb)]) (rest := []) cm_X4_dryPart ci_X4_dryPart cs_X4_dryPart rfl ln_X4_148 (ci := 4) rfl dX4_dryIn_30 (d' := 1) (by decide) (by omega) up_eq rfl rfl (Nat.le_of_ble_eq_true rfl) (Nat.le_of_ble_eq_true rfl) (s_X4_dryPart (MR.setO D ⟨by omega, by omega, by omega, by omega, by omega, by omega, by omega⟩) fa sa fb sb (by omega) (by omega) (by omega) (by omega)) ?_
  exact j_iret dX4_dryIn_33 rfl (h _ ⟨(MR.setO D ⟨by omega, by omega, by omega, by omega, by omega, by omega, by omega⟩), (fun k hk => ((up_ne (by omega)).trans rfl))⟩)
set_option maxRecDepth 100000 in
set_option maxHeartbeats 4000000 in
theorem s_X4_dryIn_bad {g : jG} {n : Nat} {ad : Nat → Nat} {E : Nat → va_E} {th : Int32} {F S : Nat} {hrs su : Int32} {gone : Int64} {lv ed : Nat → Int32} {first cnt : Nat} {ah : Nat → Int32} {mc : Nat} {mk : Nat → Int32} (D : MR g n ad E th F S hrs su gone lv ed first cnt ah mc mk) (x1 x2 x3 x4 : Int32) (hx : oob x1 F ∨ oob x2 S ∨ oob x3 F ∨ oob x4 S) : RetP g mX4_dryIn 3 [.ref (ad 63), .int x1, .int x2, .int x3, .int x4] n ad E (some (.int 0)) (fun E9 => MR g n ad E9 1 F S hrs su gone lv ed first cnt ah mc mk ∧ ∀ k, (k < 63 ∨ 69 ≤ k) → E9 k = E k) := by
  obtain ⟨m0, m1, m2, m3, m4, ⟨wk, m5⟩, hF, hS, hFp, hSp, hfi, hcn, hmc, hn⟩ := id D
  intro Φ Ψ h
  show J g mX4_dryIn 3 0 0 0 [some (.ref (ad 63)), some (.int x1), some (.int x2), some (.int x3), some (.int x4)] [] n ad E Φ Ψ
  refine j_aload_n dX4_dryIn_0 rfl ?_
  refine j_aload_n dX4_dryIn_1 rfl ?_
  refine j_iload_n dX4_dryIn_2 rfl ?_
  refine j_iload_n dX4_dryIn_3 rfl ?_
  refine j_iload_n dX4_dryIn_4 rfl ?_
  refine j_iload dX4_dryIn_5 rfl ?_
  refine j_cV (As := [.int x1, .int x2, .int x3, .int x4]) (rest := [.ref (ad 63)]) cm_X4_part ci_X4_part cs_X4_part rfl ln_X4_91 (ci := 4) rfl dX4_dryIn_7 (d' := 2) (by decide) (by omega) m0 rfl rfl (Nat.le_of_ble_eq_true rfl) (Nat.le_of_ble_eq_true rfl) (s_part_bad D x1 x2 x3 x4 hx) ?_
  refine j_put fl_X4_38 fp_X4 dX4_dryIn_10 (by omega) m0 (Or.inl rfl) rfl rfl (Nat.le_of_ble_eq_true rfl) ?_
  refine j_aload_n dX4_dryIn_13 rfl ?_
  refine j_get fl_X4_38 dX4_dryIn_14 (by omega) up_eq rfl ?_
  refine j_if_le_f (tgt := 24) dX4_dryIn_17 (by decide) (by decide) ?_
  refine j_iconst (v := 0) dX4_dryIn_20 (by decide) ?_
  refine j_goto (tgt := 33) dX4_dryIn_21 (by decide) ?_
  exact j_iret dX4_dryIn_33 rfl (h _ ⟨(MR.setO D ⟨by omega, by omega, by omega, by omega, by omega, by omega, by omega⟩), (fun k hk => ((up_ne (by omega)).trans rfl))⟩)
set_option maxRecDepth 100000 in
set_option maxHeartbeats 4000000 in
theorem s_X4_dryIn_iae {g : jG} {n : Nat} {ad : Nat → Nat} {E : Nat → va_E} {th : Int32} {F S : Nat} {hrs su : Int32} {gone : Int64} {lv ed : Nat → Int32} {first cnt : Nat} {ah : Nat → Int32} {mc : Nat} {mk : Nat → Int32} (D : MR g n ad E th F S hrs su gone lv ed first cnt ah mc mk) (fa sa fb sb : Nat) (hfa : fa < F) (hsa : sa < S) (hfb : fb < F) (hsb : sb < S) (hx : fb < fa ∨ sb < sa) : RetP g mX4_dryIn 3 [.ref (ad 63), .int (nI fa), .int (nI sa), .int (nI fb), .int (nI sb)] n ad E (some (.int 0)) (fun E9 => MR g n ad E9 2 F S hrs su gone lv ed first cnt ah mc mk ∧ ∀ k, (k < 63 ∨ 69 ≤ k) → E9 k = E k) := by
  obtain ⟨m0, m1, m2, m3, m4, ⟨wk, m5⟩, hF, hS, hFp, hSp, hfi, hcn, hmc, hn⟩ := id D
  intro Φ Ψ h
  show J g mX4_dryIn 3 0 0 0 [some (.ref (ad 63)), some (.int (nI fa)), some (.int (nI sa)), some (.int (nI fb)), some (.int (nI sb))] [] n ad E Φ Ψ
  refine j_aload_n dX4_dryIn_0 rfl ?_
  refine j_aload_n dX4_dryIn_1 rfl ?_
  refine j_iload_n dX4_dryIn_2 rfl ?_
  refine j_iload_n dX4_dryIn_3 rfl ?_
  refine j_iload_n dX4_dryIn_4 rfl ?_
  refine j_iload dX4_dryIn_5 rfl ?_
  refine j_cV (As := [.int (nI fa), .int (nI sa), .int (nI fb), .int (nI sb)]) (rest := [.ref (ad 63)]) cm_X4_part ci_X4_part cs_X4_part rfl ln_X4_91 (ci := 4) rfl dX4_dryIn_7 (d' := 2) (by decide) (by omega) m0 rfl rfl (Nat.le_of_ble_eq_true rfl) (Nat.le_of_ble_eq_true rfl) (s_part_iae D fa sa fb sb hfa hsa hfb hsb hx) ?_
  refine j_put fl_X4_38 fp_X4 dX4_dryIn_10 (by omega) m0 (Or.inl rfl) rfl rfl (Nat.le_of_ble_eq_true rfl) ?_
  refine j_aload_n dX4_dryIn_13 rfl ?_
  refine j_get fl_X4_38 dX4_dryIn_14 (by omega) up_eq rfl ?_
  refine j_if_le_f (tgt := 24) dX4_dryIn_17 (by decide) (by decide) ?_
  refine j_iconst (v := 0) dX4_dryIn_20 (by decide) ?_
  refine j_goto (tgt := 33) dX4_dryIn_21 (by decide) ?_
  exact j_iret dX4_dryIn_33 rfl (h _ ⟨(MR.setO D ⟨by omega, by omega, by omega, by omega, by omega, by omega, by omega⟩), (fun k hk => ((up_ne (by omega)).trans rfl))⟩)
set_option maxRecDepth 100000 in
set_option maxHeartbeats 4000000 in
theorem s_X4_sumTo_ok {g : jG} {n : Nat} {ad : Nat → Nat} {E : Nat → va_E} {th : Int32} {F S : Nat} {hrs su : Int32} {gone : Int64} {lv ed : Nat → Int32} {first cnt : Nat} {ah : Nat → Int32} {mc : Nat} {mk : Nat → Int32} (D : MR g n ad E th F S hrs su gone lv ed first cnt ah mc mk) (a b : Nat) (ha : a < F) (hb : b < S) : RetP g mX4_sumTo 2 [.ref (ad 63), .int (nI a), .int (nI b)] n ad E (some (.long (sumP lv S 0 0 a b))) (fun E9 => MR g n ad E9 0 F S hrs su gone lv ed first cnt ah mc mk ∧ ∀ k, (k < 63 ∨ 69 ≤ k) → E9 k = E k) := by
  obtain ⟨m0, m1, m2, m3, m4, ⟨wk, m5⟩, hF, hS, hFp, hSp, hfi, hcn, hmc, hn⟩ := id D
  intro Φ Ψ h
  show J g mX4_sumTo 2 0 0 0 [some (.ref (ad 63)), some (.int (nI a)), some (.int (nI b))] [] n ad E Φ Ψ
  refine j_aload_n dX4_sumTo_0 rfl ?_
  refine j_aload_n dX4_sumTo_1 rfl ?_
  refine j_iload_n dX4_sumTo_2 rfl ?_
  refine j_cV (As := [.int (nI a)]) (rest := [.ref (ad 63)]) cm_X4_isFlight ci_X4_isFlight cs_X4_isFlight rfl ln_X4_48 (ci := 4) rfl dX4_sumTo_3 (d' := 1) (by decide) (by omega) m0 rfl rfl (Nat.le_of_ble_eq_true rfl) (Nat.le_of_ble_eq_true rfl) (s_isFlight_t D a ha) ?_
  refine j_if_eq_f (tgt := 21) dX4_sumTo_6 (by decide) (by decide) ?_
  refine j_aload_n dX4_sumTo_9 rfl ?_
  refine j_iload_n dX4_sumTo_10 rfl ?_
  refine j_cV (As := [.int (nI b)]) (rest := [.ref (ad 63)]) cm_X4_isStep ci_X4_isStep cs_X4_isStep rfl ln_X4_52 (ci := 4) rfl dX4_sumTo_11 (d' := 1) (by decide) (by omega) m0 rfl rfl (Nat.le_of_ble_eq_true rfl) (Nat.le_of_ble_eq_true rfl) (s_isStep_t D b hb) ?_
  refine j_if_eq_f (tgt := 21) dX4_sumTo_14 (by decide) (by decide) ?_
  refine j_iconst (v := 0) dX4_sumTo_17 (by decide) ?_
  refine j_goto (tgt := 22) dX4_sumTo_18 (by decide) ?_
  refine j_put fl_X4_38 fp_X4 dX4_sumTo_22 (by omega) m0 (Or.inl rfl) rfl rfl (Nat.le_of_ble_eq_true rfl) ?_
  refine j_aload_n dX4_sumTo_25 rfl ?_
  refine j_get fl_X4_38 dX4_sumTo_26 (by omega) up_eq rfl ?_
  refine j_if_le_t (tgt := 36) dX4_sumTo_29 (by decide) (by decide) ?_
  refine j_aload_n dX4_sumTo_36 rfl ?_
  refine j_iconst (v := nI 0) dX4_sumTo_37 (by decide) ?_
  refine j_iconst (v := nI 0) dX4_sumTo_38 (by decide) ?_
  refine j_iload_n dX4_sumTo_39 rfl ?_
  refine j_iload_n dX4_sumTo_40 rfl ?_
  refine j_cV (As := [.int (nI 0), .int (nI 0), .int (nI a), .int (nI b)]) (rest := []) cm_X4_added ci_X4_added cs_X4_added rfl ln_X4_124 (ci := 4) rfl dX4_sumTo_41 (d' := 1) (by decide) (by omega) up_eq rfl rfl (Nat.le_of_ble_eq_true rfl) (Nat.le_of_ble_eq_true rfl) (s_X4_added (MR.setO D ⟨by omega, by omega, by omega, by omega, by omega, by omega, by omega⟩) 0 0 a b (by omega) (by omega) (by omega) (by omega)) ?_
  exact j_lret dX4_sumTo_44 rfl (h _ ⟨(MR.setO D ⟨by omega, by omega, by omega, by omega, by omega, by omega, by omega⟩), (fun k hk => ((up_ne (by omega)).trans rfl))⟩)
set_option maxRecDepth 100000 in
set_option maxHeartbeats 4000000 in
theorem s_X4_sumTo_bad {g : jG} {n : Nat} {ad : Nat → Nat} {E : Nat → va_E} {th : Int32} {F S : Nat} {hrs su : Int32} {gone : Int64} {lv ed : Nat → Int32} {first cnt : Nat} {ah : Nat → Int32} {mc : Nat} {mk : Nat → Int32} (D : MR g n ad E th F S hrs su gone lv ed first cnt ah mc mk) (x y : Int32) (hx : oob x F ∨ oob y S) : RetP g mX4_sumTo 2 [.ref (ad 63), .int x, .int y] n ad E (some (.long 0)) (fun E9 => MR g n ad E9 1 F S hrs su gone lv ed first cnt ah mc mk ∧ ∀ k, (k < 63 ∨ 69 ≤ k) → E9 k = E k) := by
  obtain ⟨m0, m1, m2, m3, m4, ⟨wk, m5⟩, hF, hS, hFp, hSp, hfi, hcn, hmc, hn⟩ := id D
  intro Φ Ψ h
  show J g mX4_sumTo 2 0 0 0 [some (.ref (ad 63)), some (.int x), some (.int y)] [] n ad E Φ Ψ
  rcases oob_or x (show F < 2 ^ 31 by omega) with q | ⟨a, ha, rfl⟩
  · skip
    refine j_aload_n dX4_sumTo_0 rfl ?_
    refine j_aload_n dX4_sumTo_1 rfl ?_
    refine j_iload_n dX4_sumTo_2 rfl ?_
    refine j_cV (As := [.int x]) (rest := [.ref (ad 63)]) cm_X4_isFlight ci_X4_isFlight cs_X4_isFlight rfl ln_X4_48 (ci := 4) rfl dX4_sumTo_3 (d' := 1) (by decide) (by omega) m0 rfl rfl (Nat.le_of_ble_eq_true rfl) (Nat.le_of_ble_eq_true rfl) (s_isFlight_f D x q) ?_
    refine j_if_eq_t (tgt := 21) dX4_sumTo_6 (by decide) (by decide) ?_
    refine j_iconst (v := 1) dX4_sumTo_21 (by decide) ?_
    refine j_put fl_X4_38 fp_X4 dX4_sumTo_22 (by omega) m0 (Or.inl rfl) rfl rfl (Nat.le_of_ble_eq_true rfl) ?_
    refine j_aload_n dX4_sumTo_25 rfl ?_
    refine j_get fl_X4_38 dX4_sumTo_26 (by omega) up_eq rfl ?_
    refine j_if_le_f (tgt := 36) dX4_sumTo_29 (by decide) (by decide) ?_
    refine j_lconst (v := 0) dX4_sumTo_32 rfl ?_
    refine j_goto (tgt := 44) dX4_sumTo_33 (by decide) ?_
    exact j_lret dX4_sumTo_44 rfl (h _ ⟨(MR.setO D ⟨by omega, by omega, by omega, by omega, by omega, by omega, by omega⟩), (fun k hk => ((up_ne (by omega)).trans rfl))⟩)
  · skip
    have hy := hx.resolve_left (not_oob ha (by omega))
    refine j_aload_n dX4_sumTo_0 rfl ?_
    refine j_aload_n dX4_sumTo_1 rfl ?_
    refine j_iload_n dX4_sumTo_2 rfl ?_
    refine j_cV (As := [.int (nI a)]) (rest := [.ref (ad 63)]) cm_X4_isFlight ci_X4_isFlight cs_X4_isFlight rfl ln_X4_48 (ci := 4) rfl dX4_sumTo_3 (d' := 1) (by decide) (by omega) m0 rfl rfl (Nat.le_of_ble_eq_true rfl) (Nat.le_of_ble_eq_true rfl) (s_isFlight_t D a ha) ?_
    refine j_if_eq_f (tgt := 21) dX4_sumTo_6 (by decide) (by decide) ?_
    refine j_aload_n dX4_sumTo_9 rfl ?_
    refine j_iload_n dX4_sumTo_10 rfl ?_
    refine j_cV (As := [.int y]) (rest := [.ref (ad 63)]) cm_X4_isStep ci_X4_isStep cs_X4_isStep rfl ln_X4_52 (ci := 4) rfl dX4_sumTo_11 (d' := 1) (by decide) (by omega) m0 rfl rfl (Nat.le_of_ble_eq_true rfl) (Nat.le_of_ble_eq_true rfl) (s_isStep_f D y hy) ?_
    refine j_if_eq_t (tgt := 21) dX4_sumTo_14 (by decide) (by decide) ?_
    refine j_iconst (v := 1) dX4_sumTo_21 (by decide) ?_
    refine j_put fl_X4_38 fp_X4 dX4_sumTo_22 (by omega) m0 (Or.inl rfl) rfl rfl (Nat.le_of_ble_eq_true rfl) ?_
    refine j_aload_n dX4_sumTo_25 rfl ?_
    refine j_get fl_X4_38 dX4_sumTo_26 (by omega) up_eq rfl ?_
    refine j_if_le_f (tgt := 36) dX4_sumTo_29 (by decide) (by decide) ?_
    refine j_lconst (v := 0) dX4_sumTo_32 rfl ?_
    refine j_goto (tgt := 44) dX4_sumTo_33 (by decide) ?_
    exact j_lret dX4_sumTo_44 rfl (h _ ⟨(MR.setO D ⟨by omega, by omega, by omega, by omega, by omega, by omega, by omega⟩), (fun k hk => ((up_ne (by omega)).trans rfl))⟩)
set_option maxRecDepth 100000 in
set_option maxHeartbeats 4000000 in
theorem s_X4_flightSum_ok {g : jG} {n : Nat} {ad : Nat → Nat} {E : Nat → va_E} {th : Int32} {F S : Nat} {hrs su : Int32} {gone : Int64} {lv ed : Nat → Int32} {first cnt : Nat} {ah : Nat → Int32} {mc : Nat} {mk : Nat → Int32} (D : MR g n ad E th F S hrs su gone lv ed first cnt ah mc mk) (a : Nat) (ha : a < F) : RetP g mX4_flightSum 3 [.ref (ad 63), .int (nI a)] n ad E (some (.long (sumP lv S a 0 a (S - 1)))) (fun E9 => MR g n ad E9 0 F S hrs su gone lv ed first cnt ah mc mk ∧ ∀ k, (k < 63 ∨ 69 ≤ k) → E9 k = E k) := by
  obtain ⟨m0, m1, m2, m3, m4, ⟨wk, m5⟩, hF, hS, hFp, hSp, hfi, hcn, hmc, hn⟩ := id D
  intro Φ Ψ h
  show J g mX4_flightSum 3 0 0 0 [some (.ref (ad 63)), some (.int (nI a))] [] n ad E Φ Ψ
  refine j_aload_n dX4_flightSum_0 rfl ?_
  refine j_aload_n dX4_flightSum_1 rfl ?_
  refine j_iload_n dX4_flightSum_2 rfl ?_
  refine j_cV (As := [.int (nI a)]) (rest := [.ref (ad 63)]) cm_X4_isFlight ci_X4_isFlight cs_X4_isFlight rfl ln_X4_48 (ci := 4) rfl dX4_flightSum_3 (d' := 1) (by decide) (by omega) m0 rfl rfl (Nat.le_of_ble_eq_true rfl) (Nat.le_of_ble_eq_true rfl) (s_isFlight_t D a ha) ?_
  refine j_if_eq_f (tgt := 13) dX4_flightSum_6 (by decide) (by decide) ?_
  refine j_iconst (v := 0) dX4_flightSum_9 (by decide) ?_
  refine j_goto (tgt := 14) dX4_flightSum_10 (by decide) ?_
  refine j_put fl_X4_38 fp_X4 dX4_flightSum_14 (by omega) m0 (Or.inl rfl) rfl rfl (Nat.le_of_ble_eq_true rfl) ?_
  refine j_aload_n dX4_flightSum_17 rfl ?_
  refine j_get fl_X4_38 dX4_flightSum_18 (by omega) up_eq rfl ?_
  refine j_if_le_t (tgt := 28) dX4_flightSum_21 (by decide) (by decide) ?_
  refine j_aload_n dX4_flightSum_28 rfl ?_
  refine j_iload_n dX4_flightSum_29 rfl ?_
  refine j_cV (As := [.int (nI a)]) (rest := []) cm_X4_ofFlight ci_X4_ofFlight cs_X4_ofFlight rfl ln_X4_128 (ci := 4) rfl dX4_flightSum_30 (d' := 2) (by decide) (by omega) up_eq rfl rfl (Nat.le_of_ble_eq_true rfl) (Nat.le_of_ble_eq_true rfl) (s_X4_ofFlight (MR.setO D ⟨by omega, by omega, by omega, by omega, by omega, by omega, by omega⟩) a ha) ?_
  exact j_lret dX4_flightSum_33 rfl (h _ ⟨(MR.setO D ⟨by omega, by omega, by omega, by omega, by omega, by omega, by omega⟩), (fun k hk => ((up_ne (by omega)).trans rfl))⟩)
set_option maxRecDepth 100000 in
set_option maxHeartbeats 4000000 in
theorem s_X4_flightSum_bad {g : jG} {n : Nat} {ad : Nat → Nat} {E : Nat → va_E} {th : Int32} {F S : Nat} {hrs su : Int32} {gone : Int64} {lv ed : Nat → Int32} {first cnt : Nat} {ah : Nat → Int32} {mc : Nat} {mk : Nat → Int32} (D : MR g n ad E th F S hrs su gone lv ed first cnt ah mc mk) (x : Int32) (hx : oob x F) : RetP g mX4_flightSum 3 [.ref (ad 63), .int x] n ad E (some (.long 0)) (fun E9 => MR g n ad E9 1 F S hrs su gone lv ed first cnt ah mc mk ∧ ∀ k, (k < 63 ∨ 69 ≤ k) → E9 k = E k) := by
  obtain ⟨m0, m1, m2, m3, m4, ⟨wk, m5⟩, hF, hS, hFp, hSp, hfi, hcn, hmc, hn⟩ := id D
  intro Φ Ψ h
  show J g mX4_flightSum 3 0 0 0 [some (.ref (ad 63)), some (.int x)] [] n ad E Φ Ψ
  refine j_aload_n dX4_flightSum_0 rfl ?_
  refine j_aload_n dX4_flightSum_1 rfl ?_
  refine j_iload_n dX4_flightSum_2 rfl ?_
  refine j_cV (As := [.int x]) (rest := [.ref (ad 63)]) cm_X4_isFlight ci_X4_isFlight cs_X4_isFlight rfl ln_X4_48 (ci := 4) rfl dX4_flightSum_3 (d' := 1) (by decide) (by omega) m0 rfl rfl (Nat.le_of_ble_eq_true rfl) (Nat.le_of_ble_eq_true rfl) (s_isFlight_f D x hx) ?_
  refine j_if_eq_t (tgt := 13) dX4_flightSum_6 (by decide) (by decide) ?_
  refine j_iconst (v := 1) dX4_flightSum_13 (by decide) ?_
  refine j_put fl_X4_38 fp_X4 dX4_flightSum_14 (by omega) m0 (Or.inl rfl) rfl rfl (Nat.le_of_ble_eq_true rfl) ?_
  refine j_aload_n dX4_flightSum_17 rfl ?_
  refine j_get fl_X4_38 dX4_flightSum_18 (by omega) up_eq rfl ?_
  refine j_if_le_f (tgt := 28) dX4_flightSum_21 (by decide) (by decide) ?_
  refine j_lconst (v := 0) dX4_flightSum_24 rfl ?_
  refine j_goto (tgt := 33) dX4_flightSum_25 (by decide) ?_
  exact j_lret dX4_flightSum_33 rfl (h _ ⟨(MR.setO D ⟨by omega, by omega, by omega, by omega, by omega, by omega, by omega⟩), (fun k hk => ((up_ne (by omega)).trans rfl))⟩)
set_option maxRecDepth 100000 in
set_option maxHeartbeats 4000000 in
theorem s_X4_stepSum_ok {g : jG} {n : Nat} {ad : Nat → Nat} {E : Nat → va_E} {th : Int32} {F S : Nat} {hrs su : Int32} {gone : Int64} {lv ed : Nat → Int32} {first cnt : Nat} {ah : Nat → Int32} {mc : Nat} {mk : Nat → Int32} (D : MR g n ad E th F S hrs su gone lv ed first cnt ah mc mk) (b : Nat) (hb : b < S) : RetP g mX4_stepSum 3 [.ref (ad 63), .int (nI b)] n ad E (some (.long (sumP lv S 0 b (F - 1) b))) (fun E9 => MR g n ad E9 0 F S hrs su gone lv ed first cnt ah mc mk ∧ ∀ k, (k < 63 ∨ 69 ≤ k) → E9 k = E k) := by
  obtain ⟨m0, m1, m2, m3, m4, ⟨wk, m5⟩, hF, hS, hFp, hSp, hfi, hcn, hmc, hn⟩ := id D
  intro Φ Ψ h
  show J g mX4_stepSum 3 0 0 0 [some (.ref (ad 63)), some (.int (nI b))] [] n ad E Φ Ψ
  refine j_aload_n dX4_stepSum_0 rfl ?_
  refine j_aload_n dX4_stepSum_1 rfl ?_
  refine j_iload_n dX4_stepSum_2 rfl ?_
  refine j_cV (As := [.int (nI b)]) (rest := [.ref (ad 63)]) cm_X4_isStep ci_X4_isStep cs_X4_isStep rfl ln_X4_52 (ci := 4) rfl dX4_stepSum_3 (d' := 1) (by decide) (by omega) m0 rfl rfl (Nat.le_of_ble_eq_true rfl) (Nat.le_of_ble_eq_true rfl) (s_isStep_t D b hb) ?_
  refine j_if_eq_f (tgt := 13) dX4_stepSum_6 (by decide) (by decide) ?_
  refine j_iconst (v := 0) dX4_stepSum_9 (by decide) ?_
  refine j_goto (tgt := 14) dX4_stepSum_10 (by decide) ?_
  refine j_put fl_X4_38 fp_X4 dX4_stepSum_14 (by omega) m0 (Or.inl rfl) rfl rfl (Nat.le_of_ble_eq_true rfl) ?_
  refine j_aload_n dX4_stepSum_17 rfl ?_
  refine j_get fl_X4_38 dX4_stepSum_18 (by omega) up_eq rfl ?_
  refine j_if_le_t (tgt := 28) dX4_stepSum_21 (by decide) (by decide) ?_
  refine j_aload_n dX4_stepSum_28 rfl ?_
  refine j_iload_n dX4_stepSum_29 rfl ?_
  refine j_cV (As := [.int (nI b)]) (rest := []) cm_X4_ofStep ci_X4_ofStep cs_X4_ofStep rfl ln_X4_132 (ci := 4) rfl dX4_stepSum_30 (d' := 2) (by decide) (by omega) up_eq rfl rfl (Nat.le_of_ble_eq_true rfl) (Nat.le_of_ble_eq_true rfl) (s_X4_ofStep (MR.setO D ⟨by omega, by omega, by omega, by omega, by omega, by omega, by omega⟩) b hb) ?_
  exact j_lret dX4_stepSum_33 rfl (h _ ⟨(MR.setO D ⟨by omega, by omega, by omega, by omega, by omega, by omega, by omega⟩), (fun k hk => ((up_ne (by omega)).trans rfl))⟩)
set_option maxRecDepth 100000 in
set_option maxHeartbeats 4000000 in
theorem s_X4_stepSum_bad {g : jG} {n : Nat} {ad : Nat → Nat} {E : Nat → va_E} {th : Int32} {F S : Nat} {hrs su : Int32} {gone : Int64} {lv ed : Nat → Int32} {first cnt : Nat} {ah : Nat → Int32} {mc : Nat} {mk : Nat → Int32} (D : MR g n ad E th F S hrs su gone lv ed first cnt ah mc mk) (x : Int32) (hx : oob x S) : RetP g mX4_stepSum 3 [.ref (ad 63), .int x] n ad E (some (.long 0)) (fun E9 => MR g n ad E9 1 F S hrs su gone lv ed first cnt ah mc mk ∧ ∀ k, (k < 63 ∨ 69 ≤ k) → E9 k = E k) := by
  obtain ⟨m0, m1, m2, m3, m4, ⟨wk, m5⟩, hF, hS, hFp, hSp, hfi, hcn, hmc, hn⟩ := id D
  intro Φ Ψ h
  show J g mX4_stepSum 3 0 0 0 [some (.ref (ad 63)), some (.int x)] [] n ad E Φ Ψ
  refine j_aload_n dX4_stepSum_0 rfl ?_
  refine j_aload_n dX4_stepSum_1 rfl ?_
  refine j_iload_n dX4_stepSum_2 rfl ?_
  refine j_cV (As := [.int x]) (rest := [.ref (ad 63)]) cm_X4_isStep ci_X4_isStep cs_X4_isStep rfl ln_X4_52 (ci := 4) rfl dX4_stepSum_3 (d' := 1) (by decide) (by omega) m0 rfl rfl (Nat.le_of_ble_eq_true rfl) (Nat.le_of_ble_eq_true rfl) (s_isStep_f D x hx) ?_
  refine j_if_eq_t (tgt := 13) dX4_stepSum_6 (by decide) (by decide) ?_
  refine j_iconst (v := 1) dX4_stepSum_13 (by decide) ?_
  refine j_put fl_X4_38 fp_X4 dX4_stepSum_14 (by omega) m0 (Or.inl rfl) rfl rfl (Nat.le_of_ble_eq_true rfl) ?_
  refine j_aload_n dX4_stepSum_17 rfl ?_
  refine j_get fl_X4_38 dX4_stepSum_18 (by omega) up_eq rfl ?_
  refine j_if_le_f (tgt := 28) dX4_stepSum_21 (by decide) (by decide) ?_
  refine j_lconst (v := 0) dX4_stepSum_24 rfl ?_
  refine j_goto (tgt := 33) dX4_stepSum_25 (by decide) ?_
  exact j_lret dX4_stepSum_33 rfl (h _ ⟨(MR.setO D ⟨by omega, by omega, by omega, by omega, by omega, by omega, by omega⟩), (fun k hk => ((up_ne (by omega)).trans rfl))⟩)
set_option maxRecDepth 100000 in
set_option maxHeartbeats 4000000 in
theorem s_X4_reaching_some {g : jG} {n : Nat} {ad : Nat → Nat} {E : Nat → va_E} {th : Int32} {F S : Nat} {hrs su : Int32} {gone : Int64} {lv ed : Nat → Int32} {first cnt : Nat} {ah : Nat → Int32} {mc : Nat} {mk : Nat → Int32} (D : MR g n ad E th F S hrs su gone lv ed first cnt ah mc mk) (a : Nat) (ha : a < F) (x : Int32) (s0 : Nat) (hs0 : reachR lv S a x = .inr s0) : Ret g mX4_reaching 1 [.ref (ad 63), .int (nI a), .int x] n ad E (some (.int (nI s0))) E := by
  obtain ⟨m0, m1, m2, m3, m4, ⟨wk, m5⟩, hF, hS, hFp, hSp, hfi, hcn, hmc, hn⟩ := id D
  intro Φ Ψ h
  show J g mX4_reaching 1 0 0 0 [some (.ref (ad 63)), some (.int (nI a)), some (.int x), none, none, none] [] n ad E Φ Ψ
  refine j_lconst (v := 0) dX4_reaching_0 rfl ?_
  refine j_lstore_n (L' := [some (.ref (ad 63)), some (.int (nI a)), some (.int x), some (.long 0), none, none]) dX4_reaching_1 (by decide) rfl rfl ?_
  refine j_iconst (v := nI 0) dX4_reaching_2 (by decide) ?_
  refine j_istore (L' := [some (.ref (ad 63)), some (.int (nI a)), some (.int x), some (.long 0), none, some (.int (nI 0))]) dX4_reaching_3 (by decide) rfl rfl ?_
  refine lpe_ind (b := fun s y => if lg_cmp (y + (lv (a * S + s)).toInt64) x.toInt64 < 0 then .inl (y + (lv (a * S + s)).toInt64) else .inr s) (P := fun (s : Nat) (y : Int64) => J g mX4_reaching 1 0 0 5 [some (.ref (ad 63)), some (.int (nI a)), some (.int x), some (.long y), none, some (.int (nI s))] [] n ad E Φ Ψ) (Pb := fun s0 => Φ (some (.int (nI s0))) n ad E) (N := S) 0 ?_ S 0 (by omega) ?_
  · intro s y hs0 hs ih
    show J g mX4_reaching 1 0 0 5 [some (.ref (ad 63)), some (.int (nI a)), some (.int x), some (.long y), none, some (.int (nI s))] [] n ad E Φ Ψ
    refine j_iload dX4_reaching_5 rfl ?_
    refine j_aload_n dX4_reaching_7 rfl ?_
    refine j_get fl_X4_13 dX4_reaching_8 (by omega) m0 rfl ?_
    refine j_icmp_ge_f (tgt := 41) dX4_reaching_11 (by decide) (nI_nle' (by omega) (by omega) (by omega)) ?_
    refine j_lload_n dX4_reaching_14 rfl ?_
    refine j_aload_n dX4_reaching_15 rfl ?_
    refine j_iload_n dX4_reaching_16 rfl ?_
    refine j_iload dX4_reaching_17 rfl ?_
    refine j_cV (As := [.int (nI a), .int (nI s)]) (rest := [.long y]) cm_X4_at ci_X4_at cs_X4_at rfl ln_X4_121 (ci := 4) rfl dX4_reaching_19 (d' := 0) (by decide) (by omega) m0 rfl rfl (Nat.le_of_ble_eq_true rfl) (Nat.le_of_ble_eq_true rfl) (s_X4_at D a s (ix128 hF hS ha hs)) ?_
    refine j_i2l dX4_reaching_22 ?_
    refine j_ladd dX4_reaching_23 ?_
    refine j_lstore_n (L' := [some (.ref (ad 63)), some (.int (nI a)), some (.int x), some (.long (y + ((lv (a * S + s)).toInt64))), none, some (.int (nI s))]) dX4_reaching_24 (by decide) rfl rfl ?_
    refine j_lload_n dX4_reaching_25 rfl ?_
    refine j_iload_n dX4_reaching_26 rfl ?_
    refine j_i2l dX4_reaching_27 ?_
    refine j_lcmp dX4_reaching_28 ?_
    refine j_if_lt (tgt := 35) dX4_reaching_29 (by decide) (fun hq => ?_) (fun hq => ?_)
    · skip
      refine j_iinc (v := nI (s + 1)) (L' := [some (.ref (ad 63)), some (.int (nI a)), some (.int x), some (.long (y + ((lv (a * S + s)).toInt64))), none, some (.int (nI (s + 1)))]) dX4_reaching_35 (by decide) rfl (nI_1 _) rfl rfl ?_
      refine j_goto (tgt := 5) dX4_reaching_38 (by decide) ?_
      exact ih (.inl (y + (lv (a * S + s)).toInt64)) (by simp only [hq, if_true])
    · skip
      refine j_iload dX4_reaching_32 rfl ?_
      exact j_iret dX4_reaching_34 rfl (ih (.inr s) (by simp only [hq, if_false]))
  · skip
    show lpeP _ _ (reachR lv S a x)
    rw [hs0]
    exact h
set_option maxRecDepth 100000 in
set_option maxHeartbeats 4000000 in
theorem s_X4_firstReaching_some {g : jG} {n : Nat} {ad : Nat → Nat} {E : Nat → va_E} {th : Int32} {F S : Nat} {hrs su : Int32} {gone : Int64} {lv ed : Nat → Int32} {first cnt : Nat} {ah : Nat → Int32} {mc : Nat} {mk : Nat → Int32} (D : MR g n ad E th F S hrs su gone lv ed first cnt ah mc mk) (a : Nat) (ha : a < F) (x : Int32) (s0 : Nat) (hs0 : reachR lv S a x = .inr s0) : RetP g mX4_firstReaching 2 [.ref (ad 63), .int (nI a), .int x] n ad E (some (.int (nI s0))) (fun E9 => MR g n ad E9 0 F S hrs su gone lv ed first cnt ah mc mk ∧ ∀ k, (k < 63 ∨ 69 ≤ k) → E9 k = E k) := by
  obtain ⟨m0, m1, m2, m3, m4, ⟨wk, m5⟩, hF, hS, hFp, hSp, hfi, hcn, hmc, hn⟩ := id D
  intro Φ Ψ h
  show J g mX4_firstReaching 2 0 0 0 [some (.ref (ad 63)), some (.int (nI a)), some (.int x)] [] n ad E Φ Ψ
  refine j_aload_n dX4_firstReaching_0 rfl ?_
  refine j_iconst (v := 0) dX4_firstReaching_1 (by decide) ?_
  refine j_put fl_X4_38 fp_X4 dX4_firstReaching_2 (by omega) m0 (Or.inl rfl) rfl rfl (Nat.le_of_ble_eq_true rfl) ?_
  refine j_aload_n dX4_firstReaching_5 rfl ?_
  refine j_iload_n dX4_firstReaching_6 rfl ?_
  refine j_cV (As := [.int (nI a)]) (rest := []) cm_X4_isFlight ci_X4_isFlight cs_X4_isFlight rfl ln_X4_48 (ci := 4) rfl dX4_firstReaching_7 (d' := 1) (by decide) (by omega) up_eq rfl rfl (Nat.le_of_ble_eq_true rfl) (Nat.le_of_ble_eq_true rfl) (s_isFlight_t (MR.setO D ⟨by omega, by omega, by omega, by omega, by omega, by omega, by omega⟩) a ha) ?_
  refine j_if_eq_f (tgt := 22) dX4_firstReaching_10 (by decide) (by decide) ?_
  refine j_aload_n dX4_firstReaching_13 rfl ?_
  refine j_iload_n dX4_firstReaching_14 rfl ?_
  refine j_iload_n dX4_firstReaching_15 rfl ?_
  refine j_cV (As := [.int (nI a), .int x]) (rest := []) cm_X4_reaching ci_X4_reaching cs_X4_reaching rfl ln_X4_139 (ci := 4) rfl dX4_firstReaching_16 (d' := 1) (by decide) (by omega) up_eq rfl rfl (Nat.le_of_ble_eq_true rfl) (Nat.le_of_ble_eq_true rfl) (s_X4_reaching_some (MR.setO D ⟨by omega, by omega, by omega, by omega, by omega, by omega, by omega⟩) a ha x _ hs0) ?_
  refine j_goto (tgt := 27) dX4_firstReaching_19 (by decide) ?_
  exact j_iret dX4_firstReaching_27 rfl (h _ ⟨(MR.setO D ⟨by omega, by omega, by omega, by omega, by omega, by omega, by omega⟩), (fun k hk => ((up_ne (by omega)).trans rfl))⟩)
set_option maxRecDepth 100000 in
set_option maxHeartbeats 4000000 in
theorem s_X4_reaching_none {g : jG} {n : Nat} {ad : Nat → Nat} {E : Nat → va_E} {th : Int32} {F S : Nat} {hrs su : Int32} {gone : Int64} {lv ed : Nat → Int32} {first cnt : Nat} {ah : Nat → Int32} {mc : Nat} {mk : Nat → Int32} (D : MR g n ad E th F S hrs su gone lv ed first cnt ah mc mk) (a : Nat) (ha : a < F) (x : Int32) (y0 : Int64) (hs0 : reachR lv S a x = .inl y0) : Ret g mX4_reaching 1 [.ref (ad 63), .int (nI a), .int x] n ad E (some (.int (-1))) E := by
  obtain ⟨m0, m1, m2, m3, m4, ⟨wk, m5⟩, hF, hS, hFp, hSp, hfi, hcn, hmc, hn⟩ := id D
  intro Φ Ψ h
  show J g mX4_reaching 1 0 0 0 [some (.ref (ad 63)), some (.int (nI a)), some (.int x), none, none, none] [] n ad E Φ Ψ
  refine j_lconst (v := 0) dX4_reaching_0 rfl ?_
  refine j_lstore_n (L' := [some (.ref (ad 63)), some (.int (nI a)), some (.int x), some (.long 0), none, none]) dX4_reaching_1 (by decide) rfl rfl ?_
  refine j_iconst (v := nI 0) dX4_reaching_2 (by decide) ?_
  refine j_istore (L' := [some (.ref (ad 63)), some (.int (nI a)), some (.int x), some (.long 0), none, some (.int (nI 0))]) dX4_reaching_3 (by decide) rfl rfl ?_
  refine lpe_ind (b := fun s y => if lg_cmp (y + (lv (a * S + s)).toInt64) x.toInt64 < 0 then .inl (y + (lv (a * S + s)).toInt64) else .inr s) (P := fun (s : Nat) (y : Int64) => J g mX4_reaching 1 0 0 5 [some (.ref (ad 63)), some (.int (nI a)), some (.int x), some (.long y), none, some (.int (nI s))] [] n ad E Φ Ψ) (Pb := fun s0 => Φ (some (.int (nI s0))) n ad E) (N := S) 0 ?_ S 0 (by omega) ?_
  · intro s y hs0 hs ih
    show J g mX4_reaching 1 0 0 5 [some (.ref (ad 63)), some (.int (nI a)), some (.int x), some (.long y), none, some (.int (nI s))] [] n ad E Φ Ψ
    refine j_iload dX4_reaching_5 rfl ?_
    refine j_aload_n dX4_reaching_7 rfl ?_
    refine j_get fl_X4_13 dX4_reaching_8 (by omega) m0 rfl ?_
    refine j_icmp_ge_f (tgt := 41) dX4_reaching_11 (by decide) (nI_nle' (by omega) (by omega) (by omega)) ?_
    refine j_lload_n dX4_reaching_14 rfl ?_
    refine j_aload_n dX4_reaching_15 rfl ?_
    refine j_iload_n dX4_reaching_16 rfl ?_
    refine j_iload dX4_reaching_17 rfl ?_
    refine j_cV (As := [.int (nI a), .int (nI s)]) (rest := [.long y]) cm_X4_at ci_X4_at cs_X4_at rfl ln_X4_121 (ci := 4) rfl dX4_reaching_19 (d' := 0) (by decide) (by omega) m0 rfl rfl (Nat.le_of_ble_eq_true rfl) (Nat.le_of_ble_eq_true rfl) (s_X4_at D a s (ix128 hF hS ha hs)) ?_
    refine j_i2l dX4_reaching_22 ?_
    refine j_ladd dX4_reaching_23 ?_
    refine j_lstore_n (L' := [some (.ref (ad 63)), some (.int (nI a)), some (.int x), some (.long (y + ((lv (a * S + s)).toInt64))), none, some (.int (nI s))]) dX4_reaching_24 (by decide) rfl rfl ?_
    refine j_lload_n dX4_reaching_25 rfl ?_
    refine j_iload_n dX4_reaching_26 rfl ?_
    refine j_i2l dX4_reaching_27 ?_
    refine j_lcmp dX4_reaching_28 ?_
    refine j_if_lt (tgt := 35) dX4_reaching_29 (by decide) (fun hq => ?_) (fun hq => ?_)
    · skip
      refine j_iinc (v := nI (s + 1)) (L' := [some (.ref (ad 63)), some (.int (nI a)), some (.int x), some (.long (y + ((lv (a * S + s)).toInt64))), none, some (.int (nI (s + 1)))]) dX4_reaching_35 (by decide) rfl (nI_1 _) rfl rfl ?_
      refine j_goto (tgt := 5) dX4_reaching_38 (by decide) ?_
      exact ih (.inl (y + (lv (a * S + s)).toInt64)) (by simp only [hq, if_true])
    · skip
      refine j_iload dX4_reaching_32 rfl ?_
      exact j_iret dX4_reaching_34 rfl (ih (.inr s) (by simp only [hq, if_false]))
  · skip
    show lpeP _ _ (reachR lv S a x)
    rw [hs0]
    show J g mX4_reaching 1 0 0 5 [some (.ref (ad 63)), some (.int (nI a)), some (.int x), some (.long y0), none, some (.int (nI S))] [] n ad E Φ Ψ
    refine j_iload dX4_reaching_5 rfl ?_
    refine j_aload_n dX4_reaching_7 rfl ?_
    refine j_get fl_X4_13 dX4_reaching_8 (by omega) m0 rfl ?_
    refine j_icmp_ge_t (tgt := 41) dX4_reaching_11 (by decide) (nI_le' (by omega) (by omega) (by omega)) ?_
    refine j_iconst (v := (-1)) dX4_reaching_41 (by decide) ?_
    exact j_iret dX4_reaching_42 rfl h
set_option maxRecDepth 100000 in
set_option maxHeartbeats 4000000 in
theorem s_X4_firstReaching_none {g : jG} {n : Nat} {ad : Nat → Nat} {E : Nat → va_E} {th : Int32} {F S : Nat} {hrs su : Int32} {gone : Int64} {lv ed : Nat → Int32} {first cnt : Nat} {ah : Nat → Int32} {mc : Nat} {mk : Nat → Int32} (D : MR g n ad E th F S hrs su gone lv ed first cnt ah mc mk) (a : Nat) (ha : a < F) (x : Int32) (y0 : Int64) (hs0 : reachR lv S a x = .inl y0) : RetP g mX4_firstReaching 2 [.ref (ad 63), .int (nI a), .int x] n ad E (some (.int (-1))) (fun E9 => MR g n ad E9 0 F S hrs su gone lv ed first cnt ah mc mk ∧ ∀ k, (k < 63 ∨ 69 ≤ k) → E9 k = E k) := by
  obtain ⟨m0, m1, m2, m3, m4, ⟨wk, m5⟩, hF, hS, hFp, hSp, hfi, hcn, hmc, hn⟩ := id D
  intro Φ Ψ h
  show J g mX4_firstReaching 2 0 0 0 [some (.ref (ad 63)), some (.int (nI a)), some (.int x)] [] n ad E Φ Ψ
  refine j_aload_n dX4_firstReaching_0 rfl ?_
  refine j_iconst (v := 0) dX4_firstReaching_1 (by decide) ?_
  refine j_put fl_X4_38 fp_X4 dX4_firstReaching_2 (by omega) m0 (Or.inl rfl) rfl rfl (Nat.le_of_ble_eq_true rfl) ?_
  refine j_aload_n dX4_firstReaching_5 rfl ?_
  refine j_iload_n dX4_firstReaching_6 rfl ?_
  refine j_cV (As := [.int (nI a)]) (rest := []) cm_X4_isFlight ci_X4_isFlight cs_X4_isFlight rfl ln_X4_48 (ci := 4) rfl dX4_firstReaching_7 (d' := 1) (by decide) (by omega) up_eq rfl rfl (Nat.le_of_ble_eq_true rfl) (Nat.le_of_ble_eq_true rfl) (s_isFlight_t (MR.setO D ⟨by omega, by omega, by omega, by omega, by omega, by omega, by omega⟩) a ha) ?_
  refine j_if_eq_f (tgt := 22) dX4_firstReaching_10 (by decide) (by decide) ?_
  refine j_aload_n dX4_firstReaching_13 rfl ?_
  refine j_iload_n dX4_firstReaching_14 rfl ?_
  refine j_iload_n dX4_firstReaching_15 rfl ?_
  refine j_cV (As := [.int (nI a), .int x]) (rest := []) cm_X4_reaching ci_X4_reaching cs_X4_reaching rfl ln_X4_139 (ci := 4) rfl dX4_firstReaching_16 (d' := 1) (by decide) (by omega) up_eq rfl rfl (Nat.le_of_ble_eq_true rfl) (Nat.le_of_ble_eq_true rfl) (s_X4_reaching_none (MR.setO D ⟨by omega, by omega, by omega, by omega, by omega, by omega, by omega⟩) a ha x _ hs0) ?_
  refine j_goto (tgt := 27) dX4_firstReaching_19 (by decide) ?_
  exact j_iret dX4_firstReaching_27 rfl (h _ ⟨(MR.setO D ⟨by omega, by omega, by omega, by omega, by omega, by omega, by omega⟩), (fun k hk => ((up_ne (by omega)).trans rfl))⟩)
set_option maxRecDepth 100000 in
set_option maxHeartbeats 4000000 in
theorem s_X4_firstReaching_bad {g : jG} {n : Nat} {ad : Nat → Nat} {E : Nat → va_E} {th : Int32} {F S : Nat} {hrs su : Int32} {gone : Int64} {lv ed : Nat → Int32} {first cnt : Nat} {ah : Nat → Int32} {mc : Nat} {mk : Nat → Int32} (D : MR g n ad E th F S hrs su gone lv ed first cnt ah mc mk) (x : Int32) (y : Int32) (hx : oob x F) : RetP g mX4_firstReaching 2 [.ref (ad 63), .int x, .int y] n ad E (some (.int 0)) (fun E9 => MR g n ad E9 1 F S hrs su gone lv ed first cnt ah mc mk ∧ ∀ k, (k < 63 ∨ 69 ≤ k) → E9 k = E k) := by
  obtain ⟨m0, m1, m2, m3, m4, ⟨wk, m5⟩, hF, hS, hFp, hSp, hfi, hcn, hmc, hn⟩ := id D
  intro Φ Ψ h
  show J g mX4_firstReaching 2 0 0 0 [some (.ref (ad 63)), some (.int x), some (.int y)] [] n ad E Φ Ψ
  refine j_aload_n dX4_firstReaching_0 rfl ?_
  refine j_iconst (v := 0) dX4_firstReaching_1 (by decide) ?_
  refine j_put fl_X4_38 fp_X4 dX4_firstReaching_2 (by omega) m0 (Or.inl rfl) rfl rfl (Nat.le_of_ble_eq_true rfl) ?_
  refine j_aload_n dX4_firstReaching_5 rfl ?_
  refine j_iload_n dX4_firstReaching_6 rfl ?_
  refine j_cV (As := [.int x]) (rest := []) cm_X4_isFlight ci_X4_isFlight cs_X4_isFlight rfl ln_X4_48 (ci := 4) rfl dX4_firstReaching_7 (d' := 1) (by decide) (by omega) up_eq rfl rfl (Nat.le_of_ble_eq_true rfl) (Nat.le_of_ble_eq_true rfl) (s_isFlight_f (MR.setO D ⟨by omega, by omega, by omega, by omega, by omega, by omega, by omega⟩) x hx) ?_
  refine j_if_eq_t (tgt := 22) dX4_firstReaching_10 (by decide) (by decide) ?_
  refine j_aload_n dX4_firstReaching_22 rfl ?_
  refine j_iconst (v := 1) dX4_firstReaching_23 (by decide) ?_
  refine j_cV (As := [.int 1]) (rest := []) cm_X4_no ci_X4_no cs_X4_no rfl ln_X4_84 (ci := 4) rfl dX4_firstReaching_24 (d' := 0) (by decide) (by omega) up_eq rfl rfl (Nat.le_of_ble_eq_true rfl) (Nat.le_of_ble_eq_true rfl) (s_X4_no (MR.setO D ⟨by omega, by omega, by omega, by omega, by omega, by omega, by omega⟩) 1) ?_
  refine j_E up_up ?_
  exact j_iret dX4_firstReaching_27 rfl (h _ ⟨(MR.setO D ⟨by omega, by omega, by omega, by omega, by omega, by omega, by omega⟩), (fun k hk => ((up_ne (by omega)).trans rfl))⟩)
def runM (lv : Nat → Int32) (S a : Nat) : Int64 × Int64 := lpf (runB2 lv S a) 1 (S - 1) ((lv (a * S + 0)).toInt64, (lv (a * S + 0)).toInt64)
set_option maxRecDepth 100000 in
set_option maxHeartbeats 4000000 in
theorem s_X4_run {g : jG} {n : Nat} {ad : Nat → Nat} {E : Nat → va_E} {th : Int32} {F S : Nat} {hrs su : Int32} {gone : Int64} {lv ed : Nat → Int32} {first cnt : Nat} {ah : Nat → Int32} {mc : Nat} {mk : Nat → Int32} (D : MR g n ad E th F S hrs su gone lv ed first cnt ah mc mk) (a : Nat) (ha : a < F) : Ret g mX4_run 1 [.ref (ad 63), .int (nI a)] n ad E (some (.long ((runM lv S a).1))) E := by
  obtain ⟨m0, m1, m2, m3, m4, ⟨wk, m5⟩, hF, hS, hFp, hSp, hfi, hcn, hmc, hn⟩ := id D
  intro Φ Ψ h
  show J g mX4_run 1 0 0 0 [some (.ref (ad 63)), some (.int (nI a)), none, none, none, none, none] [] n ad E Φ Ψ
  refine j_aload_n dX4_run_0 rfl ?_
  refine j_iload_n dX4_run_1 rfl ?_
  refine j_iconst (v := nI 0) dX4_run_2 (by decide) ?_
  refine j_cV (As := [.int (nI a), .int (nI 0)]) (rest := []) cm_X4_at ci_X4_at cs_X4_at rfl ln_X4_121 (ci := 4) rfl dX4_run_3 (d' := 0) (by decide) (by omega) m0 rfl rfl (Nat.le_of_ble_eq_true rfl) (Nat.le_of_ble_eq_true rfl) (s_X4_at D a 0 (ix128 hF hS ha (by omega))) ?_
  refine j_i2l dX4_run_6 ?_
  refine j_lstore_n (L' := [some (.ref (ad 63)), some (.int (nI a)), some (.long ((lv (a * S + 0)).toInt64)), none, none, none, none]) dX4_run_7 (by decide) rfl rfl ?_
  refine j_lload_n dX4_run_8 rfl ?_
  refine j_lstore (L' := [some (.ref (ad 63)), some (.int (nI a)), some (.long ((lv (a * S + 0)).toInt64)), none, some (.long ((lv (a * S + 0)).toInt64)), none, none]) dX4_run_9 (by decide) rfl rfl ?_
  refine j_iconst (v := nI 1) dX4_run_11 (by decide) ?_
  refine j_istore (L' := [some (.ref (ad 63)), some (.int (nI a)), some (.long ((lv (a * S + 0)).toInt64)), none, some (.long ((lv (a * S + 0)).toInt64)), none, some (.int (nI 1))]) dX4_run_12 (by decide) rfl rfl ?_
  refine lpf_ind (b := runB2 lv S a) (P := fun (s : Nat) (y : Int64 × Int64) => J g mX4_run 1 0 0 14 [some (.ref (ad 63)), some (.int (nI a)), some (.long y.2), none, some (.long y.1), none, some (.int (nI s))] [] n ad E Φ Ψ) (N := S) 1 ?_ (S - 1) ((lv (a * S + 0)).toInt64, (lv (a * S + 0)).toInt64) (by omega) ?_
  · intro s y hs0 hs ih
    obtain ⟨b1, e1⟩ := y
    show J g mX4_run 1 0 0 14 [some (.ref (ad 63)), some (.int (nI a)), some (.long e1), none, some (.long b1), none, some (.int (nI s))] [] n ad E Φ Ψ
    refine j_iload dX4_run_14 rfl ?_
    refine j_aload_n dX4_run_16 rfl ?_
    refine j_get fl_X4_13 dX4_run_17 (by omega) m0 rfl ?_
    refine j_icmp_ge_f (tgt := 52) dX4_run_20 (by decide) (nI_nle' (by omega) (by omega) (by omega)) ?_
    refine j_lconst (v := 0) dX4_run_23 rfl ?_
    refine j_lload_n dX4_run_24 rfl ?_
    refine j_mmaxl ln_X4_142 js_maxl iz_java_lang_Math jc_maxl dX4_run_25 (by decide) (Nat.le_of_ble_eq_true rfl) ?_
    refine j_aload_n dX4_run_28 rfl ?_
    refine j_iload_n dX4_run_29 rfl ?_
    refine j_iload dX4_run_30 rfl ?_
    refine j_cV (As := [.int (nI a), .int (nI s)]) (rest := [.long (if e1 < 0 then 0 else e1)]) cm_X4_at ci_X4_at cs_X4_at rfl ln_X4_121 (ci := 4) rfl dX4_run_32 (d' := 0) (by decide) (by omega) m0 rfl rfl (Nat.le_of_ble_eq_true rfl) (Nat.le_of_ble_eq_true rfl) (s_X4_at D a s (ix128 hF hS ha hs)) ?_
    refine j_i2l dX4_run_35 ?_
    refine j_ladd dX4_run_36 ?_
    refine j_lstore_n (L' := [some (.ref (ad 63)), some (.int (nI a)), some (.long ((if e1 < 0 then 0 else e1) + ((lv (a * S + s)).toInt64))), none, some (.long b1), none, some (.int (nI s))]) dX4_run_37 (by decide) rfl rfl ?_
    refine j_lload dX4_run_38 rfl ?_
    refine j_lload_n dX4_run_40 rfl ?_
    refine j_mmaxl ln_X4_142 js_maxl iz_java_lang_Math jc_maxl dX4_run_41 (by decide) (Nat.le_of_ble_eq_true rfl) ?_
    refine j_lstore (L' := [some (.ref (ad 63)), some (.int (nI a)), some (.long ((if e1 < 0 then 0 else e1) + ((lv (a * S + s)).toInt64))), none, some (.long (if ((if e1 < 0 then 0 else e1) + ((lv (a * S + s)).toInt64)) < b1 then b1 else ((if e1 < 0 then 0 else e1) + ((lv (a * S + s)).toInt64)))), none, some (.int (nI s))]) dX4_run_44 (by decide) rfl rfl ?_
    refine j_iinc (v := nI (s + 1)) (L' := [some (.ref (ad 63)), some (.int (nI a)), some (.long ((if e1 < 0 then 0 else e1) + ((lv (a * S + s)).toInt64))), none, some (.long (if ((if e1 < 0 then 0 else e1) + ((lv (a * S + s)).toInt64)) < b1 then b1 else ((if e1 < 0 then 0 else e1) + ((lv (a * S + s)).toInt64)))), none, some (.int (nI (s + 1)))]) dX4_run_46 (by decide) rfl (nI_1 _) rfl rfl ?_
    refine j_goto (tgt := 14) dX4_run_49 (by decide) ?_
    exact ih (runB2 lv S a s (b1, e1)) rfl
  · skip
    show J g mX4_run 1 0 0 14 [some (.ref (ad 63)), some (.int (nI a)), some (.long ((runM lv S a).2)), none, some (.long ((runM lv S a).1)), none, some (.int (nI S))] [] n ad E Φ Ψ
    refine j_iload dX4_run_14 rfl ?_
    refine j_aload_n dX4_run_16 rfl ?_
    refine j_get fl_X4_13 dX4_run_17 (by omega) m0 rfl ?_
    refine j_icmp_ge_t (tgt := 52) dX4_run_20 (by decide) (nI_le' (by omega) (by omega) (by omega)) ?_
    refine j_lload dX4_run_52 rfl ?_
    exact j_lret dX4_run_54 rfl h
set_option maxRecDepth 100000 in
set_option maxHeartbeats 4000000 in
theorem s_X4_bestRun_ok {g : jG} {n : Nat} {ad : Nat → Nat} {E : Nat → va_E} {th : Int32} {F S : Nat} {hrs su : Int32} {gone : Int64} {lv ed : Nat → Int32} {first cnt : Nat} {ah : Nat → Int32} {mc : Nat} {mk : Nat → Int32} (D : MR g n ad E th F S hrs su gone lv ed first cnt ah mc mk) (a : Nat) (ha : a < F) : RetP g mX4_bestRun 2 [.ref (ad 63), .int (nI a)] n ad E (some (.long ((runM lv S a).1))) (fun E9 => MR g n ad E9 0 F S hrs su gone lv ed first cnt ah mc mk ∧ ∀ k, (k < 63 ∨ 69 ≤ k) → E9 k = E k) := by
  obtain ⟨m0, m1, m2, m3, m4, ⟨wk, m5⟩, hF, hS, hFp, hSp, hfi, hcn, hmc, hn⟩ := id D
  intro Φ Ψ h
  show J g mX4_bestRun 2 0 0 0 [some (.ref (ad 63)), some (.int (nI a))] [] n ad E Φ Ψ
  refine j_aload_n dX4_bestRun_0 rfl ?_
  refine j_aload_n dX4_bestRun_1 rfl ?_
  refine j_iload_n dX4_bestRun_2 rfl ?_
  refine j_cV (As := [.int (nI a)]) (rest := [.ref (ad 63)]) cm_X4_isFlight ci_X4_isFlight cs_X4_isFlight rfl ln_X4_48 (ci := 4) rfl dX4_bestRun_3 (d' := 1) (by decide) (by omega) m0 rfl rfl (Nat.le_of_ble_eq_true rfl) (Nat.le_of_ble_eq_true rfl) (s_isFlight_t D a ha) ?_
  refine j_if_eq_f (tgt := 13) dX4_bestRun_6 (by decide) (by decide) ?_
  refine j_iconst (v := 0) dX4_bestRun_9 (by decide) ?_
  refine j_goto (tgt := 14) dX4_bestRun_10 (by decide) ?_
  refine j_put fl_X4_38 fp_X4 dX4_bestRun_14 (by omega) m0 (Or.inl rfl) rfl rfl (Nat.le_of_ble_eq_true rfl) ?_
  refine j_aload_n dX4_bestRun_17 rfl ?_
  refine j_get fl_X4_38 dX4_bestRun_18 (by omega) up_eq rfl ?_
  refine j_if_le_t (tgt := 28) dX4_bestRun_21 (by decide) (by decide) ?_
  refine j_aload_n dX4_bestRun_28 rfl ?_
  refine j_iload_n dX4_bestRun_29 rfl ?_
  refine j_cV (As := [.int (nI a)]) (rest := []) cm_X4_run ci_X4_run cs_X4_run rfl ln_X4_145 (ci := 4) rfl dX4_bestRun_30 (d' := 1) (by decide) (by omega) up_eq rfl rfl (Nat.le_of_ble_eq_true rfl) (Nat.le_of_ble_eq_true rfl) (s_X4_run (MR.setO D ⟨by omega, by omega, by omega, by omega, by omega, by omega, by omega⟩) a ha) ?_
  exact j_lret dX4_bestRun_33 rfl (h _ ⟨(MR.setO D ⟨by omega, by omega, by omega, by omega, by omega, by omega, by omega⟩), (fun k hk => ((up_ne (by omega)).trans rfl))⟩)
set_option maxRecDepth 100000 in
set_option maxHeartbeats 4000000 in
theorem s_X4_bestRun_bad {g : jG} {n : Nat} {ad : Nat → Nat} {E : Nat → va_E} {th : Int32} {F S : Nat} {hrs su : Int32} {gone : Int64} {lv ed : Nat → Int32} {first cnt : Nat} {ah : Nat → Int32} {mc : Nat} {mk : Nat → Int32} (D : MR g n ad E th F S hrs su gone lv ed first cnt ah mc mk) (x : Int32) (hx : oob x F) : RetP g mX4_bestRun 2 [.ref (ad 63), .int x] n ad E (some (.long 0)) (fun E9 => MR g n ad E9 1 F S hrs su gone lv ed first cnt ah mc mk ∧ ∀ k, (k < 63 ∨ 69 ≤ k) → E9 k = E k) := by
  obtain ⟨m0, m1, m2, m3, m4, ⟨wk, m5⟩, hF, hS, hFp, hSp, hfi, hcn, hmc, hn⟩ := id D
  intro Φ Ψ h
  show J g mX4_bestRun 2 0 0 0 [some (.ref (ad 63)), some (.int x)] [] n ad E Φ Ψ
  refine j_aload_n dX4_bestRun_0 rfl ?_
  refine j_aload_n dX4_bestRun_1 rfl ?_
  refine j_iload_n dX4_bestRun_2 rfl ?_
  refine j_cV (As := [.int x]) (rest := [.ref (ad 63)]) cm_X4_isFlight ci_X4_isFlight cs_X4_isFlight rfl ln_X4_48 (ci := 4) rfl dX4_bestRun_3 (d' := 1) (by decide) (by omega) m0 rfl rfl (Nat.le_of_ble_eq_true rfl) (Nat.le_of_ble_eq_true rfl) (s_isFlight_f D x hx) ?_
  refine j_if_eq_t (tgt := 13) dX4_bestRun_6 (by decide) (by decide) ?_
  refine j_iconst (v := 1) dX4_bestRun_13 (by decide) ?_
  refine j_put fl_X4_38 fp_X4 dX4_bestRun_14 (by omega) m0 (Or.inl rfl) rfl rfl (Nat.le_of_ble_eq_true rfl) ?_
  refine j_aload_n dX4_bestRun_17 rfl ?_
  refine j_get fl_X4_38 dX4_bestRun_18 (by omega) up_eq rfl ?_
  refine j_if_le_f (tgt := 28) dX4_bestRun_21 (by decide) (by decide) ?_
  refine j_lconst (v := 0) dX4_bestRun_24 rfl ?_
  refine j_goto (tgt := 33) dX4_bestRun_25 (by decide) ?_
  exact j_lret dX4_bestRun_33 rfl (h _ ⟨(MR.setO D ⟨by omega, by omega, by omega, by omega, by omega, by omega, by omega⟩), (fun k hk => ((up_ne (by omega)).trans rfl))⟩)
theorem wet_of {x : Int32} (h : x ≤ 0) : (0 < x) = False := eq_false (fun q => by rw [Int32.lt_iff_toInt_lt] at q; rw [Int32.le_iff_toInt_le] at h; omega)
theorem wet_no {x : Int32} (h : ¬ x ≤ 0) : (0 < x) = True := eq_true (by rw [Int32.lt_iff_toInt_lt]; rw [Int32.le_iff_toInt_le] at h; omega)
theorem dry_of {x : Int32} (h : ¬ 0 < x) : x ≤ 0 := by rw [Int32.lt_iff_toInt_lt] at h; rw [Int32.le_iff_toInt_le]; omega
set_option maxRecDepth 100000 in
set_option maxHeartbeats 4000000 in
theorem s_X4_longest {g : jG} {n : Nat} {ad : Nat → Nat} {E : Nat → va_E} {th : Int32} {F S : Nat} {hrs su : Int32} {gone : Int64} {lv ed : Nat → Int32} {first cnt : Nat} {ah : Nat → Int32} {mc : Nat} {mk : Nat → Int32} (D : MR g n ad E th F S hrs su gone lv ed first cnt ah mc mk) (a : Nat) (ha : a < F) : Ret g mX4_longest 1 [.ref (ad 63), .int (nI a)] n ad E (some (.int ((longR lv S a).1))) E := by
  obtain ⟨m0, m1, m2, m3, m4, ⟨wk, m5⟩, hF, hS, hFp, hSp, hfi, hcn, hmc, hn⟩ := id D
  intro Φ Ψ h
  show J g mX4_longest 1 0 0 0 [some (.ref (ad 63)), some (.int (nI a)), none, none, none] [] n ad E Φ Ψ
  refine j_iconst (v := 0) dX4_longest_0 (by decide) ?_
  refine j_istore_n (L' := [some (.ref (ad 63)), some (.int (nI a)), some (.int 0), none, none]) dX4_longest_1 (by decide) rfl rfl ?_
  refine j_iconst (v := 0) dX4_longest_2 (by decide) ?_
  refine j_istore_n (L' := [some (.ref (ad 63)), some (.int (nI a)), some (.int 0), some (.int 0), none]) dX4_longest_3 (by decide) rfl rfl ?_
  refine j_iconst (v := nI 0) dX4_longest_4 (by decide) ?_
  refine j_istore (L' := [some (.ref (ad 63)), some (.int (nI a)), some (.int 0), some (.int 0), some (.int (nI 0))]) dX4_longest_5 (by decide) rfl rfl ?_
  refine lpf_ind (b := fun s y => (if y.1 < (if 0 < lv (a * S + s) then 0 else y.2 + 1) then (if 0 < lv (a * S + s) then 0 else y.2 + 1) else y.1, if 0 < lv (a * S + s) then 0 else y.2 + 1)) (P := fun (s : Nat) (y : Int32 × Int32) => J g mX4_longest 1 0 0 7 [some (.ref (ad 63)), some (.int (nI a)), some (.int y.1), some (.int y.2), some (.int (nI s))] [] n ad E Φ Ψ) (N := S) 0 ?_ S ((0, 0) : Int32 × Int32) (by omega) ?_
  · intro s y hs0 hs ih
    obtain ⟨l1, e1⟩ := y
    show J g mX4_longest 1 0 0 7 [some (.ref (ad 63)), some (.int (nI a)), some (.int l1), some (.int e1), some (.int (nI s))] [] n ad E Φ Ψ
    refine j_iload dX4_longest_7 rfl ?_
    refine j_aload_n dX4_longest_9 rfl ?_
    refine j_get fl_X4_13 dX4_longest_10 (by omega) m0 rfl ?_
    refine j_icmp_ge_f (tgt := 46) dX4_longest_13 (by decide) (nI_nle' (by omega) (by omega) (by omega)) ?_
    refine j_aload_n dX4_longest_16 rfl ?_
    refine j_iload_n dX4_longest_17 rfl ?_
    refine j_iload dX4_longest_18 rfl ?_
    refine j_cV (As := [.int (nI a), .int (nI s)]) (rest := []) cm_X4_at ci_X4_at cs_X4_at rfl ln_X4_121 (ci := 4) rfl dX4_longest_20 (d' := 0) (by decide) (by omega) m0 rfl rfl (Nat.le_of_ble_eq_true rfl) (Nat.le_of_ble_eq_true rfl) (s_X4_at D a s (ix128 hF hS ha hs)) ?_
    refine j_if_le (tgt := 30) dX4_longest_23 (by decide) (fun hq => ?_) (fun hq => ?_)
    · skip
      refine j_iload_n dX4_longest_30 rfl ?_
      refine j_iconst (v := 1) dX4_longest_31 (by decide) ?_
      refine j_iadd dX4_longest_32 ?_
      refine j_istore_n (L' := [some (.ref (ad 63)), some (.int (nI a)), some (.int l1), some (.int (e1 + 1)), some (.int (nI s))]) dX4_longest_33 (by decide) rfl rfl ?_
      refine j_iload_n dX4_longest_34 rfl ?_
      refine j_iload_n dX4_longest_35 rfl ?_
      refine j_mmax ln_X4_71 js_max iz_java_lang_Math jc_max dX4_longest_36 (by decide) (Nat.le_of_ble_eq_true rfl) ?_
      refine j_istore_n (L' := [some (.ref (ad 63)), some (.int (nI a)), some (.int (if l1 < (e1 + 1) then (e1 + 1) else l1)), some (.int (e1 + 1)), some (.int (nI s))]) dX4_longest_39 (by decide) rfl rfl ?_
      refine j_iinc (v := nI (s + 1)) (L' := [some (.ref (ad 63)), some (.int (nI a)), some (.int (if l1 < (e1 + 1) then (e1 + 1) else l1)), some (.int (e1 + 1)), some (.int (nI (s + 1)))]) dX4_longest_40 (by decide) rfl (nI_1 _) rfl rfl ?_
      refine j_goto (tgt := 7) dX4_longest_43 (by decide) ?_
      exact ih (if l1 < (e1 + 1) then (e1 + 1) else l1, e1 + 1) (by first | (simp only [wet_of hq, if_false]; done) | (simp only [wet_no hq, if_true]; done))
    · skip
      refine j_iconst (v := 0) dX4_longest_26 (by decide) ?_
      refine j_goto (tgt := 33) dX4_longest_27 (by decide) ?_
      refine j_istore_n (L' := [some (.ref (ad 63)), some (.int (nI a)), some (.int l1), some (.int 0), some (.int (nI s))]) dX4_longest_33 (by decide) rfl rfl ?_
      refine j_iload_n dX4_longest_34 rfl ?_
      refine j_iload_n dX4_longest_35 rfl ?_
      refine j_mmax ln_X4_71 js_max iz_java_lang_Math jc_max dX4_longest_36 (by decide) (Nat.le_of_ble_eq_true rfl) ?_
      refine j_istore_n (L' := [some (.ref (ad 63)), some (.int (nI a)), some (.int (if l1 < 0 then 0 else l1)), some (.int 0), some (.int (nI s))]) dX4_longest_39 (by decide) rfl rfl ?_
      refine j_iinc (v := nI (s + 1)) (L' := [some (.ref (ad 63)), some (.int (nI a)), some (.int (if l1 < 0 then 0 else l1)), some (.int 0), some (.int (nI (s + 1)))]) dX4_longest_40 (by decide) rfl (nI_1 _) rfl rfl ?_
      refine j_goto (tgt := 7) dX4_longest_43 (by decide) ?_
      exact ih (if l1 < 0 then 0 else l1, 0) (by first | (simp only [wet_of hq, if_false]; done) | (simp only [wet_no hq, if_true]; done))
  · skip
    show J g mX4_longest 1 0 0 7 [some (.ref (ad 63)), some (.int (nI a)), some (.int ((longR lv S a).1)), some (.int ((longR lv S a).2)), some (.int (nI S))] [] n ad E Φ Ψ
    refine j_iload dX4_longest_7 rfl ?_
    refine j_aload_n dX4_longest_9 rfl ?_
    refine j_get fl_X4_13 dX4_longest_10 (by omega) m0 rfl ?_
    refine j_icmp_ge_t (tgt := 46) dX4_longest_13 (by decide) (nI_le' (by omega) (by omega) (by omega)) ?_
    refine j_iload_n dX4_longest_46 rfl ?_
    exact j_iret dX4_longest_47 rfl h
set_option maxRecDepth 100000 in
set_option maxHeartbeats 4000000 in
theorem s_X4_longestDry_ok {g : jG} {n : Nat} {ad : Nat → Nat} {E : Nat → va_E} {th : Int32} {F S : Nat} {hrs su : Int32} {gone : Int64} {lv ed : Nat → Int32} {first cnt : Nat} {ah : Nat → Int32} {mc : Nat} {mk : Nat → Int32} (D : MR g n ad E th F S hrs su gone lv ed first cnt ah mc mk) (a : Nat) (ha : a < F) : RetP g mX4_longestDry 2 [.ref (ad 63), .int (nI a)] n ad E (some (.int ((longR lv S a).1))) (fun E9 => MR g n ad E9 0 F S hrs su gone lv ed first cnt ah mc mk ∧ ∀ k, (k < 63 ∨ 69 ≤ k) → E9 k = E k) := by
  obtain ⟨m0, m1, m2, m3, m4, ⟨wk, m5⟩, hF, hS, hFp, hSp, hfi, hcn, hmc, hn⟩ := id D
  intro Φ Ψ h
  show J g mX4_longestDry 2 0 0 0 [some (.ref (ad 63)), some (.int (nI a))] [] n ad E Φ Ψ
  refine j_aload_n dX4_longestDry_0 rfl ?_
  refine j_iconst (v := 0) dX4_longestDry_1 (by decide) ?_
  refine j_put fl_X4_38 fp_X4 dX4_longestDry_2 (by omega) m0 (Or.inl rfl) rfl rfl (Nat.le_of_ble_eq_true rfl) ?_
  refine j_aload_n dX4_longestDry_5 rfl ?_
  refine j_iload_n dX4_longestDry_6 rfl ?_
  refine j_cV (As := [.int (nI a)]) (rest := []) cm_X4_isFlight ci_X4_isFlight cs_X4_isFlight rfl ln_X4_48 (ci := 4) rfl dX4_longestDry_7 (d' := 1) (by decide) (by omega) up_eq rfl rfl (Nat.le_of_ble_eq_true rfl) (Nat.le_of_ble_eq_true rfl) (s_isFlight_t (MR.setO D ⟨by omega, by omega, by omega, by omega, by omega, by omega, by omega⟩) a ha) ?_
  refine j_if_eq_f (tgt := 21) dX4_longestDry_10 (by decide) (by decide) ?_
  refine j_aload_n dX4_longestDry_13 rfl ?_
  refine j_iload_n dX4_longestDry_14 rfl ?_
  refine j_cV (As := [.int (nI a)]) (rest := []) cm_X4_longest ci_X4_longest cs_X4_longest rfl ln_X4_154 (ci := 4) rfl dX4_longestDry_15 (d' := 1) (by decide) (by omega) up_eq rfl rfl (Nat.le_of_ble_eq_true rfl) (Nat.le_of_ble_eq_true rfl) (s_X4_longest (MR.setO D ⟨by omega, by omega, by omega, by omega, by omega, by omega, by omega⟩) a ha) ?_
  refine j_goto (tgt := 26) dX4_longestDry_18 (by decide) ?_
  exact j_iret dX4_longestDry_26 rfl (h _ ⟨(MR.setO D ⟨by omega, by omega, by omega, by omega, by omega, by omega, by omega⟩), (fun k hk => ((up_ne (by omega)).trans rfl))⟩)
set_option maxRecDepth 100000 in
set_option maxHeartbeats 4000000 in
theorem s_X4_longestDry_bad {g : jG} {n : Nat} {ad : Nat → Nat} {E : Nat → va_E} {th : Int32} {F S : Nat} {hrs su : Int32} {gone : Int64} {lv ed : Nat → Int32} {first cnt : Nat} {ah : Nat → Int32} {mc : Nat} {mk : Nat → Int32} (D : MR g n ad E th F S hrs su gone lv ed first cnt ah mc mk) (x : Int32) (hx : oob x F) : RetP g mX4_longestDry 2 [.ref (ad 63), .int x] n ad E (some (.int 0)) (fun E9 => MR g n ad E9 1 F S hrs su gone lv ed first cnt ah mc mk ∧ ∀ k, (k < 63 ∨ 69 ≤ k) → E9 k = E k) := by
  obtain ⟨m0, m1, m2, m3, m4, ⟨wk, m5⟩, hF, hS, hFp, hSp, hfi, hcn, hmc, hn⟩ := id D
  intro Φ Ψ h
  show J g mX4_longestDry 2 0 0 0 [some (.ref (ad 63)), some (.int x)] [] n ad E Φ Ψ
  refine j_aload_n dX4_longestDry_0 rfl ?_
  refine j_iconst (v := 0) dX4_longestDry_1 (by decide) ?_
  refine j_put fl_X4_38 fp_X4 dX4_longestDry_2 (by omega) m0 (Or.inl rfl) rfl rfl (Nat.le_of_ble_eq_true rfl) ?_
  refine j_aload_n dX4_longestDry_5 rfl ?_
  refine j_iload_n dX4_longestDry_6 rfl ?_
  refine j_cV (As := [.int x]) (rest := []) cm_X4_isFlight ci_X4_isFlight cs_X4_isFlight rfl ln_X4_48 (ci := 4) rfl dX4_longestDry_7 (d' := 1) (by decide) (by omega) up_eq rfl rfl (Nat.le_of_ble_eq_true rfl) (Nat.le_of_ble_eq_true rfl) (s_isFlight_f (MR.setO D ⟨by omega, by omega, by omega, by omega, by omega, by omega, by omega⟩) x hx) ?_
  refine j_if_eq_t (tgt := 21) dX4_longestDry_10 (by decide) (by decide) ?_
  refine j_aload_n dX4_longestDry_21 rfl ?_
  refine j_iconst (v := 1) dX4_longestDry_22 (by decide) ?_
  refine j_cV (As := [.int 1]) (rest := []) cm_X4_no ci_X4_no cs_X4_no rfl ln_X4_84 (ci := 4) rfl dX4_longestDry_23 (d' := 0) (by decide) (by omega) up_eq rfl rfl (Nat.le_of_ble_eq_true rfl) (Nat.le_of_ble_eq_true rfl) (s_X4_no (MR.setO D ⟨by omega, by omega, by omega, by omega, by omega, by omega, by omega⟩) 1) ?_
  refine j_E up_up ?_
  exact j_iret dX4_longestDry_26 rfl (h _ ⟨(MR.setO D ⟨by omega, by omega, by omega, by omega, by omega, by omega, by omega⟩), (fun k hk => ((up_ne (by omega)).trans rfl))⟩)
def driestM (lv : Nat → Int32) (F S : Nat) : Nat := lpf (fun f b => if dryP lv S f 0 f (S - 1) ≤ dryP lv S b 0 b (S - 1) then b else f) 1 (F - 1) 0
set_option maxRecDepth 100000 in
set_option maxHeartbeats 4000000 in
theorem s_X4_driest {g : jG} {n : Nat} {ad : Nat → Nat} {E : Nat → va_E} {th : Int32} {F S : Nat} {hrs su : Int32} {gone : Int64} {lv ed : Nat → Int32} {first cnt : Nat} {ah : Nat → Int32} {mc : Nat} {mk : Nat → Int32} (D : MR g n ad E th F S hrs su gone lv ed first cnt ah mc mk) : Ret g mX4_driest 2 [.ref (ad 63)] n ad E (some (.int (nI (driestM lv F S)))) E := by
  obtain ⟨m0, m1, m2, m3, m4, ⟨wk, m5⟩, hF, hS, hFp, hSp, hfi, hcn, hmc, hn⟩ := id D
  intro Φ Ψ h
  show J g mX4_driest 2 0 0 0 [some (.ref (ad 63)), none, none] [] n ad E Φ Ψ
  refine j_iconst (v := nI 0) dX4_driest_0 (by decide) ?_
  refine j_istore_n (L' := [some (.ref (ad 63)), some (.int (nI 0)), none]) dX4_driest_1 (by decide) rfl rfl ?_
  refine j_iconst (v := nI 1) dX4_driest_2 (by decide) ?_
  refine j_istore_n (L' := [some (.ref (ad 63)), some (.int (nI 0)), some (.int (nI 1))]) dX4_driest_3 (by decide) rfl rfl ?_
  refine lpfB_ind (b := fun f b => if dryP lv S f 0 f (S - 1) ≤ dryP lv S b 0 b (S - 1) then b else f) (P := fun (f y : Nat) => J g mX4_driest 2 0 0 4 [some (.ref (ad 63)), some (.int (nI y)), some (.int (nI f))] [] n ad E Φ Ψ) (N := F) 1 (fun y => y < F) (fun j y hj hy => by show (if _ then y else j) < F; split <;> omega) ?_ (F - 1) 0 (by omega) (by omega) ?_
  · intro f y hf0 hf hb1 ih
    show J g mX4_driest 2 0 0 4 [some (.ref (ad 63)), some (.int (nI y)), some (.int (nI f))] [] n ad E Φ Ψ
    refine j_iload_n dX4_driest_4 rfl ?_
    refine j_aload_n dX4_driest_5 rfl ?_
    refine j_get fl_X4_9 dX4_driest_6 (by omega) m0 rfl ?_
    refine j_icmp_ge_f (tgt := 49) dX4_driest_9 (by decide) (nI_nle' (by omega) (by omega) (by omega)) ?_
    refine j_aload_n dX4_driest_12 rfl ?_
    refine j_iload_n dX4_driest_13 rfl ?_
    refine j_iconst (v := nI 0) dX4_driest_14 (by decide) ?_
    refine j_iload_n dX4_driest_15 rfl ?_
    refine j_aload_n dX4_driest_16 rfl ?_
    refine j_get fl_X4_13 dX4_driest_17 (by omega) m0 rfl ?_
    refine j_iconst (v := nI 1) dX4_driest_20 (by decide) ?_
    refine j_isub dX4_driest_21 ?_
    refine j_topi (y := nI (S - 1)) (pk_sub (by omega)) ?_
    refine j_cV (As := [.int (nI f), .int (nI 0), .int (nI f), .int (nI (S - 1))]) (rest := []) cm_X4_dryPart ci_X4_dryPart cs_X4_dryPart rfl ln_X4_148 (ci := 4) rfl dX4_driest_22 (d' := 1) (by decide) (by omega) m0 rfl rfl (Nat.le_of_ble_eq_true rfl) (Nat.le_of_ble_eq_true rfl) (s_X4_dryPart D f 0 f (S - 1) (by omega) (by omega) (by omega) (by omega)) ?_
    refine j_aload_n dX4_driest_25 rfl ?_
    refine j_iload_n dX4_driest_26 rfl ?_
    refine j_iconst (v := nI 0) dX4_driest_27 (by decide) ?_
    refine j_iload_n dX4_driest_28 rfl ?_
    refine j_aload_n dX4_driest_29 rfl ?_
    refine j_get fl_X4_13 dX4_driest_30 (by omega) m0 rfl ?_
    refine j_iconst (v := nI 1) dX4_driest_33 (by decide) ?_
    refine j_isub dX4_driest_34 ?_
    refine j_topi (y := nI (S - 1)) (pk_sub (by omega)) ?_
    refine j_cV (As := [.int (nI y), .int (nI 0), .int (nI y), .int (nI (S - 1))]) (rest := [.int (dryP lv S f 0 f (S - 1))]) cm_X4_dryPart ci_X4_dryPart cs_X4_dryPart rfl ln_X4_148 (ci := 4) rfl dX4_driest_35 (d' := 1) (by decide) (by omega) m0 rfl rfl (Nat.le_of_ble_eq_true rfl) (Nat.le_of_ble_eq_true rfl) (s_X4_dryPart D y 0 y (S - 1) (by omega) (by omega) (by omega) (by omega)) ?_
    refine j_icmp_le (tgt := 43) dX4_driest_38 (by decide) (fun hq => ?_) (fun hq => ?_)
    · skip
      refine j_iinc (v := nI (f + 1)) (L' := [some (.ref (ad 63)), some (.int (nI y)), some (.int (nI (f + 1)))]) dX4_driest_43 (by decide) rfl (nI_1 _) rfl rfl ?_
      refine j_goto (tgt := 4) dX4_driest_46 (by decide) ?_
      exact ih _ (by simp only [hq, if_true, if_false])
    · skip
      refine j_iload_n dX4_driest_41 rfl ?_
      refine j_istore_n (L' := [some (.ref (ad 63)), some (.int (nI f)), some (.int (nI f))]) dX4_driest_42 (by decide) rfl rfl ?_
      refine j_iinc (v := nI (f + 1)) (L' := [some (.ref (ad 63)), some (.int (nI f)), some (.int (nI (f + 1)))]) dX4_driest_43 (by decide) rfl (nI_1 _) rfl rfl ?_
      refine j_goto (tgt := 4) dX4_driest_46 (by decide) ?_
      exact ih _ (by simp only [hq, if_true, if_false])
  · skip
    show J g mX4_driest 2 0 0 4 [some (.ref (ad 63)), some (.int (nI (driestM lv F S))), some (.int (nI F))] [] n ad E Φ Ψ
    refine j_iload_n dX4_driest_4 rfl ?_
    refine j_aload_n dX4_driest_5 rfl ?_
    refine j_get fl_X4_9 dX4_driest_6 (by omega) m0 rfl ?_
    refine j_icmp_ge_t (tgt := 49) dX4_driest_9 (by decide) (nI_le' (by omega) (by omega) (by omega)) ?_
    refine j_iload_n dX4_driest_49 rfl ?_
    exact j_iret dX4_driest_50 rfl h
set_option maxRecDepth 100000 in
set_option maxHeartbeats 4000000 in
theorem s_X4_driestFlight {g : jG} {n : Nat} {ad : Nat → Nat} {E : Nat → va_E} {th : Int32} {F S : Nat} {hrs su : Int32} {gone : Int64} {lv ed : Nat → Int32} {first cnt : Nat} {ah : Nat → Int32} {mc : Nat} {mk : Nat → Int32} (D : MR g n ad E th F S hrs su gone lv ed first cnt ah mc mk) : RetP g mX4_driestFlight 3 [.ref (ad 63)] n ad E (some (.int (nI (driestM lv F S)))) (fun E9 => MR g n ad E9 0 F S hrs su gone lv ed first cnt ah mc mk ∧ ∀ k, (k < 63 ∨ 69 ≤ k) → E9 k = E k) := by
  obtain ⟨m0, m1, m2, m3, m4, ⟨wk, m5⟩, hF, hS, hFp, hSp, hfi, hcn, hmc, hn⟩ := id D
  intro Φ Ψ h
  show J g mX4_driestFlight 3 0 0 0 [some (.ref (ad 63))] [] n ad E Φ Ψ
  refine j_aload_n dX4_driestFlight_0 rfl ?_
  refine j_aload_n dX4_driestFlight_1 rfl ?_
  refine j_cV (As := []) (rest := [.ref (ad 63)]) cm_X4_driest ci_X4_driest cs_X4_driest rfl ln_X4_157 (ci := 4) rfl dX4_driestFlight_2 (d' := 2) (by decide) (by omega) m0 rfl rfl (Nat.le_of_ble_eq_true rfl) (Nat.le_of_ble_eq_true rfl) (s_X4_driest D) ?_
  refine j_cV (As := [.int (nI (driestM lv F S))]) (rest := []) cm_X4_ok ci_X4_ok cs_X4_ok rfl ln_X4_114 (ci := 4) rfl dX4_driestFlight_5 (d' := 0) (by decide) (by omega) m0 rfl rfl (Nat.le_of_ble_eq_true rfl) (Nat.le_of_ble_eq_true rfl) (s_X4_ok D (nI (driestM lv F S))) ?_
  exact j_iret dX4_driestFlight_8 rfl (h _ ⟨(MR.setO D ⟨by omega, by omega, by omega, by omega, by omega, by omega, by omega⟩), (fun k hk => ((up_ne (by omega)).trans rfl))⟩)
def lowM (lv : Nat → Int32) (S fa sa fb sb : Nat) : Int32 := lpf (fun f x => lpf (fun s x => if lv (f * S + s) < x then lv (f * S + s) else x) sa (sb + 1 - sa) x) fa (fb + 1 - fa) (lv (fa * S + sa))
set_option maxRecDepth 100000 in
set_option maxHeartbeats 4000000 in
theorem s_X4_lowestIn_ok {g : jG} {n : Nat} {ad : Nat → Nat} {E : Nat → va_E} {th : Int32} {F S : Nat} {hrs su : Int32} {gone : Int64} {lv ed : Nat → Int32} {first cnt : Nat} {ah : Nat → Int32} {mc : Nat} {mk : Nat → Int32} (D : MR g n ad E th F S hrs su gone lv ed first cnt ah mc mk) (fa sa fb sb : Nat) (hfa : fa < F) (hsa : sa < S) (hfb : fb < F) (hsb : sb < S) (h1 : fa ≤ fb) (h2 : sa ≤ sb) : RetP g mX4_lowestIn 3 [.ref (ad 63), .int (nI fa), .int (nI sa), .int (nI fb), .int (nI sb)] n ad E (some (.int (lowM lv S fa sa fb sb))) (fun E9 => MR g n ad E9 0 F S hrs su gone lv ed first cnt ah mc mk ∧ ∀ k, (k < 63 ∨ 69 ≤ k) → E9 k = E k) := by
  obtain ⟨m0, m1, m2, m3, m4, ⟨wk, m5⟩, hF, hS, hFp, hSp, hfi, hcn, hmc, hn⟩ := id D
  intro Φ Ψ h
  show J g mX4_lowestIn 3 0 0 0 [some (.ref (ad 63)), some (.int (nI fa)), some (.int (nI sa)), some (.int (nI fb)), some (.int (nI sb)), none, none, none] [] n ad E Φ Ψ
  refine j_aload_n dX4_lowestIn_0 rfl ?_
  refine j_aload_n dX4_lowestIn_1 rfl ?_
  refine j_iload_n dX4_lowestIn_2 rfl ?_
  refine j_iload_n dX4_lowestIn_3 rfl ?_
  refine j_iload_n dX4_lowestIn_4 rfl ?_
  refine j_iload dX4_lowestIn_5 rfl ?_
  refine j_cV (As := [.int (nI fa), .int (nI sa), .int (nI fb), .int (nI sb)]) (rest := [.ref (ad 63)]) cm_X4_part ci_X4_part cs_X4_part rfl ln_X4_91 (ci := 4) rfl dX4_lowestIn_7 (d' := 2) (by decide) (by omega) m0 rfl rfl (Nat.le_of_ble_eq_true rfl) (Nat.le_of_ble_eq_true rfl) (s_part_ok D fa sa fb sb hfa hsa hfb hsb h1 h2) ?_
  refine j_put fl_X4_38 fp_X4 dX4_lowestIn_10 (by omega) m0 (Or.inl rfl) rfl rfl (Nat.le_of_ble_eq_true rfl) ?_
  refine j_aload_n dX4_lowestIn_13 rfl ?_
  refine j_get fl_X4_38 dX4_lowestIn_14 (by omega) up_eq rfl ?_
  refine j_if_le_t (tgt := 22) dX4_lowestIn_17 (by decide) (by decide) ?_
  refine j_aload_n dX4_lowestIn_22 rfl ?_
  refine j_iload_n dX4_lowestIn_23 rfl ?_
  refine j_iload_n dX4_lowestIn_24 rfl ?_
  refine j_cV (As := [.int (nI fa), .int (nI sa)]) (rest := []) cm_X4_at ci_X4_at cs_X4_at rfl ln_X4_121 (ci := 4) rfl dX4_lowestIn_25 (d' := 0) (by decide) (by omega) up_eq rfl rfl (Nat.le_of_ble_eq_true rfl) (Nat.le_of_ble_eq_true rfl) (s_X4_at (MR.setO D ⟨by omega, by omega, by omega, by omega, by omega, by omega, by omega⟩) fa sa (ix128 hF hS hfa hsa)) ?_
  refine j_istore (L' := [some (.ref (ad 63)), some (.int (nI fa)), some (.int (nI sa)), some (.int (nI fb)), some (.int (nI sb)), some (.int (lv (fa * S + sa))), none, none]) dX4_lowestIn_28 (by decide) rfl rfl ?_
  refine j_iload_n dX4_lowestIn_30 rfl ?_
  refine j_istore (L' := [some (.ref (ad 63)), some (.int (nI fa)), some (.int (nI sa)), some (.int (nI fb)), some (.int (nI sb)), some (.int (lv (fa * S + sa))), some (.int (nI fa)), none]) dX4_lowestIn_31 (by decide) rfl rfl ?_
  refine lpf_ind (b := fun f x => lpf (fun s x => if lv (f * S + s) < x then lv (f * S + s) else x) sa (sb + 1 - sa) x) (P := fun (f : Nat) (x : Int32) => J g mX4_lowestIn 3 0 0 33 [some (.ref (ad 63)), some (.int (nI fa)), some (.int (nI sa)), some (.int (nI fb)), some (.int (nI sb)), some (.int x), some (.int (nI f)), none] [] n ad (va_up E 63 (.inr (4, [.int 0, .int (nI F), .int (nI S), .int hrs, .int su, .long gone, .ref (ad 64), .ref (ad 65), .ref (ad 66), .int (nI first), .int (nI cnt), .ref (ad 67), .int (nI mc), .ref (ad 68)]))) Φ Ψ) (N := fa + (fb + 1 - fa)) fa ?_ (fb + 1 - fa) (lv (fa * S + sa)) (by omega) ?_
  · intro f x hf0 hf ih
    show J g mX4_lowestIn 3 0 0 33 [some (.ref (ad 63)), some (.int (nI fa)), some (.int (nI sa)), some (.int (nI fb)), some (.int (nI sb)), some (.int x), some (.int (nI f)), none] [] n ad (va_up E 63 (.inr (4, [.int 0, .int (nI F), .int (nI S), .int hrs, .int su, .long gone, .ref (ad 64), .ref (ad 65), .ref (ad 66), .int (nI first), .int (nI cnt), .ref (ad 67), .int (nI mc), .ref (ad 68)]))) Φ Ψ
    have ih0 := ih
    clear ih
    refine j_iload dX4_lowestIn_33 rfl ?_
    refine j_iload_n dX4_lowestIn_35 rfl ?_
    refine j_icmp_gt_f (tgt := 76) dX4_lowestIn_36 (by decide) (nI_nlt' (by omega) (by omega) (by omega)) ?_
    refine j_iload_n dX4_lowestIn_39 rfl ?_
    refine j_istore (L' := [some (.ref (ad 63)), some (.int (nI fa)), some (.int (nI sa)), some (.int (nI fb)), some (.int (nI sb)), some (.int x), some (.int (nI f)), some (.int (nI sa))]) dX4_lowestIn_40 (by decide) rfl rfl ?_
    refine lpf_ind (b := fun s x => if lv (f * S + s) < x then lv (f * S + s) else x) (P := fun (s : Nat) (x : Int32) => J g mX4_lowestIn 3 0 0 42 [some (.ref (ad 63)), some (.int (nI fa)), some (.int (nI sa)), some (.int (nI fb)), some (.int (nI sb)), some (.int x), some (.int (nI f)), some (.int (nI s))] [] n ad (va_up E 63 (.inr (4, [.int 0, .int (nI F), .int (nI S), .int hrs, .int su, .long gone, .ref (ad 64), .ref (ad 65), .ref (ad 66), .int (nI first), .int (nI cnt), .ref (ad 67), .int (nI mc), .ref (ad 68)]))) Φ Ψ) (N := sa + (sb + 1 - sa)) sa ?_ (sb + 1 - sa) x (by omega) ?_
    · intro s x hs0 hs ih
      show J g mX4_lowestIn 3 0 0 42 [some (.ref (ad 63)), some (.int (nI fa)), some (.int (nI sa)), some (.int (nI fb)), some (.int (nI sb)), some (.int x), some (.int (nI f)), some (.int (nI s))] [] n ad (va_up E 63 (.inr (4, [.int 0, .int (nI F), .int (nI S), .int hrs, .int su, .long gone, .ref (ad 64), .ref (ad 65), .ref (ad 66), .int (nI first), .int (nI cnt), .ref (ad 67), .int (nI mc), .ref (ad 68)]))) Φ Ψ
      refine j_iload dX4_lowestIn_42 rfl ?_
      refine j_iload dX4_lowestIn_44 rfl ?_
      refine j_icmp_gt_f (tgt := 70) dX4_lowestIn_46 (by decide) (nI_nlt' (by omega) (by omega) (by omega)) ?_
      refine j_iload dX4_lowestIn_49 rfl ?_
      refine j_aload_n dX4_lowestIn_51 rfl ?_
      refine j_iload dX4_lowestIn_52 rfl ?_
      refine j_iload dX4_lowestIn_54 rfl ?_
      refine j_cV (As := [.int (nI f), .int (nI s)]) (rest := [.int x]) cm_X4_at ci_X4_at cs_X4_at rfl ln_X4_121 (ci := 4) rfl dX4_lowestIn_56 (d' := 0) (by decide) (by omega) up_eq rfl rfl (Nat.le_of_ble_eq_true rfl) (Nat.le_of_ble_eq_true rfl) (s_X4_at (MR.setO D ⟨by omega, by omega, by omega, by omega, by omega, by omega, by omega⟩) f s (ix128 hF hS (show f < F by omega) (show s < S by omega))) ?_
      refine j_mmin ln_X4_98 js_min iz_java_lang_Math jc_min dX4_lowestIn_59 (by decide) (Nat.le_of_ble_eq_true rfl) ?_
      refine j_istore (L' := [some (.ref (ad 63)), some (.int (nI fa)), some (.int (nI sa)), some (.int (nI fb)), some (.int (nI sb)), some (.int (if (lv (f * S + s)) < x then (lv (f * S + s)) else x)), some (.int (nI f)), some (.int (nI s))]) dX4_lowestIn_62 (by decide) rfl rfl ?_
      refine j_iinc (v := nI (s + 1)) (L' := [some (.ref (ad 63)), some (.int (nI fa)), some (.int (nI sa)), some (.int (nI fb)), some (.int (nI sb)), some (.int (if (lv (f * S + s)) < x then (lv (f * S + s)) else x)), some (.int (nI f)), some (.int (nI (s + 1)))]) dX4_lowestIn_64 (by decide) rfl (nI_1 _) rfl rfl ?_
      refine j_goto (tgt := 42) dX4_lowestIn_67 (by decide) ?_
      exact ih _ rfl
    · skip
      show J g mX4_lowestIn 3 0 0 42 [some (.ref (ad 63)), some (.int (nI fa)), some (.int (nI sa)), some (.int (nI fb)), some (.int (nI sb)), some (.int (lpf (fun s x => if lv (f * S + s) < x then lv (f * S + s) else x) sa (sb + 1 - sa) x)), some (.int (nI f)), some (.int (nI (sa + (sb + 1 - sa))))] [] n ad (va_up E 63 (.inr (4, [.int 0, .int (nI F), .int (nI S), .int hrs, .int su, .long gone, .ref (ad 64), .ref (ad 65), .ref (ad 66), .int (nI first), .int (nI cnt), .ref (ad 67), .int (nI mc), .ref (ad 68)]))) Φ Ψ
      refine j_iload dX4_lowestIn_42 rfl ?_
      refine j_iload dX4_lowestIn_44 rfl ?_
      refine j_icmp_gt_t (tgt := 70) dX4_lowestIn_46 (by decide) (nI_lt' (by omega) (by omega) (by omega)) ?_
      refine j_iinc (v := nI (f + 1)) (L' := [some (.ref (ad 63)), some (.int (nI fa)), some (.int (nI sa)), some (.int (nI fb)), some (.int (nI sb)), some (.int (lpf (fun s x => if lv (f * S + s) < x then lv (f * S + s) else x) sa (sb + 1 - sa) x)), some (.int (nI (f + 1))), some (.int (nI (sa + (sb + 1 - sa))))]) dX4_lowestIn_70 (by decide) rfl (nI_1 _) rfl rfl ?_
      refine j_goto (tgt := 33) dX4_lowestIn_73 (by decide) ?_
      refine j_clr 7 ?_
      exact ih0 _ rfl
  · skip
    show J g mX4_lowestIn 3 0 0 33 [some (.ref (ad 63)), some (.int (nI fa)), some (.int (nI sa)), some (.int (nI fb)), some (.int (nI sb)), some (.int (lowM lv S fa sa fb sb)), some (.int (nI (fa + (fb + 1 - fa)))), none] [] n ad (va_up E 63 (.inr (4, [.int 0, .int (nI F), .int (nI S), .int hrs, .int su, .long gone, .ref (ad 64), .ref (ad 65), .ref (ad 66), .int (nI first), .int (nI cnt), .ref (ad 67), .int (nI mc), .ref (ad 68)]))) Φ Ψ
    refine j_iload dX4_lowestIn_33 rfl ?_
    refine j_iload_n dX4_lowestIn_35 rfl ?_
    refine j_icmp_gt_t (tgt := 76) dX4_lowestIn_36 (by decide) (nI_lt' (by omega) (by omega) (by omega)) ?_
    refine j_iload dX4_lowestIn_76 rfl ?_
    exact j_iret dX4_lowestIn_78 rfl (h _ ⟨(MR.setO D ⟨by omega, by omega, by omega, by omega, by omega, by omega, by omega⟩), (fun k hk => ((up_ne (by omega)).trans rfl))⟩)
set_option maxRecDepth 100000 in
set_option maxHeartbeats 4000000 in
theorem s_X4_lowestIn_bad {g : jG} {n : Nat} {ad : Nat → Nat} {E : Nat → va_E} {th : Int32} {F S : Nat} {hrs su : Int32} {gone : Int64} {lv ed : Nat → Int32} {first cnt : Nat} {ah : Nat → Int32} {mc : Nat} {mk : Nat → Int32} (D : MR g n ad E th F S hrs su gone lv ed first cnt ah mc mk) (x1 x2 x3 x4 : Int32) (hx : oob x1 F ∨ oob x2 S ∨ oob x3 F ∨ oob x4 S) : RetP g mX4_lowestIn 3 [.ref (ad 63), .int x1, .int x2, .int x3, .int x4] n ad E (some (.int 0)) (fun E9 => MR g n ad E9 1 F S hrs su gone lv ed first cnt ah mc mk ∧ ∀ k, (k < 63 ∨ 69 ≤ k) → E9 k = E k) := by
  obtain ⟨m0, m1, m2, m3, m4, ⟨wk, m5⟩, hF, hS, hFp, hSp, hfi, hcn, hmc, hn⟩ := id D
  intro Φ Ψ h
  show J g mX4_lowestIn 3 0 0 0 [some (.ref (ad 63)), some (.int x1), some (.int x2), some (.int x3), some (.int x4), none, none, none] [] n ad E Φ Ψ
  refine j_aload_n dX4_lowestIn_0 rfl ?_
  refine j_aload_n dX4_lowestIn_1 rfl ?_
  refine j_iload_n dX4_lowestIn_2 rfl ?_
  refine j_iload_n dX4_lowestIn_3 rfl ?_
  refine j_iload_n dX4_lowestIn_4 rfl ?_
  refine j_iload dX4_lowestIn_5 rfl ?_
  refine j_cV (As := [.int x1, .int x2, .int x3, .int x4]) (rest := [.ref (ad 63)]) cm_X4_part ci_X4_part cs_X4_part rfl ln_X4_91 (ci := 4) rfl dX4_lowestIn_7 (d' := 2) (by decide) (by omega) m0 rfl rfl (Nat.le_of_ble_eq_true rfl) (Nat.le_of_ble_eq_true rfl) (s_part_bad D x1 x2 x3 x4 hx) ?_
  refine j_put fl_X4_38 fp_X4 dX4_lowestIn_10 (by omega) m0 (Or.inl rfl) rfl rfl (Nat.le_of_ble_eq_true rfl) ?_
  refine j_aload_n dX4_lowestIn_13 rfl ?_
  refine j_get fl_X4_38 dX4_lowestIn_14 (by omega) up_eq rfl ?_
  refine j_if_le_f (tgt := 22) dX4_lowestIn_17 (by decide) (by decide) ?_
  refine j_iconst (v := 0) dX4_lowestIn_20 (by decide) ?_
  exact j_iret dX4_lowestIn_21 rfl (h _ ⟨(MR.setO D ⟨by omega, by omega, by omega, by omega, by omega, by omega, by omega⟩), (fun k hk => ((up_ne (by omega)).trans rfl))⟩)
set_option maxRecDepth 100000 in
set_option maxHeartbeats 4000000 in
theorem s_X4_lowestIn_iae {g : jG} {n : Nat} {ad : Nat → Nat} {E : Nat → va_E} {th : Int32} {F S : Nat} {hrs su : Int32} {gone : Int64} {lv ed : Nat → Int32} {first cnt : Nat} {ah : Nat → Int32} {mc : Nat} {mk : Nat → Int32} (D : MR g n ad E th F S hrs su gone lv ed first cnt ah mc mk) (fa sa fb sb : Nat) (hfa : fa < F) (hsa : sa < S) (hfb : fb < F) (hsb : sb < S) (hx : fb < fa ∨ sb < sa) : RetP g mX4_lowestIn 3 [.ref (ad 63), .int (nI fa), .int (nI sa), .int (nI fb), .int (nI sb)] n ad E (some (.int 0)) (fun E9 => MR g n ad E9 2 F S hrs su gone lv ed first cnt ah mc mk ∧ ∀ k, (k < 63 ∨ 69 ≤ k) → E9 k = E k) := by
  obtain ⟨m0, m1, m2, m3, m4, ⟨wk, m5⟩, hF, hS, hFp, hSp, hfi, hcn, hmc, hn⟩ := id D
  intro Φ Ψ h
  show J g mX4_lowestIn 3 0 0 0 [some (.ref (ad 63)), some (.int (nI fa)), some (.int (nI sa)), some (.int (nI fb)), some (.int (nI sb)), none, none, none] [] n ad E Φ Ψ
  refine j_aload_n dX4_lowestIn_0 rfl ?_
  refine j_aload_n dX4_lowestIn_1 rfl ?_
  refine j_iload_n dX4_lowestIn_2 rfl ?_
  refine j_iload_n dX4_lowestIn_3 rfl ?_
  refine j_iload_n dX4_lowestIn_4 rfl ?_
  refine j_iload dX4_lowestIn_5 rfl ?_
  refine j_cV (As := [.int (nI fa), .int (nI sa), .int (nI fb), .int (nI sb)]) (rest := [.ref (ad 63)]) cm_X4_part ci_X4_part cs_X4_part rfl ln_X4_91 (ci := 4) rfl dX4_lowestIn_7 (d' := 2) (by decide) (by omega) m0 rfl rfl (Nat.le_of_ble_eq_true rfl) (Nat.le_of_ble_eq_true rfl) (s_part_iae D fa sa fb sb hfa hsa hfb hsb hx) ?_
  refine j_put fl_X4_38 fp_X4 dX4_lowestIn_10 (by omega) m0 (Or.inl rfl) rfl rfl (Nat.le_of_ble_eq_true rfl) ?_
  refine j_aload_n dX4_lowestIn_13 rfl ?_
  refine j_get fl_X4_38 dX4_lowestIn_14 (by omega) up_eq rfl ?_
  refine j_if_le_f (tgt := 22) dX4_lowestIn_17 (by decide) (by decide) ?_
  refine j_iconst (v := 0) dX4_lowestIn_20 (by decide) ?_
  exact j_iret dX4_lowestIn_21 rfl (h _ ⟨(MR.setO D ⟨by omega, by omega, by omega, by omega, by omega, by omega, by omega⟩), (fun k hk => ((up_ne (by omega)).trans rfl))⟩)
set_option maxRecDepth 100000 in
set_option maxHeartbeats 4000000 in
theorem s_X4_highest {g : jG} {n : Nat} {ad : Nat → Nat} {E : Nat → va_E} {th : Int32} {F S : Nat} {hrs su : Int32} {gone : Int64} {lv ed : Nat → Int32} {first cnt : Nat} {ah : Nat → Int32} {mc : Nat} {mk : Nat → Int32} (D : MR g n ad E th F S hrs su gone lv ed first cnt ah mc mk) (a : Nat) (ha : a < F) : Ret g mX4_highest 1 [.ref (ad 63), .int (nI a)] n ad E (some (.int (nI (highR lv S a)))) E := by
  obtain ⟨m0, m1, m2, m3, m4, ⟨wk, m5⟩, hF, hS, hFp, hSp, hfi, hcn, hmc, hn⟩ := id D
  intro Φ Ψ h
  show J g mX4_highest 1 0 0 0 [some (.ref (ad 63)), some (.int (nI a)), none, none] [] n ad E Φ Ψ
  refine j_iconst (v := nI 0) dX4_highest_0 (by decide) ?_
  refine j_istore_n (L' := [some (.ref (ad 63)), some (.int (nI a)), some (.int (nI 0)), none]) dX4_highest_1 (by decide) rfl rfl ?_
  refine j_iconst (v := nI 1) dX4_highest_2 (by decide) ?_
  refine j_istore_n (L' := [some (.ref (ad 63)), some (.int (nI a)), some (.int (nI 0)), some (.int (nI 1))]) dX4_highest_3 (by decide) rfl rfl ?_
  refine lpfB_ind (b := fun s h => if lv (a * S + s) ≤ lv (a * S + h) then h else s) (P := fun (s y : Nat) => J g mX4_highest 1 0 0 4 [some (.ref (ad 63)), some (.int (nI a)), some (.int (nI y)), some (.int (nI s))] [] n ad E Φ Ψ) (N := S) 1 (fun y => y < S) (fun j y hj hy => by show (if _ then y else j) < S; split <;> omega) ?_ (S - 1) 0 (by omega) (by omega) ?_
  · intro s y hs0 hs hb1 ih
    show J g mX4_highest 1 0 0 4 [some (.ref (ad 63)), some (.int (nI a)), some (.int (nI y)), some (.int (nI s))] [] n ad E Φ Ψ
    refine j_iload_n dX4_highest_4 rfl ?_
    refine j_aload_n dX4_highest_5 rfl ?_
    refine j_get fl_X4_13 dX4_highest_6 (by omega) m0 rfl ?_
    refine j_icmp_ge_f (tgt := 35) dX4_highest_9 (by decide) (nI_nle' (by omega) (by omega) (by omega)) ?_
    refine j_aload_n dX4_highest_12 rfl ?_
    refine j_iload_n dX4_highest_13 rfl ?_
    refine j_iload_n dX4_highest_14 rfl ?_
    refine j_cV (As := [.int (nI a), .int (nI s)]) (rest := []) cm_X4_at ci_X4_at cs_X4_at rfl ln_X4_121 (ci := 4) rfl dX4_highest_15 (d' := 0) (by decide) (by omega) m0 rfl rfl (Nat.le_of_ble_eq_true rfl) (Nat.le_of_ble_eq_true rfl) (s_X4_at D a s (ix128 hF hS ha hs)) ?_
    refine j_aload_n dX4_highest_18 rfl ?_
    refine j_iload_n dX4_highest_19 rfl ?_
    refine j_iload_n dX4_highest_20 rfl ?_
    refine j_cV (As := [.int (nI a), .int (nI y)]) (rest := [.int (lv (a * S + s))]) cm_X4_at ci_X4_at cs_X4_at rfl ln_X4_121 (ci := 4) rfl dX4_highest_21 (d' := 0) (by decide) (by omega) m0 rfl rfl (Nat.le_of_ble_eq_true rfl) (Nat.le_of_ble_eq_true rfl) (s_X4_at D a y (ix128 hF hS ha hb1)) ?_
    refine j_icmp_le (tgt := 29) dX4_highest_24 (by decide) (fun hq => ?_) (fun hq => ?_)
    · skip
      refine j_iinc (v := nI (s + 1)) (L' := [some (.ref (ad 63)), some (.int (nI a)), some (.int (nI y)), some (.int (nI (s + 1)))]) dX4_highest_29 (by decide) rfl (nI_1 _) rfl rfl ?_
      refine j_goto (tgt := 4) dX4_highest_32 (by decide) ?_
      exact ih _ (by simp only [hq, if_true, if_false])
    · skip
      refine j_iload_n dX4_highest_27 rfl ?_
      refine j_istore_n (L' := [some (.ref (ad 63)), some (.int (nI a)), some (.int (nI s)), some (.int (nI s))]) dX4_highest_28 (by decide) rfl rfl ?_
      refine j_iinc (v := nI (s + 1)) (L' := [some (.ref (ad 63)), some (.int (nI a)), some (.int (nI s)), some (.int (nI (s + 1)))]) dX4_highest_29 (by decide) rfl (nI_1 _) rfl rfl ?_
      refine j_goto (tgt := 4) dX4_highest_32 (by decide) ?_
      exact ih _ (by simp only [hq, if_true, if_false])
  · skip
    show J g mX4_highest 1 0 0 4 [some (.ref (ad 63)), some (.int (nI a)), some (.int (nI (highR lv S a))), some (.int (nI S))] [] n ad E Φ Ψ
    refine j_iload_n dX4_highest_4 rfl ?_
    refine j_aload_n dX4_highest_5 rfl ?_
    refine j_get fl_X4_13 dX4_highest_6 (by omega) m0 rfl ?_
    refine j_icmp_ge_t (tgt := 35) dX4_highest_9 (by decide) (nI_le' (by omega) (by omega) (by omega)) ?_
    refine j_iload_n dX4_highest_35 rfl ?_
    exact j_iret dX4_highest_36 rfl h
set_option maxRecDepth 100000 in
set_option maxHeartbeats 4000000 in
theorem s_X4_highestAt_ok {g : jG} {n : Nat} {ad : Nat → Nat} {E : Nat → va_E} {th : Int32} {F S : Nat} {hrs su : Int32} {gone : Int64} {lv ed : Nat → Int32} {first cnt : Nat} {ah : Nat → Int32} {mc : Nat} {mk : Nat → Int32} (D : MR g n ad E th F S hrs su gone lv ed first cnt ah mc mk) (a : Nat) (ha : a < F) : RetP g mX4_highestAt 2 [.ref (ad 63), .int (nI a)] n ad E (some (.int (nI (highR lv S a)))) (fun E9 => MR g n ad E9 0 F S hrs su gone lv ed first cnt ah mc mk ∧ ∀ k, (k < 63 ∨ 69 ≤ k) → E9 k = E k) := by
  obtain ⟨m0, m1, m2, m3, m4, ⟨wk, m5⟩, hF, hS, hFp, hSp, hfi, hcn, hmc, hn⟩ := id D
  intro Φ Ψ h
  show J g mX4_highestAt 2 0 0 0 [some (.ref (ad 63)), some (.int (nI a))] [] n ad E Φ Ψ
  refine j_aload_n dX4_highestAt_0 rfl ?_
  refine j_iconst (v := 0) dX4_highestAt_1 (by decide) ?_
  refine j_put fl_X4_38 fp_X4 dX4_highestAt_2 (by omega) m0 (Or.inl rfl) rfl rfl (Nat.le_of_ble_eq_true rfl) ?_
  refine j_aload_n dX4_highestAt_5 rfl ?_
  refine j_iload_n dX4_highestAt_6 rfl ?_
  refine j_cV (As := [.int (nI a)]) (rest := []) cm_X4_isFlight ci_X4_isFlight cs_X4_isFlight rfl ln_X4_48 (ci := 4) rfl dX4_highestAt_7 (d' := 1) (by decide) (by omega) up_eq rfl rfl (Nat.le_of_ble_eq_true rfl) (Nat.le_of_ble_eq_true rfl) (s_isFlight_t (MR.setO D ⟨by omega, by omega, by omega, by omega, by omega, by omega, by omega⟩) a ha) ?_
  refine j_if_eq_f (tgt := 21) dX4_highestAt_10 (by decide) (by decide) ?_
  refine j_aload_n dX4_highestAt_13 rfl ?_
  refine j_iload_n dX4_highestAt_14 rfl ?_
  refine j_cV (As := [.int (nI a)]) (rest := []) cm_X4_highest ci_X4_highest cs_X4_highest rfl ln_X4_160 (ci := 4) rfl dX4_highestAt_15 (d' := 1) (by decide) (by omega) up_eq rfl rfl (Nat.le_of_ble_eq_true rfl) (Nat.le_of_ble_eq_true rfl) (s_X4_highest (MR.setO D ⟨by omega, by omega, by omega, by omega, by omega, by omega, by omega⟩) a ha) ?_
  refine j_goto (tgt := 26) dX4_highestAt_18 (by decide) ?_
  exact j_iret dX4_highestAt_26 rfl (h _ ⟨(MR.setO D ⟨by omega, by omega, by omega, by omega, by omega, by omega, by omega⟩), (fun k hk => ((up_ne (by omega)).trans rfl))⟩)
set_option maxRecDepth 100000 in
set_option maxHeartbeats 4000000 in
theorem s_X4_highestAt_bad {g : jG} {n : Nat} {ad : Nat → Nat} {E : Nat → va_E} {th : Int32} {F S : Nat} {hrs su : Int32} {gone : Int64} {lv ed : Nat → Int32} {first cnt : Nat} {ah : Nat → Int32} {mc : Nat} {mk : Nat → Int32} (D : MR g n ad E th F S hrs su gone lv ed first cnt ah mc mk) (x : Int32) (hx : oob x F) : RetP g mX4_highestAt 2 [.ref (ad 63), .int x] n ad E (some (.int 0)) (fun E9 => MR g n ad E9 1 F S hrs su gone lv ed first cnt ah mc mk ∧ ∀ k, (k < 63 ∨ 69 ≤ k) → E9 k = E k) := by
  obtain ⟨m0, m1, m2, m3, m4, ⟨wk, m5⟩, hF, hS, hFp, hSp, hfi, hcn, hmc, hn⟩ := id D
  intro Φ Ψ h
  show J g mX4_highestAt 2 0 0 0 [some (.ref (ad 63)), some (.int x)] [] n ad E Φ Ψ
  refine j_aload_n dX4_highestAt_0 rfl ?_
  refine j_iconst (v := 0) dX4_highestAt_1 (by decide) ?_
  refine j_put fl_X4_38 fp_X4 dX4_highestAt_2 (by omega) m0 (Or.inl rfl) rfl rfl (Nat.le_of_ble_eq_true rfl) ?_
  refine j_aload_n dX4_highestAt_5 rfl ?_
  refine j_iload_n dX4_highestAt_6 rfl ?_
  refine j_cV (As := [.int x]) (rest := []) cm_X4_isFlight ci_X4_isFlight cs_X4_isFlight rfl ln_X4_48 (ci := 4) rfl dX4_highestAt_7 (d' := 1) (by decide) (by omega) up_eq rfl rfl (Nat.le_of_ble_eq_true rfl) (Nat.le_of_ble_eq_true rfl) (s_isFlight_f (MR.setO D ⟨by omega, by omega, by omega, by omega, by omega, by omega, by omega⟩) x hx) ?_
  refine j_if_eq_t (tgt := 21) dX4_highestAt_10 (by decide) (by decide) ?_
  refine j_aload_n dX4_highestAt_21 rfl ?_
  refine j_iconst (v := 1) dX4_highestAt_22 (by decide) ?_
  refine j_cV (As := [.int 1]) (rest := []) cm_X4_no ci_X4_no cs_X4_no rfl ln_X4_84 (ci := 4) rfl dX4_highestAt_23 (d' := 0) (by decide) (by omega) up_eq rfl rfl (Nat.le_of_ble_eq_true rfl) (Nat.le_of_ble_eq_true rfl) (s_X4_no (MR.setO D ⟨by omega, by omega, by omega, by omega, by omega, by omega, by omega⟩) 1) ?_
  refine j_E up_up ?_
  exact j_iret dX4_highestAt_26 rfl (h _ ⟨(MR.setO D ⟨by omega, by omega, by omega, by omega, by omega, by omega, by omega⟩), (fun k hk => ((up_ne (by omega)).trans rfl))⟩)
set_option maxRecDepth 100000 in
set_option maxHeartbeats 4000000 in
theorem s_X4_below {g : jG} {n : Nat} {ad : Nat → Nat} {E : Nat → va_E} {th : Int32} {F S : Nat} {hrs su : Int32} {gone : Int64} {lv ed : Nat → Int32} {first cnt : Nat} {ah : Nat → Int32} {mc : Nat} {mk : Nat → Int32} (D : MR g n ad E th F S hrs su gone lv ed first cnt ah mc mk) (x : Int32) : Ret g mX4_below 1 [.ref (ad 63), .int x] n ad E (some (.int (uptC lv (F * S) x))) E := by
  obtain ⟨m0, m1, m2, m3, m4, ⟨wk, m5⟩, hF, hS, hFp, hSp, hfi, hcn, hmc, hn⟩ := id D
  have hFS := fs128 hF hS
  intro Φ Ψ h
  show J g mX4_below 1 0 0 0 [some (.ref (ad 63)), some (.int x), none, none] [] n ad E Φ Ψ
  refine j_iconst (v := 0) dX4_below_0 (by decide) ?_
  refine j_istore_n (L' := [some (.ref (ad 63)), some (.int x), some (.int 0), none]) dX4_below_1 (by decide) rfl rfl ?_
  refine j_iconst (v := nI 0) dX4_below_2 (by decide) ?_
  refine j_istore_n (L' := [some (.ref (ad 63)), some (.int x), some (.int 0), some (.int (nI 0))]) dX4_below_3 (by decide) rfl rfl ?_
  refine lpf_ind (b := fun k c => if x < lv k then c else c + 1) (P := fun (k : Nat) (c : Int32) => J g mX4_below 1 0 0 4 [some (.ref (ad 63)), some (.int x), some (.int c), some (.int (nI k))] [] n ad E Φ Ψ) (N := F * S) 0 ?_ (F * S) 0 (by omega) ?_
  · intro k c hk0 hk ih
    show J g mX4_below 1 0 0 4 [some (.ref (ad 63)), some (.int x), some (.int c), some (.int (nI k))] [] n ad E Φ Ψ
    refine j_iload_n dX4_below_4 rfl ?_
    refine j_aload_n dX4_below_5 rfl ?_
    refine j_cV (As := []) (rest := [.int (nI k)]) cm_X4_all ci_X4_all cs_X4_all rfl ln_X4_67 (ci := 4) rfl dX4_below_6 (d' := 0) (by decide) (by omega) m0 rfl rfl (Nat.le_of_ble_eq_true rfl) (Nat.le_of_ble_eq_true rfl) (s_X4_all D) ?_
    refine j_icmp_ge_f (tgt := 36) dX4_below_9 (by decide) (nI_nle' (by omega) (by omega) (by omega)) ?_
    refine j_iload_n dX4_below_12 rfl ?_
    refine j_aload_n dX4_below_13 rfl ?_
    refine j_get fl_X4_23 dX4_below_14 (by omega) m0 rfl ?_
    refine j_iload_n dX4_below_17 rfl ?_
    refine j_iald dX4_below_18 (by omega) m2 (by decide) (by omega) rfl ?_
    refine j_iload_n dX4_below_19 rfl ?_
    refine j_icmp_gt (tgt := 27) dX4_below_20 (by decide) (fun hq => ?_) (fun hq => ?_)
    · skip
      refine j_iconst (v := 0) dX4_below_27 (by decide) ?_
      refine j_iadd dX4_below_28 ?_
      refine j_istore_n (L' := [some (.ref (ad 63)), some (.int x), some (.int (c + 0)), some (.int (nI k))]) dX4_below_29 (by decide) rfl rfl ?_
      refine j_iinc (v := nI (k + 1)) (L' := [some (.ref (ad 63)), some (.int x), some (.int (c + 0)), some (.int (nI (k + 1)))]) dX4_below_30 (by decide) rfl (nI_1 _) rfl rfl ?_
      refine j_goto (tgt := 4) dX4_below_33 (by decide) ?_
      exact ih _ (by simp only [hq, if_true, if_false, Int32.add_zero])
    · skip
      refine j_iconst (v := 1) dX4_below_23 (by decide) ?_
      refine j_goto (tgt := 28) dX4_below_24 (by decide) ?_
      refine j_iadd dX4_below_28 ?_
      refine j_istore_n (L' := [some (.ref (ad 63)), some (.int x), some (.int (c + 1)), some (.int (nI k))]) dX4_below_29 (by decide) rfl rfl ?_
      refine j_iinc (v := nI (k + 1)) (L' := [some (.ref (ad 63)), some (.int x), some (.int (c + 1)), some (.int (nI (k + 1)))]) dX4_below_30 (by decide) rfl (nI_1 _) rfl rfl ?_
      refine j_goto (tgt := 4) dX4_below_33 (by decide) ?_
      exact ih _ (by simp only [hq, if_true, if_false, Int32.add_zero])
  · skip
    show J g mX4_below 1 0 0 4 [some (.ref (ad 63)), some (.int x), some (.int (uptC lv (F * S) x)), some (.int (nI (F * S)))] [] n ad E Φ Ψ
    refine j_iload_n dX4_below_4 rfl ?_
    refine j_aload_n dX4_below_5 rfl ?_
    refine j_cV (As := []) (rest := [.int (nI (F * S))]) cm_X4_all ci_X4_all cs_X4_all rfl ln_X4_67 (ci := 4) rfl dX4_below_6 (d' := 0) (by decide) (by omega) m0 rfl rfl (Nat.le_of_ble_eq_true rfl) (Nat.le_of_ble_eq_true rfl) (s_X4_all D) ?_
    refine j_icmp_ge_t (tgt := 36) dX4_below_9 (by decide) (nI_le' (by omega) (by omega) (by omega)) ?_
    refine j_iload_n dX4_below_36 rfl ?_
    exact j_iret dX4_below_37 rfl h
set_option maxRecDepth 100000 in
set_option maxHeartbeats 4000000 in
theorem s_X4_upTo {g : jG} {n : Nat} {ad : Nat → Nat} {E : Nat → va_E} {th : Int32} {F S : Nat} {hrs su : Int32} {gone : Int64} {lv ed : Nat → Int32} {first cnt : Nat} {ah : Nat → Int32} {mc : Nat} {mk : Nat → Int32} (D : MR g n ad E th F S hrs su gone lv ed first cnt ah mc mk) (x : Int32) : RetP g mX4_upTo 2 [.ref (ad 63), .int x] n ad E (some (.int (uptC lv (F * S) x))) (fun E9 => MR g n ad E9 0 F S hrs su gone lv ed first cnt ah mc mk ∧ ∀ k, (k < 63 ∨ 69 ≤ k) → E9 k = E k) := by
  obtain ⟨m0, m1, m2, m3, m4, ⟨wk, m5⟩, hF, hS, hFp, hSp, hfi, hcn, hmc, hn⟩ := id D
  intro Φ Ψ h
  show J g mX4_upTo 2 0 0 0 [some (.ref (ad 63)), some (.int x)] [] n ad E Φ Ψ
  refine j_aload_n dX4_upTo_0 rfl ?_
  refine j_aload_n dX4_upTo_1 rfl ?_
  refine j_iload_n dX4_upTo_2 rfl ?_
  refine j_cV (As := [.int x]) (rest := [.ref (ad 63)]) cm_X4_below ci_X4_below cs_X4_below rfl ln_X4_163 (ci := 4) rfl dX4_upTo_3 (d' := 1) (by decide) (by omega) m0 rfl rfl (Nat.le_of_ble_eq_true rfl) (Nat.le_of_ble_eq_true rfl) (s_X4_below D x) ?_
  refine j_cV (As := [.int (uptC lv (F * S) x)]) (rest := []) cm_X4_ok ci_X4_ok cs_X4_ok rfl ln_X4_114 (ci := 4) rfl dX4_upTo_6 (d' := 0) (by decide) (by omega) m0 rfl rfl (Nat.le_of_ble_eq_true rfl) (Nat.le_of_ble_eq_true rfl) (s_X4_ok D (uptC lv (F * S) x)) ?_
  exact j_iret dX4_upTo_9 rfl (h _ ⟨(MR.setO D ⟨by omega, by omega, by omega, by omega, by omega, by omega, by omega⟩), (fun k hk => ((up_ne (by omega)).trans rfl))⟩)
set_option maxRecDepth 100000 in
set_option maxHeartbeats 4000000 in
theorem s_X4_alike_ok {g : jG} {n : Nat} {ad : Nat → Nat} {E : Nat → va_E} {th : Int32} {F S : Nat} {hrs su : Int32} {gone : Int64} {lv ed : Nat → Int32} {first cnt : Nat} {ah : Nat → Int32} {mc : Nat} {mk : Nat → Int32} (D : MR g n ad E th F S hrs su gone lv ed first cnt ah mc mk) (a b : Nat) (ha : a < F) (hb : b < F) : RetP g mX4_alike 2 [.ref (ad 63), .int (nI a), .int (nI b)] n ad E (some (.int (alkC lv S a b))) (fun E9 => MR g n ad E9 0 F S hrs su gone lv ed first cnt ah mc mk ∧ ∀ k, (k < 63 ∨ 69 ≤ k) → E9 k = E k) := by
  obtain ⟨m0, m1, m2, m3, m4, ⟨wk, m5⟩, hF, hS, hFp, hSp, hfi, hcn, hmc, hn⟩ := id D
  intro Φ Ψ h
  show J g mX4_alike 2 0 0 0 [some (.ref (ad 63)), some (.int (nI a)), some (.int (nI b)), none, none] [] n ad E Φ Ψ
  refine j_aload_n dX4_alike_0 rfl ?_
  refine j_iconst (v := 0) dX4_alike_1 (by decide) ?_
  refine j_put fl_X4_38 fp_X4 dX4_alike_2 (by omega) m0 (Or.inl rfl) rfl rfl (Nat.le_of_ble_eq_true rfl) ?_
  refine j_aload_n dX4_alike_5 rfl ?_
  refine j_iload_n dX4_alike_6 rfl ?_
  refine j_cV (As := [.int (nI a)]) (rest := []) cm_X4_isFlight ci_X4_isFlight cs_X4_isFlight rfl ln_X4_48 (ci := 4) rfl dX4_alike_7 (d' := 1) (by decide) (by omega) up_eq rfl rfl (Nat.le_of_ble_eq_true rfl) (Nat.le_of_ble_eq_true rfl) (s_isFlight_t (MR.setO D ⟨by omega, by omega, by omega, by omega, by omega, by omega, by omega⟩) a ha) ?_
  refine j_if_eq_f (tgt := 21) dX4_alike_10 (by decide) (by decide) ?_
  refine j_aload_n dX4_alike_13 rfl ?_
  refine j_iload_n dX4_alike_14 rfl ?_
  refine j_cV (As := [.int (nI b)]) (rest := []) cm_X4_isFlight ci_X4_isFlight cs_X4_isFlight rfl ln_X4_48 (ci := 4) rfl dX4_alike_15 (d' := 1) (by decide) (by omega) up_eq rfl rfl (Nat.le_of_ble_eq_true rfl) (Nat.le_of_ble_eq_true rfl) (s_isFlight_t (MR.setO D ⟨by omega, by omega, by omega, by omega, by omega, by omega, by omega⟩) b hb) ?_
  refine j_if_ne_t (tgt := 27) dX4_alike_18 (by decide) (by decide) ?_
  refine j_iconst (v := 0) dX4_alike_27 (by decide) ?_
  refine j_istore_n (L' := [some (.ref (ad 63)), some (.int (nI a)), some (.int (nI b)), some (.int 0), none]) dX4_alike_28 (by decide) rfl rfl ?_
  refine j_iconst (v := nI 0) dX4_alike_29 (by decide) ?_
  refine j_istore (L' := [some (.ref (ad 63)), some (.int (nI a)), some (.int (nI b)), some (.int 0), some (.int (nI 0))]) dX4_alike_30 (by decide) rfl rfl ?_
  refine lpf_ind (b := fun s c => if lv (a * S + s) = lv (b * S + s) then c + 1 else c) (P := fun (s : Nat) (c : Int32) => J g mX4_alike 2 0 0 32 [some (.ref (ad 63)), some (.int (nI a)), some (.int (nI b)), some (.int c), some (.int (nI s))] [] n ad (va_up E 63 (.inr (4, [.int 0, .int (nI F), .int (nI S), .int hrs, .int su, .long gone, .ref (ad 64), .ref (ad 65), .ref (ad 66), .int (nI first), .int (nI cnt), .ref (ad 67), .int (nI mc), .ref (ad 68)]))) Φ Ψ) (N := S) 0 ?_ S 0 (by omega) ?_
  · intro s c hs0 hs ih
    show J g mX4_alike 2 0 0 32 [some (.ref (ad 63)), some (.int (nI a)), some (.int (nI b)), some (.int c), some (.int (nI s))] [] n ad (va_up E 63 (.inr (4, [.int 0, .int (nI F), .int (nI S), .int hrs, .int su, .long gone, .ref (ad 64), .ref (ad 65), .ref (ad 66), .int (nI first), .int (nI cnt), .ref (ad 67), .int (nI mc), .ref (ad 68)]))) Φ Ψ
    refine j_iload dX4_alike_32 rfl ?_
    refine j_aload_n dX4_alike_34 rfl ?_
    refine j_get fl_X4_13 dX4_alike_35 (by omega) up_eq rfl ?_
    refine j_icmp_ge_f (tgt := 72) dX4_alike_38 (by decide) (nI_nle' (by omega) (by omega) (by omega)) ?_
    refine j_iload_n dX4_alike_41 rfl ?_
    refine j_aload_n dX4_alike_42 rfl ?_
    refine j_iload_n dX4_alike_43 rfl ?_
    refine j_iload dX4_alike_44 rfl ?_
    refine j_cV (As := [.int (nI a), .int (nI s)]) (rest := [.int c]) cm_X4_at ci_X4_at cs_X4_at rfl ln_X4_121 (ci := 4) rfl dX4_alike_46 (d' := 0) (by decide) (by omega) up_eq rfl rfl (Nat.le_of_ble_eq_true rfl) (Nat.le_of_ble_eq_true rfl) (s_X4_at (MR.setO D ⟨by omega, by omega, by omega, by omega, by omega, by omega, by omega⟩) a s (ix128 hF hS ha hs)) ?_
    refine j_aload_n dX4_alike_49 rfl ?_
    refine j_iload_n dX4_alike_50 rfl ?_
    refine j_iload dX4_alike_51 rfl ?_
    refine j_cV (As := [.int (nI b), .int (nI s)]) (rest := [.int (lv (a * S + s)), .int c]) cm_X4_at ci_X4_at cs_X4_at rfl ln_X4_121 (ci := 4) rfl dX4_alike_53 (d' := 0) (by decide) (by omega) up_eq rfl rfl (Nat.le_of_ble_eq_true rfl) (Nat.le_of_ble_eq_true rfl) (s_X4_at (MR.setO D ⟨by omega, by omega, by omega, by omega, by omega, by omega, by omega⟩) b s (ix128 hF hS hb hs)) ?_
    refine j_icmp_ne (tgt := 63) dX4_alike_56 (by decide) (fun hq => ?_) (fun hq => ?_)
    · skip
      refine j_iconst (v := 0) dX4_alike_63 (by decide) ?_
      refine j_iadd dX4_alike_64 ?_
      refine j_istore_n (L' := [some (.ref (ad 63)), some (.int (nI a)), some (.int (nI b)), some (.int (c + 0)), some (.int (nI s))]) dX4_alike_65 (by decide) rfl rfl ?_
      refine j_iinc (v := nI (s + 1)) (L' := [some (.ref (ad 63)), some (.int (nI a)), some (.int (nI b)), some (.int (c + 0)), some (.int (nI (s + 1)))]) dX4_alike_66 (by decide) rfl (nI_1 _) rfl rfl ?_
      refine j_goto (tgt := 32) dX4_alike_69 (by decide) ?_
      exact ih _ (by simp only [hq, if_true, if_false, Int32.add_zero])
    · skip
      refine j_iconst (v := 1) dX4_alike_59 (by decide) ?_
      refine j_goto (tgt := 64) dX4_alike_60 (by decide) ?_
      refine j_iadd dX4_alike_64 ?_
      refine j_istore_n (L' := [some (.ref (ad 63)), some (.int (nI a)), some (.int (nI b)), some (.int (c + 1)), some (.int (nI s))]) dX4_alike_65 (by decide) rfl rfl ?_
      refine j_iinc (v := nI (s + 1)) (L' := [some (.ref (ad 63)), some (.int (nI a)), some (.int (nI b)), some (.int (c + 1)), some (.int (nI (s + 1)))]) dX4_alike_66 (by decide) rfl (nI_1 _) rfl rfl ?_
      refine j_goto (tgt := 32) dX4_alike_69 (by decide) ?_
      exact ih _ (by simp only [hq, if_true, if_false, Int32.add_zero])
  · skip
    show J g mX4_alike 2 0 0 32 [some (.ref (ad 63)), some (.int (nI a)), some (.int (nI b)), some (.int (alkC lv S a b)), some (.int (nI S))] [] n ad (va_up E 63 (.inr (4, [.int 0, .int (nI F), .int (nI S), .int hrs, .int su, .long gone, .ref (ad 64), .ref (ad 65), .ref (ad 66), .int (nI first), .int (nI cnt), .ref (ad 67), .int (nI mc), .ref (ad 68)]))) Φ Ψ
    refine j_iload dX4_alike_32 rfl ?_
    refine j_aload_n dX4_alike_34 rfl ?_
    refine j_get fl_X4_13 dX4_alike_35 (by omega) up_eq rfl ?_
    refine j_icmp_ge_t (tgt := 72) dX4_alike_38 (by decide) (nI_le' (by omega) (by omega) (by omega)) ?_
    refine j_iload_n dX4_alike_72 rfl ?_
    exact j_iret dX4_alike_73 rfl (h _ ⟨(MR.setO D ⟨by omega, by omega, by omega, by omega, by omega, by omega, by omega⟩), (fun k hk => ((up_ne (by omega)).trans rfl))⟩)
set_option maxRecDepth 100000 in
set_option maxHeartbeats 4000000 in
theorem s_X4_alike_bad {g : jG} {n : Nat} {ad : Nat → Nat} {E : Nat → va_E} {th : Int32} {F S : Nat} {hrs su : Int32} {gone : Int64} {lv ed : Nat → Int32} {first cnt : Nat} {ah : Nat → Int32} {mc : Nat} {mk : Nat → Int32} (D : MR g n ad E th F S hrs su gone lv ed first cnt ah mc mk) (x y : Int32) (hx : oob x F ∨ oob y F) : RetP g mX4_alike 2 [.ref (ad 63), .int x, .int y] n ad E (some (.int 0)) (fun E9 => MR g n ad E9 1 F S hrs su gone lv ed first cnt ah mc mk ∧ ∀ k, (k < 63 ∨ 69 ≤ k) → E9 k = E k) := by
  obtain ⟨m0, m1, m2, m3, m4, ⟨wk, m5⟩, hF, hS, hFp, hSp, hfi, hcn, hmc, hn⟩ := id D
  intro Φ Ψ h
  show J g mX4_alike 2 0 0 0 [some (.ref (ad 63)), some (.int x), some (.int y), none, none] [] n ad E Φ Ψ
  rcases oob_or x (show F < 2 ^ 31 by omega) with q | ⟨a, ha, rfl⟩
  · skip
    refine j_aload_n dX4_alike_0 rfl ?_
    refine j_iconst (v := 0) dX4_alike_1 (by decide) ?_
    refine j_put fl_X4_38 fp_X4 dX4_alike_2 (by omega) m0 (Or.inl rfl) rfl rfl (Nat.le_of_ble_eq_true rfl) ?_
    refine j_aload_n dX4_alike_5 rfl ?_
    refine j_iload_n dX4_alike_6 rfl ?_
    refine j_cV (As := [.int x]) (rest := []) cm_X4_isFlight ci_X4_isFlight cs_X4_isFlight rfl ln_X4_48 (ci := 4) rfl dX4_alike_7 (d' := 1) (by decide) (by omega) up_eq rfl rfl (Nat.le_of_ble_eq_true rfl) (Nat.le_of_ble_eq_true rfl) (s_isFlight_f (MR.setO D ⟨by omega, by omega, by omega, by omega, by omega, by omega, by omega⟩) x q) ?_
    refine j_if_eq_t (tgt := 21) dX4_alike_10 (by decide) (by decide) ?_
    refine j_aload_n dX4_alike_21 rfl ?_
    refine j_iconst (v := 1) dX4_alike_22 (by decide) ?_
    refine j_cV (As := [.int 1]) (rest := []) cm_X4_no ci_X4_no cs_X4_no rfl ln_X4_84 (ci := 4) rfl dX4_alike_23 (d' := 0) (by decide) (by omega) up_eq rfl rfl (Nat.le_of_ble_eq_true rfl) (Nat.le_of_ble_eq_true rfl) (s_X4_no (MR.setO D ⟨by omega, by omega, by omega, by omega, by omega, by omega, by omega⟩) 1) ?_
    refine j_E up_up ?_
    exact j_iret dX4_alike_26 rfl (h _ ⟨(MR.setO D ⟨by omega, by omega, by omega, by omega, by omega, by omega, by omega⟩), (fun k hk => ((up_ne (by omega)).trans rfl))⟩)
  · skip
    have hy := hx.resolve_left (not_oob ha (by omega))
    refine j_aload_n dX4_alike_0 rfl ?_
    refine j_iconst (v := 0) dX4_alike_1 (by decide) ?_
    refine j_put fl_X4_38 fp_X4 dX4_alike_2 (by omega) m0 (Or.inl rfl) rfl rfl (Nat.le_of_ble_eq_true rfl) ?_
    refine j_aload_n dX4_alike_5 rfl ?_
    refine j_iload_n dX4_alike_6 rfl ?_
    refine j_cV (As := [.int (nI a)]) (rest := []) cm_X4_isFlight ci_X4_isFlight cs_X4_isFlight rfl ln_X4_48 (ci := 4) rfl dX4_alike_7 (d' := 1) (by decide) (by omega) up_eq rfl rfl (Nat.le_of_ble_eq_true rfl) (Nat.le_of_ble_eq_true rfl) (s_isFlight_t (MR.setO D ⟨by omega, by omega, by omega, by omega, by omega, by omega, by omega⟩) a ha) ?_
    refine j_if_eq_f (tgt := 21) dX4_alike_10 (by decide) (by decide) ?_
    refine j_aload_n dX4_alike_13 rfl ?_
    refine j_iload_n dX4_alike_14 rfl ?_
    refine j_cV (As := [.int y]) (rest := []) cm_X4_isFlight ci_X4_isFlight cs_X4_isFlight rfl ln_X4_48 (ci := 4) rfl dX4_alike_15 (d' := 1) (by decide) (by omega) up_eq rfl rfl (Nat.le_of_ble_eq_true rfl) (Nat.le_of_ble_eq_true rfl) (s_isFlight_f (MR.setO D ⟨by omega, by omega, by omega, by omega, by omega, by omega, by omega⟩) y hy) ?_
    refine j_if_ne_f (tgt := 27) dX4_alike_18 (by decide) (by decide) ?_
    refine j_aload_n dX4_alike_21 rfl ?_
    refine j_iconst (v := 1) dX4_alike_22 (by decide) ?_
    refine j_cV (As := [.int 1]) (rest := []) cm_X4_no ci_X4_no cs_X4_no rfl ln_X4_84 (ci := 4) rfl dX4_alike_23 (d' := 0) (by decide) (by omega) up_eq rfl rfl (Nat.le_of_ble_eq_true rfl) (Nat.le_of_ble_eq_true rfl) (s_X4_no (MR.setO D ⟨by omega, by omega, by omega, by omega, by omega, by omega, by omega⟩) 1) ?_
    refine j_E up_up ?_
    exact j_iret dX4_alike_26 rfl (h _ ⟨(MR.setO D ⟨by omega, by omega, by omega, by omega, by omega, by omega, by omega⟩), (fun k hk => ((up_ne (by omega)).trans rfl))⟩)
set_option maxRecDepth 100000 in
set_option maxHeartbeats 4000000 in
theorem s_X4_changed {g : jG} {n : Nat} {ad : Nat → Nat} {E : Nat → va_E} {th : Int32} {F S : Nat} {hrs su : Int32} {gone : Int64} {lv ed : Nat → Int32} {first cnt : Nat} {ah : Nat → Int32} {mc : Nat} {mk : Nat → Int32} (D : MR g n ad E th F S hrs su gone lv ed first cnt ah mc mk) (m9 : Nat) (hm9 : m9 < mc) : Ret g mX4_changed 1 [.ref (ad 63), .int (nI m9)] n ad E (some (.int (chgC lv (fun k => mk (128 * m9 + k)) (F * S)))) E := by
  obtain ⟨m0, m1, m2, m3, m4, ⟨wk, m5⟩, hF, hS, hFp, hSp, hfi, hcn, hmc, hn⟩ := id D
  have hFS := fs128 hF hS
  intro Φ Ψ h
  show J g mX4_changed 1 0 0 0 [some (.ref (ad 63)), some (.int (nI m9)), none, none] [] n ad E Φ Ψ
  refine j_iconst (v := 0) dX4_changed_0 (by decide) ?_
  refine j_istore_n (L' := [some (.ref (ad 63)), some (.int (nI m9)), some (.int 0), none]) dX4_changed_1 (by decide) rfl rfl ?_
  refine j_iconst (v := nI 0) dX4_changed_2 (by decide) ?_
  refine j_istore_n (L' := [some (.ref (ad 63)), some (.int (nI m9)), some (.int 0), some (.int (nI 0))]) dX4_changed_3 (by decide) rfl rfl ?_
  refine lpf_ind (b := fun k c => if lv k = mk (128 * m9 + k) then c else c + 1) (P := fun (k : Nat) (c : Int32) => J g mX4_changed 1 0 0 4 [some (.ref (ad 63)), some (.int (nI m9)), some (.int c), some (.int (nI k))] [] n ad E Φ Ψ) (N := F * S) 0 ?_ (F * S) 0 (by omega) ?_
  · intro k c hk0 hk ih
    show J g mX4_changed 1 0 0 4 [some (.ref (ad 63)), some (.int (nI m9)), some (.int c), some (.int (nI k))] [] n ad E Φ Ψ
    refine j_iload_n dX4_changed_4 rfl ?_
    refine j_aload_n dX4_changed_5 rfl ?_
    refine j_cV (As := []) (rest := [.int (nI k)]) cm_X4_all ci_X4_all cs_X4_all rfl ln_X4_67 (ci := 4) rfl dX4_changed_6 (d' := 0) (by decide) (by omega) m0 rfl rfl (Nat.le_of_ble_eq_true rfl) (Nat.le_of_ble_eq_true rfl) (s_X4_all D) ?_
    refine j_icmp_ge_f (tgt := 47) dX4_changed_9 (by decide) (nI_nle' (by omega) (by omega) (by omega)) ?_
    refine j_iload_n dX4_changed_12 rfl ?_
    refine j_aload_n dX4_changed_13 rfl ?_
    refine j_get fl_X4_29 dX4_changed_14 (by omega) m0 rfl ?_
    refine j_sipush (v := nI 128) dX4_changed_17 (by decide) ?_
    refine j_iload_n dX4_changed_20 rfl ?_
    refine j_imul dX4_changed_21 ?_
    refine j_topi (y := nI (128 * m9)) (pk_mul _ _) ?_
    refine j_iload_n dX4_changed_22 rfl ?_
    refine j_iadd dX4_changed_23 ?_
    refine j_topi (y := nI ((128 * m9) + k)) (nI_add _ _) ?_
    refine j_iald dX4_changed_24 (by omega) m4 (by decide) (by omega) rfl ?_
    refine j_aload_n dX4_changed_25 rfl ?_
    refine j_get fl_X4_23 dX4_changed_26 (by omega) m0 rfl ?_
    refine j_iload_n dX4_changed_29 rfl ?_
    refine j_iald dX4_changed_30 (by omega) m2 (by decide) (by omega) rfl ?_
    refine j_icmp_ne (tgt := 38) dX4_changed_31 (by decide) (fun hq => ?_) (fun hq => ?_)
    · skip
      refine j_iconst (v := 1) dX4_changed_38 (by decide) ?_
      refine j_iadd dX4_changed_39 ?_
      refine j_istore_n (L' := [some (.ref (ad 63)), some (.int (nI m9)), some (.int (c + 1)), some (.int (nI k))]) dX4_changed_40 (by decide) rfl rfl ?_
      refine j_iinc (v := nI (k + 1)) (L' := [some (.ref (ad 63)), some (.int (nI m9)), some (.int (c + 1)), some (.int (nI (k + 1)))]) dX4_changed_41 (by decide) rfl (nI_1 _) rfl rfl ?_
      refine j_goto (tgt := 4) dX4_changed_44 (by decide) ?_
      exact ih _ (by first | exact (Int32.add_zero _).trans (if_pos (Eq.symm hq)).symm | exact (if_neg (fun e => hq (Eq.symm e))).symm)
    · skip
      refine j_iconst (v := 0) dX4_changed_34 (by decide) ?_
      refine j_goto (tgt := 39) dX4_changed_35 (by decide) ?_
      refine j_iadd dX4_changed_39 ?_
      refine j_istore_n (L' := [some (.ref (ad 63)), some (.int (nI m9)), some (.int (c + 0)), some (.int (nI k))]) dX4_changed_40 (by decide) rfl rfl ?_
      refine j_iinc (v := nI (k + 1)) (L' := [some (.ref (ad 63)), some (.int (nI m9)), some (.int (c + 0)), some (.int (nI (k + 1)))]) dX4_changed_41 (by decide) rfl (nI_1 _) rfl rfl ?_
      refine j_goto (tgt := 4) dX4_changed_44 (by decide) ?_
      exact ih _ (by first | exact (Int32.add_zero _).trans (if_pos (Eq.symm hq)).symm | exact (if_neg (fun e => hq (Eq.symm e))).symm)
  · skip
    show J g mX4_changed 1 0 0 4 [some (.ref (ad 63)), some (.int (nI m9)), some (.int (chgC lv (fun k => mk (128 * m9 + k)) (F * S))), some (.int (nI (F * S)))] [] n ad E Φ Ψ
    refine j_iload_n dX4_changed_4 rfl ?_
    refine j_aload_n dX4_changed_5 rfl ?_
    refine j_cV (As := []) (rest := [.int (nI (F * S))]) cm_X4_all ci_X4_all cs_X4_all rfl ln_X4_67 (ci := 4) rfl dX4_changed_6 (d' := 0) (by decide) (by omega) m0 rfl rfl (Nat.le_of_ble_eq_true rfl) (Nat.le_of_ble_eq_true rfl) (s_X4_all D) ?_
    refine j_icmp_ge_t (tgt := 47) dX4_changed_9 (by decide) (nI_le' (by omega) (by omega) (by omega)) ?_
    refine j_iload_n dX4_changed_47 rfl ?_
    exact j_iret dX4_changed_48 rfl h
set_option maxRecDepth 100000 in
set_option maxHeartbeats 4000000 in
theorem s_X4_changedSince_ok {g : jG} {n : Nat} {ad : Nat → Nat} {E : Nat → va_E} {th : Int32} {F S : Nat} {hrs su : Int32} {gone : Int64} {lv ed : Nat → Int32} {first cnt : Nat} {ah : Nat → Int32} {mc : Nat} {mk : Nat → Int32} (D : MR g n ad E th F S hrs su gone lv ed first cnt ah mc mk) (m9 : Nat) (hm9 : m9 < mc) : RetP g mX4_changedSince 2 [.ref (ad 63), .int (nI m9)] n ad E (some (.int (chgC lv (fun k => mk (128 * m9 + k)) (F * S)))) (fun E9 => MR g n ad E9 0 F S hrs su gone lv ed first cnt ah mc mk ∧ ∀ k, (k < 63 ∨ 69 ≤ k) → E9 k = E k) := by
  obtain ⟨m0, m1, m2, m3, m4, ⟨wk, m5⟩, hF, hS, hFp, hSp, hfi, hcn, hmc, hn⟩ := id D
  intro Φ Ψ h
  show J g mX4_changedSince 2 0 0 0 [some (.ref (ad 63)), some (.int (nI m9))] [] n ad E Φ Ψ
  refine j_aload_n dX4_changedSince_0 rfl ?_
  refine j_iconst (v := 0) dX4_changedSince_1 (by decide) ?_
  refine j_put fl_X4_38 fp_X4 dX4_changedSince_2 (by omega) m0 (Or.inl rfl) rfl rfl (Nat.le_of_ble_eq_true rfl) ?_
  refine j_aload_n dX4_changedSince_5 rfl ?_
  refine j_iload_n dX4_changedSince_6 rfl ?_
  refine j_cV (As := [.int (nI m9)]) (rest := []) cm_X4_isMark ci_X4_isMark cs_X4_isMark rfl ln_X4_108 (ci := 4) rfl dX4_changedSince_7 (d' := 1) (by decide) (by omega) up_eq rfl rfl (Nat.le_of_ble_eq_true rfl) (Nat.le_of_ble_eq_true rfl) (s_isMark_t (MR.setO D ⟨by omega, by omega, by omega, by omega, by omega, by omega, by omega⟩) m9 hm9) ?_
  refine j_if_eq_f (tgt := 21) dX4_changedSince_10 (by decide) (by decide) ?_
  refine j_aload_n dX4_changedSince_13 rfl ?_
  refine j_iload_n dX4_changedSince_14 rfl ?_
  refine j_cV (As := [.int (nI m9)]) (rest := []) cm_X4_changed ci_X4_changed cs_X4_changed rfl ln_X4_169 (ci := 4) rfl dX4_changedSince_15 (d' := 1) (by decide) (by omega) up_eq rfl rfl (Nat.le_of_ble_eq_true rfl) (Nat.le_of_ble_eq_true rfl) (s_X4_changed (MR.setO D ⟨by omega, by omega, by omega, by omega, by omega, by omega, by omega⟩) m9 hm9) ?_
  refine j_goto (tgt := 26) dX4_changedSince_18 (by decide) ?_
  exact j_iret dX4_changedSince_26 rfl (h _ ⟨(MR.setO D ⟨by omega, by omega, by omega, by omega, by omega, by omega, by omega⟩), (fun k hk => ((up_ne (by omega)).trans rfl))⟩)
set_option maxRecDepth 100000 in
set_option maxHeartbeats 4000000 in
theorem s_X4_changedSince_bad {g : jG} {n : Nat} {ad : Nat → Nat} {E : Nat → va_E} {th : Int32} {F S : Nat} {hrs su : Int32} {gone : Int64} {lv ed : Nat → Int32} {first cnt : Nat} {ah : Nat → Int32} {mc : Nat} {mk : Nat → Int32} (D : MR g n ad E th F S hrs su gone lv ed first cnt ah mc mk) (x : Int32) (hx : oob x mc) : RetP g mX4_changedSince 2 [.ref (ad 63), .int x] n ad E (some (.int 0)) (fun E9 => MR g n ad E9 1 F S hrs su gone lv ed first cnt ah mc mk ∧ ∀ k, (k < 63 ∨ 69 ≤ k) → E9 k = E k) := by
  obtain ⟨m0, m1, m2, m3, m4, ⟨wk, m5⟩, hF, hS, hFp, hSp, hfi, hcn, hmc, hn⟩ := id D
  intro Φ Ψ h
  show J g mX4_changedSince 2 0 0 0 [some (.ref (ad 63)), some (.int x)] [] n ad E Φ Ψ
  refine j_aload_n dX4_changedSince_0 rfl ?_
  refine j_iconst (v := 0) dX4_changedSince_1 (by decide) ?_
  refine j_put fl_X4_38 fp_X4 dX4_changedSince_2 (by omega) m0 (Or.inl rfl) rfl rfl (Nat.le_of_ble_eq_true rfl) ?_
  refine j_aload_n dX4_changedSince_5 rfl ?_
  refine j_iload_n dX4_changedSince_6 rfl ?_
  refine j_cV (As := [.int x]) (rest := []) cm_X4_isMark ci_X4_isMark cs_X4_isMark rfl ln_X4_108 (ci := 4) rfl dX4_changedSince_7 (d' := 1) (by decide) (by omega) up_eq rfl rfl (Nat.le_of_ble_eq_true rfl) (Nat.le_of_ble_eq_true rfl) (s_isMark_f (MR.setO D ⟨by omega, by omega, by omega, by omega, by omega, by omega, by omega⟩) x hx) ?_
  refine j_if_eq_t (tgt := 21) dX4_changedSince_10 (by decide) (by decide) ?_
  refine j_aload_n dX4_changedSince_21 rfl ?_
  refine j_iconst (v := 1) dX4_changedSince_22 (by decide) ?_
  refine j_cV (As := [.int 1]) (rest := []) cm_X4_no ci_X4_no cs_X4_no rfl ln_X4_84 (ci := 4) rfl dX4_changedSince_23 (d' := 0) (by decide) (by omega) up_eq rfl rfl (Nat.le_of_ble_eq_true rfl) (Nat.le_of_ble_eq_true rfl) (s_X4_no (MR.setO D ⟨by omega, by omega, by omega, by omega, by omega, by omega, by omega⟩) 1) ?_
  refine j_E up_up ?_
  exact j_iret dX4_changedSince_26 rfl (h _ ⟨(MR.setO D ⟨by omega, by omega, by omega, by omega, by omega, by omega, by omega⟩), (fun k hk => ((up_ne (by omega)).trans rfl))⟩)
theorem dryAt_end {lv : Nat → Int32} {N : Nat} {P : Prop} (x : Nat) : True := trivial
def pairsM (lv : Nat → Int32) (N : Nat) : Int32 := lpf (fun j x => lpf (fun i x => if lv i ≤ lv j then x else x + 1) 0 j x) 1 (N - 1) 0
set_option maxRecDepth 100000 in
set_option maxHeartbeats 4000000 in
theorem s_X4_pairs {g : jG} {n : Nat} {ad : Nat → Nat} {E : Nat → va_E} {th : Int32} {F S : Nat} {hrs su : Int32} {gone : Int64} {lv ed : Nat → Int32} {first cnt : Nat} {ah : Nat → Int32} {mc : Nat} {mk : Nat → Int32} (D : MR g n ad E th F S hrs su gone lv ed first cnt ah mc mk) : Ret g mX4_pairs 1 [.ref (ad 63)] n ad E (some (.int (pairsM lv (F * S)))) E := by
  obtain ⟨m0, m1, m2, m3, m4, ⟨wk, m5⟩, hF, hS, hFp, hSp, hfi, hcn, hmc, hn⟩ := id D
  have hFS := fs128 hF hS
  have hFS1 := fs1 hFp hSp
  intro Φ Ψ h
  show J g mX4_pairs 1 0 0 0 [some (.ref (ad 63)), none, none, none] [] n ad E Φ Ψ
  refine j_iconst (v := 0) dX4_pairs_0 (by decide) ?_
  refine j_istore_n (L' := [some (.ref (ad 63)), some (.int 0), none, none]) dX4_pairs_1 (by decide) rfl rfl ?_
  refine j_iconst (v := nI 1) dX4_pairs_2 (by decide) ?_
  refine j_istore_n (L' := [some (.ref (ad 63)), some (.int 0), some (.int (nI 1)), none]) dX4_pairs_3 (by decide) rfl rfl ?_
  refine lpf_ind (b := fun j x => lpf (fun i x => if lv i ≤ lv j then x else x + 1) 0 j x) (P := fun (j : Nat) (x : Int32) => J g mX4_pairs 1 0 0 4 [some (.ref (ad 63)), some (.int x), some (.int (nI j)), none] [] n ad E Φ Ψ) (N := F * S) 1 ?_ (F * S - 1) 0 (by omega) ?_
  · intro j x hj0 hj ih
    show J g mX4_pairs 1 0 0 4 [some (.ref (ad 63)), some (.int x), some (.int (nI j)), none] [] n ad E Φ Ψ
    have ih0 := ih
    clear ih
    refine j_iload_n dX4_pairs_4 rfl ?_
    refine j_aload_n dX4_pairs_5 rfl ?_
    refine j_cV (As := []) (rest := [.int (nI j)]) cm_X4_all ci_X4_all cs_X4_all rfl ln_X4_67 (ci := 4) rfl dX4_pairs_6 (d' := 0) (by decide) (by omega) m0 rfl rfl (Nat.le_of_ble_eq_true rfl) (Nat.le_of_ble_eq_true rfl) (s_X4_all D) ?_
    refine j_icmp_ge_f (tgt := 54) dX4_pairs_9 (by decide) (nI_nle' (by omega) (by omega) (by omega)) ?_
    refine j_iconst (v := nI 0) dX4_pairs_12 (by decide) ?_
    refine j_istore_n (L' := [some (.ref (ad 63)), some (.int x), some (.int (nI j)), some (.int (nI 0))]) dX4_pairs_13 (by decide) rfl rfl ?_
    refine lpf_ind (b := fun i x => if lv i ≤ lv j then x else x + 1) (P := fun (i : Nat) (x : Int32) => J g mX4_pairs 1 0 0 14 [some (.ref (ad 63)), some (.int x), some (.int (nI j)), some (.int (nI i))] [] n ad E Φ Ψ) (N := j) 0 ?_ j x (by omega) ?_
    · intro i x hi0 hi ih
      show J g mX4_pairs 1 0 0 14 [some (.ref (ad 63)), some (.int x), some (.int (nI j)), some (.int (nI i))] [] n ad E Φ Ψ
      refine j_iload_n dX4_pairs_14 rfl ?_
      refine j_iload_n dX4_pairs_15 rfl ?_
      refine j_icmp_ge_f (tgt := 48) dX4_pairs_16 (by decide) (nI_nle' (by omega) (by omega) (by omega)) ?_
      refine j_iload_n dX4_pairs_19 rfl ?_
      refine j_aload_n dX4_pairs_20 rfl ?_
      refine j_get fl_X4_23 dX4_pairs_21 (by omega) m0 rfl ?_
      refine j_iload_n dX4_pairs_24 rfl ?_
      refine j_iald dX4_pairs_25 (by omega) m2 (by decide) (by omega) rfl ?_
      refine j_aload_n dX4_pairs_26 rfl ?_
      refine j_get fl_X4_23 dX4_pairs_27 (by omega) m0 rfl ?_
      refine j_iload_n dX4_pairs_30 rfl ?_
      refine j_iald dX4_pairs_31 (by omega) m2 (by decide) (by omega) rfl ?_
      refine j_icmp_le (tgt := 39) dX4_pairs_32 (by decide) (fun hq => ?_) (fun hq => ?_)
      · skip
        refine j_iconst (v := 0) dX4_pairs_39 (by decide) ?_
        refine j_iadd dX4_pairs_40 ?_
        refine j_istore_n (L' := [some (.ref (ad 63)), some (.int (x + 0)), some (.int (nI j)), some (.int (nI i))]) dX4_pairs_41 (by decide) rfl rfl ?_
        refine j_iinc (v := nI (i + 1)) (L' := [some (.ref (ad 63)), some (.int (x + 0)), some (.int (nI j)), some (.int (nI (i + 1)))]) dX4_pairs_42 (by decide) rfl (nI_1 _) rfl rfl ?_
        refine j_goto (tgt := 14) dX4_pairs_45 (by decide) ?_
        exact ih _ (by simp only [hq, if_true, if_false, Int32.add_zero])
      · skip
        refine j_iconst (v := 1) dX4_pairs_35 (by decide) ?_
        refine j_goto (tgt := 40) dX4_pairs_36 (by decide) ?_
        refine j_iadd dX4_pairs_40 ?_
        refine j_istore_n (L' := [some (.ref (ad 63)), some (.int (x + 1)), some (.int (nI j)), some (.int (nI i))]) dX4_pairs_41 (by decide) rfl rfl ?_
        refine j_iinc (v := nI (i + 1)) (L' := [some (.ref (ad 63)), some (.int (x + 1)), some (.int (nI j)), some (.int (nI (i + 1)))]) dX4_pairs_42 (by decide) rfl (nI_1 _) rfl rfl ?_
        refine j_goto (tgt := 14) dX4_pairs_45 (by decide) ?_
        exact ih _ (by simp only [hq, if_true, if_false, Int32.add_zero])
    · skip
      show J g mX4_pairs 1 0 0 14 [some (.ref (ad 63)), some (.int (lpf (fun i x => if lv i ≤ lv j then x else x + 1) 0 j x)), some (.int (nI j)), some (.int (nI j))] [] n ad E Φ Ψ
      refine j_iload_n dX4_pairs_14 rfl ?_
      refine j_iload_n dX4_pairs_15 rfl ?_
      refine j_icmp_ge_t (tgt := 48) dX4_pairs_16 (by decide) (nI_le' (by omega) (by omega) (by omega)) ?_
      refine j_iinc (v := nI (j + 1)) (L' := [some (.ref (ad 63)), some (.int (lpf (fun i x => if lv i ≤ lv j then x else x + 1) 0 j x)), some (.int (nI (j + 1))), some (.int (nI j))]) dX4_pairs_48 (by decide) rfl (nI_1 _) rfl rfl ?_
      refine j_goto (tgt := 4) dX4_pairs_51 (by decide) ?_
      refine j_clr 3 ?_
      exact ih0 _ rfl
  · skip
    show J g mX4_pairs 1 0 0 4 [some (.ref (ad 63)), some (.int (pairsM lv (F * S))), some (.int (nI (F * S))), none] [] n ad E Φ Ψ
    refine j_iload_n dX4_pairs_4 rfl ?_
    refine j_aload_n dX4_pairs_5 rfl ?_
    refine j_cV (As := []) (rest := [.int (nI (F * S))]) cm_X4_all ci_X4_all cs_X4_all rfl ln_X4_67 (ci := 4) rfl dX4_pairs_6 (d' := 0) (by decide) (by omega) m0 rfl rfl (Nat.le_of_ble_eq_true rfl) (Nat.le_of_ble_eq_true rfl) (s_X4_all D) ?_
    refine j_icmp_ge_t (tgt := 54) dX4_pairs_9 (by decide) (nI_le' (by omega) (by omega) (by omega)) ?_
    refine j_iload_n dX4_pairs_54 rfl ?_
    exact j_iret dX4_pairs_55 rfl h
set_option maxRecDepth 100000 in
set_option maxHeartbeats 4000000 in
theorem s_X4_outOfOrder {g : jG} {n : Nat} {ad : Nat → Nat} {E : Nat → va_E} {th : Int32} {F S : Nat} {hrs su : Int32} {gone : Int64} {lv ed : Nat → Int32} {first cnt : Nat} {ah : Nat → Int32} {mc : Nat} {mk : Nat → Int32} (D : MR g n ad E th F S hrs su gone lv ed first cnt ah mc mk) : RetP g mX4_outOfOrder 2 [.ref (ad 63)] n ad E (some (.int (pairsM lv (F * S)))) (fun E9 => MR g n ad E9 0 F S hrs su gone lv ed first cnt ah mc mk ∧ ∀ k, (k < 63 ∨ 69 ≤ k) → E9 k = E k) := by
  obtain ⟨m0, m1, m2, m3, m4, ⟨wk, m5⟩, hF, hS, hFp, hSp, hfi, hcn, hmc, hn⟩ := id D
  intro Φ Ψ h
  show J g mX4_outOfOrder 2 0 0 0 [some (.ref (ad 63))] [] n ad E Φ Ψ
  refine j_aload_n dX4_outOfOrder_0 rfl ?_
  refine j_aload_n dX4_outOfOrder_1 rfl ?_
  refine j_cV (As := []) (rest := [.ref (ad 63)]) cm_X4_pairs ci_X4_pairs cs_X4_pairs rfl ln_X4_166 (ci := 4) rfl dX4_outOfOrder_2 (d' := 1) (by decide) (by omega) m0 rfl rfl (Nat.le_of_ble_eq_true rfl) (Nat.le_of_ble_eq_true rfl) (s_X4_pairs D) ?_
  refine j_cV (As := [.int (pairsM lv (F * S))]) (rest := []) cm_X4_ok ci_X4_ok cs_X4_ok rfl ln_X4_114 (ci := 4) rfl dX4_outOfOrder_5 (d' := 0) (by decide) (by omega) m0 rfl rfl (Nat.le_of_ble_eq_true rfl) (Nat.le_of_ble_eq_true rfl) (s_X4_ok D (pairsM lv (F * S))) ?_
  exact j_iret dX4_outOfOrder_8 rfl (h _ ⟨(MR.setO D ⟨by omega, by omega, by omega, by omega, by omega, by omega, by omega⟩), (fun k hk => ((up_ne (by omega)).trans rfl))⟩)
def orderM (lv : Nat → Int32) (N : Nat) (x : Int32) : Int32 × Int32 := lpf (fun k y => if uptC lv N (lv k) ≤ x then y else if y.2 = 0 then (lv k, 1) else if lv k < y.1 then (lv k, 1) else y) 0 N (0, 0)
set_option maxRecDepth 100000 in
set_option maxHeartbeats 4000000 in
theorem s_X4_levelInOrder_ok {g : jG} {n : Nat} {ad : Nat → Nat} {E : Nat → va_E} {th : Int32} {F S : Nat} {hrs su : Int32} {gone : Int64} {lv ed : Nat → Int32} {first cnt : Nat} {ah : Nat → Int32} {mc : Nat} {mk : Nat → Int32} (D : MR g n ad E th F S hrs su gone lv ed first cnt ah mc mk) (p : Nat) (hp : p < F * S) : RetP g mX4_levelInOrder 2 [.ref (ad 63), .int (nI p)] n ad E (some (.int ((orderM lv (F * S) (nI p)).1))) (fun E9 => MR g n ad E9 0 F S hrs su gone lv ed first cnt ah mc mk ∧ ∀ k, (k < 63 ∨ 69 ≤ k) → E9 k = E k) := by
  obtain ⟨m0, m1, m2, m3, m4, ⟨wk, m5⟩, hF, hS, hFp, hSp, hfi, hcn, hmc, hn⟩ := id D
  have hFS := fs128 hF hS
  intro Φ Ψ h
  show J g mX4_levelInOrder 2 0 0 0 [some (.ref (ad 63)), some (.int (nI p)), none, none, none] [] n ad E Φ Ψ
  refine j_aload_n dX4_levelInOrder_0 rfl ?_
  refine j_iconst (v := 0) dX4_levelInOrder_1 (by decide) ?_
  refine j_put fl_X4_38 fp_X4 dX4_levelInOrder_2 (by omega) m0 (Or.inl rfl) rfl rfl (Nat.le_of_ble_eq_true rfl) ?_
  refine j_iload_n dX4_levelInOrder_5 rfl ?_
  refine j_iconst (v := nI 0) dX4_levelInOrder_6 (by decide) ?_
  refine j_aload_n dX4_levelInOrder_7 rfl ?_
  refine j_cV (As := []) (rest := [.int (nI 0), .int (nI p)]) cm_X4_all ci_X4_all cs_X4_all rfl ln_X4_67 (ci := 4) rfl dX4_levelInOrder_8 (d' := 0) (by decide) (by omega) up_eq rfl rfl (Nat.le_of_ble_eq_true rfl) (Nat.le_of_ble_eq_true rfl) (s_X4_all (MR.setO D ⟨by omega, by omega, by omega, by omega, by omega, by omega, by omega⟩)) ?_
  refine j_iconst (v := nI 1) dX4_levelInOrder_11 (by decide) ?_
  refine j_isub dX4_levelInOrder_12 ?_
  refine j_topi (y := nI ((F * S) - 1)) (pk_sub (by omega)) ?_
  refine j_cS (As := [.int (nI p), .int (nI 0), .int (nI ((F * S) - 1))]) (rest := []) cm_X4_isIn ct_X4_isIn ln_X4_41 dX4_levelInOrder_13 (d' := 0) (by decide) rfl rfl (Nat.le_of_ble_eq_true rfl) (Nat.le_of_ble_eq_true rfl) (s_isIn_t (nI p) (nI 0) (nI ((F * S) - 1)) (nI_nlt' (by omega) (by omega) (by omega)) (nI_nlt' (by omega) (by omega) (by omega))) ?_
  refine j_if_ne_t (tgt := 25) dX4_levelInOrder_16 (by decide) (by decide) ?_
  refine j_iconst (v := 0) dX4_levelInOrder_25 (by decide) ?_
  refine j_istore_n (L' := [some (.ref (ad 63)), some (.int (nI p)), some (.int 0), none, none]) dX4_levelInOrder_26 (by decide) rfl rfl ?_
  refine j_iconst (v := 0) dX4_levelInOrder_27 (by decide) ?_
  refine j_istore_n (L' := [some (.ref (ad 63)), some (.int (nI p)), some (.int 0), some (.int 0), none]) dX4_levelInOrder_28 (by decide) rfl rfl ?_
  refine j_iconst (v := nI 0) dX4_levelInOrder_29 (by decide) ?_
  refine j_istore (L' := [some (.ref (ad 63)), some (.int (nI p)), some (.int 0), some (.int 0), some (.int (nI 0))]) dX4_levelInOrder_30 (by decide) rfl rfl ?_
  refine lpf_ind (b := fun k y => if uptC lv (F * S) (lv k) ≤ nI p then y else if y.2 = 0 then (lv k, 1) else if lv k < y.1 then (lv k, 1) else y) (P := fun (k : Nat) (y : Int32 × Int32) => J g mX4_levelInOrder 2 0 0 32 [some (.ref (ad 63)), some (.int (nI p)), some (.int y.1), some (.int y.2), some (.int (nI k))] [] n ad (va_up E 63 (.inr (4, [.int 0, .int (nI F), .int (nI S), .int hrs, .int su, .long gone, .ref (ad 64), .ref (ad 65), .ref (ad 66), .int (nI first), .int (nI cnt), .ref (ad 67), .int (nI mc), .ref (ad 68)]))) Φ Ψ) (N := F * S) 0 ?_ (F * S) ((0, 0) : Int32 × Int32) (by omega) ?_
  · intro k y hk0 hk ih
    obtain ⟨b1, n1⟩ := y
    show J g mX4_levelInOrder 2 0 0 32 [some (.ref (ad 63)), some (.int (nI p)), some (.int b1), some (.int n1), some (.int (nI k))] [] n ad (va_up E 63 (.inr (4, [.int 0, .int (nI F), .int (nI S), .int hrs, .int su, .long gone, .ref (ad 64), .ref (ad 65), .ref (ad 66), .int (nI first), .int (nI cnt), .ref (ad 67), .int (nI mc), .ref (ad 68)]))) Φ Ψ
    refine j_iload dX4_levelInOrder_32 rfl ?_
    refine j_aload_n dX4_levelInOrder_34 rfl ?_
    refine j_cV (As := []) (rest := [.int (nI k)]) cm_X4_all ci_X4_all cs_X4_all rfl ln_X4_67 (ci := 4) rfl dX4_levelInOrder_35 (d' := 0) (by decide) (by omega) up_eq rfl rfl (Nat.le_of_ble_eq_true rfl) (Nat.le_of_ble_eq_true rfl) (s_X4_all (MR.setO D ⟨by omega, by omega, by omega, by omega, by omega, by omega, by omega⟩)) ?_
    refine j_icmp_ge_f (tgt := 90) dX4_levelInOrder_38 (by decide) (nI_nle' (by omega) (by omega) (by omega)) ?_
    refine j_aload_n dX4_levelInOrder_41 rfl ?_
    refine j_aload_n dX4_levelInOrder_42 rfl ?_
    refine j_get fl_X4_23 dX4_levelInOrder_43 (by omega) up_eq rfl ?_
    refine j_iload dX4_levelInOrder_46 rfl ?_
    refine j_iald dX4_levelInOrder_48 (by omega) ((up_ne (by decide)).trans m2) (by decide) (by omega) rfl ?_
    refine j_cV (As := [.int (lv k)]) (rest := []) cm_X4_below ci_X4_below cs_X4_below rfl ln_X4_163 (ci := 4) rfl dX4_levelInOrder_49 (d' := 1) (by decide) (by omega) up_eq rfl rfl (Nat.le_of_ble_eq_true rfl) (Nat.le_of_ble_eq_true rfl) (s_X4_below (MR.setO D ⟨by omega, by omega, by omega, by omega, by omega, by omega, by omega⟩) (lv k)) ?_
    refine j_iload_n dX4_levelInOrder_52 rfl ?_
    refine j_icmp_le (tgt := 84) dX4_levelInOrder_53 (by decide) (fun hq => ?_) (fun hq => ?_)
    · skip
      refine j_iinc (v := nI (k + 1)) (L' := [some (.ref (ad 63)), some (.int (nI p)), some (.int b1), some (.int n1), some (.int (nI (k + 1)))]) dX4_levelInOrder_84 (by decide) rfl (nI_1 _) rfl rfl ?_
      refine j_goto (tgt := 32) dX4_levelInOrder_87 (by decide) ?_
      exact ih (b1, n1) (by first | (simp only [hq, if_true]; done) | (simp only [hq, hr, if_true, if_false]; done) | (simp only [hq, hr, ht, if_true, if_false]; done))
    · skip
      refine j_iload_n dX4_levelInOrder_56 rfl ?_
      refine j_if_eq (tgt := 74) dX4_levelInOrder_57 (by decide) (fun hr => ?_) (fun hr => ?_)
      · skip
        refine j_aload_n dX4_levelInOrder_74 rfl ?_
        refine j_get fl_X4_23 dX4_levelInOrder_75 (by omega) up_eq rfl ?_
        refine j_iload dX4_levelInOrder_78 rfl ?_
        refine j_iald dX4_levelInOrder_80 (by omega) ((up_ne (by decide)).trans m2) (by decide) (by omega) rfl ?_
        refine j_istore_n (L' := [some (.ref (ad 63)), some (.int (nI p)), some (.int (lv k)), some (.int n1), some (.int (nI k))]) dX4_levelInOrder_81 (by decide) rfl rfl ?_
        refine j_iconst (v := 1) dX4_levelInOrder_82 (by decide) ?_
        refine j_istore_n (L' := [some (.ref (ad 63)), some (.int (nI p)), some (.int (lv k)), some (.int 1), some (.int (nI k))]) dX4_levelInOrder_83 (by decide) rfl rfl ?_
        refine j_iinc (v := nI (k + 1)) (L' := [some (.ref (ad 63)), some (.int (nI p)), some (.int (lv k)), some (.int 1), some (.int (nI (k + 1)))]) dX4_levelInOrder_84 (by decide) rfl (nI_1 _) rfl rfl ?_
        refine j_goto (tgt := 32) dX4_levelInOrder_87 (by decide) ?_
        exact ih (lv k, 1) (by first | (simp only [hq, if_true]; done) | (simp only [hq, hr, if_true, if_false]; done) | (simp only [hq, hr, ht, if_true, if_false]; done))
      · skip
        refine j_aload_n dX4_levelInOrder_60 rfl ?_
        refine j_get fl_X4_23 dX4_levelInOrder_61 (by omega) up_eq rfl ?_
        refine j_iload dX4_levelInOrder_64 rfl ?_
        refine j_iald dX4_levelInOrder_66 (by omega) ((up_ne (by decide)).trans m2) (by decide) (by omega) rfl ?_
        refine j_iload_n dX4_levelInOrder_67 rfl ?_
        refine j_icmp_lt (tgt := 74) dX4_levelInOrder_68 (by decide) (fun ht => ?_) (fun ht => ?_)
        · skip
          refine j_aload_n dX4_levelInOrder_74 rfl ?_
          refine j_get fl_X4_23 dX4_levelInOrder_75 (by omega) up_eq rfl ?_
          refine j_iload dX4_levelInOrder_78 rfl ?_
          refine j_iald dX4_levelInOrder_80 (by omega) ((up_ne (by decide)).trans m2) (by decide) (by omega) rfl ?_
          refine j_istore_n (L' := [some (.ref (ad 63)), some (.int (nI p)), some (.int (lv k)), some (.int n1), some (.int (nI k))]) dX4_levelInOrder_81 (by decide) rfl rfl ?_
          refine j_iconst (v := 1) dX4_levelInOrder_82 (by decide) ?_
          refine j_istore_n (L' := [some (.ref (ad 63)), some (.int (nI p)), some (.int (lv k)), some (.int 1), some (.int (nI k))]) dX4_levelInOrder_83 (by decide) rfl rfl ?_
          refine j_iinc (v := nI (k + 1)) (L' := [some (.ref (ad 63)), some (.int (nI p)), some (.int (lv k)), some (.int 1), some (.int (nI (k + 1)))]) dX4_levelInOrder_84 (by decide) rfl (nI_1 _) rfl rfl ?_
          refine j_goto (tgt := 32) dX4_levelInOrder_87 (by decide) ?_
          exact ih (lv k, 1) (by first | (simp only [hq, if_true]; done) | (simp only [hq, hr, if_true, if_false]; done) | (simp only [hq, hr, ht, if_true, if_false]; done))
        · skip
          refine j_goto (tgt := 84) dX4_levelInOrder_71 (by decide) ?_
          refine j_iinc (v := nI (k + 1)) (L' := [some (.ref (ad 63)), some (.int (nI p)), some (.int b1), some (.int n1), some (.int (nI (k + 1)))]) dX4_levelInOrder_84 (by decide) rfl (nI_1 _) rfl rfl ?_
          refine j_goto (tgt := 32) dX4_levelInOrder_87 (by decide) ?_
          exact ih (b1, n1) (by first | (simp only [hq, if_true]; done) | (simp only [hq, hr, if_true, if_false]; done) | (simp only [hq, hr, ht, if_true, if_false]; done))
  · skip
    show J g mX4_levelInOrder 2 0 0 32 [some (.ref (ad 63)), some (.int (nI p)), some (.int ((orderM lv (F * S) (nI p)).1)), some (.int ((orderM lv (F * S) (nI p)).2)), some (.int (nI (F * S)))] [] n ad (va_up E 63 (.inr (4, [.int 0, .int (nI F), .int (nI S), .int hrs, .int su, .long gone, .ref (ad 64), .ref (ad 65), .ref (ad 66), .int (nI first), .int (nI cnt), .ref (ad 67), .int (nI mc), .ref (ad 68)]))) Φ Ψ
    refine j_iload dX4_levelInOrder_32 rfl ?_
    refine j_aload_n dX4_levelInOrder_34 rfl ?_
    refine j_cV (As := []) (rest := [.int (nI (F * S))]) cm_X4_all ci_X4_all cs_X4_all rfl ln_X4_67 (ci := 4) rfl dX4_levelInOrder_35 (d' := 0) (by decide) (by omega) up_eq rfl rfl (Nat.le_of_ble_eq_true rfl) (Nat.le_of_ble_eq_true rfl) (s_X4_all (MR.setO D ⟨by omega, by omega, by omega, by omega, by omega, by omega, by omega⟩)) ?_
    refine j_icmp_ge_t (tgt := 90) dX4_levelInOrder_38 (by decide) (nI_le' (by omega) (by omega) (by omega)) ?_
    refine j_iload_n dX4_levelInOrder_90 rfl ?_
    exact j_iret dX4_levelInOrder_91 rfl (h _ ⟨(MR.setO D ⟨by omega, by omega, by omega, by omega, by omega, by omega, by omega⟩), (fun k hk => ((up_ne (by omega)).trans rfl))⟩)
set_option maxRecDepth 100000 in
set_option maxHeartbeats 4000000 in
theorem s_X4_levelInOrder_bad {g : jG} {n : Nat} {ad : Nat → Nat} {E : Nat → va_E} {th : Int32} {F S : Nat} {hrs su : Int32} {gone : Int64} {lv ed : Nat → Int32} {first cnt : Nat} {ah : Nat → Int32} {mc : Nat} {mk : Nat → Int32} (D : MR g n ad E th F S hrs su gone lv ed first cnt ah mc mk) (x : Int32) (hx : oob x (F * S)) : RetP g mX4_levelInOrder 2 [.ref (ad 63), .int x] n ad E (some (.int 0)) (fun E9 => MR g n ad E9 1 F S hrs su gone lv ed first cnt ah mc mk ∧ ∀ k, (k < 63 ∨ 69 ≤ k) → E9 k = E k) := by
  obtain ⟨m0, m1, m2, m3, m4, ⟨wk, m5⟩, hF, hS, hFp, hSp, hfi, hcn, hmc, hn⟩ := id D
  have hFS := fs128 hF hS
  have hFS1 := fs1 hFp hSp
  intro Φ Ψ h
  show J g mX4_levelInOrder 2 0 0 0 [some (.ref (ad 63)), some (.int x), none, none, none] [] n ad E Φ Ψ
  refine j_aload_n dX4_levelInOrder_0 rfl ?_
  refine j_iconst (v := 0) dX4_levelInOrder_1 (by decide) ?_
  refine j_put fl_X4_38 fp_X4 dX4_levelInOrder_2 (by omega) m0 (Or.inl rfl) rfl rfl (Nat.le_of_ble_eq_true rfl) ?_
  refine j_iload_n dX4_levelInOrder_5 rfl ?_
  refine j_iconst (v := nI 0) dX4_levelInOrder_6 (by decide) ?_
  refine j_aload_n dX4_levelInOrder_7 rfl ?_
  refine j_cV (As := []) (rest := [.int (nI 0), .int x]) cm_X4_all ci_X4_all cs_X4_all rfl ln_X4_67 (ci := 4) rfl dX4_levelInOrder_8 (d' := 0) (by decide) (by omega) up_eq rfl rfl (Nat.le_of_ble_eq_true rfl) (Nat.le_of_ble_eq_true rfl) (s_X4_all (MR.setO D ⟨by omega, by omega, by omega, by omega, by omega, by omega, by omega⟩)) ?_
  refine j_iconst (v := nI 1) dX4_levelInOrder_11 (by decide) ?_
  refine j_isub dX4_levelInOrder_12 ?_
  refine j_topi (y := nI ((F * S) - 1)) (pk_sub (by omega)) ?_
  refine j_cS (As := [.int x, .int (nI 0), .int (nI ((F * S) - 1))]) (rest := []) cm_X4_isIn ct_X4_isIn ln_X4_41 dX4_levelInOrder_13 (d' := 0) (by decide) rfl rfl (Nat.le_of_ble_eq_true rfl) (Nat.le_of_ble_eq_true rfl) (s_isIn_f x (nI 0) (nI ((F * S) - 1)) (hx.imp id (fun q => pred_lt (by omega) (by omega) q))) ?_
  refine j_if_ne_f (tgt := 25) dX4_levelInOrder_16 (by decide) (by decide) ?_
  refine j_aload_n dX4_levelInOrder_19 rfl ?_
  refine j_iconst (v := 1) dX4_levelInOrder_20 (by decide) ?_
  refine j_cV (As := [.int 1]) (rest := []) cm_X4_no ci_X4_no cs_X4_no rfl ln_X4_84 (ci := 4) rfl dX4_levelInOrder_21 (d' := 0) (by decide) (by omega) up_eq rfl rfl (Nat.le_of_ble_eq_true rfl) (Nat.le_of_ble_eq_true rfl) (s_X4_no (MR.setO D ⟨by omega, by omega, by omega, by omega, by omega, by omega, by omega⟩) 1) ?_
  refine j_E up_up ?_
  exact j_iret dX4_levelInOrder_24 rfl (h _ ⟨(MR.setO D ⟨by omega, by omega, by omega, by omega, by omega, by omega, by omega⟩), (fun k hk => ((up_ne (by omega)).trans rfl))⟩)
set_option maxRecDepth 100000 in
set_option maxHeartbeats 4000000 in
theorem s_X4_meanLevel {g : jG} {n : Nat} {ad : Nat → Nat} {E : Nat → va_E} {th : Int32} {F S : Nat} {hrs su : Int32} {gone : Int64} {lv ed : Nat → Int32} {first cnt : Nat} {ah : Nat → Int32} {mc : Nat} {mk : Nat → Int32} (D : MR g n ad E th F S hrs su gone lv ed first cnt ah mc mk) : RetP g mX4_meanLevel 3 [.ref (ad 63)] n ad E (some (.double (meanD lv F S))) (fun E9 => MR g n ad E9 0 F S hrs su gone lv ed first cnt ah mc mk ∧ ∀ k, (k < 63 ∨ 69 ≤ k) → E9 k = E k) := by
  obtain ⟨m0, m1, m2, m3, m4, ⟨wk, m5⟩, hF, hS, hFp, hSp, hfi, hcn, hmc, hn⟩ := id D
  have hFS := fs128 hF hS
  have hFS1 := fs1 hFp hSp
  intro Φ Ψ h
  show J g mX4_meanLevel 3 0 0 0 [some (.ref (ad 63))] [] n ad E Φ Ψ
  refine j_aload_n dX4_meanLevel_0 rfl ?_
  refine j_iconst (v := 0) dX4_meanLevel_1 (by decide) ?_
  refine j_put fl_X4_38 fp_X4 dX4_meanLevel_2 (by omega) m0 (Or.inl rfl) rfl rfl (Nat.le_of_ble_eq_true rfl) ?_
  refine j_aload_n dX4_meanLevel_5 rfl ?_
  refine j_cV (As := []) (rest := []) cm_X4_sumOfAll ci_X4_sumOfAll cs_X4_sumOfAll rfl ln_X4_135 (ci := 4) rfl dX4_meanLevel_6 (d' := 2) (by decide) (by omega) up_eq rfl rfl (Nat.le_of_ble_eq_true rfl) (Nat.le_of_ble_eq_true rfl) (s_X4_sumOfAll (MR.setO D ⟨by omega, by omega, by omega, by omega, by omega, by omega, by omega⟩)) ?_
  refine j_l2d dX4_meanLevel_9 ?_
  refine j_aload_n dX4_meanLevel_10 rfl ?_
  refine j_cV (As := []) (rest := [.double (FP.l2d (sumP lv S 0 0 (F - 1) (S - 1)))]) cm_X4_all ci_X4_all cs_X4_all rfl ln_X4_67 (ci := 4) rfl dX4_meanLevel_11 (d' := 0) (by decide) (by omega) up_eq rfl rfl (Nat.le_of_ble_eq_true rfl) (Nat.le_of_ble_eq_true rfl) (s_X4_all (MR.setO D ⟨by omega, by omega, by omega, by omega, by omega, by omega, by omega⟩)) ?_
  refine j_i2d dX4_meanLevel_14 ?_
  refine j_ddiv dX4_meanLevel_15 (mean_num _ (by omega) (by omega)) ?_
  exact j_dret dX4_meanLevel_16 rfl (h _ ⟨(MR.setO D ⟨by omega, by omega, by omega, by omega, by omega, by omega, by omega⟩), (fun k hk => ((up_ne (by omega)).trans rfl))⟩)
