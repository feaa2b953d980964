/-! The model: what would be. -/
theorem upd_same {f : Nat → Int32} {k : Nat} : upd f k (f k) = f := by
  funext j
  unfold upd
  by_cases h : j = k
  · rw [if_pos h, h]
  · rw [if_neg h]
theorem sum_flat (f : Nat → Int32) {F S : Nat} (hF : 1 ≤ F) (hS : 1 ≤ S) : lpf (fun k (x : Int64) => x + (f k).toInt64) 0 (F * S) 0 = sumP f S 0 0 (F - 1) (S - 1) := by
  unfold sumP
  rw [show F - 1 + 1 - 0 = F by omega, show S - 1 + 1 - 0 = S by omega]
  exact (lpf_flat (b := fun k (x : Int64) => x + (f k).toInt64) S F 0).symm
def edgeM (su : Int32) (ed : Nat → Int32) (F S t b : Nat) (lv : Nat → Int32) : Int32 × Int32 := lpf (fun j (y : Int32 × Int32) => if y.1 = -1 then (nI (10 * j), edgeOver su ed F S t b lv j) else if edgeOver su ed F S t b lv j < y.2 then (nI (10 * j), edgeOver su ed F S t b lv j) else y) 0 31 (-1, 0)
def swapM (lv : Nat → Int32) (S F a : Nat) : Int32 × Int32 := lpf (fun t (y : Int32 × Int32) => if y.1 = -1 then (nI t, pairsM (swpL lv S a t) (F * S)) else if pairsM (swpL lv S a t) (F * S) < y.2 then (nI t, pairsM (swpL lv S a t) (F * S)) else y) 0 F (-1, 0)
set_option maxRecDepth 100000 in
set_option maxHeartbeats 4000000 in
theorem s_X4_later {g : jG} {n : Nat} {ad : Nat → Nat} {E : Nat → va_E} {th : Int32} {F S : Nat} {hrs su : Int32} {gone : Int64} {lv ed : Nat → Int32} {first cnt : Nat} {ah : Nat → Int32} {mc : Nat} {mk : Nat → Int32} (D : MR g n ad E th F S hrs su gone lv ed first cnt ah mc mk) (t9 : Nat) (ht2 : t9 ≤ 40) : RetP g mX4_later 4 [.ref (ad 63), .int (nI t9)] n ad E (some (.long (sumP (flowR su ed F S t9 lv).2 S 0 0 (F - 1) (S - 1)))) (fun E9 => MR g n ad E9 th F S hrs su gone lv ed first cnt ah mc mk ∧ ∀ k, (k < 63 ∨ 69 ≤ k) → E9 k = E k) := by
  obtain ⟨m0, m1, m2, m3, m4, ⟨wk, m5⟩, hF, hS, hFp, hSp, hfi, hcn, hmc, hn⟩ := id D
  have hFS := fs128 hF hS
  intro Φ Ψ h
  show J g mX4_later 4 0 0 0 [some (.ref (ad 63)), some (.int (nI t9)), none, none, none] [] n ad E Φ Ψ
  refine j_aload_n dX4_later_0 rfl ?_
  refine j_iload_n dX4_later_1 rfl ?_
  refine j_aload_n dX4_later_2 rfl ?_
  refine j_get fl_X4_16 dX4_later_3 (by omega) m0 rfl ?_
  refine j_cVp (As := [.int (nI t9), .int su]) (rest := []) cm_X4_goneBehind ci_X4_goneBehind cs_X4_goneBehind rfl ln_X4_172 (ci := 4) rfl dX4_later_6 (d' := 3) (by decide) (by omega) m0 rfl rfl (Nat.le_of_ble_eq_true rfl) (Nat.le_of_ble_eq_true rfl) (s_X4_goneBehind D t9 (by omega) su) (fun E1 q1 => ?_)
  obtain ⟨q1, f1, h681, hf1⟩ := q1
  have D1 := q1.1
  have q1 : MR g n ad E1 th F S hrs su gone lv ed first cnt ah mc mk ∧ ∀ k, (k < 63 ∨ 69 ≤ k) → E1 k = E k := ⟨q1.1, fun k hk => (q1.2 k hk).trans ((fun k hk => rfl) k hk)⟩
  obtain ⟨m01, m11, m21, m31, m41, ⟨wk1, m51⟩, hF1, hS1, hFp1, hSp1, hfi1, hcn1, hmc1, hn1⟩ := id D1
  show J g mX4_later 4 0 0 9 [some (.ref (ad 63)), some (.int (nI t9)), none, none, none] [.int ((flowR su ed F S t9 lv).1)] n ad E1 Φ Ψ
  refine j_pop dX4_later_9 rfl ?_
  refine j_lconst (v := 0) dX4_later_10 rfl ?_
  refine j_lstore_n (L' := [some (.ref (ad 63)), some (.int (nI t9)), some (.long 0), none, none]) dX4_later_11 (by decide) rfl rfl ?_
  refine j_iconst (v := nI 0) dX4_later_12 (by decide) ?_
  refine j_istore (L' := [some (.ref (ad 63)), some (.int (nI t9)), some (.long 0), none, some (.int (nI 0))]) dX4_later_13 (by decide) rfl rfl ?_
  refine lpf_ind (b := fun k (x : Int64) => x + (f1 k).toInt64) (P := fun (k : Nat) (y : Int64) => J g mX4_later 4 0 0 15 [some (.ref (ad 63)), some (.int (nI t9)), some (.long y), none, some (.int (nI k))] [] n ad E1 Φ Ψ) (N := F * S) 0 ?_ (F * S) 0 (by omega) ?_
  · intro k y hk0 hk ih
    show J g mX4_later 4 0 0 15 [some (.ref (ad 63)), some (.int (nI t9)), some (.long y), none, some (.int (nI k))] [] n ad E1 Φ Ψ
    refine j_iload dX4_later_15 rfl ?_
    refine j_aload_n dX4_later_17 rfl ?_
    refine j_cV (As := []) (rest := [.int (nI k)]) cm_X4_all ci_X4_all cs_X4_all rfl ln_X4_67 (ci := 4) rfl dX4_later_18 (d' := 0) (by decide) (by omega) m01 rfl rfl (Nat.le_of_ble_eq_true rfl) (Nat.le_of_ble_eq_true rfl) (s_X4_all D1) ?_
    refine j_icmp_ge_f (tgt := 41) dX4_later_21 (by decide) (nI_nle' (by omega) (by omega) (by omega)) ?_
    refine j_lload_n dX4_later_24 rfl ?_
    refine j_aload_n dX4_later_25 rfl ?_
    refine j_get fl_X4_32 dX4_later_26 (by omega) m01 rfl ?_
    refine j_iload dX4_later_29 rfl ?_
    refine j_iald dX4_later_31 (by omega) h681 (by decide) (by omega) rfl ?_
    refine j_i2l dX4_later_32 ?_
    refine j_ladd dX4_later_33 ?_
    refine j_lstore_n (L' := [some (.ref (ad 63)), some (.int (nI t9)), some (.long (y + ((f1 k).toInt64))), none, some (.int (nI k))]) dX4_later_34 (by decide) rfl rfl ?_
    refine j_iinc (v := nI (k + 1)) (L' := [some (.ref (ad 63)), some (.int (nI t9)), some (.long (y + ((f1 k).toInt64))), none, some (.int (nI (k + 1)))]) dX4_later_35 (by decide) rfl (nI_1 _) rfl rfl ?_
    refine j_goto (tgt := 15) dX4_later_38 (by decide) ?_
    exact ih _ rfl
  · skip
    show J g mX4_later 4 0 0 15 [some (.ref (ad 63)), some (.int (nI t9)), some (.long (lpf (fun k (x : Int64) => x + (f1 k).toInt64) 0 (F * S) 0)), none, some (.int (nI (F * S)))] [] n ad E1 Φ Ψ
    refine j_iload dX4_later_15 rfl ?_
    refine j_aload_n dX4_later_17 rfl ?_
    refine j_cV (As := []) (rest := [.int (nI (F * S))]) cm_X4_all ci_X4_all cs_X4_all rfl ln_X4_67 (ci := 4) rfl dX4_later_18 (d' := 0) (by decide) (by omega) m01 rfl rfl (Nat.le_of_ble_eq_true rfl) (Nat.le_of_ble_eq_true rfl) (s_X4_all D1) ?_
    refine j_icmp_ge_t (tgt := 41) dX4_later_21 (by decide) (nI_le' (by omega) (by omega) (by omega)) ?_
    refine j_lload_n dX4_later_41 rfl ?_
    refine j_topl (y := sumP (flowR su ed F S t9 lv).2 S 0 0 (F - 1) (S - 1)) ((sum_flat f1 hFp hSp).trans (sumP_congr (F := F) hf1 (by omega) (by omega))) ?_
    exact j_lret dX4_later_42 rfl (h _ ⟨D1, (fun k hk => (q1.2 k hk))⟩)
set_option maxRecDepth 100000 in
set_option maxHeartbeats 4000000 in
theorem s_X4_totalIn_ok {g : jG} {n : Nat} {ad : Nat → Nat} {E : Nat → va_E} {th : Int32} {F S : Nat} {hrs su : Int32} {gone : Int64} {lv ed : Nat → Int32} {first cnt : Nat} {ah : Nat → Int32} {mc : Nat} {mk : Nat → Int32} (D : MR g n ad E th F S hrs su gone lv ed first cnt ah mc mk) (t9 : Nat) (ht1 : 1 ≤ t9) (ht2 : t9 ≤ 40) : RetP g mX4_totalIn 5 [.ref (ad 63), .int (nI t9)] n ad E (some (.long (sumP (flowR su ed F S t9 lv).2 S 0 0 (F - 1) (S - 1)))) (fun E9 => MR g n ad E9 0 F S hrs su gone lv ed first cnt ah mc mk ∧ ∀ k, (k < 63 ∨ 69 ≤ k) → E9 k = E k) := by
  obtain ⟨m0, m1, m2, m3, m4, ⟨wk, m5⟩, hF, hS, hFp, hSp, hfi, hcn, hmc, hn⟩ := id D
  intro Φ Ψ h
  show J g mX4_totalIn 5 0 0 0 [some (.ref (ad 63)), some (.int (nI t9))] [] n ad E Φ Ψ
  refine j_aload_n dX4_totalIn_0 rfl ?_
  refine j_iload_n dX4_totalIn_1 rfl ?_
  refine j_iconst (v := nI 1) dX4_totalIn_2 (by decide) ?_
  refine j_bipush (v := nI 40) dX4_totalIn_3 (by decide) ?_
  refine j_cS (As := [.int (nI t9), .int (nI 1), .int (nI 40)]) (rest := [.ref (ad 63)]) cm_X4_isIn ct_X4_isIn ln_X4_41 dX4_totalIn_5 (d' := 0) (by decide) rfl rfl (Nat.le_of_ble_eq_true rfl) (Nat.le_of_ble_eq_true rfl) (s_isIn_t (nI t9) (nI 1) (nI 40) (nI_nlt' (by omega) (by omega) (by omega)) (nI_nlt' (by omega) (by omega) (by omega))) ?_
  refine j_if_eq_f (tgt := 15) dX4_totalIn_8 (by decide) (by decide) ?_
  refine j_iconst (v := 0) dX4_totalIn_11 (by decide) ?_
  refine j_goto (tgt := 16) dX4_totalIn_12 (by decide) ?_
  refine j_put fl_X4_38 fp_X4 dX4_totalIn_16 (by omega) m0 (Or.inl rfl) rfl rfl (Nat.le_of_ble_eq_true rfl) ?_
  refine j_aload_n dX4_totalIn_19 rfl ?_
  refine j_get fl_X4_38 dX4_totalIn_20 (by omega) up_eq rfl ?_
  refine j_if_le_t (tgt := 30) dX4_totalIn_23 (by decide) (by decide) ?_
  refine j_aload_n dX4_totalIn_30 rfl ?_
  refine j_iload_n dX4_totalIn_31 rfl ?_
  refine j_cVp (As := [.int (nI t9)]) (rest := []) cm_X4_later ci_X4_later cs_X4_later rfl ln_X4_175 (ci := 4) rfl dX4_totalIn_32 (d' := 4) (by decide) (by omega) up_eq rfl rfl (Nat.le_of_ble_eq_true rfl) (Nat.le_of_ble_eq_true rfl) (s_X4_later (MR.setO D ⟨by omega, by omega, by omega, by omega, by omega, by omega, by omega⟩) t9 (by omega)) (fun E1 q1 => ?_)
  have D1 := q1.1
  have q1 : MR g n ad E1 0 F S hrs su gone lv ed first cnt ah mc mk ∧ ∀ k, (k < 63 ∨ 69 ≤ k) → E1 k = E k := ⟨q1.1, fun k hk => (q1.2 k hk).trans ((fun k hk => ((up_ne (by omega)).trans rfl)) k hk)⟩
  obtain ⟨m01, m11, m21, m31, m41, ⟨wk1, m51⟩, hF1, hS1, hFp1, hSp1, hfi1, hcn1, hmc1, hn1⟩ := id D1
  show J g mX4_totalIn 5 0 0 35 [some (.ref (ad 63)), some (.int (nI t9))] [.long (sumP (flowR su ed F S t9 lv).2 S 0 0 (F - 1) (S - 1))] n ad E1 Φ Ψ
  exact j_lret dX4_totalIn_35 rfl (h _ ⟨D1, (fun k hk => (q1.2 k hk))⟩)
set_option maxRecDepth 100000 in
set_option maxHeartbeats 4000000 in
theorem s_X4_totalIn_iae {g : jG} {n : Nat} {ad : Nat → Nat} {E : Nat → va_E} {th : Int32} {F S : Nat} {hrs su : Int32} {gone : Int64} {lv ed : Nat → Int32} {first cnt : Nat} {ah : Nat → Int32} {mc : Nat} {mk : Nat → Int32} (D : MR g n ad E th F S hrs su gone lv ed first cnt ah mc mk) (x : Int32) (hx : x < 1 ∨ ¬ x ≤ 40) : RetP g mX4_totalIn 5 [.ref (ad 63), .int x] n ad E (some (.long 0)) (fun E9 => MR g n ad E9 1 F S hrs su gone lv ed first cnt ah mc mk ∧ ∀ k, (k < 63 ∨ 69 ≤ k) → E9 k = E k) := by
  obtain ⟨m0, m1, m2, m3, m4, ⟨wk, m5⟩, hF, hS, hFp, hSp, hfi, hcn, hmc, hn⟩ := id D
  intro Φ Ψ h
  show J g mX4_totalIn 5 0 0 0 [some (.ref (ad 63)), some (.int x)] [] n ad E Φ Ψ
  refine j_aload_n dX4_totalIn_0 rfl ?_
  refine j_iload_n dX4_totalIn_1 rfl ?_
  refine j_iconst (v := 1) dX4_totalIn_2 (by decide) ?_
  refine j_bipush (v := 40) dX4_totalIn_3 (by decide) ?_
  refine j_cS (As := [.int x, .int 1, .int 40]) (rest := [.ref (ad 63)]) cm_X4_isIn ct_X4_isIn ln_X4_41 dX4_totalIn_5 (d' := 0) (by decide) rfl rfl (Nat.le_of_ble_eq_true rfl) (Nat.le_of_ble_eq_true rfl) (s_isIn_f x 1 40 (in_bad hx)) ?_
  refine j_if_eq_t (tgt := 15) dX4_totalIn_8 (by decide) (by decide) ?_
  refine j_iconst (v := 1) dX4_totalIn_15 (by decide) ?_
  refine j_put fl_X4_38 fp_X4 dX4_totalIn_16 (by omega) m0 (Or.inl rfl) rfl rfl (Nat.le_of_ble_eq_true rfl) ?_
  refine j_aload_n dX4_totalIn_19 rfl ?_
  refine j_get fl_X4_38 dX4_totalIn_20 (by omega) up_eq rfl ?_
  refine j_if_le_f (tgt := 30) dX4_totalIn_23 (by decide) (by decide) ?_
  refine j_lconst (v := 0) dX4_totalIn_26 rfl ?_
  refine j_goto (tgt := 35) dX4_totalIn_27 (by decide) ?_
  exact j_lret dX4_totalIn_35 rfl (h _ ⟨(MR.setO D ⟨by omega, by omega, by omega, by omega, by omega, by omega, by omega⟩), (fun k hk => ((up_ne (by omega)).trans rfl))⟩)
set_option maxRecDepth 100000 in
set_option maxHeartbeats 4000000 in
theorem s_X4_goneIn_ok {g : jG} {n : Nat} {ad : Nat → Nat} {E : Nat → va_E} {th : Int32} {F S : Nat} {hrs su : Int32} {gone : Int64} {lv ed : Nat → Int32} {first cnt : Nat} {ah : Nat → Int32} {mc : Nat} {mk : Nat → Int32} (D : MR g n ad E th F S hrs su gone lv ed first cnt ah mc mk) (t9 : Nat) (ht1 : 1 ≤ t9) (ht2 : t9 ≤ 40) : RetP g mX4_goneIn 4 [.ref (ad 63), .int (nI t9)] n ad E (some (.int ((flowR su ed F S t9 lv).1))) (fun E9 => MR g n ad E9 0 F S hrs su gone lv ed first cnt ah mc mk ∧ ∀ k, (k < 63 ∨ 69 ≤ k) → E9 k = E k) := by
  obtain ⟨m0, m1, m2, m3, m4, ⟨wk, m5⟩, hF, hS, hFp, hSp, hfi, hcn, hmc, hn⟩ := id D
  intro Φ Ψ h
  show J g mX4_goneIn 4 0 0 0 [some (.ref (ad 63)), some (.int (nI t9))] [] n ad E Φ Ψ
  refine j_aload_n dX4_goneIn_0 rfl ?_
  refine j_iconst (v := 0) dX4_goneIn_1 (by decide) ?_
  refine j_put fl_X4_38 fp_X4 dX4_goneIn_2 (by omega) m0 (Or.inl rfl) rfl rfl (Nat.le_of_ble_eq_true rfl) ?_
  refine j_iload_n dX4_goneIn_5 rfl ?_
  refine j_iconst (v := nI 1) dX4_goneIn_6 (by decide) ?_
  refine j_bipush (v := nI 40) dX4_goneIn_7 (by decide) ?_
  refine j_cS (As := [.int (nI t9), .int (nI 1), .int (nI 40)]) (rest := []) cm_X4_isIn ct_X4_isIn ln_X4_41 dX4_goneIn_9 (d' := 0) (by decide) rfl rfl (Nat.le_of_ble_eq_true rfl) (Nat.le_of_ble_eq_true rfl) (s_isIn_t (nI t9) (nI 1) (nI 40) (nI_nlt' (by omega) (by omega) (by omega)) (nI_nlt' (by omega) (by omega) (by omega))) ?_
  refine j_if_eq_f (tgt := 27) dX4_goneIn_12 (by decide) (by decide) ?_
  refine j_aload_n dX4_goneIn_15 rfl ?_
  refine j_iload_n dX4_goneIn_16 rfl ?_
  refine j_aload_n dX4_goneIn_17 rfl ?_
  refine j_get fl_X4_16 dX4_goneIn_18 (by omega) up_eq rfl ?_
  refine j_cVp (As := [.int (nI t9), .int su]) (rest := []) cm_X4_goneBehind ci_X4_goneBehind cs_X4_goneBehind rfl ln_X4_172 (ci := 4) rfl dX4_goneIn_21 (d' := 3) (by decide) (by omega) up_eq rfl rfl (Nat.le_of_ble_eq_true rfl) (Nat.le_of_ble_eq_true rfl) (s_X4_goneBehind (MR.setO D ⟨by omega, by omega, by omega, by omega, by omega, by omega, by omega⟩) t9 (by omega) su) (fun E1 q1 => ?_)
  obtain ⟨q1, f1, h681, hf1⟩ := q1
  have D1 := q1.1
  have q1 : MR g n ad E1 0 F S hrs su gone lv ed first cnt ah mc mk ∧ ∀ k, (k < 63 ∨ 69 ≤ k) → E1 k = E k := ⟨q1.1, fun k hk => (q1.2 k hk).trans ((fun k hk => ((up_ne (by omega)).trans rfl)) k hk)⟩
  obtain ⟨m01, m11, m21, m31, m41, ⟨wk1, m51⟩, hF1, hS1, hFp1, hSp1, hfi1, hcn1, hmc1, hn1⟩ := id D1
  show J g mX4_goneIn 4 0 0 24 [some (.ref (ad 63)), some (.int (nI t9))] [.int ((flowR su ed F S t9 lv).1)] n ad E1 Φ Ψ
  refine j_goto (tgt := 32) dX4_goneIn_24 (by decide) ?_
  exact j_iret dX4_goneIn_32 rfl (h _ ⟨D1, (fun k hk => (q1.2 k hk))⟩)
set_option maxRecDepth 100000 in
set_option maxHeartbeats 4000000 in
theorem s_X4_goneIn_iae {g : jG} {n : Nat} {ad : Nat → Nat} {E : Nat → va_E} {th : Int32} {F S : Nat} {hrs su : Int32} {gone : Int64} {lv ed : Nat → Int32} {first cnt : Nat} {ah : Nat → Int32} {mc : Nat} {mk : Nat → Int32} (D : MR g n ad E th F S hrs su gone lv ed first cnt ah mc mk) (x : Int32) (hx : x < 1 ∨ ¬ x ≤ 40) : RetP g mX4_goneIn 4 [.ref (ad 63), .int x] n ad E (some (.int 0)) (fun E9 => MR g n ad E9 1 F S hrs su gone lv ed first cnt ah mc mk ∧ ∀ k, (k < 63 ∨ 69 ≤ k) → E9 k = E k) := by
  obtain ⟨m0, m1, m2, m3, m4, ⟨wk, m5⟩, hF, hS, hFp, hSp, hfi, hcn, hmc, hn⟩ := id D
  intro Φ Ψ h
  show J g mX4_goneIn 4 0 0 0 [some (.ref (ad 63)), some (.int x)] [] n ad E Φ Ψ
  refine j_aload_n dX4_goneIn_0 rfl ?_
  refine j_iconst (v := 0) dX4_goneIn_1 (by decide) ?_
  refine j_put fl_X4_38 fp_X4 dX4_goneIn_2 (by omega) m0 (Or.inl rfl) rfl rfl (Nat.le_of_ble_eq_true rfl) ?_
  refine j_iload_n dX4_goneIn_5 rfl ?_
  refine j_iconst (v := 1) dX4_goneIn_6 (by decide) ?_
  refine j_bipush (v := 40) dX4_goneIn_7 (by decide) ?_
  refine j_cS (As := [.int x, .int 1, .int 40]) (rest := []) cm_X4_isIn ct_X4_isIn ln_X4_41 dX4_goneIn_9 (d' := 0) (by decide) rfl rfl (Nat.le_of_ble_eq_true rfl) (Nat.le_of_ble_eq_true rfl) (s_isIn_f x 1 40 (in_bad hx)) ?_
  refine j_if_eq_t (tgt := 27) dX4_goneIn_12 (by decide) (by decide) ?_
  refine j_aload_n dX4_goneIn_27 rfl ?_
  refine j_iconst (v := 1) dX4_goneIn_28 (by decide) ?_
  refine j_cV (As := [.int 1]) (rest := []) cm_X4_no ci_X4_no cs_X4_no rfl ln_X4_84 (ci := 4) rfl dX4_goneIn_29 (d' := 0) (by decide) (by omega) up_eq rfl rfl (Nat.le_of_ble_eq_true rfl) (Nat.le_of_ble_eq_true rfl) (s_X4_no (MR.setO D ⟨by omega, by omega, by omega, by omega, by omega, by omega, by omega⟩) 1) ?_
  refine j_E up_up ?_
  exact j_iret dX4_goneIn_32 rfl (h _ ⟨(MR.setO D ⟨by omega, by omega, by omega, by omega, by omega, by omega, by omega⟩), (fun k hk => ((up_ne (by omega)).trans rfl))⟩)
set_option maxRecDepth 100000 in
set_option maxHeartbeats 4000000 in
theorem s_X4_untilDry {g : jG} {n : Nat} {ad : Nat → Nat} {E : Nat → va_E} {th : Int32} {F S : Nat} {hrs su : Int32} {gone : Int64} {lv ed : Nat → Int32} {first cnt : Nat} {ah : Nat → Int32} {mc : Nat} {mk : Nat → Int32} (D : MR g n ad E th F S hrs su gone lv ed first cnt ah mc mk) : RetP g mX4_untilDry 3 [.ref (ad 63)] n ad E (some (.int (untilD su ed F S lv))) (fun E9 => MR g n ad E9 th F S hrs su gone lv ed first cnt ah mc mk ∧ ∀ k, (k < 63 ∨ 69 ≤ k) → E9 k = E k) := by
  obtain ⟨m0, m1, m2, m3, m4, ⟨wk, m5⟩, hF, hS, hFp, hSp, hfi, hcn, hmc, hn⟩ := id D
  have hFS := fs128 hF hS
  intro Φ Ψ h
  show J g mX4_untilDry 3 0 0 0 [some (.ref (ad 63)), none] [] n ad E Φ Ψ
  have hlk : untilD su ed F S (va_cpy lv wk 0 0 128) = untilD su ed F S lv := untilD_congr (fun _ _ => rfl) (fun k hk => lk_at (by omega))
  have hr : ∀ (v : Int32) (f : Nat → Int32), v = untilD su ed F S (va_cpy lv wk 0 0 128) → Φ (some (.int v)) n ad (va_up E 68 (aI g 128 f)) := fun v f hv => (hv.trans hlk) ▸ h _ ⟨MR.setWk D, fun k hk => up_ne (by omega)⟩
  refine j_aload_n dX4_untilDry_0 rfl ?_
  refine j_cV (As := []) (rest := []) cm_X4_look ci_X4_look cs_X4_look rfl ln_X4_77 (ci := 4) rfl dX4_untilDry_1 (d' := 2) (by decide) (by omega) m0 rfl rfl (Nat.le_of_ble_eq_true rfl) (Nat.le_of_ble_eq_true rfl) (s_X4_look D wk m5) ?_
  refine j_iconst (v := nI 0) dX4_untilDry_4 (by decide) ?_
  refine j_istore_n (L' := [some (.ref (ad 63)), some (.int (nI 0))]) dX4_untilDry_5 (by decide) rfl rfl ?_
  refine lpe_ind (b := fun k (f : Nat → Int32) => if uptC f (F * S) 0 = nI (F * S) then .inr k else .inl (hourR su ed F S f).2) (P := fun (k : Nat) (f : Nat → Int32) => J g mX4_untilDry 3 0 0 6 [some (.ref (ad 63)), some (.int (nI k))] [] n ad (va_up E 68 (aI g 128 f)) Φ Ψ) (Pb := fun r => ∀ f, Φ (some (.int (nI r))) n ad (va_up E 68 (aI g 128 f))) (N := 61) 0 ?_ 61 (va_cpy lv wk 0 0 128) (by omega) ?_
  · intro k f hk0 hk ih
    show J g mX4_untilDry 3 0 0 6 [some (.ref (ad 63)), some (.int (nI k))] [] n ad (va_up E 68 (aI g 128 f)) Φ Ψ
    by_cases hq : uptC f (F * S) 0 = nI (F * S)
    · skip
      refine j_iload_n dX4_untilDry_6 rfl ?_
      refine j_bipush (v := nI 60) dX4_untilDry_7 (by decide) ?_
      refine j_icmp_gt_f (tgt := 42) dX4_untilDry_9 (by decide) (nI_nlt' (by omega) (by omega) (by omega)) ?_
      refine j_aload_n dX4_untilDry_12 rfl ?_
      refine j_aload_n dX4_untilDry_13 rfl ?_
      refine j_get fl_X4_32 dX4_untilDry_14 (by omega) ((up_ne (by decide)).trans m0) rfl ?_
      refine j_cV (As := [.ref (ad 68)]) (rest := []) cm_X4_isDry ci_X4_isDry cs_X4_isDry rfl ln_X4_178 (ci := 4) rfl dX4_untilDry_17 (d' := 1) (by decide) (by omega) ((up_ne (by decide)).trans m0) rfl rfl (Nat.le_of_ble_eq_true rfl) (Nat.le_of_ble_eq_true rfl) (s_isDry_t (MR.setWk D) f up_eq hq) ?_
      refine j_if_ne_t (tgt := 42) dX4_untilDry_20 (by decide) (by decide) ?_
      refine j_iload_n dX4_untilDry_42 rfl ?_
      refine j_bipush (v := nI 60) dX4_untilDry_43 (by decide) ?_
      refine j_icmp_le_t (tgt := 52) dX4_untilDry_45 (by decide) (nI_le' (by omega) (by omega) (by omega)) ?_
      refine j_iload_n dX4_untilDry_52 rfl ?_
      exact j_iret dX4_untilDry_53 rfl (ih (.inr k) (if_pos hq).symm f)
    · skip
      refine j_iload_n dX4_untilDry_6 rfl ?_
      refine j_bipush (v := nI 60) dX4_untilDry_7 (by decide) ?_
      refine j_icmp_gt_f (tgt := 42) dX4_untilDry_9 (by decide) (nI_nlt' (by omega) (by omega) (by omega)) ?_
      refine j_aload_n dX4_untilDry_12 rfl ?_
      refine j_aload_n dX4_untilDry_13 rfl ?_
      refine j_get fl_X4_32 dX4_untilDry_14 (by omega) ((up_ne (by decide)).trans m0) rfl ?_
      refine j_cV (As := [.ref (ad 68)]) (rest := []) cm_X4_isDry ci_X4_isDry cs_X4_isDry rfl ln_X4_178 (ci := 4) rfl dX4_untilDry_17 (d' := 1) (by decide) (by omega) ((up_ne (by decide)).trans m0) rfl rfl (Nat.le_of_ble_eq_true rfl) (Nat.le_of_ble_eq_true rfl) (s_isDry_f (MR.setWk D) f up_eq hq) ?_
      refine j_if_ne_f (tgt := 42) dX4_untilDry_20 (by decide) (by decide) ?_
      refine j_aload_n dX4_untilDry_23 rfl ?_
      refine j_aload_n dX4_untilDry_24 rfl ?_
      refine j_get fl_X4_32 dX4_untilDry_25 (by omega) ((up_ne (by decide)).trans m0) rfl ?_
      refine j_aload_n dX4_untilDry_28 rfl ?_
      refine j_get fl_X4_16 dX4_untilDry_29 (by omega) ((up_ne (by decide)).trans m0) rfl ?_
      refine j_cV (As := [.ref (ad 68), .int su]) (rest := []) cm_X4_hourOn ci_X4_hourOn cs_X4_hourOn rfl ln_X4_80 (ci := 4) rfl dX4_untilDry_32 (d' := 1) (by decide) (by omega) ((up_ne (by decide)).trans m0) rfl rfl (Nat.le_of_ble_eq_true rfl) (Nat.le_of_ble_eq_true rfl) (s_hour_wk (MR.setWk D) su f up_eq) ?_
      refine j_E up_up ?_
      refine j_pop dX4_untilDry_35 rfl ?_
      refine j_iinc (v := nI (k + 1)) (L' := [some (.ref (ad 63)), some (.int (nI (k + 1)))]) dX4_untilDry_36 (by decide) rfl (nI_1 _) rfl rfl ?_
      refine j_goto (tgt := 6) dX4_untilDry_39 (by decide) ?_
      exact ih (.inl (hourR su ed F S f).2) (if_neg hq).symm
  · skip
    show lpeP _ _ (untilM su ed F S (va_cpy lv wk 0 0 128))
    have hu := untilM_eq su ed F S (va_cpy lv wk 0 0 128)
    rcases hv : untilM su ed F S (va_cpy lv wk 0 0 128) with f2 | k2
    · skip
      rw [hv] at hu
      show J g mX4_untilDry 3 0 0 6 [some (.ref (ad 63)), some (.int (nI 61))] [] n ad (va_up E 68 (aI g 128 f2)) Φ Ψ
      refine j_iload_n dX4_untilDry_6 rfl ?_
      refine j_bipush (v := nI 60) dX4_untilDry_7 (by decide) ?_
      refine j_icmp_gt_t (tgt := 42) dX4_untilDry_9 (by decide) (nI_lt' (by omega) (by omega) (by omega)) ?_
      refine j_iload_n dX4_untilDry_42 rfl ?_
      refine j_bipush (v := nI 60) dX4_untilDry_43 (by decide) ?_
      refine j_icmp_le_f (tgt := 52) dX4_untilDry_45 (by decide) (nI_nle' (by omega) (by omega) (by omega)) ?_
      refine j_iconst (v := (-1)) dX4_untilDry_48 (by decide) ?_
      refine j_goto (tgt := 53) dX4_untilDry_49 (by decide) ?_
      exact j_iret dX4_untilDry_53 rfl (hr _ f2 hu.symm)
    · intro f3
      rw [hv] at hu
      exact hr _ f3 hu.symm
set_option maxRecDepth 100000 in
set_option maxHeartbeats 4000000 in
theorem s_X4_hoursUntilDry {g : jG} {n : Nat} {ad : Nat → Nat} {E : Nat → va_E} {th : Int32} {F S : Nat} {hrs su : Int32} {gone : Int64} {lv ed : Nat → Int32} {first cnt : Nat} {ah : Nat → Int32} {mc : Nat} {mk : Nat → Int32} (D : MR g n ad E th F S hrs su gone lv ed first cnt ah mc mk) : RetP g mX4_hoursUntilDry 4 [.ref (ad 63)] n ad E (some (.int (untilD su ed F S lv))) (fun E9 => MR g n ad E9 0 F S hrs su gone lv ed first cnt ah mc mk ∧ ∀ k, (k < 63 ∨ 69 ≤ k) → E9 k = E k) := by
  obtain ⟨m0, m1, m2, m3, m4, ⟨wk, m5⟩, hF, hS, hFp, hSp, hfi, hcn, hmc, hn⟩ := id D
  intro Φ Ψ h
  show J g mX4_hoursUntilDry 4 0 0 0 [some (.ref (ad 63))] [] n ad E Φ Ψ
  refine j_aload_n dX4_hoursUntilDry_0 rfl ?_
  refine j_aload_n dX4_hoursUntilDry_1 rfl ?_
  refine j_cVp (As := []) (rest := [.ref (ad 63)]) cm_X4_untilDry ci_X4_untilDry cs_X4_untilDry rfl ln_X4_182 (ci := 4) rfl dX4_hoursUntilDry_2 (d' := 3) (by decide) (by omega) m0 rfl rfl (Nat.le_of_ble_eq_true rfl) (Nat.le_of_ble_eq_true rfl) (s_X4_untilDry D) (fun E1 q1 => ?_)
  have D1 := q1.1
  have q1 : MR g n ad E1 th F S hrs su gone lv ed first cnt ah mc mk ∧ ∀ k, (k < 63 ∨ 69 ≤ k) → E1 k = E k := ⟨q1.1, fun k hk => (q1.2 k hk).trans ((fun k hk => rfl) k hk)⟩
  obtain ⟨m01, m11, m21, m31, m41, ⟨wk1, m51⟩, hF1, hS1, hFp1, hSp1, hfi1, hcn1, hmc1, hn1⟩ := id D1
  show J g mX4_hoursUntilDry 4 0 0 5 [some (.ref (ad 63))] [.int (untilD su ed F S lv), .ref (ad 63)] n ad E1 Φ Ψ
  refine j_cV (As := [.int (untilD su ed F S lv)]) (rest := []) cm_X4_ok ci_X4_ok cs_X4_ok rfl ln_X4_114 (ci := 4) rfl dX4_hoursUntilDry_5 (d' := 0) (by decide) (by omega) m01 rfl rfl (Nat.le_of_ble_eq_true rfl) (Nat.le_of_ble_eq_true rfl) (s_X4_ok D1 (untilD su ed F S lv)) ?_
  exact j_iret dX4_hoursUntilDry_8 rfl (h _ ⟨(MR.setO D1 ⟨by omega, by omega, by omega, by omega, by omega, by omega, by omega⟩), (fun k hk => ((up_ne (by omega)).trans (q1.2 k hk)))⟩)
set_option maxRecDepth 100000 in
set_option maxHeartbeats 4000000 in
theorem s_X4_wanted {g : jG} {n : Nat} {ad : Nat → Nat} {E : Nat → va_E} {th : Int32} {F S : Nat} {hrs su : Int32} {gone : Int64} {lv ed : Nat → Int32} {first cnt : Nat} {ah : Nat → Int32} {mc : Nat} {mk : Nat → Int32} (D : MR g n ad E th F S hrs su gone lv ed first cnt ah mc mk) (t9 : Nat) (ht2 : t9 ≤ 40) : RetP g mX4_wanted 4 [.ref (ad 63), .int (nI t9)] n ad E (some (.int (wantD ed F S t9 lv))) (fun E9 => MR g n ad E9 th F S hrs su gone lv ed first cnt ah mc mk ∧ ∀ k, (k < 63 ∨ 69 ≤ k) → E9 k = E k) := by
  obtain ⟨m0, m1, m2, m3, m4, ⟨wk, m5⟩, hF, hS, hFp, hSp, hfi, hcn, hmc, hn⟩ := id D
  intro Φ Ψ h
  show J g mX4_wanted 4 0 0 0 [some (.ref (ad 63)), some (.int (nI t9)), none] [] n ad E Φ Ψ
  refine j_iconst (v := nI 0) dX4_wanted_0 (by decide) ?_
  refine j_istore_n (L' := [some (.ref (ad 63)), some (.int (nI t9)), some (.int (nI 0))]) dX4_wanted_1 (by decide) rfl rfl ?_
  suffices hall : ∀ E1 : Nat → va_E, (MR g n ad E1 th F S hrs su gone lv ed first cnt ah mc mk ∧ ∀ k, (k < 63 ∨ 69 ≤ k) → E1 k = E k) → J g mX4_wanted 4 0 0 2 [some (.ref (ad 63)), some (.int (nI t9)), some (.int (nI 0))] [] n ad E1 Φ Ψ from hall E ⟨D, fun _ _ => rfl⟩
  refine lpe_ind (b := fun j (_ : Unit) => if uptC (flowR (nI j) ed F S t9 lv).2 (F * S) 0 = nI (F * S) then .inr j else .inl ()) (P := fun (j : Nat) (_ : Unit) => ∀ E1 : Nat → va_E, (MR g n ad E1 th F S hrs su gone lv ed first cnt ah mc mk ∧ ∀ k, (k < 63 ∨ 69 ≤ k) → E1 k = E k) → J g mX4_wanted 4 0 0 2 [some (.ref (ad 63)), some (.int (nI t9)), some (.int (nI j))] [] n ad E1 Φ Ψ) (Pb := fun r => ∀ E1 : Nat → va_E, (MR g n ad E1 th F S hrs su gone lv ed first cnt ah mc mk ∧ ∀ k, (k < 63 ∨ 69 ≤ k) → E1 k = E k) → Φ (some (.int (nI r))) n ad E1) (N := 10) 0 ?_ 10 () rfl ?_
  · intro j y hj0 hj ih E1 q1
    have D1 := q1.1
    obtain ⟨m01, m11, m21, m31, m41, ⟨wk1, m51⟩, hF1, hS1, hFp1, hSp1, hfi1, hcn1, hmc1, hn1⟩ := id D1
    show J g mX4_wanted 4 0 0 2 [some (.ref (ad 63)), some (.int (nI t9)), some (.int (nI j))] [] n ad E1 Φ Ψ
    refine j_iload_n dX4_wanted_2 rfl ?_
    refine j_bipush (v := nI 9) dX4_wanted_3 (by decide) ?_
    refine j_icmp_gt_f (tgt := 34) dX4_wanted_5 (by decide) (nI_nlt' (by omega) (by omega) (by omega)) ?_
    refine j_aload_n dX4_wanted_8 rfl ?_
    refine j_iload_n dX4_wanted_9 rfl ?_
    refine j_iload_n dX4_wanted_10 rfl ?_
    refine j_cVp (As := [.int (nI t9), .int (nI j)]) (rest := []) cm_X4_goneBehind ci_X4_goneBehind cs_X4_goneBehind rfl ln_X4_172 (ci := 4) rfl dX4_wanted_11 (d' := 3) (by decide) (by omega) m01 rfl rfl (Nat.le_of_ble_eq_true rfl) (Nat.le_of_ble_eq_true rfl) (s_X4_goneBehind D1 t9 (by omega) (nI j)) (fun E2 q2 => ?_)
    obtain ⟨q2, f2, h682, hf2⟩ := q2
    have D2 := q2.1
    have q2 : MR g n ad E2 th F S hrs su gone lv ed first cnt ah mc mk ∧ ∀ k, (k < 63 ∨ 69 ≤ k) → E2 k = E k := ⟨q2.1, fun k hk => (q2.2 k hk).trans ((fun k hk => (q1.2 k hk)) k hk)⟩
    obtain ⟨m02, m12, m22, m32, m42, ⟨wk2, m52⟩, hF2, hS2, hFp2, hSp2, hfi2, hcn2, hmc2, hn2⟩ := id D2
    show J g mX4_wanted 4 0 0 14 [some (.ref (ad 63)), some (.int (nI t9)), some (.int (nI j))] [.int ((flowR (nI j) ed F S t9 lv).1)] n ad E2 Φ Ψ
    refine j_pop dX4_wanted_14 rfl ?_
    refine j_aload_n dX4_wanted_15 rfl ?_
    refine j_aload_n dX4_wanted_16 rfl ?_
    refine j_get fl_X4_32 dX4_wanted_17 (by omega) m02 rfl ?_
    have hu := uptC_congr (x := 0) hf2
    by_cases hq : uptC (flowR (nI j) ed F S t9 lv).2 (F * S) 0 = nI (F * S)
    · skip
      refine j_cV (As := [.ref (ad 68)]) (rest := []) cm_X4_isDry ci_X4_isDry cs_X4_isDry rfl ln_X4_178 (ci := 4) rfl dX4_wanted_20 (d' := 1) (by decide) (by omega) m02 rfl rfl (Nat.le_of_ble_eq_true rfl) (Nat.le_of_ble_eq_true rfl) (s_isDry_t D2 f2 h682 (hu.trans hq)) ?_
      refine j_if_eq_f (tgt := 28) dX4_wanted_23 (by decide) (by decide) ?_
      refine j_iload_n dX4_wanted_26 rfl ?_
      exact j_iret dX4_wanted_27 rfl (ih (.inr j) (if_pos hq).symm _ q2)
    · skip
      refine j_cV (As := [.ref (ad 68)]) (rest := []) cm_X4_isDry ci_X4_isDry cs_X4_isDry rfl ln_X4_178 (ci := 4) rfl dX4_wanted_20 (d' := 1) (by decide) (by omega) m02 rfl rfl (Nat.le_of_ble_eq_true rfl) (Nat.le_of_ble_eq_true rfl) (s_isDry_f D2 f2 h682 (fun r => hq (hu.symm.trans r))) ?_
      refine j_if_eq_t (tgt := 28) dX4_wanted_23 (by decide) (by decide) ?_
      refine j_iinc (v := nI (j + 1)) (L' := [some (.ref (ad 63)), some (.int (nI t9)), some (.int (nI (j + 1)))]) dX4_wanted_28 (by decide) rfl (nI_1 _) rfl rfl ?_
      refine j_goto (tgt := 2) dX4_wanted_31 (by decide) ?_
      exact ih (.inl ()) (if_neg hq).symm _ q2
  · show lpeP _ _ (wantR ed F S t9 lv)
    rcases hu : wantR ed F S t9 lv with y | k2
    · intro E1 q1
      have D1 := q1.1
      show J g mX4_wanted 4 0 0 2 [some (.ref (ad 63)), some (.int (nI t9)), some (.int (nI 10))] [] n ad E1 Φ Ψ
      refine j_iload_n dX4_wanted_2 rfl ?_
      refine j_bipush (v := nI 9) dX4_wanted_3 (by decide) ?_
      refine j_icmp_gt_t (tgt := 34) dX4_wanted_5 (by decide) (nI_lt' (by omega) (by omega) (by omega)) ?_
      refine j_iconst (v := (-1)) dX4_wanted_34 (by decide) ?_
      exact j_iret dX4_wanted_35 rfl (by have q := h E1 q1; unfold wantD at q; rw [hu] at q; exact q)
    · intro E1 q1
      have q := h E1 q1
      unfold wantD at q
      rw [hu] at q
      exact q
set_option maxRecDepth 100000 in
set_option maxHeartbeats 4000000 in
theorem s_X4_sunWanted_ok {g : jG} {n : Nat} {ad : Nat → Nat} {E : Nat → va_E} {th : Int32} {F S : Nat} {hrs su : Int32} {gone : Int64} {lv ed : Nat → Int32} {first cnt : Nat} {ah : Nat → Int32} {mc : Nat} {mk : Nat → Int32} (D : MR g n ad E th F S hrs su gone lv ed first cnt ah mc mk) (t9 : Nat) (ht1 : 1 ≤ t9) (ht2 : t9 ≤ 40) : RetP g mX4_sunWanted 5 [.ref (ad 63), .int (nI t9)] n ad E (some (.int (wantD ed F S t9 lv))) (fun E9 => MR g n ad E9 0 F S hrs su gone lv ed first cnt ah mc mk ∧ ∀ k, (k < 63 ∨ 69 ≤ k) → E9 k = E k) := by
  obtain ⟨m0, m1, m2, m3, m4, ⟨wk, m5⟩, hF, hS, hFp, hSp, hfi, hcn, hmc, hn⟩ := id D
  intro Φ Ψ h
  show J g mX4_sunWanted 5 0 0 0 [some (.ref (ad 63)), some (.int (nI t9))] [] n ad E Φ Ψ
  refine j_aload_n dX4_sunWanted_0 rfl ?_
  refine j_iconst (v := 0) dX4_sunWanted_1 (by decide) ?_
  refine j_put fl_X4_38 fp_X4 dX4_sunWanted_2 (by omega) m0 (Or.inl rfl) rfl rfl (Nat.le_of_ble_eq_true rfl) ?_
  refine j_iload_n dX4_sunWanted_5 rfl ?_
  refine j_iconst (v := nI 1) dX4_sunWanted_6 (by decide) ?_
  refine j_bipush (v := nI 40) dX4_sunWanted_7 (by decide) ?_
  refine j_cS (As := [.int (nI t9), .int (nI 1), .int (nI 40)]) (rest := []) cm_X4_isIn ct_X4_isIn ln_X4_41 dX4_sunWanted_9 (d' := 0) (by decide) rfl rfl (Nat.le_of_ble_eq_true rfl) (Nat.le_of_ble_eq_true rfl) (s_isIn_t (nI t9) (nI 1) (nI 40) (nI_nlt' (by omega) (by omega) (by omega)) (nI_nlt' (by omega) (by omega) (by omega))) ?_
  refine j_if_eq_f (tgt := 23) dX4_sunWanted_12 (by decide) (by decide) ?_
  refine j_aload_n dX4_sunWanted_15 rfl ?_
  refine j_iload_n dX4_sunWanted_16 rfl ?_
  refine j_cVp (As := [.int (nI t9)]) (rest := []) cm_X4_wanted ci_X4_wanted cs_X4_wanted rfl ln_X4_185 (ci := 4) rfl dX4_sunWanted_17 (d' := 4) (by decide) (by omega) up_eq rfl rfl (Nat.le_of_ble_eq_true rfl) (Nat.le_of_ble_eq_true rfl) (s_X4_wanted (MR.setO D ⟨by omega, by omega, by omega, by omega, by omega, by omega, by omega⟩) t9 (by omega)) (fun E1 q1 => ?_)
  have D1 := q1.1
  have q1 : MR g n ad E1 0 F S hrs su gone lv ed first cnt ah mc mk ∧ ∀ k, (k < 63 ∨ 69 ≤ k) → E1 k = E k := ⟨q1.1, fun k hk => (q1.2 k hk).trans ((fun k hk => ((up_ne (by omega)).trans rfl)) k hk)⟩
  obtain ⟨m01, m11, m21, m31, m41, ⟨wk1, m51⟩, hF1, hS1, hFp1, hSp1, hfi1, hcn1, hmc1, hn1⟩ := id D1
  show J g mX4_sunWanted 5 0 0 20 [some (.ref (ad 63)), some (.int (nI t9))] [.int (wantD ed F S t9 lv)] n ad E1 Φ Ψ
  refine j_goto (tgt := 28) dX4_sunWanted_20 (by decide) ?_
  exact j_iret dX4_sunWanted_28 rfl (h _ ⟨D1, (fun k hk => (q1.2 k hk))⟩)
set_option maxRecDepth 100000 in
set_option maxHeartbeats 4000000 in
theorem s_X4_sunWanted_iae {g : jG} {n : Nat} {ad : Nat → Nat} {E : Nat → va_E} {th : Int32} {F S : Nat} {hrs su : Int32} {gone : Int64} {lv ed : Nat → Int32} {first cnt : Nat} {ah : Nat → Int32} {mc : Nat} {mk : Nat → Int32} (D : MR g n ad E th F S hrs su gone lv ed first cnt ah mc mk) (x : Int32) (hx : x < 1 ∨ ¬ x ≤ 40) : RetP g mX4_sunWanted 5 [.ref (ad 63), .int x] n ad E (some (.int 0)) (fun E9 => MR g n ad E9 1 F S hrs su gone lv ed first cnt ah mc mk ∧ ∀ k, (k < 63 ∨ 69 ≤ k) → E9 k = E k) := by
  obtain ⟨m0, m1, m2, m3, m4, ⟨wk, m5⟩, hF, hS, hFp, hSp, hfi, hcn, hmc, hn⟩ := id D
  intro Φ Ψ h
  show J g mX4_sunWanted 5 0 0 0 [some (.ref (ad 63)), some (.int x)] [] n ad E Φ Ψ
  refine j_aload_n dX4_sunWanted_0 rfl ?_
  refine j_iconst (v := 0) dX4_sunWanted_1 (by decide) ?_
  refine j_put fl_X4_38 fp_X4 dX4_sunWanted_2 (by omega) m0 (Or.inl rfl) rfl rfl (Nat.le_of_ble_eq_true rfl) ?_
  refine j_iload_n dX4_sunWanted_5 rfl ?_
  refine j_iconst (v := 1) dX4_sunWanted_6 (by decide) ?_
  refine j_bipush (v := 40) dX4_sunWanted_7 (by decide) ?_
  refine j_cS (As := [.int x, .int 1, .int 40]) (rest := []) cm_X4_isIn ct_X4_isIn ln_X4_41 dX4_sunWanted_9 (d' := 0) (by decide) rfl rfl (Nat.le_of_ble_eq_true rfl) (Nat.le_of_ble_eq_true rfl) (s_isIn_f x 1 40 (in_bad hx)) ?_
  refine j_if_eq_t (tgt := 23) dX4_sunWanted_12 (by decide) (by decide) ?_
  refine j_aload_n dX4_sunWanted_23 rfl ?_
  refine j_iconst (v := 1) dX4_sunWanted_24 (by decide) ?_
  refine j_cV (As := [.int 1]) (rest := []) cm_X4_no ci_X4_no cs_X4_no rfl ln_X4_84 (ci := 4) rfl dX4_sunWanted_25 (d' := 0) (by decide) (by omega) up_eq rfl rfl (Nat.le_of_ble_eq_true rfl) (Nat.le_of_ble_eq_true rfl) (s_X4_no (MR.setO D ⟨by omega, by omega, by omega, by omega, by omega, by omega, by omega⟩) 1) ?_
  refine j_E up_up ?_
  exact j_iret dX4_sunWanted_28 rfl (h _ ⟨(MR.setO D ⟨by omega, by omega, by omega, by omega, by omega, by omega, by omega⟩), (fun k hk => ((up_ne (by omega)).trans rfl))⟩)
set_option maxRecDepth 100000 in
set_option maxHeartbeats 4000000 in
theorem s_X4_bestEdge_ok {g : jG} {n : Nat} {ad : Nat → Nat} {E : Nat → va_E} {th : Int32} {F S : Nat} {hrs su : Int32} {gone : Int64} {lv ed : Nat → Int32} {first cnt : Nat} {ah : Nat → Int32} {mc : Nat} {mk : Nat → Int32} (D : MR g n ad E th F S hrs su gone lv ed first cnt ah mc mk) (b : Nat) (hb : b < S) (t9 : Nat) (ht1 : 1 ≤ t9) (ht2 : t9 ≤ 40) : RetP g mX4_bestEdge 4 [.ref (ad 63), .int (nI b), .int (nI t9)] n ad E (some (.int ((edgeM su ed F S t9 b lv).1))) (fun E9 => MR g n ad E9 0 F S hrs su gone lv ed first cnt ah mc mk ∧ ∀ k, (k < 63 ∨ 69 ≤ k) → E9 k = E k) := by
  obtain ⟨m0, m1, m2, m3, m4, ⟨wk, m5⟩, hF, hS, hFp, hSp, hfi, hcn, hmc, hn⟩ := id D
  intro Φ Ψ h
  show J g mX4_bestEdge 4 0 0 0 [some (.ref (ad 63)), some (.int (nI b)), some (.int (nI t9)), none, none, none, none, none] [] n ad E Φ Ψ
  refine j_aload_n dX4_bestEdge_0 rfl ?_
  refine j_iconst (v := 0) dX4_bestEdge_1 (by decide) ?_
  refine j_put fl_X4_38 fp_X4 dX4_bestEdge_2 (by omega) m0 (Or.inl rfl) rfl rfl (Nat.le_of_ble_eq_true rfl) ?_
  refine j_aload_n dX4_bestEdge_5 rfl ?_
  refine j_iload_n dX4_bestEdge_6 rfl ?_
  refine j_cV (As := [.int (nI b)]) (rest := []) cm_X4_isStep ci_X4_isStep cs_X4_isStep rfl ln_X4_52 (ci := 4) rfl dX4_bestEdge_7 (d' := 1) (by decide) (by omega) up_eq rfl rfl (Nat.le_of_ble_eq_true rfl) (Nat.le_of_ble_eq_true rfl) (s_isStep_t (MR.setO D ⟨by omega, by omega, by omega, by omega, by omega, by omega, by omega⟩) b hb) ?_
  refine j_if_ne_t (tgt := 19) dX4_bestEdge_10 (by decide) (by decide) ?_
  refine j_iload_n dX4_bestEdge_19 rfl ?_
  refine j_iconst (v := nI 1) dX4_bestEdge_20 (by decide) ?_
  refine j_bipush (v := nI 40) dX4_bestEdge_21 (by decide) ?_
  refine j_cS (As := [.int (nI t9), .int (nI 1), .int (nI 40)]) (rest := []) cm_X4_isIn ct_X4_isIn ln_X4_41 dX4_bestEdge_23 (d' := 0) (by decide) rfl rfl (Nat.le_of_ble_eq_true rfl) (Nat.le_of_ble_eq_true rfl) (s_isIn_t (nI t9) (nI 1) (nI 40) (nI_nlt' (by omega) (by omega) (by omega)) (nI_nlt' (by omega) (by omega) (by omega))) ?_
  refine j_if_ne_t (tgt := 35) dX4_bestEdge_26 (by decide) (by decide) ?_
  refine j_aload_n dX4_bestEdge_35 rfl ?_
  refine j_get fl_X4_19 dX4_bestEdge_36 (by omega) up_eq rfl ?_
  refine j_iload_n dX4_bestEdge_39 rfl ?_
  refine j_iald dX4_bestEdge_40 (by omega) ((up_ne (by decide)).trans m1) (by decide) (by omega) rfl ?_
  refine j_istore_n (L' := [some (.ref (ad 63)), some (.int (nI b)), some (.int (nI t9)), some (.int (ed b)), none, none, none, none]) dX4_bestEdge_41 (by decide) rfl rfl ?_
  refine j_iconst (v := (-1)) dX4_bestEdge_42 (by decide) ?_
  refine j_istore (L' := [some (.ref (ad 63)), some (.int (nI b)), some (.int (nI t9)), some (.int (ed b)), some (.int (-1)), none, none, none]) dX4_bestEdge_43 (by decide) rfl rfl ?_
  refine j_iconst (v := 0) dX4_bestEdge_45 (by decide) ?_
  refine j_istore (L' := [some (.ref (ad 63)), some (.int (nI b)), some (.int (nI t9)), some (.int (ed b)), some (.int (-1)), some (.int 0), none, none]) dX4_bestEdge_46 (by decide) rfl rfl ?_
  refine j_iconst (v := nI 0) dX4_bestEdge_48 (by decide) ?_
  refine j_istore (L' := [some (.ref (ad 63)), some (.int (nI b)), some (.int (nI t9)), some (.int (ed b)), some (.int (-1)), some (.int 0), some (.int (nI 0)), none]) dX4_bestEdge_49 (by decide) rfl rfl ?_
  suffices hall : ∀ (E1 : Nat → va_E) (v : Int32), (MR g n ad E1 0 F S hrs su gone lv (upd ed b v) first cnt ah mc mk ∧ ∀ k, (k < 63 ∨ 69 ≤ k) → E1 k = E k) → J g mX4_bestEdge 4 0 0 51 [some (.ref (ad 63)), some (.int (nI b)), some (.int (nI t9)), some (.int (ed b)), some (.int (-1)), some (.int 0), some (.int (nI (10 * 0))), none] [] n ad E1 Φ Ψ from hall _ (ed b) ⟨by rw [upd_same]; exact (MR.setO D ⟨by omega, by omega, by omega, by omega, by omega, by omega, by omega⟩), (fun k hk => ((up_ne (by omega)).trans rfl))⟩
  refine lpf_ind (b := fun j (y : Int32 × Int32) => if y.1 = -1 then (nI (10 * j), edgeOver su ed F S t9 b lv j) else if edgeOver su ed F S t9 b lv j < y.2 then (nI (10 * j), edgeOver su ed F S t9 b lv j) else y) (P := fun (j : Nat) (y : Int32 × Int32) => ∀ (E1 : Nat → va_E) (v : Int32), (MR g n ad E1 0 F S hrs su gone lv (upd ed b v) first cnt ah mc mk ∧ ∀ k, (k < 63 ∨ 69 ≤ k) → E1 k = E k) → J g mX4_bestEdge 4 0 0 51 [some (.ref (ad 63)), some (.int (nI b)), some (.int (nI t9)), some (.int (ed b)), some (.int y.1), some (.int y.2), some (.int (nI (10 * j))), none] [] n ad E1 Φ Ψ) (N := 31) 0 ?_ 31 ((-1, 0) : Int32 × Int32) rfl ?_
  · intro j y hj0 hj ih E1 v q1
    obtain ⟨e1, o1⟩ := y
    have D1 := q1.1
    obtain ⟨m01, m11, m21, m31, m41, ⟨wk1, m51⟩, hF1, hS1, hFp1, hSp1, hfi1, hcn1, hmc1, hn1⟩ := id D1
    show J g mX4_bestEdge 4 0 0 51 [some (.ref (ad 63)), some (.int (nI b)), some (.int (nI t9)), some (.int (ed b)), some (.int e1), some (.int o1), some (.int (nI (10 * j))), none] [] n ad E1 Φ Ψ
    refine j_iload dX4_bestEdge_51 rfl ?_
    refine j_sipush (v := nI 300) dX4_bestEdge_53 (by decide) ?_
    refine j_icmp_gt_f (tgt := 108) dX4_bestEdge_56 (by decide) (nI_nlt' (by omega) (by omega) (by omega)) ?_
    refine j_aload_n dX4_bestEdge_59 rfl ?_
    refine j_get fl_X4_19 dX4_bestEdge_60 (by omega) m01 rfl ?_
    refine j_iload_n dX4_bestEdge_63 rfl ?_
    refine j_iload dX4_bestEdge_64 rfl ?_
    refine j_iast (j := b) dX4_bestEdge_66 (by omega) m11 (by decide) (by omega) ?_
    refine j_E (E' := va_up E1 64 (aI g 16 (upd ed b (nI (10 * j))))) (by rw [upd_upd]) ?_
    refine j_aload_n dX4_bestEdge_67 rfl ?_
    refine j_iload_n dX4_bestEdge_68 rfl ?_
    refine j_aload_n dX4_bestEdge_69 rfl ?_
    refine j_get fl_X4_16 dX4_bestEdge_70 (by omega) ((up_ne (by decide)).trans m01) rfl ?_
    refine j_cVp (As := [.int (nI t9), .int su]) (rest := []) cm_X4_goneBehind ci_X4_goneBehind cs_X4_goneBehind rfl ln_X4_172 (ci := 4) rfl dX4_bestEdge_73 (d' := 3) (by decide) (by omega) ((up_ne (by decide)).trans m01) rfl rfl (Nat.le_of_ble_eq_true rfl) (Nat.le_of_ble_eq_true rfl) (s_X4_goneBehind (MR.setEd D1) t9 (by omega) su) (fun E2 q2 => ?_)
    obtain ⟨q2, f2, h682, hf2⟩ := q2
    have D2 := q2.1
    have q2 : MR g n ad E2 0 F S hrs su gone lv (upd ed b (nI (10 * j))) first cnt ah mc mk ∧ ∀ k, (k < 63 ∨ 69 ≤ k) → E2 k = E k := ⟨q2.1, fun k hk => (q2.2 k hk).trans ((fun k hk => ((up_ne (by omega)).trans (q1.2 k hk))) k hk)⟩
    obtain ⟨m02, m12, m22, m32, m42, ⟨wk2, m52⟩, hF2, hS2, hFp2, hSp2, hfi2, hcn2, hmc2, hn2⟩ := id D2
    show J g mX4_bestEdge 4 0 0 76 [some (.ref (ad 63)), some (.int (nI b)), some (.int (nI t9)), some (.int (ed b)), some (.int e1), some (.int o1), some (.int (nI (10 * j))), none] [.int ((flowR su (upd ed b (nI (10 * j))) F S t9 lv).1)] n ad E2 Φ Ψ
    refine j_topi (y := edgeOver su ed F S t9 b lv j) rfl ?_
    refine j_istore (L' := [some (.ref (ad 63)), some (.int (nI b)), some (.int (nI t9)), some (.int (ed b)), some (.int e1), some (.int o1), some (.int (nI (10 * j))), some (.int (edgeOver su ed F S t9 b lv j))]) dX4_bestEdge_76 (by decide) rfl rfl ?_
    refine j_iload dX4_bestEdge_78 rfl ?_
    refine j_iconst (v := (-1)) dX4_bestEdge_80 (by decide) ?_
    refine j_icmp_eq (tgt := 94) dX4_bestEdge_81 (by decide) (fun hq => ?_) (fun hq => ?_)
    · skip
      refine j_iload dX4_bestEdge_94 rfl ?_
      refine j_istore (L' := [some (.ref (ad 63)), some (.int (nI b)), some (.int (nI t9)), some (.int (ed b)), some (.int (nI (10 * j))), some (.int o1), some (.int (nI (10 * j))), some (.int (edgeOver su ed F S t9 b lv j))]) dX4_bestEdge_96 (by decide) rfl rfl ?_
      refine j_iload dX4_bestEdge_98 rfl ?_
      refine j_istore (L' := [some (.ref (ad 63)), some (.int (nI b)), some (.int (nI t9)), some (.int (ed b)), some (.int (nI (10 * j))), some (.int (edgeOver su ed F S t9 b lv j)), some (.int (nI (10 * j))), some (.int (edgeOver su ed F S t9 b lv j))]) dX4_bestEdge_100 (by decide) rfl rfl ?_
      refine j_iinc (v := nI ((10 * j) + 10)) (L' := [some (.ref (ad 63)), some (.int (nI b)), some (.int (nI t9)), some (.int (ed b)), some (.int (nI (10 * j))), some (.int (edgeOver su ed F S t9 b lv j)), some (.int (nI ((10 * j) + 10))), some (.int (edgeOver su ed F S t9 b lv j))]) dX4_bestEdge_102 (by decide) rfl (nI_add _ _) rfl rfl ?_
      refine j_goto (tgt := 51) dX4_bestEdge_105 (by decide) ?_
      refine j_clr 7 ?_
      exact ih (nI (10 * j), edgeOver su ed F S t9 b lv j) (by first | (simp only [hq, if_true]; done) | (simp only [hq, hr, if_true, if_false]; done)) _ _ q2
    · skip
      refine j_iload dX4_bestEdge_84 rfl ?_
      refine j_iload dX4_bestEdge_86 rfl ?_
      refine j_icmp_lt (tgt := 94) dX4_bestEdge_88 (by decide) (fun hr => ?_) (fun hr => ?_)
      · skip
        refine j_iload dX4_bestEdge_94 rfl ?_
        refine j_istore (L' := [some (.ref (ad 63)), some (.int (nI b)), some (.int (nI t9)), some (.int (ed b)), some (.int (nI (10 * j))), some (.int o1), some (.int (nI (10 * j))), some (.int (edgeOver su ed F S t9 b lv j))]) dX4_bestEdge_96 (by decide) rfl rfl ?_
        refine j_iload dX4_bestEdge_98 rfl ?_
        refine j_istore (L' := [some (.ref (ad 63)), some (.int (nI b)), some (.int (nI t9)), some (.int (ed b)), some (.int (nI (10 * j))), some (.int (edgeOver su ed F S t9 b lv j)), some (.int (nI (10 * j))), some (.int (edgeOver su ed F S t9 b lv j))]) dX4_bestEdge_100 (by decide) rfl rfl ?_
        refine j_iinc (v := nI ((10 * j) + 10)) (L' := [some (.ref (ad 63)), some (.int (nI b)), some (.int (nI t9)), some (.int (ed b)), some (.int (nI (10 * j))), some (.int (edgeOver su ed F S t9 b lv j)), some (.int (nI ((10 * j) + 10))), some (.int (edgeOver su ed F S t9 b lv j))]) dX4_bestEdge_102 (by decide) rfl (nI_add _ _) rfl rfl ?_
        refine j_goto (tgt := 51) dX4_bestEdge_105 (by decide) ?_
        refine j_clr 7 ?_
        exact ih (nI (10 * j), edgeOver su ed F S t9 b lv j) (by first | (simp only [hq, if_true]; done) | (simp only [hq, hr, if_true, if_false]; done)) _ _ q2
      · skip
        refine j_goto (tgt := 102) dX4_bestEdge_91 (by decide) ?_
        refine j_iinc (v := nI ((10 * j) + 10)) (L' := [some (.ref (ad 63)), some (.int (nI b)), some (.int (nI t9)), some (.int (ed b)), some (.int e1), some (.int o1), some (.int (nI ((10 * j) + 10))), some (.int (edgeOver su ed F S t9 b lv j))]) dX4_bestEdge_102 (by decide) rfl (nI_add _ _) rfl rfl ?_
        refine j_goto (tgt := 51) dX4_bestEdge_105 (by decide) ?_
        refine j_clr 7 ?_
        exact ih (e1, o1) (by first | (simp only [hq, if_true]; done) | (simp only [hq, hr, if_true, if_false]; done)) _ _ q2
  · intro E1 v q1
    have D1 := q1.1
    obtain ⟨m01, m11, m21, m31, m41, ⟨wk1, m51⟩, hF1, hS1, hFp1, hSp1, hfi1, hcn1, hmc1, hn1⟩ := id D1
    show J g mX4_bestEdge 4 0 0 51 [some (.ref (ad 63)), some (.int (nI b)), some (.int (nI t9)), some (.int (ed b)), some (.int ((edgeM su ed F S t9 b lv).1)), some (.int ((edgeM su ed F S t9 b lv).2)), some (.int (nI (10 * 31))), none] [] n ad E1 Φ Ψ
    refine j_iload dX4_bestEdge_51 rfl ?_
    refine j_sipush (v := nI 300) dX4_bestEdge_53 (by decide) ?_
    refine j_icmp_gt_t (tgt := 108) dX4_bestEdge_56 (by decide) (nI_lt' (by omega) (by omega) (by omega)) ?_
    refine j_aload_n dX4_bestEdge_108 rfl ?_
    refine j_get fl_X4_19 dX4_bestEdge_109 (by omega) m01 rfl ?_
    refine j_iload_n dX4_bestEdge_112 rfl ?_
    refine j_iload_n dX4_bestEdge_113 rfl ?_
    refine j_iast (j := b) dX4_bestEdge_114 (by omega) m11 (by decide) (by omega) ?_
    refine j_E (E' := va_up E1 64 (aI g 16 ed)) (by rw [upd_upd, upd_same]) ?_
    refine j_iload dX4_bestEdge_115 rfl ?_
    exact j_iret dX4_bestEdge_117 rfl (h _ ⟨(MR.setEd D1), (fun k hk => ((up_ne (by omega)).trans (q1.2 k hk)))⟩)
set_option maxRecDepth 100000 in
set_option maxHeartbeats 4000000 in
theorem s_X4_bestEdge_bad {g : jG} {n : Nat} {ad : Nat → Nat} {E : Nat → va_E} {th : Int32} {F S : Nat} {hrs su : Int32} {gone : Int64} {lv ed : Nat → Int32} {first cnt : Nat} {ah : Nat → Int32} {mc : Nat} {mk : Nat → Int32} (D : MR g n ad E th F S hrs su gone lv ed first cnt ah mc mk) (x : Int32) (y : Int32) (hx : oob x S) : RetP g mX4_bestEdge 4 [.ref (ad 63), .int x, .int y] n ad E (some (.int 0)) (fun E9 => MR g n ad E9 1 F S hrs su gone lv ed first cnt ah mc mk ∧ ∀ k, (k < 63 ∨ 69 ≤ k) → E9 k = E k) := by
  obtain ⟨m0, m1, m2, m3, m4, ⟨wk, m5⟩, hF, hS, hFp, hSp, hfi, hcn, hmc, hn⟩ := id D
  intro Φ Ψ h
  show J g mX4_bestEdge 4 0 0 0 [some (.ref (ad 63)), some (.int x), some (.int y), none, none, none, none, none] [] n ad E Φ Ψ
  refine j_aload_n dX4_bestEdge_0 rfl ?_
  refine j_iconst (v := 0) dX4_bestEdge_1 (by decide) ?_
  refine j_put fl_X4_38 fp_X4 dX4_bestEdge_2 (by omega) m0 (Or.inl rfl) rfl rfl (Nat.le_of_ble_eq_true rfl) ?_
  refine j_aload_n dX4_bestEdge_5 rfl ?_
  refine j_iload_n dX4_bestEdge_6 rfl ?_
  refine j_cV (As := [.int x]) (rest := []) cm_X4_isStep ci_X4_isStep cs_X4_isStep rfl ln_X4_52 (ci := 4) rfl dX4_bestEdge_7 (d' := 1) (by decide) (by omega) up_eq rfl rfl (Nat.le_of_ble_eq_true rfl) (Nat.le_of_ble_eq_true rfl) (s_isStep_f (MR.setO D ⟨by omega, by omega, by omega, by omega, by omega, by omega, by omega⟩) x hx) ?_
  refine j_if_ne_f (tgt := 19) dX4_bestEdge_10 (by decide) (by decide) ?_
  refine j_aload_n dX4_bestEdge_13 rfl ?_
  refine j_iconst (v := 1) dX4_bestEdge_14 (by decide) ?_
  refine j_cV (As := [.int 1]) (rest := []) cm_X4_no ci_X4_no cs_X4_no rfl ln_X4_84 (ci := 4) rfl dX4_bestEdge_15 (d' := 0) (by decide) (by omega) up_eq rfl rfl (Nat.le_of_ble_eq_true rfl) (Nat.le_of_ble_eq_true rfl) (s_X4_no (MR.setO D ⟨by omega, by omega, by omega, by omega, by omega, by omega, by omega⟩) 1) ?_
  refine j_E up_up ?_
  exact j_iret dX4_bestEdge_18 rfl (h _ ⟨(MR.setO D ⟨by omega, by omega, by omega, by omega, by omega, by omega, by omega⟩), (fun k hk => ((up_ne (by omega)).trans rfl))⟩)
set_option maxRecDepth 100000 in
set_option maxHeartbeats 4000000 in
theorem s_X4_bestEdge_iae {g : jG} {n : Nat} {ad : Nat → Nat} {E : Nat → va_E} {th : Int32} {F S : Nat} {hrs su : Int32} {gone : Int64} {lv ed : Nat → Int32} {first cnt : Nat} {ah : Nat → Int32} {mc : Nat} {mk : Nat → Int32} (D : MR g n ad E th F S hrs su gone lv ed first cnt ah mc mk) (b : Nat) (hb : b < S) (x : Int32) (hx : x < 1 ∨ ¬ x ≤ 40) : RetP g mX4_bestEdge 4 [.ref (ad 63), .int (nI b), .int x] n ad E (some (.int 0)) (fun E9 => MR g n ad E9 2 F S hrs su gone lv ed first cnt ah mc mk ∧ ∀ k, (k < 63 ∨ 69 ≤ k) → E9 k = E k) := by
  obtain ⟨m0, m1, m2, m3, m4, ⟨wk, m5⟩, hF, hS, hFp, hSp, hfi, hcn, hmc, hn⟩ := id D
  intro Φ Ψ h
  show J g mX4_bestEdge 4 0 0 0 [some (.ref (ad 63)), some (.int (nI b)), some (.int x), none, none, none, none, none] [] n ad E Φ Ψ
  refine j_aload_n dX4_bestEdge_0 rfl ?_
  refine j_iconst (v := 0) dX4_bestEdge_1 (by decide) ?_
  refine j_put fl_X4_38 fp_X4 dX4_bestEdge_2 (by omega) m0 (Or.inl rfl) rfl rfl (Nat.le_of_ble_eq_true rfl) ?_
  refine j_aload_n dX4_bestEdge_5 rfl ?_
  refine j_iload_n dX4_bestEdge_6 rfl ?_
  refine j_cV (As := [.int (nI b)]) (rest := []) cm_X4_isStep ci_X4_isStep cs_X4_isStep rfl ln_X4_52 (ci := 4) rfl dX4_bestEdge_7 (d' := 1) (by decide) (by omega) up_eq rfl rfl (Nat.le_of_ble_eq_true rfl) (Nat.le_of_ble_eq_true rfl) (s_isStep_t (MR.setO D ⟨by omega, by omega, by omega, by omega, by omega, by omega, by omega⟩) b hb) ?_
  refine j_if_ne_t (tgt := 19) dX4_bestEdge_10 (by decide) (by decide) ?_
  refine j_iload_n dX4_bestEdge_19 rfl ?_
  refine j_iconst (v := 1) dX4_bestEdge_20 (by decide) ?_
  refine j_bipush (v := 40) dX4_bestEdge_21 (by decide) ?_
  refine j_cS (As := [.int x, .int 1, .int 40]) (rest := []) cm_X4_isIn ct_X4_isIn ln_X4_41 dX4_bestEdge_23 (d' := 0) (by decide) rfl rfl (Nat.le_of_ble_eq_true rfl) (Nat.le_of_ble_eq_true rfl) (s_isIn_f x 1 40 (in_bad hx)) ?_
  refine j_if_ne_f (tgt := 35) dX4_bestEdge_26 (by decide) (by decide) ?_
  refine j_aload_n dX4_bestEdge_29 rfl ?_
  refine j_iconst (v := 2) dX4_bestEdge_30 (by decide) ?_
  refine j_cV (As := [.int 2]) (rest := []) cm_X4_no ci_X4_no cs_X4_no rfl ln_X4_84 (ci := 4) rfl dX4_bestEdge_31 (d' := 0) (by decide) (by omega) up_eq rfl rfl (Nat.le_of_ble_eq_true rfl) (Nat.le_of_ble_eq_true rfl) (s_X4_no (MR.setO D ⟨by omega, by omega, by omega, by omega, by omega, by omega, by omega⟩) 2) ?_
  refine j_E up_up ?_
  exact j_iret dX4_bestEdge_34 rfl (h _ ⟨(MR.setO D ⟨by omega, by omega, by omega, by omega, by omega, by omega, by omega⟩), (fun k hk => ((up_ne (by omega)).trans rfl))⟩)
set_option maxRecDepth 100000 in
set_option maxHeartbeats 4000000 in
theorem s_X4_swapFor {g : jG} {n : Nat} {ad : Nat → Nat} {E : Nat → va_E} {th : Int32} {F S : Nat} {hrs su : Int32} {gone : Int64} {lv ed : Nat → Int32} {first cnt : Nat} {ah : Nat → Int32} {mc : Nat} {mk : Nat → Int32} (D : MR g n ad E th F S hrs su gone lv ed first cnt ah mc mk) (a : Nat) (ha : a < F) : Ret g mX4_swapFor 2 [.ref (ad 63), .int (nI a)] n ad E (some (.int ((swapM lv S F a).1))) E := by
  obtain ⟨m0, m1, m2, m3, m4, ⟨wk, m5⟩, hF, hS, hFp, hSp, hfi, hcn, hmc, hn⟩ := id D
  intro Φ Ψ h
  show J g mX4_swapFor 2 0 0 0 [some (.ref (ad 63)), some (.int (nI a)), none, none, none, none] [] n ad E Φ Ψ
  refine j_iconst (v := (-1)) dX4_swapFor_0 (by decide) ?_
  refine j_istore_n (L' := [some (.ref (ad 63)), some (.int (nI a)), some (.int (-1)), none, none, none]) dX4_swapFor_1 (by decide) rfl rfl ?_
  refine j_iconst (v := 0) dX4_swapFor_2 (by decide) ?_
  refine j_istore_n (L' := [some (.ref (ad 63)), some (.int (nI a)), some (.int (-1)), some (.int 0), none, none]) dX4_swapFor_3 (by decide) rfl rfl ?_
  refine j_iconst (v := nI 0) dX4_swapFor_4 (by decide) ?_
  refine j_istore (L' := [some (.ref (ad 63)), some (.int (nI a)), some (.int (-1)), some (.int 0), some (.int (nI 0)), none]) dX4_swapFor_5 (by decide) rfl rfl ?_
  refine lpf_ind (b := fun t (y : Int32 × Int32) => if y.1 = -1 then (nI t, pairsM (swpL lv S a t) (F * S)) else if pairsM (swpL lv S a t) (F * S) < y.2 then (nI t, pairsM (swpL lv S a t) (F * S)) else y) (P := fun (t : Nat) (y : Int32 × Int32) => J g mX4_swapFor 2 0 0 7 [some (.ref (ad 63)), some (.int (nI a)), some (.int y.1), some (.int y.2), some (.int (nI t)), none] [] n ad E Φ Ψ) (N := F) 0 ?_ F ((-1, 0) : Int32 × Int32) (by omega) ?_
  · intro t y ht0 ht ih
    obtain ⟨e1, o1⟩ := y
    show J g mX4_swapFor 2 0 0 7 [some (.ref (ad 63)), some (.int (nI a)), some (.int e1), some (.int o1), some (.int (nI t)), none] [] n ad E Φ Ψ
    refine j_iload dX4_swapFor_7 rfl ?_
    refine j_aload_n dX4_swapFor_9 rfl ?_
    refine j_get fl_X4_9 dX4_swapFor_10 (by omega) m0 rfl ?_
    refine j_icmp_ge_f (tgt := 64) dX4_swapFor_13 (by decide) (nI_nle' (by omega) (by omega) (by omega)) ?_
    refine j_aload_n dX4_swapFor_16 rfl ?_
    refine j_iload_n dX4_swapFor_17 rfl ?_
    refine j_iload dX4_swapFor_18 rfl ?_
    refine j_cV (As := [.int (nI a), .int (nI t)]) (rest := []) cm_X4_change ci_X4_change cs_X4_change rfl ln_X4_95 (ci := 4) rfl dX4_swapFor_20 (d' := 0) (by decide) (by omega) m0 rfl rfl (Nat.le_of_ble_eq_true rfl) (Nat.le_of_ble_eq_true rfl) (s_X4_change D a t ha ht) ?_
    refine j_pop dX4_swapFor_23 rfl ?_
    refine j_aload_n dX4_swapFor_24 rfl ?_
    refine j_cV (As := []) (rest := []) cm_X4_pairs ci_X4_pairs cs_X4_pairs rfl ln_X4_166 (ci := 4) rfl dX4_swapFor_25 (d' := 1) (by decide) (by omega) ((up_ne (by decide)).trans m0) rfl rfl (Nat.le_of_ble_eq_true rfl) (Nat.le_of_ble_eq_true rfl) (s_X4_pairs (MR.setLv D)) ?_
    refine j_istore (L' := [some (.ref (ad 63)), some (.int (nI a)), some (.int e1), some (.int o1), some (.int (nI t)), some (.int (pairsM (swpL lv S a t) (F * S)))]) dX4_swapFor_28 (by decide) rfl rfl ?_
    refine j_aload_n dX4_swapFor_30 rfl ?_
    refine j_iload_n dX4_swapFor_31 rfl ?_
    refine j_iload dX4_swapFor_32 rfl ?_
    refine j_cV (As := [.int (nI a), .int (nI t)]) (rest := []) cm_X4_change ci_X4_change cs_X4_change rfl ln_X4_95 (ci := 4) rfl dX4_swapFor_34 (d' := 0) (by decide) (by omega) ((up_ne (by decide)).trans m0) rfl rfl (Nat.le_of_ble_eq_true rfl) (Nat.le_of_ble_eq_true rfl) (s_X4_change (MR.setLv D) a t ha ht) ?_
    refine j_E up_up ?_
    refine j_E (E' := E) (by rw [swpL_swpL]; exact up_self m2) ?_
    refine j_pop dX4_swapFor_37 rfl ?_
    refine j_iload_n dX4_swapFor_38 rfl ?_
    refine j_iconst (v := (-1)) dX4_swapFor_39 (by decide) ?_
    refine j_icmp_eq (tgt := 52) dX4_swapFor_40 (by decide) (fun hq => ?_) (fun hq => ?_)
    · skip
      refine j_iload dX4_swapFor_52 rfl ?_
      refine j_istore_n (L' := [some (.ref (ad 63)), some (.int (nI a)), some (.int (nI t)), some (.int o1), some (.int (nI t)), some (.int (pairsM (swpL lv S a t) (F * S)))]) dX4_swapFor_54 (by decide) rfl rfl ?_
      refine j_iload dX4_swapFor_55 rfl ?_
      refine j_istore_n (L' := [some (.ref (ad 63)), some (.int (nI a)), some (.int (nI t)), some (.int (pairsM (swpL lv S a t) (F * S))), some (.int (nI t)), some (.int (pairsM (swpL lv S a t) (F * S)))]) dX4_swapFor_57 (by decide) rfl rfl ?_
      refine j_iinc (v := nI (t + 1)) (L' := [some (.ref (ad 63)), some (.int (nI a)), some (.int (nI t)), some (.int (pairsM (swpL lv S a t) (F * S))), some (.int (nI (t + 1))), some (.int (pairsM (swpL lv S a t) (F * S)))]) dX4_swapFor_58 (by decide) rfl (nI_1 _) rfl rfl ?_
      refine j_goto (tgt := 7) dX4_swapFor_61 (by decide) ?_
      refine j_clr 5 ?_
      exact ih (nI t, pairsM (swpL lv S a t) (F * S)) (by first | (simp only [hq, if_true]; done) | (simp only [hq, hr, if_true, if_false]; done))
    · skip
      refine j_iload dX4_swapFor_43 rfl ?_
      refine j_iload_n dX4_swapFor_45 rfl ?_
      refine j_icmp_lt (tgt := 52) dX4_swapFor_46 (by decide) (fun hr => ?_) (fun hr => ?_)
      · skip
        refine j_iload dX4_swapFor_52 rfl ?_
        refine j_istore_n (L' := [some (.ref (ad 63)), some (.int (nI a)), some (.int (nI t)), some (.int o1), some (.int (nI t)), some (.int (pairsM (swpL lv S a t) (F * S)))]) dX4_swapFor_54 (by decide) rfl rfl ?_
        refine j_iload dX4_swapFor_55 rfl ?_
        refine j_istore_n (L' := [some (.ref (ad 63)), some (.int (nI a)), some (.int (nI t)), some (.int (pairsM (swpL lv S a t) (F * S))), some (.int (nI t)), some (.int (pairsM (swpL lv S a t) (F * S)))]) dX4_swapFor_57 (by decide) rfl rfl ?_
        refine j_iinc (v := nI (t + 1)) (L' := [some (.ref (ad 63)), some (.int (nI a)), some (.int (nI t)), some (.int (pairsM (swpL lv S a t) (F * S))), some (.int (nI (t + 1))), some (.int (pairsM (swpL lv S a t) (F * S)))]) dX4_swapFor_58 (by decide) rfl (nI_1 _) rfl rfl ?_
        refine j_goto (tgt := 7) dX4_swapFor_61 (by decide) ?_
        refine j_clr 5 ?_
        exact ih (nI t, pairsM (swpL lv S a t) (F * S)) (by first | (simp only [hq, if_true]; done) | (simp only [hq, hr, if_true, if_false]; done))
      · skip
        refine j_goto (tgt := 58) dX4_swapFor_49 (by decide) ?_
        refine j_iinc (v := nI (t + 1)) (L' := [some (.ref (ad 63)), some (.int (nI a)), some (.int e1), some (.int o1), some (.int (nI (t + 1))), some (.int (pairsM (swpL lv S a t) (F * S)))]) dX4_swapFor_58 (by decide) rfl (nI_1 _) rfl rfl ?_
        refine j_goto (tgt := 7) dX4_swapFor_61 (by decide) ?_
        refine j_clr 5 ?_
        exact ih (e1, o1) (by first | (simp only [hq, if_true]; done) | (simp only [hq, hr, if_true, if_false]; done))
  · skip
    show J g mX4_swapFor 2 0 0 7 [some (.ref (ad 63)), some (.int (nI a)), some (.int ((swapM lv S F a).1)), some (.int ((swapM lv S F a).2)), some (.int (nI F)), none] [] n ad E Φ Ψ
    refine j_iload dX4_swapFor_7 rfl ?_
    refine j_aload_n dX4_swapFor_9 rfl ?_
    refine j_get fl_X4_9 dX4_swapFor_10 (by omega) m0 rfl ?_
    refine j_icmp_ge_t (tgt := 64) dX4_swapFor_13 (by decide) (nI_le' (by omega) (by omega) (by omega)) ?_
    refine j_iload_n dX4_swapFor_64 rfl ?_
    exact j_iret dX4_swapFor_65 rfl h
set_option maxRecDepth 100000 in
set_option maxHeartbeats 4000000 in
theorem s_X4_bestSwap_ok {g : jG} {n : Nat} {ad : Nat → Nat} {E : Nat → va_E} {th : Int32} {F S : Nat} {hrs su : Int32} {gone : Int64} {lv ed : Nat → Int32} {first cnt : Nat} {ah : Nat → Int32} {mc : Nat} {mk : Nat → Int32} (D : MR g n ad E th F S hrs su gone lv ed first cnt ah mc mk) (a : Nat) (ha : a < F) : RetP g mX4_bestSwap 3 [.ref (ad 63), .int (nI a)] n ad E (some (.int ((swapM lv S F a).1))) (fun E9 => MR g n ad E9 0 F S hrs su gone lv ed first cnt ah mc mk ∧ ∀ k, (k < 63 ∨ 69 ≤ k) → E9 k = E k) := by
  obtain ⟨m0, m1, m2, m3, m4, ⟨wk, m5⟩, hF, hS, hFp, hSp, hfi, hcn, hmc, hn⟩ := id D
  intro Φ Ψ h
  show J g mX4_bestSwap 3 0 0 0 [some (.ref (ad 63)), some (.int (nI a))] [] n ad E Φ Ψ
  refine j_aload_n dX4_bestSwap_0 rfl ?_
  refine j_iconst (v := 0) dX4_bestSwap_1 (by decide) ?_
  refine j_put fl_X4_38 fp_X4 dX4_bestSwap_2 (by omega) m0 (Or.inl rfl) rfl rfl (Nat.le_of_ble_eq_true rfl) ?_
  refine j_aload_n dX4_bestSwap_5 rfl ?_
  refine j_iload_n dX4_bestSwap_6 rfl ?_
  refine j_cV (As := [.int (nI a)]) (rest := []) cm_X4_isFlight ci_X4_isFlight cs_X4_isFlight rfl ln_X4_48 (ci := 4) rfl dX4_bestSwap_7 (d' := 1) (by decide) (by omega) up_eq rfl rfl (Nat.le_of_ble_eq_true rfl) (Nat.le_of_ble_eq_true rfl) (s_isFlight_t (MR.setO D ⟨by omega, by omega, by omega, by omega, by omega, by omega, by omega⟩) a ha) ?_
  refine j_if_eq_f (tgt := 21) dX4_bestSwap_10 (by decide) (by decide) ?_
  refine j_aload_n dX4_bestSwap_13 rfl ?_
  refine j_iload_n dX4_bestSwap_14 rfl ?_
  refine j_cV (As := [.int (nI a)]) (rest := []) cm_X4_swapFor ci_X4_swapFor cs_X4_swapFor rfl ln_X4_188 (ci := 4) rfl dX4_bestSwap_15 (d' := 2) (by decide) (by omega) up_eq rfl rfl (Nat.le_of_ble_eq_true rfl) (Nat.le_of_ble_eq_true rfl) (s_X4_swapFor (MR.setO D ⟨by omega, by omega, by omega, by omega, by omega, by omega, by omega⟩) a ha) ?_
  refine j_goto (tgt := 26) dX4_bestSwap_18 (by decide) ?_
  exact j_iret dX4_bestSwap_26 rfl (h _ ⟨(MR.setO D ⟨by omega, by omega, by omega, by omega, by omega, by omega, by omega⟩), (fun k hk => ((up_ne (by omega)).trans rfl))⟩)
set_option maxRecDepth 100000 in
set_option maxHeartbeats 4000000 in
theorem s_X4_bestSwap_bad {g : jG} {n : Nat} {ad : Nat → Nat} {E : Nat → va_E} {th : Int32} {F S : Nat} {hrs su : Int32} {gone : Int64} {lv ed : Nat → Int32} {first cnt : Nat} {ah : Nat → Int32} {mc : Nat} {mk : Nat → Int32} (D : MR g n ad E th F S hrs su gone lv ed first cnt ah mc mk) (x : Int32) (hx : oob x F) : RetP g mX4_bestSwap 3 [.ref (ad 63), .int x] n ad E (some (.int 0)) (fun E9 => MR g n ad E9 1 F S hrs su gone lv ed first cnt ah mc mk ∧ ∀ k, (k < 63 ∨ 69 ≤ k) → E9 k = E k) := by
  obtain ⟨m0, m1, m2, m3, m4, ⟨wk, m5⟩, hF, hS, hFp, hSp, hfi, hcn, hmc, hn⟩ := id D
  intro Φ Ψ h
  show J g mX4_bestSwap 3 0 0 0 [some (.ref (ad 63)), some (.int x)] [] n ad E Φ Ψ
  refine j_aload_n dX4_bestSwap_0 rfl ?_
  refine j_iconst (v := 0) dX4_bestSwap_1 (by decide) ?_
  refine j_put fl_X4_38 fp_X4 dX4_bestSwap_2 (by omega) m0 (Or.inl rfl) rfl rfl (Nat.le_of_ble_eq_true rfl) ?_
  refine j_aload_n dX4_bestSwap_5 rfl ?_
  refine j_iload_n dX4_bestSwap_6 rfl ?_
  refine j_cV (As := [.int x]) (rest := []) cm_X4_isFlight ci_X4_isFlight cs_X4_isFlight rfl ln_X4_48 (ci := 4) rfl dX4_bestSwap_7 (d' := 1) (by decide) (by omega) up_eq rfl rfl (Nat.le_of_ble_eq_true rfl) (Nat.le_of_ble_eq_true rfl) (s_isFlight_f (MR.setO D ⟨by omega, by omega, by omega, by omega, by omega, by omega, by omega⟩) x hx) ?_
  refine j_if_eq_t (tgt := 21) dX4_bestSwap_10 (by decide) (by decide) ?_
  refine j_aload_n dX4_bestSwap_21 rfl ?_
  refine j_iconst (v := 1) dX4_bestSwap_22 (by decide) ?_
  refine j_cV (As := [.int 1]) (rest := []) cm_X4_no ci_X4_no cs_X4_no rfl ln_X4_84 (ci := 4) rfl dX4_bestSwap_23 (d' := 0) (by decide) (by omega) up_eq rfl rfl (Nat.le_of_ble_eq_true rfl) (Nat.le_of_ble_eq_true rfl) (s_X4_no (MR.setO D ⟨by omega, by omega, by omega, by omega, by omega, by omega, by omega⟩) 1) ?_
  refine j_E up_up ?_
  exact j_iret dX4_bestSwap_26 rfl (h _ ⟨(MR.setO D ⟨by omega, by omega, by omega, by omega, by omega, by omega, by omega⟩), (fun k hk => ((up_ne (by omega)).trans rfl))⟩)
