/-! The model's deeds, one by one. -/
def trnW (lv : Nat → Int32) (S a m : Nat) : Nat → Int32 := fun k => if a * S ≤ k ∧ k < a * S + m then lv (2 * (a * S) + (S - 1) - k) else lv k
theorem trnW_0 (lv : Nat → Int32) (S a : Nat) : trnW lv S a 0 = lv := by
  funext k
  unfold trnW
  rw [if_neg (by omega)]
theorem trnW_step (lv : Nat → Int32) {S a m : Nat} (hm : m < S) : upd (trnW lv S a m) (a * S + m) (lv (a * S + (S - 1 - m))) = trnW lv S a (m + 1) := by
  funext k
  unfold upd trnW
  by_cases h : k = a * S + m
  · subst h
    rw [if_pos rfl, if_pos (by omega)]
    congr 1
    omega
  · rw [if_neg h]
    by_cases q : a * S ≤ k ∧ k < a * S + m
    · rw [if_pos q, if_pos (by omega)]
    · rw [if_neg q, if_neg (by omega)]
theorem cp_at {lv wk : Nat → Int32} {p n j : Nat} (h : j < n) : va_cpy lv wk p 0 n j = lv (p + j) := by
  unfold va_cpy
  rw [if_pos (by omega), Nat.sub_zero]
theorem neg_sub (x y : Int32) : x - y = x + -y := Int32.sub_eq_add_neg x y
set_option maxRecDepth 100000 in
set_option maxHeartbeats 4000000 in
theorem s_X4_lay_ok {g : jG} {n : Nat} {ad : Nat → Nat} {E : Nat → va_E} {th : Int32} {F S : Nat} {hrs su : Int32} {gone : Int64} {lv ed : Nat → Int32} {first cnt : Nat} {ah : Nat → Int32} {mc : Nat} {mk : Nat → Int32} (D : MR g n ad E th F S hrs su gone lv ed first cnt ah mc mk) (a b : Nat) (ha1 : 1 ≤ a) (ha : a ≤ 8) (hb1 : 1 ≤ b) (hb : b ≤ 16) : RetP g mX4_lay 1 [.ref (ad 63), .int (nI a), .int (nI b)] n ad E (some (.int (nI (a * b)))) (fun E9 => MR g n ad E9 0 a b hrs su gone (cpyN (fun _ => 0) lv 128) (cpyN (fun _ => 50) ed 16) 0 0 ah 0 mk ∧ ∀ k, (k < 63 ∨ 69 ≤ k) → E9 k = E k) := by
  obtain ⟨m0, m1, m2, m3, m4, ⟨wk, m5⟩, hF, hS, hFp, hSp, hfi, hcn, hmc, hn⟩ := id D
  intro Φ Ψ h
  show J g mX4_lay 1 0 0 0 [some (.ref (ad 63)), some (.int (nI a)), some (.int (nI b))] [] n ad E Φ Ψ
  refine j_aload_n dX4_lay_0 rfl ?_
  refine j_iconst (v := 0) dX4_lay_1 (by decide) ?_
  refine j_put fl_X4_38 fp_X4 dX4_lay_2 (by omega) m0 (Or.inl rfl) rfl rfl (Nat.le_of_ble_eq_true rfl) ?_
  refine j_iload_n dX4_lay_5 rfl ?_
  refine j_iconst (v := nI 1) dX4_lay_6 (by decide) ?_
  refine j_bipush (v := nI 8) dX4_lay_7 (by decide) ?_
  refine j_cS (As := [.int (nI a), .int (nI 1), .int (nI 8)]) (rest := []) cm_X4_isIn ct_X4_isIn ln_X4_41 dX4_lay_9 (d' := 0) (by decide) rfl rfl (Nat.le_of_ble_eq_true rfl) (Nat.le_of_ble_eq_true rfl) (s_isIn_t (nI a) (nI 1) (nI 8) (nI_nlt' (by omega) (by omega) (by omega)) (nI_nlt' (by omega) (by omega) (by omega))) ?_
  refine j_if_eq_f (tgt := 25) dX4_lay_12 (by decide) (by decide) ?_
  refine j_iload_n dX4_lay_15 rfl ?_
  refine j_iconst (v := nI 1) dX4_lay_16 (by decide) ?_
  refine j_bipush (v := nI 16) dX4_lay_17 (by decide) ?_
  refine j_cS (As := [.int (nI b), .int (nI 1), .int (nI 16)]) (rest := []) cm_X4_isIn ct_X4_isIn ln_X4_41 dX4_lay_19 (d' := 0) (by decide) rfl rfl (Nat.le_of_ble_eq_true rfl) (Nat.le_of_ble_eq_true rfl) (s_isIn_t (nI b) (nI 1) (nI 16) (nI_nlt' (by omega) (by omega) (by omega)) (nI_nlt' (by omega) (by omega) (by omega))) ?_
  refine j_if_ne_t (tgt := 31) dX4_lay_22 (by decide) (by decide) ?_
  refine j_aload_n dX4_lay_31 rfl ?_
  refine j_iload_n dX4_lay_32 rfl ?_
  refine j_put fl_X4_9 fp_X4 dX4_lay_33 (by omega) up_eq (Or.inl rfl) rfl rfl (Nat.le_of_ble_eq_true rfl) ?_
  refine j_E up_up ?_
  refine j_aload_n dX4_lay_36 rfl ?_
  refine j_iload_n dX4_lay_37 rfl ?_
  refine j_put fl_X4_13 fp_X4 dX4_lay_38 (by omega) up_eq (Or.inl rfl) rfl rfl (Nat.le_of_ble_eq_true rfl) ?_
  refine j_E up_up ?_
  refine j_aload_n dX4_lay_41 rfl ?_
  refine j_cVp (As := []) (rest := []) cm_X4_anew ci_X4_anew cs_X4_anew rfl ln_X4_35 (ci := 4) rfl dX4_lay_42 (d' := 0) (by decide) (by omega) up_eq rfl rfl (Nat.le_of_ble_eq_true rfl) (Nat.le_of_ble_eq_true rfl) (s_X4_anew (MR.setO D ⟨by omega, by omega, by omega, by omega, by omega, by omega, by omega⟩)) (fun E1 q1 => ?_)
  have D1 := q1.1
  have q1 : MR g n ad E1 0 a b hrs su gone (cpyN (fun _ => 0) lv 128) (cpyN (fun _ => 50) ed 16) 0 0 ah 0 mk ∧ ∀ k, (k < 63 ∨ 69 ≤ k) → E1 k = E k := ⟨q1.1, fun k hk => (q1.2 k hk).trans ((fun k hk => ((up_ne (by omega)).trans rfl)) k hk)⟩
  obtain ⟨m01, m11, m21, m31, m41, ⟨wk1, m51⟩, hF1, hS1, hFp1, hSp1, hfi1, hcn1, hmc1, hn1⟩ := id D1
  show J g mX4_lay 1 0 0 45 [some (.ref (ad 63)), some (.int (nI a)), some (.int (nI b))] [] n ad E1 Φ Ψ
  refine j_aload_n dX4_lay_45 rfl ?_
  refine j_cV (As := []) (rest := []) cm_X4_all ci_X4_all cs_X4_all rfl ln_X4_67 (ci := 4) rfl dX4_lay_46 (d' := 0) (by decide) (by omega) m01 rfl rfl (Nat.le_of_ble_eq_true rfl) (Nat.le_of_ble_eq_true rfl) (s_X4_all D1) ?_
  exact j_iret dX4_lay_49 rfl (h _ ⟨D1, (fun k hk => (q1.2 k hk))⟩)
set_option maxRecDepth 100000 in
set_option maxHeartbeats 4000000 in
theorem s_X4_lay_bad {g : jG} {n : Nat} {ad : Nat → Nat} {E : Nat → va_E} {th : Int32} {F S : Nat} {hrs su : Int32} {gone : Int64} {lv ed : Nat → Int32} {first cnt : Nat} {ah : Nat → Int32} {mc : Nat} {mk : Nat → Int32} (D : MR g n ad E th F S hrs su gone lv ed first cnt ah mc mk) (x y : Int32) (hx : (x < 1 ∨ ¬ x ≤ 8) ∨ (y < 1 ∨ ¬ y ≤ 16)) : RetP g mX4_lay 1 [.ref (ad 63), .int x, .int y] n ad E (some (.int 0)) (fun E9 => MR g n ad E9 1 F S hrs su gone lv ed first cnt ah mc mk ∧ ∀ k, (k < 63 ∨ 69 ≤ k) → E9 k = E k) := by
  obtain ⟨m0, m1, m2, m3, m4, ⟨wk, m5⟩, hF, hS, hFp, hSp, hfi, hcn, hmc, hn⟩ := id D
  intro Φ Ψ h
  show J g mX4_lay 1 0 0 0 [some (.ref (ad 63)), some (.int x), some (.int y)] [] n ad E Φ Ψ
  by_cases q : x < 1 ∨ ¬ x ≤ 8
  · skip
    refine j_aload_n dX4_lay_0 rfl ?_
    refine j_iconst (v := 0) dX4_lay_1 (by decide) ?_
    refine j_put fl_X4_38 fp_X4 dX4_lay_2 (by omega) m0 (Or.inl rfl) rfl rfl (Nat.le_of_ble_eq_true rfl) ?_
    refine j_iload_n dX4_lay_5 rfl ?_
    refine j_iconst (v := 1) dX4_lay_6 (by decide) ?_
    refine j_bipush (v := 8) dX4_lay_7 (by decide) ?_
    refine j_cS (As := [.int x, .int 1, .int 8]) (rest := []) cm_X4_isIn ct_X4_isIn ln_X4_41 dX4_lay_9 (d' := 0) (by decide) rfl rfl (Nat.le_of_ble_eq_true rfl) (Nat.le_of_ble_eq_true rfl) (s_isIn_f x 1 8 (in_bad q)) ?_
    refine j_if_eq_t (tgt := 25) dX4_lay_12 (by decide) (by decide) ?_
    refine j_aload_n dX4_lay_25 rfl ?_
    refine j_iconst (v := 1) dX4_lay_26 (by decide) ?_
    refine j_cV (As := [.int 1]) (rest := []) cm_X4_no ci_X4_no cs_X4_no rfl ln_X4_84 (ci := 4) rfl dX4_lay_27 (d' := 0) (by decide) (by omega) up_eq rfl rfl (Nat.le_of_ble_eq_true rfl) (Nat.le_of_ble_eq_true rfl) (s_X4_no (MR.setO D ⟨by omega, by omega, by omega, by omega, by omega, by omega, by omega⟩) 1) ?_
    refine j_E up_up ?_
    exact j_iret dX4_lay_30 rfl (h _ ⟨(MR.setO D ⟨by omega, by omega, by omega, by omega, by omega, by omega, by omega⟩), (fun k hk => ((up_ne (by omega)).trans rfl))⟩)
  · skip
    refine j_aload_n dX4_lay_0 rfl ?_
    refine j_iconst (v := 0) dX4_lay_1 (by decide) ?_
    refine j_put fl_X4_38 fp_X4 dX4_lay_2 (by omega) m0 (Or.inl rfl) rfl rfl (Nat.le_of_ble_eq_true rfl) ?_
    refine j_iload_n dX4_lay_5 rfl ?_
    refine j_iconst (v := 1) dX4_lay_6 (by decide) ?_
    refine j_bipush (v := 8) dX4_lay_7 (by decide) ?_
    refine j_cS (As := [.int x, .int 1, .int 8]) (rest := []) cm_X4_isIn ct_X4_isIn ln_X4_41 dX4_lay_9 (d' := 0) (by decide) rfl rfl (Nat.le_of_ble_eq_true rfl) (Nat.le_of_ble_eq_true rfl) (s_isIn_t x 1 8 (fun r => q (Or.inl r)) (nlt_le (Decidable.not_not.mp (fun r => q (Or.inr r))))) ?_
    refine j_if_eq_f (tgt := 25) dX4_lay_12 (by decide) (by decide) ?_
    refine j_iload_n dX4_lay_15 rfl ?_
    refine j_iconst (v := 1) dX4_lay_16 (by decide) ?_
    refine j_bipush (v := 16) dX4_lay_17 (by decide) ?_
    refine j_cS (As := [.int y, .int 1, .int 16]) (rest := []) cm_X4_isIn ct_X4_isIn ln_X4_41 dX4_lay_19 (d' := 0) (by decide) rfl rfl (Nat.le_of_ble_eq_true rfl) (Nat.le_of_ble_eq_true rfl) (s_isIn_f y 1 16 (in_bad (hx.resolve_left q))) ?_
    refine j_if_ne_f (tgt := 31) dX4_lay_22 (by decide) (by decide) ?_
    refine j_aload_n dX4_lay_25 rfl ?_
    refine j_iconst (v := 1) dX4_lay_26 (by decide) ?_
    refine j_cV (As := [.int 1]) (rest := []) cm_X4_no ci_X4_no cs_X4_no rfl ln_X4_84 (ci := 4) rfl dX4_lay_27 (d' := 0) (by decide) (by omega) up_eq rfl rfl (Nat.le_of_ble_eq_true rfl) (Nat.le_of_ble_eq_true rfl) (s_X4_no (MR.setO D ⟨by omega, by omega, by omega, by omega, by omega, by omega, by omega⟩) 1) ?_
    refine j_E up_up ?_
    exact j_iret dX4_lay_30 rfl (h _ ⟨(MR.setO D ⟨by omega, by omega, by omega, by omega, by omega, by omega, by omega⟩), (fun k hk => ((up_ne (by omega)).trans rfl))⟩)
set_option maxRecDepth 100000 in
set_option maxHeartbeats 4000000 in
theorem s_X4_rain_ok {g : jG} {n : Nat} {ad : Nat → Nat} {E : Nat → va_E} {th : Int32} {F S : Nat} {hrs su : Int32} {gone : Int64} {lv ed : Nat → Int32} {first cnt : Nat} {ah : Nat → Int32} {mc : Nat} {mk : Nat → Int32} (D : MR g n ad E th F S hrs su gone lv ed first cnt ah mc mk) (a b : Nat) (ha : a < F) (hb : b < S) (x : Int32) (hx1 : ¬ x < -99) (hx2 : x ≤ 99) : RetP g mX4_rain 3 [.ref (ad 63), .int (nI a), .int (nI b), .int x] n ad E (some (.int (lv (a * S + b) + x))) (fun E9 => MR g n ad E9 0 F S hrs su gone (upd lv (a * S + b) (lv (a * S + b) + x)) ed (kOld first cnt) (kCnt cnt) (va_cpy lv ah 0 (128 * kSlot first cnt) 128) mc mk ∧ ∀ k, (k < 63 ∨ 69 ≤ k) → E9 k = E k) := by
  obtain ⟨m0, m1, m2, m3, m4, ⟨wk, m5⟩, hF, hS, hFp, hSp, hfi, hcn, hmc, hn⟩ := id D
  have hix := ix128 hF hS ha hb
  intro Φ Ψ h
  show J g mX4_rain 3 0 0 0 [some (.ref (ad 63)), some (.int (nI a)), some (.int (nI b)), some (.int x)] [] n ad E Φ Ψ
  refine j_aload_n dX4_rain_0 rfl ?_
  refine j_iconst (v := 0) dX4_rain_1 (by decide) ?_
  refine j_put fl_X4_38 fp_X4 dX4_rain_2 (by omega) m0 (Or.inl rfl) rfl rfl (Nat.le_of_ble_eq_true rfl) ?_
  refine j_aload_n dX4_rain_5 rfl ?_
  refine j_iload_n dX4_rain_6 rfl ?_
  refine j_cV (As := [.int (nI a)]) (rest := []) cm_X4_isFlight ci_X4_isFlight cs_X4_isFlight rfl ln_X4_48 (ci := 4) rfl dX4_rain_7 (d' := 1) (by decide) (by omega) up_eq rfl rfl (Nat.le_of_ble_eq_true rfl) (Nat.le_of_ble_eq_true rfl) (s_isFlight_t (MR.setO D ⟨by omega, by omega, by omega, by omega, by omega, by omega, by omega⟩) a ha) ?_
  refine j_if_eq_f (tgt := 21) dX4_rain_10 (by decide) (by decide) ?_
  refine j_aload_n dX4_rain_13 rfl ?_
  refine j_iload_n dX4_rain_14 rfl ?_
  refine j_cV (As := [.int (nI b)]) (rest := []) cm_X4_isStep ci_X4_isStep cs_X4_isStep rfl ln_X4_52 (ci := 4) rfl dX4_rain_15 (d' := 1) (by decide) (by omega) up_eq rfl rfl (Nat.le_of_ble_eq_true rfl) (Nat.le_of_ble_eq_true rfl) (s_isStep_t (MR.setO D ⟨by omega, by omega, by omega, by omega, by omega, by omega, by omega⟩) b hb) ?_
  refine j_if_ne_t (tgt := 27) dX4_rain_18 (by decide) (by decide) ?_
  refine j_iload_n dX4_rain_27 rfl ?_
  refine j_bipush (v := (-99)) dX4_rain_28 (by decide) ?_
  refine j_bipush (v := 99) dX4_rain_30 (by decide) ?_
  refine j_cS (As := [.int x, .int (-99), .int 99]) (rest := []) cm_X4_isIn ct_X4_isIn ln_X4_41 dX4_rain_32 (d' := 0) (by decide) rfl rfl (Nat.le_of_ble_eq_true rfl) (Nat.le_of_ble_eq_true rfl) (s_isIn_t x (-99) 99 hx1 (nlt_le hx2)) ?_
  refine j_if_ne_t (tgt := 44) dX4_rain_35 (by decide) (by decide) ?_
  refine j_aload_n dX4_rain_44 rfl ?_
  refine j_cVp (As := []) (rest := []) cm_X4_keep ci_X4_keep cs_X4_keep rfl ln_X4_88 (ci := 4) rfl dX4_rain_45 (d' := 2) (by decide) (by omega) up_eq rfl rfl (Nat.le_of_ble_eq_true rfl) (Nat.le_of_ble_eq_true rfl) (s_X4_keep (MR.setO D ⟨by omega, by omega, by omega, by omega, by omega, by omega, by omega⟩)) (fun E1 q1 => ?_)
  have D1 := q1.1
  have q1 : MR g n ad E1 0 F S hrs su gone lv ed (kOld first cnt) (kCnt cnt) (va_cpy lv ah 0 (128 * kSlot first cnt) 128) mc mk ∧ ∀ k, (k < 63 ∨ 69 ≤ k) → E1 k = E k := ⟨q1.1, fun k hk => (q1.2 k hk).trans ((fun k hk => ((up_ne (by omega)).trans rfl)) k hk)⟩
  obtain ⟨m01, m11, m21, m31, m41, ⟨wk1, m51⟩, hF1, hS1, hFp1, hSp1, hfi1, hcn1, hmc1, hn1⟩ := id D1
  show J g mX4_rain 3 0 0 48 [some (.ref (ad 63)), some (.int (nI a)), some (.int (nI b)), some (.int x)] [] n ad E1 Φ Ψ
  refine j_aload_n dX4_rain_48 rfl ?_
  refine j_get fl_X4_23 dX4_rain_49 (by omega) m01 rfl ?_
  refine j_iload_n dX4_rain_52 rfl ?_
  refine j_aload_n dX4_rain_53 rfl ?_
  refine j_get fl_X4_13 dX4_rain_54 (by omega) m01 rfl ?_
  refine j_imul dX4_rain_57 ?_
  refine j_topi (y := nI (a * S)) (pk_mul _ _) ?_
  refine j_iload_n dX4_rain_58 rfl ?_
  refine j_iadd dX4_rain_59 ?_
  refine j_topi (y := nI ((a * S) + b)) (nI_add _ _) ?_
  refine j_dup2 dX4_rain_60 rfl rfl ?_
  refine j_iald dX4_rain_61 (by omega) m21 (by decide) (by omega) rfl ?_
  refine j_iload_n dX4_rain_62 rfl ?_
  refine j_iadd dX4_rain_63 ?_
  refine j_iast (j := (a * S) + b) dX4_rain_64 (by omega) m21 (by decide) (by omega) ?_
  refine j_aload_n dX4_rain_65 rfl ?_
  refine j_get fl_X4_23 dX4_rain_66 (by omega) ((up_ne (by decide)).trans m01) rfl ?_
  refine j_iload_n dX4_rain_69 rfl ?_
  refine j_aload_n dX4_rain_70 rfl ?_
  refine j_get fl_X4_13 dX4_rain_71 (by omega) ((up_ne (by decide)).trans m01) rfl ?_
  refine j_imul dX4_rain_74 ?_
  refine j_topi (y := nI (a * S)) (pk_mul _ _) ?_
  refine j_iload_n dX4_rain_75 rfl ?_
  refine j_iadd dX4_rain_76 ?_
  refine j_topi (y := nI ((a * S) + b)) (nI_add _ _) ?_
  refine j_iald dX4_rain_77 (by omega) up_eq (by decide) (by omega) rfl ?_
  refine j_topi (y := lv (a * S + b) + x) (if_pos rfl) ?_
  exact j_iret dX4_rain_78 rfl (h _ ⟨(MR.setLv D1), (fun k hk => ((up_ne (by omega)).trans (q1.2 k hk)))⟩)
set_option maxRecDepth 100000 in
set_option maxHeartbeats 4000000 in
theorem s_X4_rain_bad {g : jG} {n : Nat} {ad : Nat → Nat} {E : Nat → va_E} {th : Int32} {F S : Nat} {hrs su : Int32} {gone : Int64} {lv ed : Nat → Int32} {first cnt : Nat} {ah : Nat → Int32} {mc : Nat} {mk : Nat → Int32} (D : MR g n ad E th F S hrs su gone lv ed first cnt ah mc mk) (x y : Int32) (z : Int32) (hx : oob x F ∨ oob y S) : RetP g mX4_rain 3 [.ref (ad 63), .int x, .int y, .int z] n ad E (some (.int 0)) (fun E9 => MR g n ad E9 1 F S hrs su gone lv ed first cnt ah mc mk ∧ ∀ k, (k < 63 ∨ 69 ≤ k) → E9 k = E k) := by
  obtain ⟨m0, m1, m2, m3, m4, ⟨wk, m5⟩, hF, hS, hFp, hSp, hfi, hcn, hmc, hn⟩ := id D
  intro Φ Ψ h
  show J g mX4_rain 3 0 0 0 [some (.ref (ad 63)), some (.int x), some (.int y), some (.int z)] [] n ad E Φ Ψ
  rcases oob_or x (show F < 2 ^ 31 by omega) with q | ⟨a, ha, rfl⟩
  · skip
    refine j_aload_n dX4_rain_0 rfl ?_
    refine j_iconst (v := 0) dX4_rain_1 (by decide) ?_
    refine j_put fl_X4_38 fp_X4 dX4_rain_2 (by omega) m0 (Or.inl rfl) rfl rfl (Nat.le_of_ble_eq_true rfl) ?_
    refine j_aload_n dX4_rain_5 rfl ?_
    refine j_iload_n dX4_rain_6 rfl ?_
    refine j_cV (As := [.int x]) (rest := []) cm_X4_isFlight ci_X4_isFlight cs_X4_isFlight rfl ln_X4_48 (ci := 4) rfl dX4_rain_7 (d' := 1) (by decide) (by omega) up_eq rfl rfl (Nat.le_of_ble_eq_true rfl) (Nat.le_of_ble_eq_true rfl) (s_isFlight_f (MR.setO D ⟨by omega, by omega, by omega, by omega, by omega, by omega, by omega⟩) x q) ?_
    refine j_if_eq_t (tgt := 21) dX4_rain_10 (by decide) (by decide) ?_
    refine j_aload_n dX4_rain_21 rfl ?_
    refine j_iconst (v := 1) dX4_rain_22 (by decide) ?_
    refine j_cV (As := [.int 1]) (rest := []) cm_X4_no ci_X4_no cs_X4_no rfl ln_X4_84 (ci := 4) rfl dX4_rain_23 (d' := 0) (by decide) (by omega) up_eq rfl rfl (Nat.le_of_ble_eq_true rfl) (Nat.le_of_ble_eq_true rfl) (s_X4_no (MR.setO D ⟨by omega, by omega, by omega, by omega, by omega, by omega, by omega⟩) 1) ?_
    refine j_E up_up ?_
    exact j_iret dX4_rain_26 rfl (h _ ⟨(MR.setO D ⟨by omega, by omega, by omega, by omega, by omega, by omega, by omega⟩), (fun k hk => ((up_ne (by omega)).trans rfl))⟩)
  · skip
    have hy := hx.resolve_left (not_oob ha (by omega))
    refine j_aload_n dX4_rain_0 rfl ?_
    refine j_iconst (v := 0) dX4_rain_1 (by decide) ?_
    refine j_put fl_X4_38 fp_X4 dX4_rain_2 (by omega) m0 (Or.inl rfl) rfl rfl (Nat.le_of_ble_eq_true rfl) ?_
    refine j_aload_n dX4_rain_5 rfl ?_
    refine j_iload_n dX4_rain_6 rfl ?_
    refine j_cV (As := [.int (nI a)]) (rest := []) cm_X4_isFlight ci_X4_isFlight cs_X4_isFlight rfl ln_X4_48 (ci := 4) rfl dX4_rain_7 (d' := 1) (by decide) (by omega) up_eq rfl rfl (Nat.le_of_ble_eq_true rfl) (Nat.le_of_ble_eq_true rfl) (s_isFlight_t (MR.setO D ⟨by omega, by omega, by omega, by omega, by omega, by omega, by omega⟩) a ha) ?_
    refine j_if_eq_f (tgt := 21) dX4_rain_10 (by decide) (by decide) ?_
    refine j_aload_n dX4_rain_13 rfl ?_
    refine j_iload_n dX4_rain_14 rfl ?_
    refine j_cV (As := [.int y]) (rest := []) cm_X4_isStep ci_X4_isStep cs_X4_isStep rfl ln_X4_52 (ci := 4) rfl dX4_rain_15 (d' := 1) (by decide) (by omega) up_eq rfl rfl (Nat.le_of_ble_eq_true rfl) (Nat.le_of_ble_eq_true rfl) (s_isStep_f (MR.setO D ⟨by omega, by omega, by omega, by omega, by omega, by omega, by omega⟩) y hy) ?_
    refine j_if_ne_f (tgt := 27) dX4_rain_18 (by decide) (by decide) ?_
    refine j_aload_n dX4_rain_21 rfl ?_
    refine j_iconst (v := 1) dX4_rain_22 (by decide) ?_
    refine j_cV (As := [.int 1]) (rest := []) cm_X4_no ci_X4_no cs_X4_no rfl ln_X4_84 (ci := 4) rfl dX4_rain_23 (d' := 0) (by decide) (by omega) up_eq rfl rfl (Nat.le_of_ble_eq_true rfl) (Nat.le_of_ble_eq_true rfl) (s_X4_no (MR.setO D ⟨by omega, by omega, by omega, by omega, by omega, by omega, by omega⟩) 1) ?_
    refine j_E up_up ?_
    exact j_iret dX4_rain_26 rfl (h _ ⟨(MR.setO D ⟨by omega, by omega, by omega, by omega, by omega, by omega, by omega⟩), (fun k hk => ((up_ne (by omega)).trans rfl))⟩)
set_option maxRecDepth 100000 in
set_option maxHeartbeats 4000000 in
theorem s_X4_rain_iae {g : jG} {n : Nat} {ad : Nat → Nat} {E : Nat → va_E} {th : Int32} {F S : Nat} {hrs su : Int32} {gone : Int64} {lv ed : Nat → Int32} {first cnt : Nat} {ah : Nat → Int32} {mc : Nat} {mk : Nat → Int32} (D : MR g n ad E th F S hrs su gone lv ed first cnt ah mc mk) (a b : Nat) (ha : a < F) (hb : b < S) (x : Int32) (hx : x < -99 ∨ ¬ x ≤ 99) : RetP g mX4_rain 3 [.ref (ad 63), .int (nI a), .int (nI b), .int x] n ad E (some (.int 0)) (fun E9 => MR g n ad E9 2 F S hrs su gone lv ed first cnt ah mc mk ∧ ∀ k, (k < 63 ∨ 69 ≤ k) → E9 k = E k) := by
  obtain ⟨m0, m1, m2, m3, m4, ⟨wk, m5⟩, hF, hS, hFp, hSp, hfi, hcn, hmc, hn⟩ := id D
  intro Φ Ψ h
  show J g mX4_rain 3 0 0 0 [some (.ref (ad 63)), some (.int (nI a)), some (.int (nI b)), some (.int x)] [] n ad E Φ Ψ
  refine j_aload_n dX4_rain_0 rfl ?_
  refine j_iconst (v := 0) dX4_rain_1 (by decide) ?_
  refine j_put fl_X4_38 fp_X4 dX4_rain_2 (by omega) m0 (Or.inl rfl) rfl rfl (Nat.le_of_ble_eq_true rfl) ?_
  refine j_aload_n dX4_rain_5 rfl ?_
  refine j_iload_n dX4_rain_6 rfl ?_
  refine j_cV (As := [.int (nI a)]) (rest := []) cm_X4_isFlight ci_X4_isFlight cs_X4_isFlight rfl ln_X4_48 (ci := 4) rfl dX4_rain_7 (d' := 1) (by decide) (by omega) up_eq rfl rfl (Nat.le_of_ble_eq_true rfl) (Nat.le_of_ble_eq_true rfl) (s_isFlight_t (MR.setO D ⟨by omega, by omega, by omega, by omega, by omega, by omega, by omega⟩) a ha) ?_
  refine j_if_eq_f (tgt := 21) dX4_rain_10 (by decide) (by decide) ?_
  refine j_aload_n dX4_rain_13 rfl ?_
  refine j_iload_n dX4_rain_14 rfl ?_
  refine j_cV (As := [.int (nI b)]) (rest := []) cm_X4_isStep ci_X4_isStep cs_X4_isStep rfl ln_X4_52 (ci := 4) rfl dX4_rain_15 (d' := 1) (by decide) (by omega) up_eq rfl rfl (Nat.le_of_ble_eq_true rfl) (Nat.le_of_ble_eq_true rfl) (s_isStep_t (MR.setO D ⟨by omega, by omega, by omega, by omega, by omega, by omega, by omega⟩) b hb) ?_
  refine j_if_ne_t (tgt := 27) dX4_rain_18 (by decide) (by decide) ?_
  refine j_iload_n dX4_rain_27 rfl ?_
  refine j_bipush (v := (-99)) dX4_rain_28 (by decide) ?_
  refine j_bipush (v := 99) dX4_rain_30 (by decide) ?_
  refine j_cS (As := [.int x, .int (-99), .int 99]) (rest := []) cm_X4_isIn ct_X4_isIn ln_X4_41 dX4_rain_32 (d' := 0) (by decide) rfl rfl (Nat.le_of_ble_eq_true rfl) (Nat.le_of_ble_eq_true rfl) (s_isIn_f x (-99) 99 (in_bad hx)) ?_
  refine j_if_ne_f (tgt := 44) dX4_rain_35 (by decide) (by decide) ?_
  refine j_aload_n dX4_rain_38 rfl ?_
  refine j_iconst (v := 2) dX4_rain_39 (by decide) ?_
  refine j_cV (As := [.int 2]) (rest := []) cm_X4_no ci_X4_no cs_X4_no rfl ln_X4_84 (ci := 4) rfl dX4_rain_40 (d' := 0) (by decide) (by omega) up_eq rfl rfl (Nat.le_of_ble_eq_true rfl) (Nat.le_of_ble_eq_true rfl) (s_X4_no (MR.setO D ⟨by omega, by omega, by omega, by omega, by omega, by omega, by omega⟩) 2) ?_
  refine j_E up_up ?_
  exact j_iret dX4_rain_43 rfl (h _ ⟨(MR.setO D ⟨by omega, by omega, by omega, by omega, by omega, by omega, by omega⟩), (fun k hk => ((up_ne (by omega)).trans rfl))⟩)
set_option maxRecDepth 100000 in
set_option maxHeartbeats 4000000 in
theorem s_X4_splash_ok {g : jG} {n : Nat} {ad : Nat → Nat} {E : Nat → va_E} {th : Int32} {F S : Nat} {hrs su : Int32} {gone : Int64} {lv ed : Nat → Int32} {first cnt : Nat} {ah : Nat → Int32} {mc : Nat} {mk : Nat → Int32} (D : MR g n ad E th F S hrs su gone lv ed first cnt ah mc mk) (fa sa fb sb : Nat) (hfa : fa < F) (hsa : sa < S) (hfb : fb < F) (hsb : sb < S) (h1 : fa ≤ fb) (h2 : sa ≤ sb) (x : Int32) (hx1 : ¬ x < -99) (hx2 : x ≤ 99) : RetP g mX4_splash 3 [.ref (ad 63), .int (nI fa), .int (nI sa), .int (nI fb), .int (nI sb), .int x] n ad E (some (.int (nI ((fb - fa + 1) * (sb - sa + 1))))) (fun E9 => MR g n ad E9 0 F S hrs su gone (splL lv S fa sa fb sb x) ed (kOld first cnt) (kCnt cnt) (va_cpy lv ah 0 (128 * kSlot first cnt) 128) mc mk ∧ ∀ k, (k < 63 ∨ 69 ≤ k) → E9 k = E k) := by
  obtain ⟨m0, m1, m2, m3, m4, ⟨wk, m5⟩, hF, hS, hFp, hSp, hfi, hcn, hmc, hn⟩ := id D
  intro Φ Ψ h
  show J g mX4_splash 3 0 0 0 [some (.ref (ad 63)), some (.int (nI fa)), some (.int (nI sa)), some (.int (nI fb)), some (.int (nI sb)), some (.int x), none, none] [] n ad E Φ Ψ
  refine j_aload_n dX4_splash_0 rfl ?_
  refine j_aload_n dX4_splash_1 rfl ?_
  refine j_iload_n dX4_splash_2 rfl ?_
  refine j_iload_n dX4_splash_3 rfl ?_
  refine j_iload_n dX4_splash_4 rfl ?_
  refine j_iload dX4_splash_5 rfl ?_
  refine j_cV (As := [.int (nI fa), .int (nI sa), .int (nI fb), .int (nI sb)]) (rest := [.ref (ad 63)]) cm_X4_part ci_X4_part cs_X4_part rfl ln_X4_91 (ci := 4) rfl dX4_splash_7 (d' := 2) (by decide) (by omega) m0 rfl rfl (Nat.le_of_ble_eq_true rfl) (Nat.le_of_ble_eq_true rfl) (s_part_ok D fa sa fb sb hfa hsa hfb hsb h1 h2) ?_
  refine j_put fl_X4_38 fp_X4 dX4_splash_10 (by omega) m0 (Or.inl rfl) rfl rfl (Nat.le_of_ble_eq_true rfl) ?_
  refine j_aload_n dX4_splash_13 rfl ?_
  refine j_get fl_X4_38 dX4_splash_14 (by omega) up_eq rfl ?_
  refine j_if_le_t (tgt := 22) dX4_splash_17 (by decide) (by decide) ?_
  refine j_iload dX4_splash_22 rfl ?_
  refine j_bipush (v := (-99)) dX4_splash_24 (by decide) ?_
  refine j_bipush (v := 99) dX4_splash_26 (by decide) ?_
  refine j_cS (As := [.int x, .int (-99), .int 99]) (rest := []) cm_X4_isIn ct_X4_isIn ln_X4_41 dX4_splash_28 (d' := 0) (by decide) rfl rfl (Nat.le_of_ble_eq_true rfl) (Nat.le_of_ble_eq_true rfl) (s_isIn_t x (-99) 99 hx1 (nlt_le hx2)) ?_
  refine j_if_ne_t (tgt := 40) dX4_splash_31 (by decide) (by decide) ?_
  refine j_aload_n dX4_splash_40 rfl ?_
  refine j_cVp (As := []) (rest := []) cm_X4_keep ci_X4_keep cs_X4_keep rfl ln_X4_88 (ci := 4) rfl dX4_splash_41 (d' := 2) (by decide) (by omega) up_eq rfl rfl (Nat.le_of_ble_eq_true rfl) (Nat.le_of_ble_eq_true rfl) (s_X4_keep (MR.setO D ⟨by omega, by omega, by omega, by omega, by omega, by omega, by omega⟩)) (fun E1 q1 => ?_)
  have D1 := q1.1
  have q1 : MR g n ad E1 0 F S hrs su gone lv ed (kOld first cnt) (kCnt cnt) (va_cpy lv ah 0 (128 * kSlot first cnt) 128) mc mk ∧ ∀ k, (k < 63 ∨ 69 ≤ k) → E1 k = E k := ⟨q1.1, fun k hk => (q1.2 k hk).trans ((fun k hk => ((up_ne (by omega)).trans rfl)) k hk)⟩
  obtain ⟨m01, m11, m21, m31, m41, ⟨wk1, m51⟩, hF1, hS1, hFp1, hSp1, hfi1, hcn1, hmc1, hn1⟩ := id D1
  show J g mX4_splash 3 0 0 44 [some (.ref (ad 63)), some (.int (nI fa)), some (.int (nI sa)), some (.int (nI fb)), some (.int (nI sb)), some (.int x), none, none] [] n ad E1 Φ Ψ
  refine j_iload_n dX4_splash_44 rfl ?_
  refine j_istore (L' := [some (.ref (ad 63)), some (.int (nI fa)), some (.int (nI sa)), some (.int (nI fb)), some (.int (nI sb)), some (.int x), some (.int (nI fa)), none]) dX4_splash_45 (by decide) rfl rfl ?_
  refine j_E (E' := va_up E1 65 (aI g 128 lv)) (up_self m21).symm ?_
  refine lpf_ind (b := fun f y => lpf (fun s y => upd y (f * S + s) (y (f * S + s) + x)) sa (sb + 1 - sa) y) (P := fun (f : Nat) (y : Nat → Int32) => J g mX4_splash 3 0 0 47 [some (.ref (ad 63)), some (.int (nI fa)), some (.int (nI sa)), some (.int (nI fb)), some (.int (nI sb)), some (.int x), some (.int (nI f)), none] [] n ad (va_up E1 65 (aI g 128 y)) Φ Ψ) (N := fa + (fb + 1 - fa)) fa ?_ (fb + 1 - fa) lv (by omega) ?_
  · intro f y hf0 hf ih
    show J g mX4_splash 3 0 0 47 [some (.ref (ad 63)), some (.int (nI fa)), some (.int (nI sa)), some (.int (nI fb)), some (.int (nI sb)), some (.int x), some (.int (nI f)), none] [] n ad (va_up E1 65 (aI g 128 y)) Φ Ψ
    have ih0 := ih
    clear ih
    refine j_iload dX4_splash_47 rfl ?_
    refine j_iload_n dX4_splash_49 rfl ?_
    refine j_icmp_gt_f (tgt := 95) dX4_splash_50 (by decide) (nI_nlt' (by omega) (by omega) (by omega)) ?_
    refine j_iload_n dX4_splash_53 rfl ?_
    refine j_istore (L' := [some (.ref (ad 63)), some (.int (nI fa)), some (.int (nI sa)), some (.int (nI fb)), some (.int (nI sb)), some (.int x), some (.int (nI f)), some (.int (nI sa))]) dX4_splash_54 (by decide) rfl rfl ?_
    refine lpf_ind (b := fun s y => upd y (f * S + s) (y (f * S + s) + x)) (P := fun (s : Nat) (y : Nat → Int32) => J g mX4_splash 3 0 0 56 [some (.ref (ad 63)), some (.int (nI fa)), some (.int (nI sa)), some (.int (nI fb)), some (.int (nI sb)), some (.int x), some (.int (nI f)), some (.int (nI s))] [] n ad (va_up E1 65 (aI g 128 y)) Φ Ψ) (N := sa + (sb + 1 - sa)) sa ?_ (sb + 1 - sa) y (by omega) ?_
    · intro s y hs0 hs ih
      show J g mX4_splash 3 0 0 56 [some (.ref (ad 63)), some (.int (nI fa)), some (.int (nI sa)), some (.int (nI fb)), some (.int (nI sb)), some (.int x), some (.int (nI f)), some (.int (nI s))] [] n ad (va_up E1 65 (aI g 128 y)) Φ Ψ
      have hix := ix128 hF hS (show f < F by omega) (show s < S by omega)
      refine j_iload dX4_splash_56 rfl ?_
      refine j_iload dX4_splash_58 rfl ?_
      refine j_icmp_gt_f (tgt := 89) dX4_splash_60 (by decide) (nI_nlt' (by omega) (by omega) (by omega)) ?_
      refine j_aload_n dX4_splash_63 rfl ?_
      refine j_get fl_X4_23 dX4_splash_64 (by omega) ((up_ne (by decide)).trans m01) rfl ?_
      refine j_iload dX4_splash_67 rfl ?_
      refine j_aload_n dX4_splash_69 rfl ?_
      refine j_get fl_X4_13 dX4_splash_70 (by omega) ((up_ne (by decide)).trans m01) rfl ?_
      refine j_imul dX4_splash_73 ?_
      refine j_topi (y := nI (f * S)) (pk_mul _ _) ?_
      refine j_iload dX4_splash_74 rfl ?_
      refine j_iadd dX4_splash_76 ?_
      refine j_topi (y := nI ((f * S) + s)) (nI_add _ _) ?_
      refine j_dup2 dX4_splash_77 rfl rfl ?_
      refine j_iald dX4_splash_78 (by omega) up_eq (by decide) (by omega) rfl ?_
      refine j_iload dX4_splash_79 rfl ?_
      refine j_iadd dX4_splash_81 ?_
      refine j_iast (j := (f * S) + s) dX4_splash_82 (by omega) up_eq (by decide) (by omega) ?_
      refine j_E up_up ?_
      refine j_iinc (v := nI (s + 1)) (L' := [some (.ref (ad 63)), some (.int (nI fa)), some (.int (nI sa)), some (.int (nI fb)), some (.int (nI sb)), some (.int x), some (.int (nI f)), some (.int (nI (s + 1)))]) dX4_splash_83 (by decide) rfl (nI_1 _) rfl rfl ?_
      refine j_goto (tgt := 56) dX4_splash_86 (by decide) ?_
      exact ih _ rfl
    · skip
      show J g mX4_splash 3 0 0 56 [some (.ref (ad 63)), some (.int (nI fa)), some (.int (nI sa)), some (.int (nI fb)), some (.int (nI sb)), some (.int x), some (.int (nI f)), some (.int (nI (sa + (sb + 1 - sa))))] [] n ad (va_up E1 65 (aI g 128 (lpf (fun s y => upd y (f * S + s) (y (f * S + s) + x)) sa (sb + 1 - sa) y))) Φ Ψ
      refine j_iload dX4_splash_56 rfl ?_
      refine j_iload dX4_splash_58 rfl ?_
      refine j_icmp_gt_t (tgt := 89) dX4_splash_60 (by decide) (nI_lt' (by omega) (by omega) (by omega)) ?_
      refine j_iinc (v := nI (f + 1)) (L' := [some (.ref (ad 63)), some (.int (nI fa)), some (.int (nI sa)), some (.int (nI fb)), some (.int (nI sb)), some (.int x), some (.int (nI (f + 1))), some (.int (nI (sa + (sb + 1 - sa))))]) dX4_splash_89 (by decide) rfl (nI_1 _) rfl rfl ?_
      refine j_goto (tgt := 47) dX4_splash_92 (by decide) ?_
      refine j_clr 7 ?_
      exact ih0 _ rfl
  · skip
    show J g mX4_splash 3 0 0 47 [some (.ref (ad 63)), some (.int (nI fa)), some (.int (nI sa)), some (.int (nI fb)), some (.int (nI sb)), some (.int x), some (.int (nI (fa + (fb + 1 - fa)))), none] [] n ad (va_up E1 65 (aI g 128 (splL lv S fa sa fb sb x))) Φ Ψ
    refine j_iload dX4_splash_47 rfl ?_
    refine j_iload_n dX4_splash_49 rfl ?_
    refine j_icmp_gt_t (tgt := 95) dX4_splash_50 (by decide) (nI_lt' (by omega) (by omega) (by omega)) ?_
    refine j_iload_n dX4_splash_95 rfl ?_
    refine j_iload_n dX4_splash_96 rfl ?_
    refine j_isub dX4_splash_97 ?_
    refine j_topi (y := nI (fb - fa)) (pk_sub (by omega)) ?_
    refine j_iconst (v := nI 1) dX4_splash_98 (by decide) ?_
    refine j_iadd dX4_splash_99 ?_
    refine j_topi (y := nI ((fb - fa) + 1)) (nI_add _ _) ?_
    refine j_iload dX4_splash_100 rfl ?_
    refine j_iload_n dX4_splash_102 rfl ?_
    refine j_isub dX4_splash_103 ?_
    refine j_topi (y := nI (sb - sa)) (pk_sub (by omega)) ?_
    refine j_iconst (v := nI 1) dX4_splash_104 (by decide) ?_
    refine j_iadd dX4_splash_105 ?_
    refine j_topi (y := nI ((sb - sa) + 1)) (nI_add _ _) ?_
    refine j_imul dX4_splash_106 ?_
    refine j_topi (y := nI (((fb - fa) + 1) * ((sb - sa) + 1))) (pk_mul _ _) ?_
    exact j_iret dX4_splash_107 rfl (h _ ⟨(MR.setLv D1), (fun k hk => ((up_ne (by omega)).trans (q1.2 k hk)))⟩)
set_option maxRecDepth 100000 in
set_option maxHeartbeats 4000000 in
theorem s_X4_splash_bad {g : jG} {n : Nat} {ad : Nat → Nat} {E : Nat → va_E} {th : Int32} {F S : Nat} {hrs su : Int32} {gone : Int64} {lv ed : Nat → Int32} {first cnt : Nat} {ah : Nat → Int32} {mc : Nat} {mk : Nat → Int32} (D : MR g n ad E th F S hrs su gone lv ed first cnt ah mc mk) (x1 x2 x3 x4 z : Int32) (hx : oob x1 F ∨ oob x2 S ∨ oob x3 F ∨ oob x4 S) : RetP g mX4_splash 3 [.ref (ad 63), .int x1, .int x2, .int x3, .int x4, .int z] n ad E (some (.int 0)) (fun E9 => MR g n ad E9 1 F S hrs su gone lv ed first cnt ah mc mk ∧ ∀ k, (k < 63 ∨ 69 ≤ k) → E9 k = E k) := by
  obtain ⟨m0, m1, m2, m3, m4, ⟨wk, m5⟩, hF, hS, hFp, hSp, hfi, hcn, hmc, hn⟩ := id D
  intro Φ Ψ h
  show J g mX4_splash 3 0 0 0 [some (.ref (ad 63)), some (.int x1), some (.int x2), some (.int x3), some (.int x4), some (.int z), none, none] [] n ad E Φ Ψ
  refine j_aload_n dX4_splash_0 rfl ?_
  refine j_aload_n dX4_splash_1 rfl ?_
  refine j_iload_n dX4_splash_2 rfl ?_
  refine j_iload_n dX4_splash_3 rfl ?_
  refine j_iload_n dX4_splash_4 rfl ?_
  refine j_iload dX4_splash_5 rfl ?_
  refine j_cV (As := [.int x1, .int x2, .int x3, .int x4]) (rest := [.ref (ad 63)]) cm_X4_part ci_X4_part cs_X4_part rfl ln_X4_91 (ci := 4) rfl dX4_splash_7 (d' := 2) (by decide) (by omega) m0 rfl rfl (Nat.le_of_ble_eq_true rfl) (Nat.le_of_ble_eq_true rfl) (s_part_bad D x1 x2 x3 x4 hx) ?_
  refine j_put fl_X4_38 fp_X4 dX4_splash_10 (by omega) m0 (Or.inl rfl) rfl rfl (Nat.le_of_ble_eq_true rfl) ?_
  refine j_aload_n dX4_splash_13 rfl ?_
  refine j_get fl_X4_38 dX4_splash_14 (by omega) up_eq rfl ?_
  refine j_if_le_f (tgt := 22) dX4_splash_17 (by decide) (by decide) ?_
  refine j_iconst (v := 0) dX4_splash_20 (by decide) ?_
  exact j_iret dX4_splash_21 rfl (h _ ⟨(MR.setO D ⟨by omega, by omega, by omega, by omega, by omega, by omega, by omega⟩), (fun k hk => ((up_ne (by omega)).trans rfl))⟩)
set_option maxRecDepth 100000 in
set_option maxHeartbeats 4000000 in
theorem s_X4_splash_iae {g : jG} {n : Nat} {ad : Nat → Nat} {E : Nat → va_E} {th : Int32} {F S : Nat} {hrs su : Int32} {gone : Int64} {lv ed : Nat → Int32} {first cnt : Nat} {ah : Nat → Int32} {mc : Nat} {mk : Nat → Int32} (D : MR g n ad E th F S hrs su gone lv ed first cnt ah mc mk) (fa sa fb sb : Nat) (hfa : fa < F) (hsa : sa < S) (hfb : fb < F) (hsb : sb < S) (z : Int32) (hx : fb < fa ∨ sb < sa) : RetP g mX4_splash 3 [.ref (ad 63), .int (nI fa), .int (nI sa), .int (nI fb), .int (nI sb), .int z] n ad E (some (.int 0)) (fun E9 => MR g n ad E9 2 F S hrs su gone lv ed first cnt ah mc mk ∧ ∀ k, (k < 63 ∨ 69 ≤ k) → E9 k = E k) := by
  obtain ⟨m0, m1, m2, m3, m4, ⟨wk, m5⟩, hF, hS, hFp, hSp, hfi, hcn, hmc, hn⟩ := id D
  intro Φ Ψ h
  show J g mX4_splash 3 0 0 0 [some (.ref (ad 63)), some (.int (nI fa)), some (.int (nI sa)), some (.int (nI fb)), some (.int (nI sb)), some (.int z), none, none] [] n ad E Φ Ψ
  refine j_aload_n dX4_splash_0 rfl ?_
  refine j_aload_n dX4_splash_1 rfl ?_
  refine j_iload_n dX4_splash_2 rfl ?_
  refine j_iload_n dX4_splash_3 rfl ?_
  refine j_iload_n dX4_splash_4 rfl ?_
  refine j_iload dX4_splash_5 rfl ?_
  refine j_cV (As := [.int (nI fa), .int (nI sa), .int (nI fb), .int (nI sb)]) (rest := [.ref (ad 63)]) cm_X4_part ci_X4_part cs_X4_part rfl ln_X4_91 (ci := 4) rfl dX4_splash_7 (d' := 2) (by decide) (by omega) m0 rfl rfl (Nat.le_of_ble_eq_true rfl) (Nat.le_of_ble_eq_true rfl) (s_part_iae D fa sa fb sb hfa hsa hfb hsb hx) ?_
  refine j_put fl_X4_38 fp_X4 dX4_splash_10 (by omega) m0 (Or.inl rfl) rfl rfl (Nat.le_of_ble_eq_true rfl) ?_
  refine j_aload_n dX4_splash_13 rfl ?_
  refine j_get fl_X4_38 dX4_splash_14 (by omega) up_eq rfl ?_
  refine j_if_le_f (tgt := 22) dX4_splash_17 (by decide) (by decide) ?_
  refine j_iconst (v := 0) dX4_splash_20 (by decide) ?_
  exact j_iret dX4_splash_21 rfl (h _ ⟨(MR.setO D ⟨by omega, by omega, by omega, by omega, by omega, by omega, by omega⟩), (fun k hk => ((up_ne (by omega)).trans rfl))⟩)
set_option maxRecDepth 100000 in
set_option maxHeartbeats 4000000 in
theorem s_X4_splash_num {g : jG} {n : Nat} {ad : Nat → Nat} {E : Nat → va_E} {th : Int32} {F S : Nat} {hrs su : Int32} {gone : Int64} {lv ed : Nat → Int32} {first cnt : Nat} {ah : Nat → Int32} {mc : Nat} {mk : Nat → Int32} (D : MR g n ad E th F S hrs su gone lv ed first cnt ah mc mk) (fa sa fb sb : Nat) (hfa : fa < F) (hsa : sa < S) (hfb : fb < F) (hsb : sb < S) (h1 : fa ≤ fb) (h2 : sa ≤ sb) (x : Int32) (hx : x < -99 ∨ ¬ x ≤ 99) : RetP g mX4_splash 3 [.ref (ad 63), .int (nI fa), .int (nI sa), .int (nI fb), .int (nI sb), .int x] n ad E (some (.int 0)) (fun E9 => MR g n ad E9 2 F S hrs su gone lv ed first cnt ah mc mk ∧ ∀ k, (k < 63 ∨ 69 ≤ k) → E9 k = E k) := by
  obtain ⟨m0, m1, m2, m3, m4, ⟨wk, m5⟩, hF, hS, hFp, hSp, hfi, hcn, hmc, hn⟩ := id D
  intro Φ Ψ h
  show J g mX4_splash 3 0 0 0 [some (.ref (ad 63)), some (.int (nI fa)), some (.int (nI sa)), some (.int (nI fb)), some (.int (nI sb)), some (.int x), none, none] [] n ad E Φ Ψ
  refine j_aload_n dX4_splash_0 rfl ?_
  refine j_aload_n dX4_splash_1 rfl ?_
  refine j_iload_n dX4_splash_2 rfl ?_
  refine j_iload_n dX4_splash_3 rfl ?_
  refine j_iload_n dX4_splash_4 rfl ?_
  refine j_iload dX4_splash_5 rfl ?_
  refine j_cV (As := [.int (nI fa), .int (nI sa), .int (nI fb), .int (nI sb)]) (rest := [.ref (ad 63)]) cm_X4_part ci_X4_part cs_X4_part rfl ln_X4_91 (ci := 4) rfl dX4_splash_7 (d' := 2) (by decide) (by omega) m0 rfl rfl (Nat.le_of_ble_eq_true rfl) (Nat.le_of_ble_eq_true rfl) (s_part_ok D fa sa fb sb hfa hsa hfb hsb h1 h2) ?_
  refine j_put fl_X4_38 fp_X4 dX4_splash_10 (by omega) m0 (Or.inl rfl) rfl rfl (Nat.le_of_ble_eq_true rfl) ?_
  refine j_aload_n dX4_splash_13 rfl ?_
  refine j_get fl_X4_38 dX4_splash_14 (by omega) up_eq rfl ?_
  refine j_if_le_t (tgt := 22) dX4_splash_17 (by decide) (by decide) ?_
  refine j_iload dX4_splash_22 rfl ?_
  refine j_bipush (v := (-99)) dX4_splash_24 (by decide) ?_
  refine j_bipush (v := 99) dX4_splash_26 (by decide) ?_
  refine j_cS (As := [.int x, .int (-99), .int 99]) (rest := []) cm_X4_isIn ct_X4_isIn ln_X4_41 dX4_splash_28 (d' := 0) (by decide) rfl rfl (Nat.le_of_ble_eq_true rfl) (Nat.le_of_ble_eq_true rfl) (s_isIn_f x (-99) 99 (in_bad hx)) ?_
  refine j_if_ne_f (tgt := 40) dX4_splash_31 (by decide) (by decide) ?_
  refine j_aload_n dX4_splash_34 rfl ?_
  refine j_iconst (v := 2) dX4_splash_35 (by decide) ?_
  refine j_cV (As := [.int 2]) (rest := []) cm_X4_no ci_X4_no cs_X4_no rfl ln_X4_84 (ci := 4) rfl dX4_splash_36 (d' := 0) (by decide) (by omega) up_eq rfl rfl (Nat.le_of_ble_eq_true rfl) (Nat.le_of_ble_eq_true rfl) (s_X4_no (MR.setO D ⟨by omega, by omega, by omega, by omega, by omega, by omega, by omega⟩) 2) ?_
  refine j_E up_up ?_
  exact j_iret dX4_splash_39 rfl (h _ ⟨(MR.setO D ⟨by omega, by omega, by omega, by omega, by omega, by omega, by omega⟩), (fun k hk => ((up_ne (by omega)).trans rfl))⟩)
set_option maxRecDepth 100000 in
set_option maxHeartbeats 4000000 in
theorem s_X4_change {g : jG} {n : Nat} {ad : Nat → Nat} {E : Nat → va_E} {th : Int32} {F S : Nat} {hrs su : Int32} {gone : Int64} {lv ed : Nat → Int32} {first cnt : Nat} {ah : Nat → Int32} {mc : Nat} {mk : Nat → Int32} (D : MR g n ad E th F S hrs su gone lv ed first cnt ah mc mk) (a b : Nat) (ha : a < F) (hb : b < F) : Ret g mX4_change 0 [.ref (ad 63), .int (nI a), .int (nI b)] n ad E (some (.int (nI S - alkC lv S a b))) (va_up E 65 (aI g 128 (swpL lv S a b))) := by
  obtain ⟨m0, m1, m2, m3, m4, ⟨wk, m5⟩, hF, hS, hFp, hSp, hfi, hcn, hmc, hn⟩ := id D
  intro Φ Ψ h
  show J g mX4_change 0 0 0 0 [some (.ref (ad 63)), some (.int (nI a)), some (.int (nI b)), none, none, none, none] [] n ad E Φ Ψ
  rw [show nI S - alkC lv S a b = (chM lv S a b).1 by rw [chM_eq], show swpL lv S a b = (chM lv S a b).2 by rw [chM_eq]] at h
  refine j_iconst (v := 0) dX4_change_0 (by decide) ?_
  refine j_istore_n (L' := [some (.ref (ad 63)), some (.int (nI a)), some (.int (nI b)), some (.int 0), none, none, none]) dX4_change_1 (by decide) rfl rfl ?_
  refine j_iconst (v := nI 0) dX4_change_2 (by decide) ?_
  refine j_istore (L' := [some (.ref (ad 63)), some (.int (nI a)), some (.int (nI b)), some (.int 0), some (.int (nI 0)), none, none]) dX4_change_3 (by decide) rfl rfl ?_
  refine j_E (E' := va_up E 65 (aI g 128 lv)) (up_self m2).symm ?_
  refine lpf_ind (b := chB S a b) (P := fun (s : Nat) (y : Int32 × (Nat → Int32)) => J g mX4_change 0 0 0 5 [some (.ref (ad 63)), some (.int (nI a)), some (.int (nI b)), some (.int y.1), some (.int (nI s)), none, none] [] n ad (va_up E 65 (aI g 128 y.2)) Φ Ψ) (N := S) 0 ?_ S ((0, lv) : Int32 × (Nat → Int32)) (by omega) ?_
  · intro s y hs0 hs ih
    obtain ⟨c1, f1⟩ := y
    show J g mX4_change 0 0 0 5 [some (.ref (ad 63)), some (.int (nI a)), some (.int (nI b)), some (.int c1), some (.int (nI s)), none, none] [] n ad (va_up E 65 (aI g 128 f1)) Φ Ψ
    have hix := ix128 hF hS ha hs
    have hiy := ix128 hF hS hb hs
    refine j_iload dX4_change_5 rfl ?_
    refine j_aload_n dX4_change_7 rfl ?_
    refine j_get fl_X4_13 dX4_change_8 (by omega) ((up_ne (by decide)).trans m0) rfl ?_
    refine j_icmp_ge_f (tgt := 99) dX4_change_11 (by decide) (nI_nle' (by omega) (by omega) (by omega)) ?_
    refine j_aload_n dX4_change_14 rfl ?_
    refine j_get fl_X4_23 dX4_change_15 (by omega) ((up_ne (by decide)).trans m0) rfl ?_
    refine j_iload_n dX4_change_18 rfl ?_
    refine j_aload_n dX4_change_19 rfl ?_
    refine j_get fl_X4_13 dX4_change_20 (by omega) ((up_ne (by decide)).trans m0) rfl ?_
    refine j_imul dX4_change_23 ?_
    refine j_topi (y := nI (a * S)) (pk_mul _ _) ?_
    refine j_iload dX4_change_24 rfl ?_
    refine j_iadd dX4_change_26 ?_
    refine j_topi (y := nI ((a * S) + s)) (nI_add _ _) ?_
    refine j_iald dX4_change_27 (by omega) up_eq (by decide) (by omega) rfl ?_
    refine j_istore (L' := [some (.ref (ad 63)), some (.int (nI a)), some (.int (nI b)), some (.int c1), some (.int (nI s)), some (.int (f1 ((a * S) + s))), none]) dX4_change_28 (by decide) rfl rfl ?_
    refine j_aload_n dX4_change_30 rfl ?_
    refine j_get fl_X4_23 dX4_change_31 (by omega) ((up_ne (by decide)).trans m0) rfl ?_
    refine j_iload_n dX4_change_34 rfl ?_
    refine j_aload_n dX4_change_35 rfl ?_
    refine j_get fl_X4_13 dX4_change_36 (by omega) ((up_ne (by decide)).trans m0) rfl ?_
    refine j_imul dX4_change_39 ?_
    refine j_topi (y := nI (b * S)) (pk_mul _ _) ?_
    refine j_iload dX4_change_40 rfl ?_
    refine j_iadd dX4_change_42 ?_
    refine j_topi (y := nI ((b * S) + s)) (nI_add _ _) ?_
    refine j_iald dX4_change_43 (by omega) up_eq (by decide) (by omega) rfl ?_
    refine j_istore (L' := [some (.ref (ad 63)), some (.int (nI a)), some (.int (nI b)), some (.int c1), some (.int (nI s)), some (.int (f1 ((a * S) + s))), some (.int (f1 ((b * S) + s)))]) dX4_change_44 (by decide) rfl rfl ?_
    refine j_aload_n dX4_change_46 rfl ?_
    refine j_get fl_X4_23 dX4_change_47 (by omega) ((up_ne (by decide)).trans m0) rfl ?_
    refine j_iload_n dX4_change_50 rfl ?_
    refine j_aload_n dX4_change_51 rfl ?_
    refine j_get fl_X4_13 dX4_change_52 (by omega) ((up_ne (by decide)).trans m0) rfl ?_
    refine j_imul dX4_change_55 ?_
    refine j_topi (y := nI (a * S)) (pk_mul _ _) ?_
    refine j_iload dX4_change_56 rfl ?_
    refine j_iadd dX4_change_58 ?_
    refine j_topi (y := nI ((a * S) + s)) (nI_add _ _) ?_
    refine j_iload dX4_change_59 rfl ?_
    refine j_iast (j := (a * S) + s) dX4_change_61 (by omega) up_eq (by decide) (by omega) ?_
    refine j_E up_up ?_
    refine j_aload_n dX4_change_62 rfl ?_
    refine j_get fl_X4_23 dX4_change_63 (by omega) ((up_ne (by decide)).trans m0) rfl ?_
    refine j_iload_n dX4_change_66 rfl ?_
    refine j_aload_n dX4_change_67 rfl ?_
    refine j_get fl_X4_13 dX4_change_68 (by omega) ((up_ne (by decide)).trans m0) rfl ?_
    refine j_imul dX4_change_71 ?_
    refine j_topi (y := nI (b * S)) (pk_mul _ _) ?_
    refine j_iload dX4_change_72 rfl ?_
    refine j_iadd dX4_change_74 ?_
    refine j_topi (y := nI ((b * S) + s)) (nI_add _ _) ?_
    refine j_iload dX4_change_75 rfl ?_
    refine j_iast (j := (b * S) + s) dX4_change_77 (by omega) up_eq (by decide) (by omega) ?_
    refine j_E up_up ?_
    refine j_iload_n dX4_change_78 rfl ?_
    refine j_iload dX4_change_79 rfl ?_
    refine j_iload dX4_change_81 rfl ?_
    refine j_icmp_ne (tgt := 90) dX4_change_83 (by decide) (fun hq => ?_) (fun hq => ?_)
    · skip
      refine j_iconst (v := 1) dX4_change_90 (by decide) ?_
      refine j_iadd dX4_change_91 ?_
      refine j_istore_n (L' := [some (.ref (ad 63)), some (.int (nI a)), some (.int (nI b)), some (.int (c1 + 1)), some (.int (nI s)), some (.int (f1 ((a * S) + s))), some (.int (f1 ((b * S) + s)))]) dX4_change_92 (by decide) rfl rfl ?_
      refine j_iinc (v := nI (s + 1)) (L' := [some (.ref (ad 63)), some (.int (nI a)), some (.int (nI b)), some (.int (c1 + 1)), some (.int (nI (s + 1))), some (.int (f1 ((a * S) + s))), some (.int (f1 ((b * S) + s)))]) dX4_change_93 (by decide) rfl (nI_1 _) rfl rfl ?_
      refine j_goto (tgt := 5) dX4_change_96 (by decide) ?_
      refine j_clr 5 ?_
      refine j_clr 6 ?_
      exact ih (c1 + 1, upd (upd f1 ((a * S) + s) (f1 ((b * S) + s))) ((b * S) + s) (f1 ((a * S) + s))) (Prod.ext (by first | exact (if_neg hq).symm | exact (Int32.add_zero _).trans (if_pos hq).symm) rfl)
    · skip
      refine j_iconst (v := 0) dX4_change_86 (by decide) ?_
      refine j_goto (tgt := 91) dX4_change_87 (by decide) ?_
      refine j_iadd dX4_change_91 ?_
      refine j_istore_n (L' := [some (.ref (ad 63)), some (.int (nI a)), some (.int (nI b)), some (.int (c1 + 0)), some (.int (nI s)), some (.int (f1 ((a * S) + s))), some (.int (f1 ((b * S) + s)))]) dX4_change_92 (by decide) rfl rfl ?_
      refine j_iinc (v := nI (s + 1)) (L' := [some (.ref (ad 63)), some (.int (nI a)), some (.int (nI b)), some (.int (c1 + 0)), some (.int (nI (s + 1))), some (.int (f1 ((a * S) + s))), some (.int (f1 ((b * S) + s)))]) dX4_change_93 (by decide) rfl (nI_1 _) rfl rfl ?_
      refine j_goto (tgt := 5) dX4_change_96 (by decide) ?_
      refine j_clr 5 ?_
      refine j_clr 6 ?_
      exact ih (c1 + 0, upd (upd f1 ((a * S) + s) (f1 ((b * S) + s))) ((b * S) + s) (f1 ((a * S) + s))) (Prod.ext (by first | exact (if_neg hq).symm | exact (Int32.add_zero _).trans (if_pos hq).symm) rfl)
  · skip
    show J g mX4_change 0 0 0 5 [some (.ref (ad 63)), some (.int (nI a)), some (.int (nI b)), some (.int ((chM lv S a b).1)), some (.int (nI S)), none, none] [] n ad (va_up E 65 (aI g 128 ((chM lv S a b).2))) Φ Ψ
    refine j_iload dX4_change_5 rfl ?_
    refine j_aload_n dX4_change_7 rfl ?_
    refine j_get fl_X4_13 dX4_change_8 (by omega) ((up_ne (by decide)).trans m0) rfl ?_
    refine j_icmp_ge_t (tgt := 99) dX4_change_11 (by decide) (nI_le' (by omega) (by omega) (by omega)) ?_
    refine j_iload_n dX4_change_99 rfl ?_
    exact j_iret dX4_change_100 rfl h
set_option maxRecDepth 100000 in
set_option maxHeartbeats 4000000 in
theorem s_X4_swap_ok {g : jG} {n : Nat} {ad : Nat → Nat} {E : Nat → va_E} {th : Int32} {F S : Nat} {hrs su : Int32} {gone : Int64} {lv ed : Nat → Int32} {first cnt : Nat} {ah : Nat → Int32} {mc : Nat} {mk : Nat → Int32} (D : MR g n ad E th F S hrs su gone lv ed first cnt ah mc mk) (a b : Nat) (ha : a < F) (hb : b < F) : RetP g mX4_swap 3 [.ref (ad 63), .int (nI a), .int (nI b)] n ad E (some (.int (nI S - alkC lv S a b))) (fun E9 => MR g n ad E9 0 F S hrs su gone (swpL lv S a b) ed (kOld first cnt) (kCnt cnt) (va_cpy lv ah 0 (128 * kSlot first cnt) 128) mc mk ∧ ∀ k, (k < 63 ∨ 69 ≤ k) → E9 k = E k) := by
  obtain ⟨m0, m1, m2, m3, m4, ⟨wk, m5⟩, hF, hS, hFp, hSp, hfi, hcn, hmc, hn⟩ := id D
  intro Φ Ψ h
  show J g mX4_swap 3 0 0 0 [some (.ref (ad 63)), some (.int (nI a)), some (.int (nI b))] [] n ad E Φ Ψ
  refine j_aload_n dX4_swap_0 rfl ?_
  refine j_iconst (v := 0) dX4_swap_1 (by decide) ?_
  refine j_put fl_X4_38 fp_X4 dX4_swap_2 (by omega) m0 (Or.inl rfl) rfl rfl (Nat.le_of_ble_eq_true rfl) ?_
  refine j_aload_n dX4_swap_5 rfl ?_
  refine j_iload_n dX4_swap_6 rfl ?_
  refine j_cV (As := [.int (nI a)]) (rest := []) cm_X4_isFlight ci_X4_isFlight cs_X4_isFlight rfl ln_X4_48 (ci := 4) rfl dX4_swap_7 (d' := 1) (by decide) (by omega) up_eq rfl rfl (Nat.le_of_ble_eq_true rfl) (Nat.le_of_ble_eq_true rfl) (s_isFlight_t (MR.setO D ⟨by omega, by omega, by omega, by omega, by omega, by omega, by omega⟩) a ha) ?_
  refine j_if_eq_f (tgt := 21) dX4_swap_10 (by decide) (by decide) ?_
  refine j_aload_n dX4_swap_13 rfl ?_
  refine j_iload_n dX4_swap_14 rfl ?_
  refine j_cV (As := [.int (nI b)]) (rest := []) cm_X4_isFlight ci_X4_isFlight cs_X4_isFlight rfl ln_X4_48 (ci := 4) rfl dX4_swap_15 (d' := 1) (by decide) (by omega) up_eq rfl rfl (Nat.le_of_ble_eq_true rfl) (Nat.le_of_ble_eq_true rfl) (s_isFlight_t (MR.setO D ⟨by omega, by omega, by omega, by omega, by omega, by omega, by omega⟩) b hb) ?_
  refine j_if_ne_t (tgt := 27) dX4_swap_18 (by decide) (by decide) ?_
  refine j_aload_n dX4_swap_27 rfl ?_
  refine j_cVp (As := []) (rest := []) cm_X4_keep ci_X4_keep cs_X4_keep rfl ln_X4_88 (ci := 4) rfl dX4_swap_28 (d' := 2) (by decide) (by omega) up_eq rfl rfl (Nat.le_of_ble_eq_true rfl) (Nat.le_of_ble_eq_true rfl) (s_X4_keep (MR.setO D ⟨by omega, by omega, by omega, by omega, by omega, by omega, by omega⟩)) (fun E1 q1 => ?_)
  have D1 := q1.1
  have q1 : MR g n ad E1 0 F S hrs su gone lv ed (kOld first cnt) (kCnt cnt) (va_cpy lv ah 0 (128 * kSlot first cnt) 128) mc mk ∧ ∀ k, (k < 63 ∨ 69 ≤ k) → E1 k = E k := ⟨q1.1, fun k hk => (q1.2 k hk).trans ((fun k hk => ((up_ne (by omega)).trans rfl)) k hk)⟩
  obtain ⟨m01, m11, m21, m31, m41, ⟨wk1, m51⟩, hF1, hS1, hFp1, hSp1, hfi1, hcn1, hmc1, hn1⟩ := id D1
  show J g mX4_swap 3 0 0 31 [some (.ref (ad 63)), some (.int (nI a)), some (.int (nI b))] [] n ad E1 Φ Ψ
  refine j_aload_n dX4_swap_31 rfl ?_
  refine j_iload_n dX4_swap_32 rfl ?_
  refine j_iload_n dX4_swap_33 rfl ?_
  refine j_cV (As := [.int (nI a), .int (nI b)]) (rest := []) cm_X4_change ci_X4_change cs_X4_change rfl ln_X4_95 (ci := 4) rfl dX4_swap_34 (d' := 0) (by decide) (by omega) m01 rfl rfl (Nat.le_of_ble_eq_true rfl) (Nat.le_of_ble_eq_true rfl) (s_X4_change D1 a b ha hb) ?_
  exact j_iret dX4_swap_37 rfl (h _ ⟨(MR.setLv D1), (fun k hk => ((up_ne (by omega)).trans (q1.2 k hk)))⟩)
set_option maxRecDepth 100000 in
set_option maxHeartbeats 4000000 in
theorem s_X4_swap_bad {g : jG} {n : Nat} {ad : Nat → Nat} {E : Nat → va_E} {th : Int32} {F S : Nat} {hrs su : Int32} {gone : Int64} {lv ed : Nat → Int32} {first cnt : Nat} {ah : Nat → Int32} {mc : Nat} {mk : Nat → Int32} (D : MR g n ad E th F S hrs su gone lv ed first cnt ah mc mk) (x y : Int32) (hx : oob x F ∨ oob y F) : RetP g mX4_swap 3 [.ref (ad 63), .int x, .int y] n ad E (some (.int 0)) (fun E9 => MR g n ad E9 1 F S hrs su gone lv ed first cnt ah mc mk ∧ ∀ k, (k < 63 ∨ 69 ≤ k) → E9 k = E k) := by
  obtain ⟨m0, m1, m2, m3, m4, ⟨wk, m5⟩, hF, hS, hFp, hSp, hfi, hcn, hmc, hn⟩ := id D
  intro Φ Ψ h
  show J g mX4_swap 3 0 0 0 [some (.ref (ad 63)), some (.int x), some (.int y)] [] n ad E Φ Ψ
  rcases oob_or x (show F < 2 ^ 31 by omega) with q | ⟨a, ha, rfl⟩
  · skip
    refine j_aload_n dX4_swap_0 rfl ?_
    refine j_iconst (v := 0) dX4_swap_1 (by decide) ?_
    refine j_put fl_X4_38 fp_X4 dX4_swap_2 (by omega) m0 (Or.inl rfl) rfl rfl (Nat.le_of_ble_eq_true rfl) ?_
    refine j_aload_n dX4_swap_5 rfl ?_
    refine j_iload_n dX4_swap_6 rfl ?_
    refine j_cV (As := [.int x]) (rest := []) cm_X4_isFlight ci_X4_isFlight cs_X4_isFlight rfl ln_X4_48 (ci := 4) rfl dX4_swap_7 (d' := 1) (by decide) (by omega) up_eq rfl rfl (Nat.le_of_ble_eq_true rfl) (Nat.le_of_ble_eq_true rfl) (s_isFlight_f (MR.setO D ⟨by omega, by omega, by omega, by omega, by omega, by omega, by omega⟩) x q) ?_
    refine j_if_eq_t (tgt := 21) dX4_swap_10 (by decide) (by decide) ?_
    refine j_aload_n dX4_swap_21 rfl ?_
    refine j_iconst (v := 1) dX4_swap_22 (by decide) ?_
    refine j_cV (As := [.int 1]) (rest := []) cm_X4_no ci_X4_no cs_X4_no rfl ln_X4_84 (ci := 4) rfl dX4_swap_23 (d' := 0) (by decide) (by omega) up_eq rfl rfl (Nat.le_of_ble_eq_true rfl) (Nat.le_of_ble_eq_true rfl) (s_X4_no (MR.setO D ⟨by omega, by omega, by omega, by omega, by omega, by omega, by omega⟩) 1) ?_
    refine j_E up_up ?_
    exact j_iret dX4_swap_26 rfl (h _ ⟨(MR.setO D ⟨by omega, by omega, by omega, by omega, by omega, by omega, by omega⟩), (fun k hk => ((up_ne (by omega)).trans rfl))⟩)
  · skip
    have hy := hx.resolve_left (not_oob ha (by omega))
    refine j_aload_n dX4_swap_0 rfl ?_
    refine j_iconst (v := 0) dX4_swap_1 (by decide) ?_
    refine j_put fl_X4_38 fp_X4 dX4_swap_2 (by omega) m0 (Or.inl rfl) rfl rfl (Nat.le_of_ble_eq_true rfl) ?_
    refine j_aload_n dX4_swap_5 rfl ?_
    refine j_iload_n dX4_swap_6 rfl ?_
    refine j_cV (As := [.int (nI a)]) (rest := []) cm_X4_isFlight ci_X4_isFlight cs_X4_isFlight rfl ln_X4_48 (ci := 4) rfl dX4_swap_7 (d' := 1) (by decide) (by omega) up_eq rfl rfl (Nat.le_of_ble_eq_true rfl) (Nat.le_of_ble_eq_true rfl) (s_isFlight_t (MR.setO D ⟨by omega, by omega, by omega, by omega, by omega, by omega, by omega⟩) a ha) ?_
    refine j_if_eq_f (tgt := 21) dX4_swap_10 (by decide) (by decide) ?_
    refine j_aload_n dX4_swap_13 rfl ?_
    refine j_iload_n dX4_swap_14 rfl ?_
    refine j_cV (As := [.int y]) (rest := []) cm_X4_isFlight ci_X4_isFlight cs_X4_isFlight rfl ln_X4_48 (ci := 4) rfl dX4_swap_15 (d' := 1) (by decide) (by omega) up_eq rfl rfl (Nat.le_of_ble_eq_true rfl) (Nat.le_of_ble_eq_true rfl) (s_isFlight_f (MR.setO D ⟨by omega, by omega, by omega, by omega, by omega, by omega, by omega⟩) y hy) ?_
    refine j_if_ne_f (tgt := 27) dX4_swap_18 (by decide) (by decide) ?_
    refine j_aload_n dX4_swap_21 rfl ?_
    refine j_iconst (v := 1) dX4_swap_22 (by decide) ?_
    refine j_cV (As := [.int 1]) (rest := []) cm_X4_no ci_X4_no cs_X4_no rfl ln_X4_84 (ci := 4) rfl dX4_swap_23 (d' := 0) (by decide) (by omega) up_eq rfl rfl (Nat.le_of_ble_eq_true rfl) (Nat.le_of_ble_eq_true rfl) (s_X4_no (MR.setO D ⟨by omega, by omega, by omega, by omega, by omega, by omega, by omega⟩) 1) ?_
    refine j_E up_up ?_
    exact j_iret dX4_swap_26 rfl (h _ ⟨(MR.setO D ⟨by omega, by omega, by omega, by omega, by omega, by omega, by omega⟩), (fun k hk => ((up_ne (by omega)).trans rfl))⟩)
set_option maxRecDepth 100000 in
set_option maxHeartbeats 4000000 in
theorem s_X4_turn_ok {g : jG} {n : Nat} {ad : Nat → Nat} {E : Nat → va_E} {th : Int32} {F S : Nat} {hrs su : Int32} {gone : Int64} {lv ed : Nat → Int32} {first cnt : Nat} {ah : Nat → Int32} {mc : Nat} {mk : Nat → Int32} (D : MR g n ad E th F S hrs su gone lv ed first cnt ah mc mk) (a : Nat) (ha : a < F) : RetP g mX4_turn 3 [.ref (ad 63), .int (nI a)] n ad E (some (.int (chgC (turnL lv S a) lv (F * S)))) (fun E9 => MR g n ad E9 0 F S hrs su gone (turnL lv S a) ed (kOld first cnt) (kCnt cnt) (va_cpy lv ah 0 (128 * kSlot first cnt) 128) mc mk ∧ ∀ k, (k < 63 ∨ 69 ≤ k) → E9 k = E k) := by
  obtain ⟨m0, m1, m2, m3, m4, ⟨wk, m5⟩, hF, hS, hFp, hSp, hfi, hcn, hmc, hn⟩ := id D
  have hix := ix128 hF hS ha (show S - 1 < S by omega)
  intro Φ Ψ h
  show J g mX4_turn 3 0 0 0 [some (.ref (ad 63)), some (.int (nI a)), none, none, none] [] n ad E Φ Ψ
  rw [trnC_eq lv ha, show turnL lv S a = trnW lv S a S from rfl] at h
  refine j_aload_n dX4_turn_0 rfl ?_
  refine j_iconst (v := 0) dX4_turn_1 (by decide) ?_
  refine j_put fl_X4_38 fp_X4 dX4_turn_2 (by omega) m0 (Or.inl rfl) rfl rfl (Nat.le_of_ble_eq_true rfl) ?_
  refine j_aload_n dX4_turn_5 rfl ?_
  refine j_iload_n dX4_turn_6 rfl ?_
  refine j_cV (As := [.int (nI a)]) (rest := []) cm_X4_isFlight ci_X4_isFlight cs_X4_isFlight rfl ln_X4_48 (ci := 4) rfl dX4_turn_7 (d' := 1) (by decide) (by omega) up_eq rfl rfl (Nat.le_of_ble_eq_true rfl) (Nat.le_of_ble_eq_true rfl) (s_isFlight_t (MR.setO D ⟨by omega, by omega, by omega, by omega, by omega, by omega, by omega⟩) a ha) ?_
  refine j_if_ne_t (tgt := 19) dX4_turn_10 (by decide) (by decide) ?_
  refine j_aload_n dX4_turn_19 rfl ?_
  refine j_cVp (As := []) (rest := []) cm_X4_keep ci_X4_keep cs_X4_keep rfl ln_X4_88 (ci := 4) rfl dX4_turn_20 (d' := 2) (by decide) (by omega) up_eq rfl rfl (Nat.le_of_ble_eq_true rfl) (Nat.le_of_ble_eq_true rfl) (s_X4_keep (MR.setO D ⟨by omega, by omega, by omega, by omega, by omega, by omega, by omega⟩)) (fun E1 q1 => ?_)
  have D1 := q1.1
  have q1 : MR g n ad E1 0 F S hrs su gone lv ed (kOld first cnt) (kCnt cnt) (va_cpy lv ah 0 (128 * kSlot first cnt) 128) mc mk ∧ ∀ k, (k < 63 ∨ 69 ≤ k) → E1 k = E k := ⟨q1.1, fun k hk => (q1.2 k hk).trans ((fun k hk => ((up_ne (by omega)).trans rfl)) k hk)⟩
  obtain ⟨m01, m11, m21, m31, m41, ⟨wk1, m51⟩, hF1, hS1, hFp1, hSp1, hfi1, hcn1, hmc1, hn1⟩ := id D1
  show J g mX4_turn 3 0 0 23 [some (.ref (ad 63)), some (.int (nI a)), none, none, none] [] n ad E1 Φ Ψ
  refine j_iload_n dX4_turn_23 rfl ?_
  refine j_aload_n dX4_turn_24 rfl ?_
  refine j_get fl_X4_13 dX4_turn_25 (by omega) m01 rfl ?_
  refine j_imul dX4_turn_28 ?_
  refine j_topi (y := nI (a * S)) (pk_mul _ _) ?_
  refine j_istore_n (L' := [some (.ref (ad 63)), some (.int (nI a)), some (.int (nI (a * S))), none, none]) dX4_turn_29 (by decide) rfl rfl ?_
  refine j_aload_n dX4_turn_30 rfl ?_
  refine j_get fl_X4_23 dX4_turn_31 (by omega) m01 rfl ?_
  refine j_iload_n dX4_turn_34 rfl ?_
  refine j_aload_n dX4_turn_35 rfl ?_
  refine j_get fl_X4_32 dX4_turn_36 (by omega) m01 rfl ?_
  refine j_iconst (v := nI 0) dX4_turn_39 (by decide) ?_
  refine j_aload_n dX4_turn_40 rfl ?_
  refine j_get fl_X4_13 dX4_turn_41 (by omega) m01 rfl ?_
  refine j_copy (sp := a * S) (dp := 0) (cnt := S) ln_X4_61 jn_copy js_copy iz_java_lang_System dX4_turn_44 (by decide) (Nat.le_of_ble_eq_true rfl) (by omega) m21 (by omega) m51 (by decide) (by decide) (by omega) (by omega) ?_
  refine j_iconst (v := 0) dX4_turn_47 (by decide) ?_
  refine j_istore_n (L' := [some (.ref (ad 63)), some (.int (nI a)), some (.int (nI (a * S))), some (.int 0), none]) dX4_turn_48 (by decide) rfl rfl ?_
  refine j_iconst (v := nI 0) dX4_turn_49 (by decide) ?_
  refine j_istore (L' := [some (.ref (ad 63)), some (.int (nI a)), some (.int (nI (a * S))), some (.int 0), some (.int (nI 0))]) dX4_turn_50 (by decide) rfl rfl ?_
  refine j_E (E' := va_up (va_up E1 68 (aI g 128 (va_cpy lv wk1 (a * S) 0 S))) 65 (aI g 128 (trnW lv S a 0))) (up_self ((up_ne (by decide)).trans (m21.trans (by rw [trnW_0])))).symm ?_
  refine lpf_ind (b := fun s c => if lv (a * S + (S - 1 - s)) = lv (a * S + s) then c else c + 1) (P := fun (s : Nat) (c : Int32) => J g mX4_turn 3 0 0 52 [some (.ref (ad 63)), some (.int (nI a)), some (.int (nI (a * S))), some (.int c), some (.int (nI s))] [] n ad (va_up (va_up E1 68 (aI g 128 (va_cpy lv wk1 (a * S) 0 S))) 65 (aI g 128 (trnW lv S a s))) Φ Ψ) (N := S) 0 ?_ S 0 (by omega) ?_
  · intro s c hs0 hs ih
    show J g mX4_turn 3 0 0 52 [some (.ref (ad 63)), some (.int (nI a)), some (.int (nI (a * S))), some (.int c), some (.int (nI s))] [] n ad (va_up (va_up E1 68 (aI g 128 (va_cpy lv wk1 (a * S) 0 S))) 65 (aI g 128 (trnW lv S a s))) Φ Ψ
    refine j_iload dX4_turn_52 rfl ?_
    refine j_aload_n dX4_turn_54 rfl ?_
    refine j_get fl_X4_13 dX4_turn_55 (by omega) ((up_ne (by decide)).trans ((up_ne (by decide)).trans m01)) rfl ?_
    refine j_icmp_ge_f (tgt := 122) dX4_turn_58 (by decide) (nI_nle' (by omega) (by omega) (by omega)) ?_
    refine j_iload_n dX4_turn_61 rfl ?_
    refine j_aload_n dX4_turn_62 rfl ?_
    refine j_get fl_X4_32 dX4_turn_63 (by omega) ((up_ne (by decide)).trans ((up_ne (by decide)).trans m01)) rfl ?_
    refine j_aload_n dX4_turn_66 rfl ?_
    refine j_get fl_X4_13 dX4_turn_67 (by omega) ((up_ne (by decide)).trans ((up_ne (by decide)).trans m01)) rfl ?_
    refine j_iconst (v := nI 1) dX4_turn_70 (by decide) ?_
    refine j_isub dX4_turn_71 ?_
    refine j_topi (y := nI (S - 1)) (pk_sub (by omega)) ?_
    refine j_iload dX4_turn_72 rfl ?_
    refine j_isub dX4_turn_74 ?_
    refine j_topi (y := nI ((S - 1) - s)) (pk_sub (by omega)) ?_
    refine j_iald dX4_turn_75 (by omega) ((up_ne (by decide)).trans up_eq) (by decide) (by omega) rfl ?_
    refine j_topi (y := lv (a * S + (S - 1 - s))) (cp_at (by omega)) ?_
    refine j_aload_n dX4_turn_76 rfl ?_
    refine j_get fl_X4_32 dX4_turn_77 (by omega) ((up_ne (by decide)).trans ((up_ne (by decide)).trans m01)) rfl ?_
    refine j_iload dX4_turn_80 rfl ?_
    refine j_iald dX4_turn_82 (by omega) ((up_ne (by decide)).trans up_eq) (by decide) (by omega) rfl ?_
    refine j_topi (y := lv (a * S + s)) (cp_at hs) ?_
    refine j_icmp_ne (tgt := 90) dX4_turn_83 (by decide) (fun hq => ?_) (fun hq => ?_)
    · skip
      refine j_iconst (v := 1) dX4_turn_90 (by decide) ?_
      refine j_iadd dX4_turn_91 ?_
      refine j_istore_n (L' := [some (.ref (ad 63)), some (.int (nI a)), some (.int (nI (a * S))), some (.int (c + 1)), some (.int (nI s))]) dX4_turn_92 (by decide) rfl rfl ?_
      refine j_aload_n dX4_turn_93 rfl ?_
      refine j_get fl_X4_23 dX4_turn_94 (by omega) ((up_ne (by decide)).trans ((up_ne (by decide)).trans m01)) rfl ?_
      refine j_iload_n dX4_turn_97 rfl ?_
      refine j_iload dX4_turn_98 rfl ?_
      refine j_iadd dX4_turn_100 ?_
      refine j_topi (y := nI ((a * S) + s)) (nI_add _ _) ?_
      refine j_aload_n dX4_turn_101 rfl ?_
      refine j_get fl_X4_32 dX4_turn_102 (by omega) ((up_ne (by decide)).trans ((up_ne (by decide)).trans m01)) rfl ?_
      refine j_aload_n dX4_turn_105 rfl ?_
      refine j_get fl_X4_13 dX4_turn_106 (by omega) ((up_ne (by decide)).trans ((up_ne (by decide)).trans m01)) rfl ?_
      refine j_iconst (v := nI 1) dX4_turn_109 (by decide) ?_
      refine j_isub dX4_turn_110 ?_
      refine j_topi (y := nI (S - 1)) (pk_sub (by omega)) ?_
      refine j_iload dX4_turn_111 rfl ?_
      refine j_isub dX4_turn_113 ?_
      refine j_topi (y := nI ((S - 1) - s)) (pk_sub (by omega)) ?_
      refine j_iald dX4_turn_114 (by omega) ((up_ne (by decide)).trans up_eq) (by decide) (by omega) rfl ?_
      refine j_topi (y := lv (a * S + (S - 1 - s))) (cp_at (by omega)) ?_
      refine j_iast (j := (a * S) + s) dX4_turn_115 (by omega) up_eq (by decide) (by omega) ?_
      refine j_E up_up ?_
      refine j_iinc (v := nI (s + 1)) (L' := [some (.ref (ad 63)), some (.int (nI a)), some (.int (nI (a * S))), some (.int (c + 1)), some (.int (nI (s + 1)))]) dX4_turn_116 (by decide) rfl (nI_1 _) rfl rfl ?_
      refine j_goto (tgt := 52) dX4_turn_119 (by decide) ?_
      exact j_E (congrArg (fun f => va_up (va_up E1 68 (aI g 128 (va_cpy lv wk1 (a * S) 0 S))) 65 (aI g 128 f)) (trnW_step lv hs)) (ih _ (by first | exact (if_neg hq).symm | exact (Int32.add_zero _).trans (if_pos hq).symm))
    · skip
      refine j_iconst (v := 0) dX4_turn_86 (by decide) ?_
      refine j_goto (tgt := 91) dX4_turn_87 (by decide) ?_
      refine j_iadd dX4_turn_91 ?_
      refine j_istore_n (L' := [some (.ref (ad 63)), some (.int (nI a)), some (.int (nI (a * S))), some (.int (c + 0)), some (.int (nI s))]) dX4_turn_92 (by decide) rfl rfl ?_
      refine j_aload_n dX4_turn_93 rfl ?_
      refine j_get fl_X4_23 dX4_turn_94 (by omega) ((up_ne (by decide)).trans ((up_ne (by decide)).trans m01)) rfl ?_
      refine j_iload_n dX4_turn_97 rfl ?_
      refine j_iload dX4_turn_98 rfl ?_
      refine j_iadd dX4_turn_100 ?_
      refine j_topi (y := nI ((a * S) + s)) (nI_add _ _) ?_
      refine j_aload_n dX4_turn_101 rfl ?_
      refine j_get fl_X4_32 dX4_turn_102 (by omega) ((up_ne (by decide)).trans ((up_ne (by decide)).trans m01)) rfl ?_
      refine j_aload_n dX4_turn_105 rfl ?_
      refine j_get fl_X4_13 dX4_turn_106 (by omega) ((up_ne (by decide)).trans ((up_ne (by decide)).trans m01)) rfl ?_
      refine j_iconst (v := nI 1) dX4_turn_109 (by decide) ?_
      refine j_isub dX4_turn_110 ?_
      refine j_topi (y := nI (S - 1)) (pk_sub (by omega)) ?_
      refine j_iload dX4_turn_111 rfl ?_
      refine j_isub dX4_turn_113 ?_
      refine j_topi (y := nI ((S - 1) - s)) (pk_sub (by omega)) ?_
      refine j_iald dX4_turn_114 (by omega) ((up_ne (by decide)).trans up_eq) (by decide) (by omega) rfl ?_
      refine j_topi (y := lv (a * S + (S - 1 - s))) (cp_at (by omega)) ?_
      refine j_iast (j := (a * S) + s) dX4_turn_115 (by omega) up_eq (by decide) (by omega) ?_
      refine j_E up_up ?_
      refine j_iinc (v := nI (s + 1)) (L' := [some (.ref (ad 63)), some (.int (nI a)), some (.int (nI (a * S))), some (.int (c + 0)), some (.int (nI (s + 1)))]) dX4_turn_116 (by decide) rfl (nI_1 _) rfl rfl ?_
      refine j_goto (tgt := 52) dX4_turn_119 (by decide) ?_
      exact j_E (congrArg (fun f => va_up (va_up E1 68 (aI g 128 (va_cpy lv wk1 (a * S) 0 S))) 65 (aI g 128 f)) (trnW_step lv hs)) (ih _ (by first | exact (if_neg hq).symm | exact (Int32.add_zero _).trans (if_pos hq).symm))
  · skip
    show J g mX4_turn 3 0 0 52 [some (.ref (ad 63)), some (.int (nI a)), some (.int (nI (a * S))), some (.int (trnC lv S a)), some (.int (nI S))] [] n ad (va_up (va_up E1 68 (aI g 128 (va_cpy lv wk1 (a * S) 0 S))) 65 (aI g 128 (trnW lv S a S))) Φ Ψ
    refine j_iload dX4_turn_52 rfl ?_
    refine j_aload_n dX4_turn_54 rfl ?_
    refine j_get fl_X4_13 dX4_turn_55 (by omega) ((up_ne (by decide)).trans ((up_ne (by decide)).trans m01)) rfl ?_
    refine j_icmp_ge_t (tgt := 122) dX4_turn_58 (by decide) (nI_le' (by omega) (by omega) (by omega)) ?_
    refine j_iload_n dX4_turn_122 rfl ?_
    exact j_iret dX4_turn_123 rfl (h _ ⟨(MR.setLv (MR.setWk D1)), (fun k hk => ((up_ne (by omega)).trans ((up_ne (by omega)).trans (q1.2 k hk))))⟩)
set_option maxRecDepth 100000 in
set_option maxHeartbeats 4000000 in
theorem s_X4_turn_bad {g : jG} {n : Nat} {ad : Nat → Nat} {E : Nat → va_E} {th : Int32} {F S : Nat} {hrs su : Int32} {gone : Int64} {lv ed : Nat → Int32} {first cnt : Nat} {ah : Nat → Int32} {mc : Nat} {mk : Nat → Int32} (D : MR g n ad E th F S hrs su gone lv ed first cnt ah mc mk) (x : Int32) (hx : oob x F) : RetP g mX4_turn 3 [.ref (ad 63), .int x] n ad E (some (.int 0)) (fun E9 => MR g n ad E9 1 F S hrs su gone lv ed first cnt ah mc mk ∧ ∀ k, (k < 63 ∨ 69 ≤ k) → E9 k = E k) := by
  obtain ⟨m0, m1, m2, m3, m4, ⟨wk, m5⟩, hF, hS, hFp, hSp, hfi, hcn, hmc, hn⟩ := id D
  intro Φ Ψ h
  show J g mX4_turn 3 0 0 0 [some (.ref (ad 63)), some (.int x), none, none, none] [] n ad E Φ Ψ
  refine j_aload_n dX4_turn_0 rfl ?_
  refine j_iconst (v := 0) dX4_turn_1 (by decide) ?_
  refine j_put fl_X4_38 fp_X4 dX4_turn_2 (by omega) m0 (Or.inl rfl) rfl rfl (Nat.le_of_ble_eq_true rfl) ?_
  refine j_aload_n dX4_turn_5 rfl ?_
  refine j_iload_n dX4_turn_6 rfl ?_
  refine j_cV (As := [.int x]) (rest := []) cm_X4_isFlight ci_X4_isFlight cs_X4_isFlight rfl ln_X4_48 (ci := 4) rfl dX4_turn_7 (d' := 1) (by decide) (by omega) up_eq rfl rfl (Nat.le_of_ble_eq_true rfl) (Nat.le_of_ble_eq_true rfl) (s_isFlight_f (MR.setO D ⟨by omega, by omega, by omega, by omega, by omega, by omega, by omega⟩) x hx) ?_
  refine j_if_ne_f (tgt := 19) dX4_turn_10 (by decide) (by decide) ?_
  refine j_aload_n dX4_turn_13 rfl ?_
  refine j_iconst (v := 1) dX4_turn_14 (by decide) ?_
  refine j_cV (As := [.int 1]) (rest := []) cm_X4_no ci_X4_no cs_X4_no rfl ln_X4_84 (ci := 4) rfl dX4_turn_15 (d' := 0) (by decide) (by omega) up_eq rfl rfl (Nat.le_of_ble_eq_true rfl) (Nat.le_of_ble_eq_true rfl) (s_X4_no (MR.setO D ⟨by omega, by omega, by omega, by omega, by omega, by omega, by omega⟩) 1) ?_
  refine j_E up_up ?_
  exact j_iret dX4_turn_18 rfl (h _ ⟨(MR.setO D ⟨by omega, by omega, by omega, by omega, by omega, by omega, by omega⟩), (fun k hk => ((up_ne (by omega)).trans rfl))⟩)
set_option maxRecDepth 100000 in
set_option maxHeartbeats 4000000 in
theorem s_X4_bail_ok {g : jG} {n : Nat} {ad : Nat → Nat} {E : Nat → va_E} {th : Int32} {F S : Nat} {hrs su : Int32} {gone : Int64} {lv ed : Nat → Int32} {first cnt : Nat} {ah : Nat → Int32} {mc : Nat} {mk : Nat → Int32} (D : MR g n ad E th F S hrs su gone lv ed first cnt ah mc mk) (a : Nat) (ha : a < F) (x : Int32) (hx1 : ¬ x < 1) (hx2 : x ≤ 999) : RetP g mX4_bail 3 [.ref (ad 63), .int (nI a), .int x] n ad E (some (.int ((bailR lv S a x).1))) (fun E9 => MR g n ad E9 0 F S hrs su gone ((bailR lv S a x).2) ed (kOld first cnt) (kCnt cnt) (va_cpy lv ah 0 (128 * kSlot first cnt) 128) mc mk ∧ ∀ k, (k < 63 ∨ 69 ≤ k) → E9 k = E k) := by
  obtain ⟨m0, m1, m2, m3, m4, ⟨wk, m5⟩, hF, hS, hFp, hSp, hfi, hcn, hmc, hn⟩ := id D
  have hix0 := ix128 hF hS ha (show S - 1 < S by omega)
  have hrow : (a + 1) * S = a * S + S := Nat.succ_mul a S
  intro Φ Ψ h
  show J g mX4_bail 3 0 0 0 [some (.ref (ad 63)), some (.int (nI a)), some (.int x), none, none, none] [] n ad E Φ Ψ
  refine j_aload_n dX4_bail_0 rfl ?_
  refine j_iconst (v := 0) dX4_bail_1 (by decide) ?_
  refine j_put fl_X4_38 fp_X4 dX4_bail_2 (by omega) m0 (Or.inl rfl) rfl rfl (Nat.le_of_ble_eq_true rfl) ?_
  refine j_aload_n dX4_bail_5 rfl ?_
  refine j_iload_n dX4_bail_6 rfl ?_
  refine j_cV (As := [.int (nI a)]) (rest := []) cm_X4_isFlight ci_X4_isFlight cs_X4_isFlight rfl ln_X4_48 (ci := 4) rfl dX4_bail_7 (d' := 1) (by decide) (by omega) up_eq rfl rfl (Nat.le_of_ble_eq_true rfl) (Nat.le_of_ble_eq_true rfl) (s_isFlight_t (MR.setO D ⟨by omega, by omega, by omega, by omega, by omega, by omega, by omega⟩) a ha) ?_
  refine j_if_ne_t (tgt := 19) dX4_bail_10 (by decide) (by decide) ?_
  refine j_iload_n dX4_bail_19 rfl ?_
  refine j_iconst (v := 1) dX4_bail_20 (by decide) ?_
  refine j_sipush (v := 999) dX4_bail_21 (by decide) ?_
  refine j_cS (As := [.int x, .int 1, .int 999]) (rest := []) cm_X4_isIn ct_X4_isIn ln_X4_41 dX4_bail_24 (d' := 0) (by decide) rfl rfl (Nat.le_of_ble_eq_true rfl) (Nat.le_of_ble_eq_true rfl) (s_isIn_t x 1 999 hx1 (nlt_le hx2)) ?_
  refine j_if_ne_t (tgt := 36) dX4_bail_27 (by decide) (by decide) ?_
  refine j_aload_n dX4_bail_36 rfl ?_
  refine j_cVp (As := []) (rest := []) cm_X4_keep ci_X4_keep cs_X4_keep rfl ln_X4_88 (ci := 4) rfl dX4_bail_37 (d' := 2) (by decide) (by omega) up_eq rfl rfl (Nat.le_of_ble_eq_true rfl) (Nat.le_of_ble_eq_true rfl) (s_X4_keep (MR.setO D ⟨by omega, by omega, by omega, by omega, by omega, by omega, by omega⟩)) (fun E1 q1 => ?_)
  have D1 := q1.1
  have q1 : MR g n ad E1 0 F S hrs su gone lv ed (kOld first cnt) (kCnt cnt) (va_cpy lv ah 0 (128 * kSlot first cnt) 128) mc mk ∧ ∀ k, (k < 63 ∨ 69 ≤ k) → E1 k = E k := ⟨q1.1, fun k hk => (q1.2 k hk).trans ((fun k hk => ((up_ne (by omega)).trans rfl)) k hk)⟩
  obtain ⟨m01, m11, m21, m31, m41, ⟨wk1, m51⟩, hF1, hS1, hFp1, hSp1, hfi1, hcn1, hmc1, hn1⟩ := id D1
  show J g mX4_bail 3 0 0 40 [some (.ref (ad 63)), some (.int (nI a)), some (.int x), none, none, none] [] n ad E1 Φ Ψ
  refine j_iload_n dX4_bail_40 rfl ?_
  refine j_topi (y := x - 0) (Int32.sub_zero x).symm ?_
  refine j_istore_n (L' := [some (.ref (ad 63)), some (.int (nI a)), some (.int x), some (.int (x - 0)), none, none]) dX4_bail_41 (by decide) rfl rfl ?_
  refine j_iload_n dX4_bail_42 rfl ?_
  refine j_aload_n dX4_bail_43 rfl ?_
  refine j_get fl_X4_13 dX4_bail_44 (by omega) m01 rfl ?_
  refine j_imul dX4_bail_47 ?_
  refine j_topi (y := nI (a * S)) (pk_mul _ _) ?_
  refine j_istore (L' := [some (.ref (ad 63)), some (.int (nI a)), some (.int x), some (.int (x - 0)), some (.int (nI (a * S))), none]) dX4_bail_48 (by decide) rfl rfl ?_
  refine j_E (E' := va_up E1 65 (aI g 128 lv)) (up_self m21).symm ?_
  refine lpf_ind (b := fun s (y : Int32 × (Nat → Int32)) => (y.1 + bailT x y.1 (y.2 (a * S + s)), upd y.2 (a * S + s) (y.2 (a * S + s) + -bailT x y.1 (y.2 (a * S + s))))) (P := fun (s : Nat) (y : Int32 × (Nat → Int32)) => J g mX4_bail 3 0 0 50 [some (.ref (ad 63)), some (.int (nI a)), some (.int x), some (.int (x - y.1)), some (.int (nI (a * S + s))), none] [] n ad (va_up E1 65 (aI g 128 y.2)) Φ Ψ) (N := S) 0 ?_ S ((0, lv) : Int32 × (Nat → Int32)) (by omega) ?_
  · intro s y hs0 hs ih
    obtain ⟨b1, f1⟩ := y
    show J g mX4_bail 3 0 0 50 [some (.ref (ad 63)), some (.int (nI a)), some (.int x), some (.int (x - b1)), some (.int (nI (a * S + s))), none] [] n ad (va_up E1 65 (aI g 128 f1)) Φ Ψ
    have hix := ix128 hF hS ha hs
    refine j_iload dX4_bail_50 rfl ?_
    refine j_iload_n dX4_bail_52 rfl ?_
    refine j_iconst (v := nI 1) dX4_bail_53 (by decide) ?_
    refine j_iadd dX4_bail_54 ?_
    refine j_topi (y := nI (a + 1)) (nI_add _ _) ?_
    refine j_aload_n dX4_bail_55 rfl ?_
    refine j_get fl_X4_13 dX4_bail_56 (by omega) ((up_ne (by decide)).trans m01) rfl ?_
    refine j_imul dX4_bail_59 ?_
    refine j_topi (y := nI ((a + 1) * S)) (pk_mul _ _) ?_
    refine j_icmp_ge_f (tgt := 103) dX4_bail_60 (by decide) (nI_nle' (by omega) (by omega) (by omega)) ?_
    refine j_iload_n dX4_bail_63 rfl ?_
    refine j_iconst (v := 0) dX4_bail_64 (by decide) ?_
    refine j_aload_n dX4_bail_65 rfl ?_
    refine j_get fl_X4_23 dX4_bail_66 (by omega) ((up_ne (by decide)).trans m01) rfl ?_
    refine j_iload dX4_bail_69 rfl ?_
    refine j_iald dX4_bail_71 (by omega) up_eq (by decide) (by omega) rfl ?_
    refine j_mmax ln_X4_71 js_max iz_java_lang_Math jc_max dX4_bail_72 (by decide) (Nat.le_of_ble_eq_true rfl) ?_
    refine j_topi (y := max0 (f1 (a * S + s))) rfl ?_
    refine j_mmin ln_X4_98 js_min iz_java_lang_Math jc_min dX4_bail_75 (by decide) (Nat.le_of_ble_eq_true rfl) ?_
    refine j_topi (y := bailT x b1 (f1 (a * S + s))) (bailT_eq x b1 (f1 (a * S + s))) ?_
    refine j_istore (L' := [some (.ref (ad 63)), some (.int (nI a)), some (.int x), some (.int (x - b1)), some (.int (nI (a * S + s))), some (.int (bailT x b1 (f1 (a * S + s))))]) dX4_bail_78 (by decide) rfl rfl ?_
    refine j_aload_n dX4_bail_80 rfl ?_
    refine j_get fl_X4_23 dX4_bail_81 (by omega) ((up_ne (by decide)).trans m01) rfl ?_
    refine j_iload dX4_bail_84 rfl ?_
    refine j_dup2 dX4_bail_86 rfl rfl ?_
    refine j_iald dX4_bail_87 (by omega) up_eq (by decide) (by omega) rfl ?_
    refine j_iload dX4_bail_88 rfl ?_
    refine j_isub dX4_bail_90 ?_
    refine j_topi (y := f1 (a * S + s) + -(bailT x b1 (f1 (a * S + s)))) (neg_sub _ _) ?_
    refine j_iast (j := a * S + s) dX4_bail_91 (by omega) up_eq (by decide) (by omega) ?_
    refine j_E up_up ?_
    refine j_iload_n dX4_bail_92 rfl ?_
    refine j_iload dX4_bail_93 rfl ?_
    refine j_isub dX4_bail_95 ?_
    refine j_topi (y := x - (b1 + bailT x b1 (f1 (a * S + s)))) (left_eq x b1 _) ?_
    refine j_istore_n (L' := [some (.ref (ad 63)), some (.int (nI a)), some (.int x), some (.int (x - (b1 + bailT x b1 (f1 (a * S + s))))), some (.int (nI (a * S + s))), some (.int (bailT x b1 (f1 (a * S + s))))]) dX4_bail_96 (by decide) rfl rfl ?_
    refine j_iinc (v := nI (a * S + (s + 1))) (L' := [some (.ref (ad 63)), some (.int (nI a)), some (.int x), some (.int (x - (b1 + bailT x b1 (f1 (a * S + s))))), some (.int (nI (a * S + (s + 1)))), some (.int (bailT x b1 (f1 (a * S + s))))]) dX4_bail_97 (by decide) rfl (nI_1 _) rfl rfl ?_
    refine j_goto (tgt := 50) dX4_bail_100 (by decide) ?_
    refine j_clr 5 ?_
    exact ih (b1 + bailT x b1 (f1 (a * S + s)), upd f1 (a * S + s) (f1 (a * S + s) + -(bailT x b1 (f1 (a * S + s))))) rfl
  · skip
    show J g mX4_bail 3 0 0 50 [some (.ref (ad 63)), some (.int (nI a)), some (.int x), some (.int (x - (bailR lv S a x).1)), some (.int (nI (a * S + S))), none] [] n ad (va_up E1 65 (aI g 128 ((bailR lv S a x).2))) Φ Ψ
    refine j_iload dX4_bail_50 rfl ?_
    refine j_iload_n dX4_bail_52 rfl ?_
    refine j_iconst (v := nI 1) dX4_bail_53 (by decide) ?_
    refine j_iadd dX4_bail_54 ?_
    refine j_topi (y := nI (a + 1)) (nI_add _ _) ?_
    refine j_aload_n dX4_bail_55 rfl ?_
    refine j_get fl_X4_13 dX4_bail_56 (by omega) ((up_ne (by decide)).trans m01) rfl ?_
    refine j_imul dX4_bail_59 ?_
    refine j_topi (y := nI ((a + 1) * S)) (pk_mul _ _) ?_
    refine j_icmp_ge_t (tgt := 103) dX4_bail_60 (by decide) (nI_le' (by omega) (by omega) (by omega)) ?_
    refine j_iload_n dX4_bail_103 rfl ?_
    refine j_iload_n dX4_bail_104 rfl ?_
    refine j_isub dX4_bail_105 ?_
    refine j_topi (y := (bailR lv S a x).1) (back_eq x _) ?_
    exact j_iret dX4_bail_106 rfl (h _ ⟨(MR.setLv D1), (fun k hk => ((up_ne (by omega)).trans (q1.2 k hk)))⟩)
set_option maxRecDepth 100000 in
set_option maxHeartbeats 4000000 in
theorem s_X4_bail_bad {g : jG} {n : Nat} {ad : Nat → Nat} {E : Nat → va_E} {th : Int32} {F S : Nat} {hrs su : Int32} {gone : Int64} {lv ed : Nat → Int32} {first cnt : Nat} {ah : Nat → Int32} {mc : Nat} {mk : Nat → Int32} (D : MR g n ad E th F S hrs su gone lv ed first cnt ah mc mk) (x : Int32) (y : Int32) (hx : oob x F) : RetP g mX4_bail 3 [.ref (ad 63), .int x, .int y] n ad E (some (.int 0)) (fun E9 => MR g n ad E9 1 F S hrs su gone lv ed first cnt ah mc mk ∧ ∀ k, (k < 63 ∨ 69 ≤ k) → E9 k = E k) := by
  obtain ⟨m0, m1, m2, m3, m4, ⟨wk, m5⟩, hF, hS, hFp, hSp, hfi, hcn, hmc, hn⟩ := id D
  intro Φ Ψ h
  show J g mX4_bail 3 0 0 0 [some (.ref (ad 63)), some (.int x), some (.int y), none, none, none] [] n ad E Φ Ψ
  refine j_aload_n dX4_bail_0 rfl ?_
  refine j_iconst (v := 0) dX4_bail_1 (by decide) ?_
  refine j_put fl_X4_38 fp_X4 dX4_bail_2 (by omega) m0 (Or.inl rfl) rfl rfl (Nat.le_of_ble_eq_true rfl) ?_
  refine j_aload_n dX4_bail_5 rfl ?_
  refine j_iload_n dX4_bail_6 rfl ?_
  refine j_cV (As := [.int x]) (rest := []) cm_X4_isFlight ci_X4_isFlight cs_X4_isFlight rfl ln_X4_48 (ci := 4) rfl dX4_bail_7 (d' := 1) (by decide) (by omega) up_eq rfl rfl (Nat.le_of_ble_eq_true rfl) (Nat.le_of_ble_eq_true rfl) (s_isFlight_f (MR.setO D ⟨by omega, by omega, by omega, by omega, by omega, by omega, by omega⟩) x hx) ?_
  refine j_if_ne_f (tgt := 19) dX4_bail_10 (by decide) (by decide) ?_
  refine j_aload_n dX4_bail_13 rfl ?_
  refine j_iconst (v := 1) dX4_bail_14 (by decide) ?_
  refine j_cV (As := [.int 1]) (rest := []) cm_X4_no ci_X4_no cs_X4_no rfl ln_X4_84 (ci := 4) rfl dX4_bail_15 (d' := 0) (by decide) (by omega) up_eq rfl rfl (Nat.le_of_ble_eq_true rfl) (Nat.le_of_ble_eq_true rfl) (s_X4_no (MR.setO D ⟨by omega, by omega, by omega, by omega, by omega, by omega, by omega⟩) 1) ?_
  refine j_E up_up ?_
  exact j_iret dX4_bail_18 rfl (h _ ⟨(MR.setO D ⟨by omega, by omega, by omega, by omega, by omega, by omega, by omega⟩), (fun k hk => ((up_ne (by omega)).trans rfl))⟩)
set_option maxRecDepth 100000 in
set_option maxHeartbeats 4000000 in
theorem s_X4_bail_iae {g : jG} {n : Nat} {ad : Nat → Nat} {E : Nat → va_E} {th : Int32} {F S : Nat} {hrs su : Int32} {gone : Int64} {lv ed : Nat → Int32} {first cnt : Nat} {ah : Nat → Int32} {mc : Nat} {mk : Nat → Int32} (D : MR g n ad E th F S hrs su gone lv ed first cnt ah mc mk) (a : Nat) (ha : a < F) (x : Int32) (hx : x < 1 ∨ ¬ x ≤ 999) : RetP g mX4_bail 3 [.ref (ad 63), .int (nI a), .int x] n ad E (some (.int 0)) (fun E9 => MR g n ad E9 2 F S hrs su gone lv ed first cnt ah mc mk ∧ ∀ k, (k < 63 ∨ 69 ≤ k) → E9 k = E k) := by
  obtain ⟨m0, m1, m2, m3, m4, ⟨wk, m5⟩, hF, hS, hFp, hSp, hfi, hcn, hmc, hn⟩ := id D
  intro Φ Ψ h
  show J g mX4_bail 3 0 0 0 [some (.ref (ad 63)), some (.int (nI a)), some (.int x), none, none, none] [] n ad E Φ Ψ
  refine j_aload_n dX4_bail_0 rfl ?_
  refine j_iconst (v := 0) dX4_bail_1 (by decide) ?_
  refine j_put fl_X4_38 fp_X4 dX4_bail_2 (by omega) m0 (Or.inl rfl) rfl rfl (Nat.le_of_ble_eq_true rfl) ?_
  refine j_aload_n dX4_bail_5 rfl ?_
  refine j_iload_n dX4_bail_6 rfl ?_
  refine j_cV (As := [.int (nI a)]) (rest := []) cm_X4_isFlight ci_X4_isFlight cs_X4_isFlight rfl ln_X4_48 (ci := 4) rfl dX4_bail_7 (d' := 1) (by decide) (by omega) up_eq rfl rfl (Nat.le_of_ble_eq_true rfl) (Nat.le_of_ble_eq_true rfl) (s_isFlight_t (MR.setO D ⟨by omega, by omega, by omega, by omega, by omega, by omega, by omega⟩) a ha) ?_
  refine j_if_ne_t (tgt := 19) dX4_bail_10 (by decide) (by decide) ?_
  refine j_iload_n dX4_bail_19 rfl ?_
  refine j_iconst (v := 1) dX4_bail_20 (by decide) ?_
  refine j_sipush (v := 999) dX4_bail_21 (by decide) ?_
  refine j_cS (As := [.int x, .int 1, .int 999]) (rest := []) cm_X4_isIn ct_X4_isIn ln_X4_41 dX4_bail_24 (d' := 0) (by decide) rfl rfl (Nat.le_of_ble_eq_true rfl) (Nat.le_of_ble_eq_true rfl) (s_isIn_f x 1 999 (in_bad hx)) ?_
  refine j_if_ne_f (tgt := 36) dX4_bail_27 (by decide) (by decide) ?_
  refine j_aload_n dX4_bail_30 rfl ?_
  refine j_iconst (v := 2) dX4_bail_31 (by decide) ?_
  refine j_cV (As := [.int 2]) (rest := []) cm_X4_no ci_X4_no cs_X4_no rfl ln_X4_84 (ci := 4) rfl dX4_bail_32 (d' := 0) (by decide) (by omega) up_eq rfl rfl (Nat.le_of_ble_eq_true rfl) (Nat.le_of_ble_eq_true rfl) (s_X4_no (MR.setO D ⟨by omega, by omega, by omega, by omega, by omega, by omega, by omega⟩) 2) ?_
  refine j_E up_up ?_
  exact j_iret dX4_bail_35 rfl (h _ ⟨(MR.setO D ⟨by omega, by omega, by omega, by omega, by omega, by omega, by omega⟩), (fun k hk => ((up_ne (by omega)).trans rfl))⟩)
set_option maxRecDepth 100000 in
set_option maxHeartbeats 4000000 in
theorem s_X4_passHours_ok {g : jG} {n : Nat} {ad : Nat → Nat} {E : Nat → va_E} {th : Int32} {F S : Nat} {hrs su : Int32} {gone : Int64} {lv ed : Nat → Int32} {first cnt : Nat} {ah : Nat → Int32} {mc : Nat} {mk : Nat → Int32} (D : MR g n ad E th F S hrs su gone lv ed first cnt ah mc mk) (t9 : Nat) (ht1 : 1 ≤ t9) (ht2 : t9 ≤ 40) : RetP g mX4_passHours 3 [.ref (ad 63), .int (nI t9)] n ad E (some (.int ((flowR su ed F S t9 lv).1))) (fun E9 => MR g n ad E9 0 F S (hrs + nI t9) su (gone + (flowR su ed F S t9 lv).1.toInt64) ((flowR su ed F S t9 lv).2) ed (kOld first cnt) (kCnt cnt) (va_cpy lv ah 0 (128 * kSlot first cnt) 128) mc mk ∧ ∀ k, (k < 63 ∨ 69 ≤ k) → E9 k = E k) := by
  obtain ⟨m0, m1, m2, m3, m4, ⟨wk, m5⟩, hF, hS, hFp, hSp, hfi, hcn, hmc, hn⟩ := id D
  intro Φ Ψ h
  show J g mX4_passHours 3 0 0 0 [some (.ref (ad 63)), some (.int (nI t9)), none, none] [] n ad E Φ Ψ
  refine j_aload_n dX4_passHours_0 rfl ?_
  refine j_iconst (v := 0) dX4_passHours_1 (by decide) ?_
  refine j_put fl_X4_38 fp_X4 dX4_passHours_2 (by omega) m0 (Or.inl rfl) rfl rfl (Nat.le_of_ble_eq_true rfl) ?_
  refine j_iload_n dX4_passHours_5 rfl ?_
  refine j_iconst (v := nI 1) dX4_passHours_6 (by decide) ?_
  refine j_bipush (v := nI 40) dX4_passHours_7 (by decide) ?_
  refine j_cS (As := [.int (nI t9), .int (nI 1), .int (nI 40)]) (rest := []) cm_X4_isIn ct_X4_isIn ln_X4_41 dX4_passHours_9 (d' := 0) (by decide) rfl rfl (Nat.le_of_ble_eq_true rfl) (Nat.le_of_ble_eq_true rfl) (s_isIn_t (nI t9) (nI 1) (nI 40) (nI_nlt' (by omega) (by omega) (by omega)) (nI_nlt' (by omega) (by omega) (by omega))) ?_
  refine j_if_ne_t (tgt := 21) dX4_passHours_12 (by decide) (by decide) ?_
  refine j_aload_n dX4_passHours_21 rfl ?_
  refine j_cVp (As := []) (rest := []) cm_X4_keep ci_X4_keep cs_X4_keep rfl ln_X4_88 (ci := 4) rfl dX4_passHours_22 (d' := 2) (by decide) (by omega) up_eq rfl rfl (Nat.le_of_ble_eq_true rfl) (Nat.le_of_ble_eq_true rfl) (s_X4_keep (MR.setO D ⟨by omega, by omega, by omega, by omega, by omega, by omega, by omega⟩)) (fun E1 q1 => ?_)
  have D1 := q1.1
  have q1 : MR g n ad E1 0 F S hrs su gone lv ed (kOld first cnt) (kCnt cnt) (va_cpy lv ah 0 (128 * kSlot first cnt) 128) mc mk ∧ ∀ k, (k < 63 ∨ 69 ≤ k) → E1 k = E k := ⟨q1.1, fun k hk => (q1.2 k hk).trans ((fun k hk => ((up_ne (by omega)).trans rfl)) k hk)⟩
  obtain ⟨m01, m11, m21, m31, m41, ⟨wk1, m51⟩, hF1, hS1, hFp1, hSp1, hfi1, hcn1, hmc1, hn1⟩ := id D1
  show J g mX4_passHours 3 0 0 25 [some (.ref (ad 63)), some (.int (nI t9)), none, none] [] n ad E1 Φ Ψ
  refine j_iconst (v := 0) dX4_passHours_25 (by decide) ?_
  refine j_istore_n (L' := [some (.ref (ad 63)), some (.int (nI t9)), some (.int 0), none]) dX4_passHours_26 (by decide) rfl rfl ?_
  refine j_iconst (v := nI 0) dX4_passHours_27 (by decide) ?_
  refine j_istore_n (L' := [some (.ref (ad 63)), some (.int (nI t9)), some (.int 0), some (.int (nI 0))]) dX4_passHours_28 (by decide) rfl rfl ?_
  refine j_E (E' := va_up E1 65 (aI g 128 lv)) (up_self m21).symm ?_
  refine lpf_ind (b := fun _ (a : Int32 × (Nat → Int32)) => (a.1 + (hourR su ed F S a.2).1, (hourR su ed F S a.2).2)) (P := fun (i : Nat) (y : Int32 × (Nat → Int32)) => J g mX4_passHours 3 0 0 29 [some (.ref (ad 63)), some (.int (nI t9)), some (.int y.1), some (.int (nI i))] [] n ad (va_up E1 65 (aI g 128 y.2)) Φ Ψ) (N := t9) 0 ?_ t9 ((0, lv) : Int32 × (Nat → Int32)) (by omega) ?_
  · intro i y hi0 hi ih
    obtain ⟨o1, f1⟩ := y
    show J g mX4_passHours 3 0 0 29 [some (.ref (ad 63)), some (.int (nI t9)), some (.int o1), some (.int (nI i))] [] n ad (va_up E1 65 (aI g 128 f1)) Φ Ψ
    refine j_iload_n dX4_passHours_29 rfl ?_
    refine j_iload_n dX4_passHours_30 rfl ?_
    refine j_icmp_ge_f (tgt := 55) dX4_passHours_31 (by decide) (nI_nle' (by omega) (by omega) (by omega)) ?_
    refine j_iload_n dX4_passHours_34 rfl ?_
    refine j_aload_n dX4_passHours_35 rfl ?_
    refine j_aload_n dX4_passHours_36 rfl ?_
    refine j_get fl_X4_23 dX4_passHours_37 (by omega) ((up_ne (by decide)).trans m01) rfl ?_
    refine j_aload_n dX4_passHours_40 rfl ?_
    refine j_get fl_X4_16 dX4_passHours_41 (by omega) ((up_ne (by decide)).trans m01) rfl ?_
    refine j_cV (As := [.ref (ad 65), .int su]) (rest := [.int o1]) cm_X4_hourOn ci_X4_hourOn cs_X4_hourOn rfl ln_X4_80 (ci := 4) rfl dX4_passHours_44 (d' := 1) (by decide) (by omega) ((up_ne (by decide)).trans m01) rfl rfl (Nat.le_of_ble_eq_true rfl) (Nat.le_of_ble_eq_true rfl) (s_hour_lv (MR.setLv D1) su) ?_
    refine j_E up_up ?_
    refine j_iadd dX4_passHours_47 ?_
    refine j_istore_n (L' := [some (.ref (ad 63)), some (.int (nI t9)), some (.int (o1 + ((hourR su ed F S f1).1))), some (.int (nI i))]) dX4_passHours_48 (by decide) rfl rfl ?_
    refine j_iinc (v := nI (i + 1)) (L' := [some (.ref (ad 63)), some (.int (nI t9)), some (.int (o1 + ((hourR su ed F S f1).1))), some (.int (nI (i + 1)))]) dX4_passHours_49 (by decide) rfl (nI_1 _) rfl rfl ?_
    refine j_goto (tgt := 29) dX4_passHours_52 (by decide) ?_
    exact ih (o1 + ((hourR su ed F S f1).1), (hourR su ed F S f1).2) rfl
  · skip
    show J g mX4_passHours 3 0 0 29 [some (.ref (ad 63)), some (.int (nI t9)), some (.int ((flowR su ed F S t9 lv).1)), some (.int (nI t9))] [] n ad (va_up E1 65 (aI g 128 ((flowR su ed F S t9 lv).2))) Φ Ψ
    refine j_iload_n dX4_passHours_29 rfl ?_
    refine j_iload_n dX4_passHours_30 rfl ?_
    refine j_icmp_ge_t (tgt := 55) dX4_passHours_31 (by decide) (nI_le' (by omega) (by omega) (by omega)) ?_
    refine j_aload_n dX4_passHours_55 rfl ?_
    refine j_dup dX4_passHours_56 rfl ?_
    refine j_get fl_X4_101 dX4_passHours_57 (by omega) ((up_ne (by decide)).trans m01) rfl ?_
    refine j_iload_n dX4_passHours_60 rfl ?_
    refine j_iadd dX4_passHours_61 ?_
    refine j_topi (y := hrs + nI t9) rfl ?_
    refine j_put fl_X4_101 fp_X4 dX4_passHours_62 (by omega) ((up_ne (by decide)).trans m01) (Or.inl rfl) rfl rfl (Nat.le_of_ble_eq_true rfl) ?_
    refine j_aload_n dX4_passHours_65 rfl ?_
    refine j_dup dX4_passHours_66 rfl ?_
    refine j_get fl_X4_104 dX4_passHours_67 (by omega) up_eq rfl ?_
    refine j_iload_n dX4_passHours_70 rfl ?_
    refine j_i2l dX4_passHours_71 ?_
    refine j_ladd dX4_passHours_72 ?_
    refine j_put fl_X4_104 fp_X4 dX4_passHours_73 (by omega) up_eq (Or.inl rfl) rfl rfl (Nat.le_of_ble_eq_true rfl) ?_
    refine j_E up_up ?_
    refine j_iload_n dX4_passHours_76 rfl ?_
    exact j_iret dX4_passHours_77 rfl (h _ ⟨(MR.setO (MR.setLv D1) ⟨by omega, by omega, by omega, by omega, by omega, by omega, by omega⟩), (fun k hk => ((up_ne (by omega)).trans ((up_ne (by omega)).trans (q1.2 k hk))))⟩)
set_option maxRecDepth 100000 in
set_option maxHeartbeats 4000000 in
theorem s_X4_passHours_iae {g : jG} {n : Nat} {ad : Nat → Nat} {E : Nat → va_E} {th : Int32} {F S : Nat} {hrs su : Int32} {gone : Int64} {lv ed : Nat → Int32} {first cnt : Nat} {ah : Nat → Int32} {mc : Nat} {mk : Nat → Int32} (D : MR g n ad E th F S hrs su gone lv ed first cnt ah mc mk) (x : Int32) (hx : x < 1 ∨ ¬ x ≤ 40) : RetP g mX4_passHours 3 [.ref (ad 63), .int x] n ad E (some (.int 0)) (fun E9 => MR g n ad E9 1 F S hrs su gone lv ed first cnt ah mc mk ∧ ∀ k, (k < 63 ∨ 69 ≤ k) → E9 k = E k) := by
  obtain ⟨m0, m1, m2, m3, m4, ⟨wk, m5⟩, hF, hS, hFp, hSp, hfi, hcn, hmc, hn⟩ := id D
  intro Φ Ψ h
  show J g mX4_passHours 3 0 0 0 [some (.ref (ad 63)), some (.int x), none, none] [] n ad E Φ Ψ
  refine j_aload_n dX4_passHours_0 rfl ?_
  refine j_iconst (v := 0) dX4_passHours_1 (by decide) ?_
  refine j_put fl_X4_38 fp_X4 dX4_passHours_2 (by omega) m0 (Or.inl rfl) rfl rfl (Nat.le_of_ble_eq_true rfl) ?_
  refine j_iload_n dX4_passHours_5 rfl ?_
  refine j_iconst (v := 1) dX4_passHours_6 (by decide) ?_
  refine j_bipush (v := 40) dX4_passHours_7 (by decide) ?_
  refine j_cS (As := [.int x, .int 1, .int 40]) (rest := []) cm_X4_isIn ct_X4_isIn ln_X4_41 dX4_passHours_9 (d' := 0) (by decide) rfl rfl (Nat.le_of_ble_eq_true rfl) (Nat.le_of_ble_eq_true rfl) (s_isIn_f x 1 40 (in_bad hx)) ?_
  refine j_if_ne_f (tgt := 21) dX4_passHours_12 (by decide) (by decide) ?_
  refine j_aload_n dX4_passHours_15 rfl ?_
  refine j_iconst (v := 1) dX4_passHours_16 (by decide) ?_
  refine j_cV (As := [.int 1]) (rest := []) cm_X4_no ci_X4_no cs_X4_no rfl ln_X4_84 (ci := 4) rfl dX4_passHours_17 (d' := 0) (by decide) (by omega) up_eq rfl rfl (Nat.le_of_ble_eq_true rfl) (Nat.le_of_ble_eq_true rfl) (s_X4_no (MR.setO D ⟨by omega, by omega, by omega, by omega, by omega, by omega, by omega⟩) 1) ?_
  refine j_E up_up ?_
  exact j_iret dX4_passHours_20 rfl (h _ ⟨(MR.setO D ⟨by omega, by omega, by omega, by omega, by omega, by omega, by omega⟩), (fun k hk => ((up_ne (by omega)).trans rfl))⟩)
set_option maxRecDepth 100000 in
set_option maxHeartbeats 4000000 in
theorem s_X4_mark_ok {g : jG} {n : Nat} {ad : Nat → Nat} {E : Nat → va_E} {th : Int32} {F S : Nat} {hrs su : Int32} {gone : Int64} {lv ed : Nat → Int32} {first cnt : Nat} {ah : Nat → Int32} {mc : Nat} {mk : Nat → Int32} (D : MR g n ad E th F S hrs su gone lv ed first cnt ah mc mk) (hc : mc < 12) : RetP g mX4_mark 2 [.ref (ad 63)] n ad E (some (.int (nI mc))) (fun E9 => MR g n ad E9 0 F S hrs su gone lv ed first cnt ah (mc + 1) (va_cpy lv mk 0 (128 * mc) 128) ∧ ∀ k, (k < 63 ∨ 69 ≤ k) → E9 k = E k) := by
  obtain ⟨m0, m1, m2, m3, m4, ⟨wk, m5⟩, hF, hS, hFp, hSp, hfi, hcn, hmc, hn⟩ := id D
  intro Φ Ψ h
  show J g mX4_mark 2 0 0 0 [some (.ref (ad 63))] [] n ad E Φ Ψ
  refine j_aload_n dX4_mark_0 rfl ?_
  refine j_iconst (v := 0) dX4_mark_1 (by decide) ?_
  refine j_put fl_X4_38 fp_X4 dX4_mark_2 (by omega) m0 (Or.inl rfl) rfl rfl (Nat.le_of_ble_eq_true rfl) ?_
  refine j_aload_n dX4_mark_5 rfl ?_
  refine j_get fl_X4_45 dX4_mark_6 (by omega) up_eq rfl ?_
  refine j_bipush (v := nI 12) dX4_mark_9 (by decide) ?_
  refine j_icmp_ne_t (tgt := 20) dX4_mark_11 (by decide) (nI_ne' (by omega) (by omega) (by omega)) ?_
  refine j_aload_n dX4_mark_20 rfl ?_
  refine j_get fl_X4_23 dX4_mark_21 (by omega) up_eq rfl ?_
  refine j_iconst (v := nI 0) dX4_mark_24 (by decide) ?_
  refine j_aload_n dX4_mark_25 rfl ?_
  refine j_get fl_X4_29 dX4_mark_26 (by omega) up_eq rfl ?_
  refine j_sipush (v := nI 128) dX4_mark_29 (by decide) ?_
  refine j_aload_n dX4_mark_32 rfl ?_
  refine j_get fl_X4_45 dX4_mark_33 (by omega) up_eq rfl ?_
  refine j_imul dX4_mark_36 ?_
  refine j_topi (y := nI (128 * mc)) (pk_mul _ _) ?_
  refine j_sipush (v := nI 128) dX4_mark_37 (by decide) ?_
  refine j_copy (sp := 0) (dp := 128 * mc) (cnt := 128) ln_X4_61 jn_copy js_copy iz_java_lang_System dX4_mark_40 (by decide) (Nat.le_of_ble_eq_true rfl) (by omega) ((up_ne (by decide)).trans m2) (by omega) ((up_ne (by decide)).trans m4) (by decide) (by decide) (by omega) (by omega) ?_
  refine j_aload_n dX4_mark_43 rfl ?_
  refine j_dup dX4_mark_44 rfl ?_
  refine j_get fl_X4_45 dX4_mark_45 (by omega) ((up_ne (by decide)).trans up_eq) rfl ?_
  refine j_iconst (v := nI 1) dX4_mark_48 (by decide) ?_
  refine j_iadd dX4_mark_49 ?_
  refine j_topi (y := nI (mc + 1)) (nI_add _ _) ?_
  refine j_put fl_X4_45 fp_X4 dX4_mark_50 (by omega) ((up_ne (by decide)).trans up_eq) (Or.inl rfl) rfl rfl (Nat.le_of_ble_eq_true rfl) ?_
  refine j_E (E' := va_up (va_up E 67 (aI g 1536 (va_cpy lv mk 0 (128 * mc) 128))) 63 (.inr (4, [.int 0, .int (nI F), .int (nI S), .int hrs, .int su, .long gone, .ref (ad 64), .ref (ad 65), .ref (ad 66), .int (nI first), .int (nI cnt), .ref (ad 67), .int (nI (mc + 1)), .ref (ad 68)]))) (by funext j9; simp only [va_up]; split <;> simp_all) ?_
  refine j_aload_n dX4_mark_53 rfl ?_
  refine j_get fl_X4_45 dX4_mark_54 (by omega) up_eq rfl ?_
  refine j_iconst (v := nI 1) dX4_mark_57 (by decide) ?_
  refine j_isub dX4_mark_58 ?_
  refine j_topi (y := nI mc) ((pk_sub (by omega)).trans (congrArg nI (Nat.add_sub_cancel mc 1))) ?_
  exact j_iret dX4_mark_59 rfl (h _ ⟨(MR.setO (MR.setMk D) ⟨by omega, by omega, by omega, by omega, by omega, by omega, by omega⟩), (fun k hk => ((up_ne (by omega)).trans ((up_ne (by omega)).trans rfl)))⟩)
set_option maxRecDepth 100000 in
set_option maxHeartbeats 4000000 in
theorem s_X4_mark_bad {g : jG} {n : Nat} {ad : Nat → Nat} {E : Nat → va_E} {th : Int32} {F S : Nat} {hrs su : Int32} {gone : Int64} {lv ed : Nat → Int32} {first cnt : Nat} {ah : Nat → Int32} {mc : Nat} {mk : Nat → Int32} (D : MR g n ad E th F S hrs su gone lv ed first cnt ah mc mk) (hc : mc = 12) : RetP g mX4_mark 2 [.ref (ad 63)] n ad E (some (.int 0)) (fun E9 => MR g n ad E9 1 F S hrs su gone lv ed first cnt ah mc mk ∧ ∀ k, (k < 63 ∨ 69 ≤ k) → E9 k = E k) := by
  obtain ⟨m0, m1, m2, m3, m4, ⟨wk, m5⟩, hF, hS, hFp, hSp, hfi, hcn, hmc, hn⟩ := id D
  intro Φ Ψ h
  show J g mX4_mark 2 0 0 0 [some (.ref (ad 63))] [] n ad E Φ Ψ
  refine j_aload_n dX4_mark_0 rfl ?_
  refine j_iconst (v := 0) dX4_mark_1 (by decide) ?_
  refine j_put fl_X4_38 fp_X4 dX4_mark_2 (by omega) m0 (Or.inl rfl) rfl rfl (Nat.le_of_ble_eq_true rfl) ?_
  refine j_aload_n dX4_mark_5 rfl ?_
  refine j_get fl_X4_45 dX4_mark_6 (by omega) up_eq rfl ?_
  refine j_bipush (v := nI 12) dX4_mark_9 (by decide) ?_
  refine j_icmp_ne_f (tgt := 20) dX4_mark_11 (by decide) (nI_eq' (by omega)) ?_
  refine j_aload_n dX4_mark_14 rfl ?_
  refine j_iconst (v := 1) dX4_mark_15 (by decide) ?_
  refine j_cV (As := [.int 1]) (rest := []) cm_X4_no ci_X4_no cs_X4_no rfl ln_X4_84 (ci := 4) rfl dX4_mark_16 (d' := 0) (by decide) (by omega) up_eq rfl rfl (Nat.le_of_ble_eq_true rfl) (Nat.le_of_ble_eq_true rfl) (s_X4_no (MR.setO D ⟨by omega, by omega, by omega, by omega, by omega, by omega, by omega⟩) 1) ?_
  refine j_E up_up ?_
  exact j_iret dX4_mark_19 rfl (h _ ⟨(MR.setO D ⟨by omega, by omega, by omega, by omega, by omega, by omega, by omega⟩), (fun k hk => ((up_ne (by omega)).trans rfl))⟩)
set_option maxRecDepth 100000 in
set_option maxHeartbeats 4000000 in
theorem s_X4_back_ok {g : jG} {n : Nat} {ad : Nat → Nat} {E : Nat → va_E} {th : Int32} {F S : Nat} {hrs su : Int32} {gone : Int64} {lv ed : Nat → Int32} {first cnt : Nat} {ah : Nat → Int32} {mc : Nat} {mk : Nat → Int32} (D : MR g n ad E th F S hrs su gone lv ed first cnt ah mc mk) (k9 : Nat) (hk9 : k9 < mc) : RetP g mX4_back 3 [.ref (ad 63), .int (nI k9)] n ad E (some (.int (chgC lv (fun k => mk (128 * k9 + k)) (F * S)))) (fun E9 => MR g n ad E9 0 F S hrs su gone (va_cpy mk lv (128 * k9) 0 128) ed (kOld first cnt) (kCnt cnt) (va_cpy lv ah 0 (128 * kSlot first cnt) 128) mc mk ∧ ∀ k, (k < 63 ∨ 69 ≤ k) → E9 k = E k) := by
  obtain ⟨m0, m1, m2, m3, m4, ⟨wk, m5⟩, hF, hS, hFp, hSp, hfi, hcn, hmc, hn⟩ := id D
  intro Φ Ψ h
  show J g mX4_back 3 0 0 0 [some (.ref (ad 63)), some (.int (nI k9))] [] n ad E Φ Ψ
  refine j_aload_n dX4_back_0 rfl ?_
  refine j_iconst (v := 0) dX4_back_1 (by decide) ?_
  refine j_put fl_X4_38 fp_X4 dX4_back_2 (by omega) m0 (Or.inl rfl) rfl rfl (Nat.le_of_ble_eq_true rfl) ?_
  refine j_aload_n dX4_back_5 rfl ?_
  refine j_iload_n dX4_back_6 rfl ?_
  refine j_cV (As := [.int (nI k9)]) (rest := []) cm_X4_isMark ci_X4_isMark cs_X4_isMark rfl ln_X4_108 (ci := 4) rfl dX4_back_7 (d' := 1) (by decide) (by omega) up_eq rfl rfl (Nat.le_of_ble_eq_true rfl) (Nat.le_of_ble_eq_true rfl) (s_isMark_t (MR.setO D ⟨by omega, by omega, by omega, by omega, by omega, by omega, by omega⟩) k9 hk9) ?_
  refine j_if_ne_t (tgt := 19) dX4_back_10 (by decide) (by decide) ?_
  refine j_aload_n dX4_back_19 rfl ?_
  refine j_cVp (As := []) (rest := []) cm_X4_keep ci_X4_keep cs_X4_keep rfl ln_X4_88 (ci := 4) rfl dX4_back_20 (d' := 2) (by decide) (by omega) up_eq rfl rfl (Nat.le_of_ble_eq_true rfl) (Nat.le_of_ble_eq_true rfl) (s_X4_keep (MR.setO D ⟨by omega, by omega, by omega, by omega, by omega, by omega, by omega⟩)) (fun E1 q1 => ?_)
  have D1 := q1.1
  have q1 : MR g n ad E1 0 F S hrs su gone lv ed (kOld first cnt) (kCnt cnt) (va_cpy lv ah 0 (128 * kSlot first cnt) 128) mc mk ∧ ∀ k, (k < 63 ∨ 69 ≤ k) → E1 k = E k := ⟨q1.1, fun k hk => (q1.2 k hk).trans ((fun k hk => ((up_ne (by omega)).trans rfl)) k hk)⟩
  obtain ⟨m01, m11, m21, m31, m41, ⟨wk1, m51⟩, hF1, hS1, hFp1, hSp1, hfi1, hcn1, hmc1, hn1⟩ := id D1
  show J g mX4_back 3 0 0 23 [some (.ref (ad 63)), some (.int (nI k9))] [] n ad E1 Φ Ψ
  refine j_aload_n dX4_back_23 rfl ?_
  refine j_aload_n dX4_back_24 rfl ?_
  refine j_get fl_X4_29 dX4_back_25 (by omega) m01 rfl ?_
  refine j_sipush (v := nI 128) dX4_back_28 (by decide) ?_
  refine j_iload_n dX4_back_31 rfl ?_
  refine j_imul dX4_back_32 ?_
  refine j_topi (y := nI (128 * k9)) (pk_mul _ _) ?_
  refine j_cV (As := [.ref (ad 67), .int (nI (128 * k9))]) (rest := []) cm_X4_bring ci_X4_bring cs_X4_bring rfl ln_X4_111 (ci := 4) rfl dX4_back_33 (d' := 2) (by decide) (by omega) m01 rfl rfl (Nat.le_of_ble_eq_true rfl) (Nat.le_of_ble_eq_true rfl) (s_bring_mk D1 (128 * k9) (by omega)) ?_
  exact j_iret dX4_back_36 rfl (h _ ⟨(MR.setLv D1), (fun k hk => ((up_ne (by omega)).trans (q1.2 k hk)))⟩)
set_option maxRecDepth 100000 in
set_option maxHeartbeats 4000000 in
theorem s_X4_back_bad {g : jG} {n : Nat} {ad : Nat → Nat} {E : Nat → va_E} {th : Int32} {F S : Nat} {hrs su : Int32} {gone : Int64} {lv ed : Nat → Int32} {first cnt : Nat} {ah : Nat → Int32} {mc : Nat} {mk : Nat → Int32} (D : MR g n ad E th F S hrs su gone lv ed first cnt ah mc mk) (x : Int32) (hx : oob x mc) : RetP g mX4_back 3 [.ref (ad 63), .int x] n ad E (some (.int 0)) (fun E9 => MR g n ad E9 1 F S hrs su gone lv ed first cnt ah mc mk ∧ ∀ k, (k < 63 ∨ 69 ≤ k) → E9 k = E k) := by
  obtain ⟨m0, m1, m2, m3, m4, ⟨wk, m5⟩, hF, hS, hFp, hSp, hfi, hcn, hmc, hn⟩ := id D
  intro Φ Ψ h
  show J g mX4_back 3 0 0 0 [some (.ref (ad 63)), some (.int x)] [] n ad E Φ Ψ
  refine j_aload_n dX4_back_0 rfl ?_
  refine j_iconst (v := 0) dX4_back_1 (by decide) ?_
  refine j_put fl_X4_38 fp_X4 dX4_back_2 (by omega) m0 (Or.inl rfl) rfl rfl (Nat.le_of_ble_eq_true rfl) ?_
  refine j_aload_n dX4_back_5 rfl ?_
  refine j_iload_n dX4_back_6 rfl ?_
  refine j_cV (As := [.int x]) (rest := []) cm_X4_isMark ci_X4_isMark cs_X4_isMark rfl ln_X4_108 (ci := 4) rfl dX4_back_7 (d' := 1) (by decide) (by omega) up_eq rfl rfl (Nat.le_of_ble_eq_true rfl) (Nat.le_of_ble_eq_true rfl) (s_isMark_f (MR.setO D ⟨by omega, by omega, by omega, by omega, by omega, by omega, by omega⟩) x hx) ?_
  refine j_if_ne_f (tgt := 19) dX4_back_10 (by decide) (by decide) ?_
  refine j_aload_n dX4_back_13 rfl ?_
  refine j_iconst (v := 1) dX4_back_14 (by decide) ?_
  refine j_cV (As := [.int 1]) (rest := []) cm_X4_no ci_X4_no cs_X4_no rfl ln_X4_84 (ci := 4) rfl dX4_back_15 (d' := 0) (by decide) (by omega) up_eq rfl rfl (Nat.le_of_ble_eq_true rfl) (Nat.le_of_ble_eq_true rfl) (s_X4_no (MR.setO D ⟨by omega, by omega, by omega, by omega, by omega, by omega, by omega⟩) 1) ?_
  refine j_E up_up ?_
  exact j_iret dX4_back_18 rfl (h _ ⟨(MR.setO D ⟨by omega, by omega, by omega, by omega, by omega, by omega, by omega⟩), (fun k hk => ((up_ne (by omega)).trans rfl))⟩)
set_option maxRecDepth 100000 in
set_option maxHeartbeats 4000000 in
theorem s_X4_undo_ok {g : jG} {n : Nat} {ad : Nat → Nat} {E : Nat → va_E} {th : Int32} {F S : Nat} {hrs su : Int32} {gone : Int64} {lv ed : Nat → Int32} {first cnt : Nat} {ah : Nat → Int32} {mc : Nat} {mk : Nat → Int32} (D : MR g n ad E th F S hrs su gone lv ed first cnt ah mc mk) (hc : 1 ≤ cnt) : RetP g mX4_undo 3 [.ref (ad 63)] n ad E (some (.int (chgC lv (fun k => ah (128 * slot first (cnt - 1) 30 + k)) (F * S)))) (fun E9 => MR g n ad E9 0 F S hrs su gone (va_cpy ah lv (128 * slot first (cnt - 1) 30) 0 128) ed first (cnt - 1) ah mc mk ∧ ∀ k, (k < 63 ∨ 69 ≤ k) → E9 k = E k) := by
  obtain ⟨m0, m1, m2, m3, m4, ⟨wk, m5⟩, hF, hS, hFp, hSp, hfi, hcn, hmc, hn⟩ := id D
  have hsl : slot first (cnt - 1) 30 < 30 := slot_lt hfi (by omega)
  intro Φ Ψ h
  show J g mX4_undo 3 0 0 0 [some (.ref (ad 63))] [] n ad E Φ Ψ
  refine j_aload_n dX4_undo_0 rfl ?_
  refine j_iconst (v := 0) dX4_undo_1 (by decide) ?_
  refine j_put fl_X4_38 fp_X4 dX4_undo_2 (by omega) m0 (Or.inl rfl) rfl rfl (Nat.le_of_ble_eq_true rfl) ?_
  refine j_aload_n dX4_undo_5 rfl ?_
  refine j_get fl_X4_55 dX4_undo_6 (by omega) up_eq rfl ?_
  refine j_if_ne_t (tgt := 18) dX4_undo_9 (by decide) (nI_ne0 (by omega) (by omega)) ?_
  refine j_aload_n dX4_undo_18 rfl ?_
  refine j_dup dX4_undo_19 rfl ?_
  refine j_get fl_X4_55 dX4_undo_20 (by omega) up_eq rfl ?_
  refine j_iconst (v := nI 1) dX4_undo_23 (by decide) ?_
  refine j_isub dX4_undo_24 ?_
  refine j_topi (y := nI (cnt - 1)) (pk_sub (by omega)) ?_
  refine j_put fl_X4_55 fp_X4 dX4_undo_25 (by omega) up_eq (Or.inl rfl) rfl rfl (Nat.le_of_ble_eq_true rfl) ?_
  refine j_E up_up ?_
  refine j_aload_n dX4_undo_28 rfl ?_
  refine j_aload_n dX4_undo_29 rfl ?_
  refine j_get fl_X4_26 dX4_undo_30 (by omega) up_eq rfl ?_
  refine j_sipush (v := nI 128) dX4_undo_33 (by decide) ?_
  refine j_aload_n dX4_undo_36 rfl ?_
  refine j_get fl_X4_58 dX4_undo_37 (by omega) up_eq rfl ?_
  refine j_aload_n dX4_undo_40 rfl ?_
  refine j_get fl_X4_55 dX4_undo_41 (by omega) up_eq rfl ?_
  refine j_iadd dX4_undo_44 ?_
  refine j_topi (y := nI (first + (cnt - 1))) (nI_add _ _) ?_
  refine j_bipush (v := nI 30) dX4_undo_45 (by decide) ?_
  refine j_irem dX4_undo_47 (nI_ne0 (by omega) (by omega)) ?_
  refine j_topi (y := nI ((first + (cnt - 1)) % 30)) (pk_rem (by omega) (by omega) (by omega)) ?_
  refine j_topi (y := nI (slot first (cnt - 1) 30)) (congrArg nI (slot_mod hfi (by omega))) ?_
  refine j_imul dX4_undo_48 ?_
  refine j_topi (y := nI (128 * (slot first (cnt - 1) 30))) (pk_mul _ _) ?_
  refine j_cV (As := [.ref (ad 66), .int (nI (128 * (slot first (cnt - 1) 30)))]) (rest := []) cm_X4_bring ci_X4_bring cs_X4_bring rfl ln_X4_111 (ci := 4) rfl dX4_undo_49 (d' := 2) (by decide) (by omega) up_eq rfl rfl (Nat.le_of_ble_eq_true rfl) (Nat.le_of_ble_eq_true rfl) (s_bring_ah (MR.setO D ⟨by omega, by omega, by omega, by omega, by omega, by omega, by omega⟩) (128 * (slot first (cnt - 1) 30)) (by omega)) ?_
  exact j_iret dX4_undo_52 rfl (h _ ⟨(MR.setLv (MR.setO D ⟨by omega, by omega, by omega, by omega, by omega, by omega, by omega⟩)), (fun k hk => ((up_ne (by omega)).trans ((up_ne (by omega)).trans rfl)))⟩)
set_option maxRecDepth 100000 in
set_option maxHeartbeats 4000000 in
theorem s_X4_undo_bad {g : jG} {n : Nat} {ad : Nat → Nat} {E : Nat → va_E} {th : Int32} {F S : Nat} {hrs su : Int32} {gone : Int64} {lv ed : Nat → Int32} {first cnt : Nat} {ah : Nat → Int32} {mc : Nat} {mk : Nat → Int32} (D : MR g n ad E th F S hrs su gone lv ed first cnt ah mc mk) (hc : cnt = 0) : RetP g mX4_undo 3 [.ref (ad 63)] n ad E (some (.int 0)) (fun E9 => MR g n ad E9 1 F S hrs su gone lv ed first cnt ah mc mk ∧ ∀ k, (k < 63 ∨ 69 ≤ k) → E9 k = E k) := by
  obtain ⟨m0, m1, m2, m3, m4, ⟨wk, m5⟩, hF, hS, hFp, hSp, hfi, hcn, hmc, hn⟩ := id D
  intro Φ Ψ h
  show J g mX4_undo 3 0 0 0 [some (.ref (ad 63))] [] n ad E Φ Ψ
  refine j_aload_n dX4_undo_0 rfl ?_
  refine j_iconst (v := 0) dX4_undo_1 (by decide) ?_
  refine j_put fl_X4_38 fp_X4 dX4_undo_2 (by omega) m0 (Or.inl rfl) rfl rfl (Nat.le_of_ble_eq_true rfl) ?_
  refine j_aload_n dX4_undo_5 rfl ?_
  refine j_get fl_X4_55 dX4_undo_6 (by omega) up_eq rfl ?_
  refine j_if_ne_f (tgt := 18) dX4_undo_9 (by decide) (by rw [hc] <;> rfl) ?_
  refine j_aload_n dX4_undo_12 rfl ?_
  refine j_iconst (v := 1) dX4_undo_13 (by decide) ?_
  refine j_cV (As := [.int 1]) (rest := []) cm_X4_no ci_X4_no cs_X4_no rfl ln_X4_84 (ci := 4) rfl dX4_undo_14 (d' := 0) (by decide) (by omega) up_eq rfl rfl (Nat.le_of_ble_eq_true rfl) (Nat.le_of_ble_eq_true rfl) (s_X4_no (MR.setO D ⟨by omega, by omega, by omega, by omega, by omega, by omega, by omega⟩) 1) ?_
  refine j_E up_up ?_
  exact j_iret dX4_undo_17 rfl (h _ ⟨(MR.setO D ⟨by omega, by omega, by omega, by omega, by omega, by omega, by omega⟩), (fun k hk => ((up_ne (by omega)).trans rfl))⟩)
set_option maxRecDepth 100000 in
set_option maxHeartbeats 4000000 in
theorem s_X4_setSun_ok {g : jG} {n : Nat} {ad : Nat → Nat} {E : Nat → va_E} {th : Int32} {F S : Nat} {hrs su : Int32} {gone : Int64} {lv ed : Nat → Int32} {first cnt : Nat} {ah : Nat → Int32} {mc : Nat} {mk : Nat → Int32} (D : MR g n ad E th F S hrs su gone lv ed first cnt ah mc mk) (x : Int32) (hx1 : ¬ x < 0) (hx2 : x ≤ 9) : RetP g mX4_setSun 1 [.ref (ad 63), .int x] n ad E (some (.int su)) (fun E9 => MR g n ad E9 0 F S hrs x gone lv ed first cnt ah mc mk ∧ ∀ k, (k < 63 ∨ 69 ≤ k) → E9 k = E k) := by
  obtain ⟨m0, m1, m2, m3, m4, ⟨wk, m5⟩, hF, hS, hFp, hSp, hfi, hcn, hmc, hn⟩ := id D
  intro Φ Ψ h
  show J g mX4_setSun 1 0 0 0 [some (.ref (ad 63)), some (.int x), none] [] n ad E Φ Ψ
  refine j_aload_n dX4_setSun_0 rfl ?_
  refine j_iconst (v := 0) dX4_setSun_1 (by decide) ?_
  refine j_put fl_X4_38 fp_X4 dX4_setSun_2 (by omega) m0 (Or.inl rfl) rfl rfl (Nat.le_of_ble_eq_true rfl) ?_
  refine j_iload_n dX4_setSun_5 rfl ?_
  refine j_iconst (v := 0) dX4_setSun_6 (by decide) ?_
  refine j_bipush (v := 9) dX4_setSun_7 (by decide) ?_
  refine j_cS (As := [.int x, .int 0, .int 9]) (rest := []) cm_X4_isIn ct_X4_isIn ln_X4_41 dX4_setSun_9 (d' := 0) (by decide) rfl rfl (Nat.le_of_ble_eq_true rfl) (Nat.le_of_ble_eq_true rfl) (s_isIn_t x 0 9 hx1 (nlt_le hx2)) ?_
  refine j_if_ne_t (tgt := 21) dX4_setSun_12 (by decide) (by decide) ?_
  refine j_aload_n dX4_setSun_21 rfl ?_
  refine j_get fl_X4_16 dX4_setSun_22 (by omega) up_eq rfl ?_
  refine j_istore_n (L' := [some (.ref (ad 63)), some (.int x), some (.int su)]) dX4_setSun_25 (by decide) rfl rfl ?_
  refine j_aload_n dX4_setSun_26 rfl ?_
  refine j_iload_n dX4_setSun_27 rfl ?_
  refine j_put fl_X4_16 fp_X4 dX4_setSun_28 (by omega) up_eq (Or.inl rfl) rfl rfl (Nat.le_of_ble_eq_true rfl) ?_
  refine j_E up_up ?_
  refine j_iload_n dX4_setSun_31 rfl ?_
  exact j_iret dX4_setSun_32 rfl (h _ ⟨(MR.setO D ⟨by omega, by omega, by omega, by omega, by omega, by omega, by omega⟩), (fun k hk => ((up_ne (by omega)).trans rfl))⟩)
set_option maxRecDepth 100000 in
set_option maxHeartbeats 4000000 in
theorem s_X4_setSun_bad {g : jG} {n : Nat} {ad : Nat → Nat} {E : Nat → va_E} {th : Int32} {F S : Nat} {hrs su : Int32} {gone : Int64} {lv ed : Nat → Int32} {first cnt : Nat} {ah : Nat → Int32} {mc : Nat} {mk : Nat → Int32} (D : MR g n ad E th F S hrs su gone lv ed first cnt ah mc mk) (x : Int32) (hx : x < 0 ∨ ¬ x ≤ 9) : RetP g mX4_setSun 1 [.ref (ad 63), .int x] n ad E (some (.int 0)) (fun E9 => MR g n ad E9 1 F S hrs su gone lv ed first cnt ah mc mk ∧ ∀ k, (k < 63 ∨ 69 ≤ k) → E9 k = E k) := by
  obtain ⟨m0, m1, m2, m3, m4, ⟨wk, m5⟩, hF, hS, hFp, hSp, hfi, hcn, hmc, hn⟩ := id D
  intro Φ Ψ h
  show J g mX4_setSun 1 0 0 0 [some (.ref (ad 63)), some (.int x), none] [] n ad E Φ Ψ
  refine j_aload_n dX4_setSun_0 rfl ?_
  refine j_iconst (v := 0) dX4_setSun_1 (by decide) ?_
  refine j_put fl_X4_38 fp_X4 dX4_setSun_2 (by omega) m0 (Or.inl rfl) rfl rfl (Nat.le_of_ble_eq_true rfl) ?_
  refine j_iload_n dX4_setSun_5 rfl ?_
  refine j_iconst (v := 0) dX4_setSun_6 (by decide) ?_
  refine j_bipush (v := 9) dX4_setSun_7 (by decide) ?_
  refine j_cS (As := [.int x, .int 0, .int 9]) (rest := []) cm_X4_isIn ct_X4_isIn ln_X4_41 dX4_setSun_9 (d' := 0) (by decide) rfl rfl (Nat.le_of_ble_eq_true rfl) (Nat.le_of_ble_eq_true rfl) (s_isIn_f x 0 9 (in_bad hx)) ?_
  refine j_if_ne_f (tgt := 21) dX4_setSun_12 (by decide) (by decide) ?_
  refine j_aload_n dX4_setSun_15 rfl ?_
  refine j_iconst (v := 1) dX4_setSun_16 (by decide) ?_
  refine j_cV (As := [.int 1]) (rest := []) cm_X4_no ci_X4_no cs_X4_no rfl ln_X4_84 (ci := 4) rfl dX4_setSun_17 (d' := 0) (by decide) (by omega) up_eq rfl rfl (Nat.le_of_ble_eq_true rfl) (Nat.le_of_ble_eq_true rfl) (s_X4_no (MR.setO D ⟨by omega, by omega, by omega, by omega, by omega, by omega, by omega⟩) 1) ?_
  refine j_E up_up ?_
  exact j_iret dX4_setSun_20 rfl (h _ ⟨(MR.setO D ⟨by omega, by omega, by omega, by omega, by omega, by omega, by omega⟩), (fun k hk => ((up_ne (by omega)).trans rfl))⟩)
set_option maxRecDepth 100000 in
set_option maxHeartbeats 4000000 in
theorem s_X4_setEdge_ok {g : jG} {n : Nat} {ad : Nat → Nat} {E : Nat → va_E} {th : Int32} {F S : Nat} {hrs su : Int32} {gone : Int64} {lv ed : Nat → Int32} {first cnt : Nat} {ah : Nat → Int32} {mc : Nat} {mk : Nat → Int32} (D : MR g n ad E th F S hrs su gone lv ed first cnt ah mc mk) (b : Nat) (hb : b < S) (x : Int32) (hx1 : ¬ x < 0) (hx2 : x ≤ 999) : RetP g mX4_setEdge 2 [.ref (ad 63), .int (nI b), .int x] n ad E (some (.int (ed b))) (fun E9 => MR g n ad E9 0 F S hrs su gone lv (upd ed b x) first cnt ah mc mk ∧ ∀ k, (k < 63 ∨ 69 ≤ k) → E9 k = E k) := by
  obtain ⟨m0, m1, m2, m3, m4, ⟨wk, m5⟩, hF, hS, hFp, hSp, hfi, hcn, hmc, hn⟩ := id D
  intro Φ Ψ h
  show J g mX4_setEdge 2 0 0 0 [some (.ref (ad 63)), some (.int (nI b)), some (.int x), none] [] n ad E Φ Ψ
  refine j_aload_n dX4_setEdge_0 rfl ?_
  refine j_iconst (v := 0) dX4_setEdge_1 (by decide) ?_
  refine j_put fl_X4_38 fp_X4 dX4_setEdge_2 (by omega) m0 (Or.inl rfl) rfl rfl (Nat.le_of_ble_eq_true rfl) ?_
  refine j_aload_n dX4_setEdge_5 rfl ?_
  refine j_iload_n dX4_setEdge_6 rfl ?_
  refine j_cV (As := [.int (nI b)]) (rest := []) cm_X4_isStep ci_X4_isStep cs_X4_isStep rfl ln_X4_52 (ci := 4) rfl dX4_setEdge_7 (d' := 1) (by decide) (by omega) up_eq rfl rfl (Nat.le_of_ble_eq_true rfl) (Nat.le_of_ble_eq_true rfl) (s_isStep_t (MR.setO D ⟨by omega, by omega, by omega, by omega, by omega, by omega, by omega⟩) b hb) ?_
  refine j_if_ne_t (tgt := 19) dX4_setEdge_10 (by decide) (by decide) ?_
  refine j_iload_n dX4_setEdge_19 rfl ?_
  refine j_iconst (v := 0) dX4_setEdge_20 (by decide) ?_
  refine j_sipush (v := 999) dX4_setEdge_21 (by decide) ?_
  refine j_cS (As := [.int x, .int 0, .int 999]) (rest := []) cm_X4_isIn ct_X4_isIn ln_X4_41 dX4_setEdge_24 (d' := 0) (by decide) rfl rfl (Nat.le_of_ble_eq_true rfl) (Nat.le_of_ble_eq_true rfl) (s_isIn_t x 0 999 hx1 (nlt_le hx2)) ?_
  refine j_if_ne_t (tgt := 36) dX4_setEdge_27 (by decide) (by decide) ?_
  refine j_aload_n dX4_setEdge_36 rfl ?_
  refine j_get fl_X4_19 dX4_setEdge_37 (by omega) up_eq rfl ?_
  refine j_iload_n dX4_setEdge_40 rfl ?_
  refine j_iald dX4_setEdge_41 (by omega) ((up_ne (by decide)).trans m1) (by decide) (by omega) rfl ?_
  refine j_istore_n (L' := [some (.ref (ad 63)), some (.int (nI b)), some (.int x), some (.int (ed b))]) dX4_setEdge_42 (by decide) rfl rfl ?_
  refine j_aload_n dX4_setEdge_43 rfl ?_
  refine j_get fl_X4_19 dX4_setEdge_44 (by omega) up_eq rfl ?_
  refine j_iload_n dX4_setEdge_47 rfl ?_
  refine j_iload_n dX4_setEdge_48 rfl ?_
  refine j_iast (j := b) dX4_setEdge_49 (by omega) ((up_ne (by decide)).trans m1) (by decide) (by omega) ?_
  refine j_iload_n dX4_setEdge_50 rfl ?_
  exact j_iret dX4_setEdge_51 rfl (h _ ⟨(MR.setEd (MR.setO D ⟨by omega, by omega, by omega, by omega, by omega, by omega, by omega⟩)), (fun k hk => ((up_ne (by omega)).trans ((up_ne (by omega)).trans rfl)))⟩)
set_option maxRecDepth 100000 in
set_option maxHeartbeats 4000000 in
theorem s_X4_setEdge_bad {g : jG} {n : Nat} {ad : Nat → Nat} {E : Nat → va_E} {th : Int32} {F S : Nat} {hrs su : Int32} {gone : Int64} {lv ed : Nat → Int32} {first cnt : Nat} {ah : Nat → Int32} {mc : Nat} {mk : Nat → Int32} (D : MR g n ad E th F S hrs su gone lv ed first cnt ah mc mk) (x : Int32) (y : Int32) (hx : oob x S) : RetP g mX4_setEdge 2 [.ref (ad 63), .int x, .int y] n ad E (some (.int 0)) (fun E9 => MR g n ad E9 1 F S hrs su gone lv ed first cnt ah mc mk ∧ ∀ k, (k < 63 ∨ 69 ≤ k) → E9 k = E k) := by
  obtain ⟨m0, m1, m2, m3, m4, ⟨wk, m5⟩, hF, hS, hFp, hSp, hfi, hcn, hmc, hn⟩ := id D
  intro Φ Ψ h
  show J g mX4_setEdge 2 0 0 0 [some (.ref (ad 63)), some (.int x), some (.int y), none] [] n ad E Φ Ψ
  refine j_aload_n dX4_setEdge_0 rfl ?_
  refine j_iconst (v := 0) dX4_setEdge_1 (by decide) ?_
  refine j_put fl_X4_38 fp_X4 dX4_setEdge_2 (by omega) m0 (Or.inl rfl) rfl rfl (Nat.le_of_ble_eq_true rfl) ?_
  refine j_aload_n dX4_setEdge_5 rfl ?_
  refine j_iload_n dX4_setEdge_6 rfl ?_
  refine j_cV (As := [.int x]) (rest := []) cm_X4_isStep ci_X4_isStep cs_X4_isStep rfl ln_X4_52 (ci := 4) rfl dX4_setEdge_7 (d' := 1) (by decide) (by omega) up_eq rfl rfl (Nat.le_of_ble_eq_true rfl) (Nat.le_of_ble_eq_true rfl) (s_isStep_f (MR.setO D ⟨by omega, by omega, by omega, by omega, by omega, by omega, by omega⟩) x hx) ?_
  refine j_if_ne_f (tgt := 19) dX4_setEdge_10 (by decide) (by decide) ?_
  refine j_aload_n dX4_setEdge_13 rfl ?_
  refine j_iconst (v := 1) dX4_setEdge_14 (by decide) ?_
  refine j_cV (As := [.int 1]) (rest := []) cm_X4_no ci_X4_no cs_X4_no rfl ln_X4_84 (ci := 4) rfl dX4_setEdge_15 (d' := 0) (by decide) (by omega) up_eq rfl rfl (Nat.le_of_ble_eq_true rfl) (Nat.le_of_ble_eq_true rfl) (s_X4_no (MR.setO D ⟨by omega, by omega, by omega, by omega, by omega, by omega, by omega⟩) 1) ?_
  refine j_E up_up ?_
  exact j_iret dX4_setEdge_18 rfl (h _ ⟨(MR.setO D ⟨by omega, by omega, by omega, by omega, by omega, by omega, by omega⟩), (fun k hk => ((up_ne (by omega)).trans rfl))⟩)
set_option maxRecDepth 100000 in
set_option maxHeartbeats 4000000 in
theorem s_X4_setEdge_iae {g : jG} {n : Nat} {ad : Nat → Nat} {E : Nat → va_E} {th : Int32} {F S : Nat} {hrs su : Int32} {gone : Int64} {lv ed : Nat → Int32} {first cnt : Nat} {ah : Nat → Int32} {mc : Nat} {mk : Nat → Int32} (D : MR g n ad E th F S hrs su gone lv ed first cnt ah mc mk) (b : Nat) (hb : b < S) (x : Int32) (hx : x < 0 ∨ ¬ x ≤ 999) : RetP g mX4_setEdge 2 [.ref (ad 63), .int (nI b), .int x] n ad E (some (.int 0)) (fun E9 => MR g n ad E9 2 F S hrs su gone lv ed first cnt ah mc mk ∧ ∀ k, (k < 63 ∨ 69 ≤ k) → E9 k = E k) := by
  obtain ⟨m0, m1, m2, m3, m4, ⟨wk, m5⟩, hF, hS, hFp, hSp, hfi, hcn, hmc, hn⟩ := id D
  intro Φ Ψ h
  show J g mX4_setEdge 2 0 0 0 [some (.ref (ad 63)), some (.int (nI b)), some (.int x), none] [] n ad E Φ Ψ
  refine j_aload_n dX4_setEdge_0 rfl ?_
  refine j_iconst (v := 0) dX4_setEdge_1 (by decide) ?_
  refine j_put fl_X4_38 fp_X4 dX4_setEdge_2 (by omega) m0 (Or.inl rfl) rfl rfl (Nat.le_of_ble_eq_true rfl) ?_
  refine j_aload_n dX4_setEdge_5 rfl ?_
  refine j_iload_n dX4_setEdge_6 rfl ?_
  refine j_cV (As := [.int (nI b)]) (rest := []) cm_X4_isStep ci_X4_isStep cs_X4_isStep rfl ln_X4_52 (ci := 4) rfl dX4_setEdge_7 (d' := 1) (by decide) (by omega) up_eq rfl rfl (Nat.le_of_ble_eq_true rfl) (Nat.le_of_ble_eq_true rfl) (s_isStep_t (MR.setO D ⟨by omega, by omega, by omega, by omega, by omega, by omega, by omega⟩) b hb) ?_
  refine j_if_ne_t (tgt := 19) dX4_setEdge_10 (by decide) (by decide) ?_
  refine j_iload_n dX4_setEdge_19 rfl ?_
  refine j_iconst (v := 0) dX4_setEdge_20 (by decide) ?_
  refine j_sipush (v := 999) dX4_setEdge_21 (by decide) ?_
  refine j_cS (As := [.int x, .int 0, .int 999]) (rest := []) cm_X4_isIn ct_X4_isIn ln_X4_41 dX4_setEdge_24 (d' := 0) (by decide) rfl rfl (Nat.le_of_ble_eq_true rfl) (Nat.le_of_ble_eq_true rfl) (s_isIn_f x 0 999 (in_bad hx)) ?_
  refine j_if_ne_f (tgt := 36) dX4_setEdge_27 (by decide) (by decide) ?_
  refine j_aload_n dX4_setEdge_30 rfl ?_
  refine j_iconst (v := 2) dX4_setEdge_31 (by decide) ?_
  refine j_cV (As := [.int 2]) (rest := []) cm_X4_no ci_X4_no cs_X4_no rfl ln_X4_84 (ci := 4) rfl dX4_setEdge_32 (d' := 0) (by decide) (by omega) up_eq rfl rfl (Nat.le_of_ble_eq_true rfl) (Nat.le_of_ble_eq_true rfl) (s_X4_no (MR.setO D ⟨by omega, by omega, by omega, by omega, by omega, by omega, by omega⟩) 2) ?_
  refine j_E up_up ?_
  exact j_iret dX4_setEdge_35 rfl (h _ ⟨(MR.setO D ⟨by omega, by omega, by omega, by omega, by omega, by omega, by omega⟩), (fun k hk => ((up_ne (by omega)).trans rfl))⟩)
