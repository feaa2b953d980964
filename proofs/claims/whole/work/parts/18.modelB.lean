/-! The model: its deeds and what it says would be. -/
theorem nlt_le {x y : Int32} (h : x ≤ y) : ¬ y < x := by
  rw [Int32.lt_iff_toInt_lt]
  rw [Int32.le_iff_toInt_le] at h
  omega
theorem lt_nle {x y : Int32} (h : ¬ x ≤ y) : y < x := by
  rw [Int32.lt_iff_toInt_lt]
  rw [Int32.le_iff_toInt_le] at h
  omega
theorem in_bad {x a b : Int32} (h : x < a ∨ ¬ x ≤ b) : x < a ∨ b < x := h.imp id lt_nle
theorem lk_at {lv wk : Nat → Int32} {k : Nat} (h : k < 128) : va_cpy lv wk 0 0 128 k = lv k := by
  unfold va_cpy
  rw [if_pos (by omega)]
  congr 1
  omega
theorem first_wet {f : Nat → Int32} : ∀ M, (∃ k, k < M ∧ 0 < f k) → ∃ k, k < M ∧ 0 < f k ∧ ∀ j, j < k → ¬ 0 < f j
  | 0, ⟨k, h, _⟩ => absurd h (Nat.not_lt_zero k)
  | M + 1, h => by
    by_cases q : ∃ k, k < M ∧ 0 < f k
    · obtain ⟨k, h1, h2⟩ := first_wet M q
      exact ⟨k, by omega, h2⟩
    · obtain ⟨k, h1, h2⟩ := h
      have e : k = M := Decidable.byContradiction (fun e => q ⟨k, by omega, h2⟩)
      subst e
      exact ⟨k, h1, h2, fun j hj hw => q ⟨j, hj, hw⟩⟩
theorem wet_ex {f : Nat → Int32} {N : Nat} (hN : N < 2 ^ 31) (h : ¬ uptC f N 0 = nI N) : ∃ k, k < N ∧ 0 < f k ∧ ∀ j, j < k → ¬ 0 < f j := by
  refine first_wet N (Decidable.byContradiction (fun q => h ((allDry_iff hN).mpr (fun k hk hw => q ⟨k, hk, hw⟩))))
theorem slot_mod {a c : Nat} (h1 : a < 30) (h2 : c ≤ 30) : (a + c) % 30 = slot a c 30 := by
  unfold slot
  split <;> omega
theorem k_lo {a c : Nat} (h : c < 30) (h1 : a < 30) : kOld a c = a ∧ kCnt c = c + 1 ∧ kSlot a c = (a + c) % 30 := ⟨if_pos h, if_pos h, (if_pos h).trans (slot_mod h1 (by omega)).symm⟩
theorem k_hi {a c : Nat} (h : ¬ c < 30) (h1 : a < 30) (h2 : c ≤ 30) : kOld a c = (a + 1) % 30 ∧ kCnt c = c - 1 + 1 ∧ kSlot a c = ((a + 1) % 30 + (c - 1)) % 30 := by
  refine ⟨(if_neg h).trans ?_, (if_neg h).trans (by omega), (if_neg h).trans (by omega)⟩
  split <;> omega
theorem nI_nle0 {k : Nat} (h : 0 < k) (hk : k < 2 ^ 31) : ¬ nI k ≤ 0 := by
  rw [Int32.le_iff_toInt_le, nI_toInt hk]
  have : (0 : Int32).toInt = 0 := by decide
  omega
theorem nI_le0 {k : Nat} (h : k = 0) : nI k ≤ 0 := by
  subst h
  decide
theorem upd_upd {f : Nat → Int32} {k : Nat} {x y : Int32} : upd (upd f k x) k y = upd f k y := by
  funext j
  unfold upd
  split <;> rfl
theorem upd_back {f : Nat → Int32} {k : Nat} {x : Int32} : upd (upd f k x) k (f k) = f := by
  funext j
  unfold upd
  by_cases h : j = k
  · rw [if_pos h, h]
  · rw [if_neg h, if_neg h]
set_option maxRecDepth 100000 in
set_option maxHeartbeats 4000000 in
theorem s_X4_anew {g : jG} {n : Nat} {ad : Nat → Nat} {E : Nat → va_E} {th : Int32} {F S : Nat} {hrs su : Int32} {gone : Int64} {lv ed : Nat → Int32} {first cnt : Nat} {ah : Nat → Int32} {mc : Nat} {mk : Nat → Int32} (D : MR g n ad E th F S hrs su gone lv ed first cnt ah mc mk) : RetP g mX4_anew 0 [.ref (ad 63)] n ad E none (fun E9 => MR g n ad E9 th F S hrs su gone (cpyN (fun _ => 0) lv 128) (cpyN (fun _ => 50) ed 16) 0 0 ah 0 mk ∧ ∀ k, (k < 63 ∨ 69 ≤ k) → E9 k = E k) := by
  obtain ⟨m0, m1, m2, m3, m4, ⟨wk, m5⟩, hF, hS, hFp, hSp, hfi, hcn, hmc, hn⟩ := id D
  intro Φ Ψ h
  show J g mX4_anew 0 0 0 0 [some (.ref (ad 63)), none] [] n ad E Φ Ψ
  refine j_iconst (v := nI 0) dX4_anew_0 (by decide) ?_
  refine j_istore_n (L' := [some (.ref (ad 63)), some (.int (nI 0))]) dX4_anew_1 (by decide) rfl rfl ?_
  refine j_E (E' := va_up E 65 (aI g 128 (cpyN (fun _ => 0) lv 0))) (up_self m2).symm ?_
  refine up_ind (P := fun (j : Nat) => J g mX4_anew 0 0 0 2 [some (.ref (ad 63)), some (.int (nI j))] [] n ad (va_up E 65 (aI g 128 (cpyN (fun _ => 0) lv j))) Φ Ψ) (N := 128) 0 ?_ 128 (by omega) ?_
  · intro j hj0 hj ih
    show J g mX4_anew 0 0 0 2 [some (.ref (ad 63)), some (.int (nI j))] [] n ad (va_up E 65 (aI g 128 (cpyN (fun _ => 0) lv j))) Φ Ψ
    refine j_iload_n dX4_anew_2 rfl ?_
    refine j_sipush (v := nI 128) dX4_anew_3 (by decide) ?_
    refine j_icmp_ge_f (tgt := 22) dX4_anew_6 (by decide) (nI_nle' (by omega) (by omega) (by omega)) ?_
    refine j_aload_n dX4_anew_9 rfl ?_
    refine j_get fl_X4_23 dX4_anew_10 (by omega) ((up_ne (by decide)).trans m0) rfl ?_
    refine j_iload_n dX4_anew_13 rfl ?_
    refine j_iconst (v := 0) dX4_anew_14 (by decide) ?_
    refine j_iast (j := j) dX4_anew_15 (by omega) up_eq (by decide) (by omega) ?_
    refine j_E up_up ?_
    refine j_iinc (v := nI (j + 1)) (L' := [some (.ref (ad 63)), some (.int (nI (j + 1)))]) dX4_anew_16 (by decide) rfl (nI_1 _) rfl rfl ?_
    refine j_goto (tgt := 2) dX4_anew_19 (by decide) ?_
    exact j_E (congrArg (fun f => va_up E 65 (aI g 128 f)) (cpyN_step (fun _ => 0) lv j)) ih
  · skip
    show J g mX4_anew 0 0 0 2 [some (.ref (ad 63)), some (.int (nI 128))] [] n ad (va_up E 65 (aI g 128 (cpyN (fun _ => 0) lv 128))) Φ Ψ
    refine j_iload_n dX4_anew_2 rfl ?_
    refine j_sipush (v := nI 128) dX4_anew_3 (by decide) ?_
    refine j_icmp_ge_t (tgt := 22) dX4_anew_6 (by decide) (nI_le' (by omega) (by omega) (by omega)) ?_
    refine j_iconst (v := nI 0) dX4_anew_22 (by decide) ?_
    refine j_istore_n (L' := [some (.ref (ad 63)), some (.int (nI 0))]) dX4_anew_23 (by decide) rfl rfl ?_
    refine j_E (E' := va_up (va_up E 65 (aI g 128 (cpyN (fun _ => 0) lv 128))) 64 (aI g 16 (cpyN (fun _ => 50) ed 0))) (up_self ((up_ne (by decide)).trans m1)).symm ?_
    refine up_ind (P := fun (j : Nat) => J g mX4_anew 0 0 0 24 [some (.ref (ad 63)), some (.int (nI j))] [] n ad (va_up (va_up E 65 (aI g 128 (cpyN (fun _ => 0) lv 128))) 64 (aI g 16 (cpyN (fun _ => 50) ed j))) Φ Ψ) (N := 16) 0 ?_ 16 (by omega) ?_
    · intro j hj0 hj ih
      show J g mX4_anew 0 0 0 24 [some (.ref (ad 63)), some (.int (nI j))] [] n ad (va_up (va_up E 65 (aI g 128 (cpyN (fun _ => 0) lv 128))) 64 (aI g 16 (cpyN (fun _ => 50) ed j))) Φ Ψ
      refine j_iload_n dX4_anew_24 rfl ?_
      refine j_bipush (v := nI 16) dX4_anew_25 (by decide) ?_
      refine j_icmp_ge_f (tgt := 44) dX4_anew_27 (by decide) (nI_nle' (by omega) (by omega) (by omega)) ?_
      refine j_aload_n dX4_anew_30 rfl ?_
      refine j_get fl_X4_19 dX4_anew_31 (by omega) ((up_ne (by decide)).trans ((up_ne (by decide)).trans m0)) rfl ?_
      refine j_iload_n dX4_anew_34 rfl ?_
      refine j_bipush (v := 50) dX4_anew_35 (by decide) ?_
      refine j_iast (j := j) dX4_anew_37 (by omega) up_eq (by decide) (by omega) ?_
      refine j_E up_up ?_
      refine j_iinc (v := nI (j + 1)) (L' := [some (.ref (ad 63)), some (.int (nI (j + 1)))]) dX4_anew_38 (by decide) rfl (nI_1 _) rfl rfl ?_
      refine j_goto (tgt := 24) dX4_anew_41 (by decide) ?_
      exact j_E (congrArg (fun f => va_up (va_up E 65 (aI g 128 (cpyN (fun _ => 0) lv 128))) 64 (aI g 16 f)) (cpyN_step (fun _ => 50) ed j)) ih
    · skip
      show J g mX4_anew 0 0 0 24 [some (.ref (ad 63)), some (.int (nI 16))] [] n ad (va_up (va_up E 65 (aI g 128 (cpyN (fun _ => 0) lv 128))) 64 (aI g 16 (cpyN (fun _ => 50) ed 16))) Φ Ψ
      refine j_iload_n dX4_anew_24 rfl ?_
      refine j_bipush (v := nI 16) dX4_anew_25 (by decide) ?_
      refine j_icmp_ge_t (tgt := 44) dX4_anew_27 (by decide) (nI_le' (by omega) (by omega) (by omega)) ?_
      refine j_aload_n dX4_anew_44 rfl ?_
      refine j_iconst (v := nI 0) dX4_anew_45 (by decide) ?_
      refine j_put fl_X4_45 fp_X4 dX4_anew_46 (by omega) ((up_ne (by decide)).trans ((up_ne (by decide)).trans m0)) (Or.inl rfl) rfl rfl (Nat.le_of_ble_eq_true rfl) ?_
      refine j_aload_n dX4_anew_49 rfl ?_
      refine j_iconst (v := nI 0) dX4_anew_50 (by decide) ?_
      refine j_put fl_X4_55 fp_X4 dX4_anew_51 (by omega) up_eq (Or.inl rfl) rfl rfl (Nat.le_of_ble_eq_true rfl) ?_
      refine j_E up_up ?_
      refine j_aload_n dX4_anew_54 rfl ?_
      refine j_iconst (v := nI 0) dX4_anew_55 (by decide) ?_
      refine j_put fl_X4_58 fp_X4 dX4_anew_56 (by omega) up_eq (Or.inl rfl) rfl rfl (Nat.le_of_ble_eq_true rfl) ?_
      refine j_E up_up ?_
      exact j_vret dX4_anew_59 rfl (h _ ⟨(MR.setO (MR.setEd (MR.setLv D)) ⟨by omega, by omega, by omega, by omega, by omega, by omega, by omega⟩), (fun k hk => ((up_ne (by omega)).trans ((up_ne (by omega)).trans ((up_ne (by omega)).trans rfl))))⟩)
set_option maxRecDepth 100000 in
set_option maxHeartbeats 4000000 in
theorem s_X4_keep {g : jG} {n : Nat} {ad : Nat → Nat} {E : Nat → va_E} {th : Int32} {F S : Nat} {hrs su : Int32} {gone : Int64} {lv ed : Nat → Int32} {first cnt : Nat} {ah : Nat → Int32} {mc : Nat} {mk : Nat → Int32} (D : MR g n ad E th F S hrs su gone lv ed first cnt ah mc mk) : RetP g mX4_keep 2 [.ref (ad 63)] n ad E none (fun E9 => MR g n ad E9 th F S hrs su gone lv ed (kOld first cnt) (kCnt cnt) (va_cpy lv ah 0 (128 * kSlot first cnt) 128) mc mk ∧ ∀ k, (k < 63 ∨ 69 ≤ k) → E9 k = E k) := by
  obtain ⟨m0, m1, m2, m3, m4, ⟨wk, m5⟩, hF, hS, hFp, hSp, hfi, hcn, hmc, hn⟩ := id D
  intro Φ Ψ h
  show J g mX4_keep 2 0 0 0 [some (.ref (ad 63))] [] n ad E Φ Ψ
  by_cases hc : cnt < 30
  · skip
    obtain ⟨e1, e2, e3⟩ := k_lo hc hfi
    rw [e1, e2, e3] at h
    refine j_aload_n dX4_keep_0 rfl ?_
    refine j_get fl_X4_55 dX4_keep_1 (by omega) m0 rfl ?_
    refine j_bipush (v := nI 30) dX4_keep_4 (by decide) ?_
    refine j_icmp_ne_t (tgt := 32) dX4_keep_6 (by decide) (nI_ne' (by omega) (by omega) (by omega)) ?_
    refine j_aload_n dX4_keep_32 rfl ?_
    refine j_get fl_X4_23 dX4_keep_33 (by omega) m0 rfl ?_
    refine j_iconst (v := 0) dX4_keep_36 (by decide) ?_
    refine j_aload_n dX4_keep_37 rfl ?_
    refine j_get fl_X4_26 dX4_keep_38 (by omega) m0 rfl ?_
    refine j_sipush (v := nI 128) dX4_keep_41 (by decide) ?_
    refine j_aload_n dX4_keep_44 rfl ?_
    refine j_get fl_X4_58 dX4_keep_45 (by omega) m0 rfl ?_
    refine j_aload_n dX4_keep_48 rfl ?_
    refine j_get fl_X4_55 dX4_keep_49 (by omega) m0 rfl ?_
    refine j_iadd dX4_keep_52 ?_
    refine j_topi (y := nI (first + cnt)) (nI_add _ _) ?_
    refine j_bipush (v := nI 30) dX4_keep_53 (by decide) ?_
    refine j_irem dX4_keep_55 (nI_ne0 (by omega) (by omega)) ?_
    refine j_topi (y := nI ((first + cnt) % 30)) (pk_rem (by omega) (by omega) (by omega)) ?_
    refine j_imul dX4_keep_56 ?_
    refine j_topi (y := nI (128 * ((first + cnt) % 30))) (pk_mul _ _) ?_
    refine j_sipush (v := nI 128) dX4_keep_57 (by decide) ?_
    refine j_copy (sp := 0) (dp := 128 * ((first + cnt) % 30)) (cnt := 128) ln_X4_61 jn_copy js_copy iz_java_lang_System dX4_keep_60 (by decide) (Nat.le_of_ble_eq_true rfl) (by omega) m2 (by omega) m3 (by decide) (by decide) (by omega) (by omega) ?_
    refine j_aload_n dX4_keep_63 rfl ?_
    refine j_dup dX4_keep_64 rfl ?_
    refine j_get fl_X4_55 dX4_keep_65 (by omega) ((up_ne (by decide)).trans m0) rfl ?_
    refine j_iconst (v := nI 1) dX4_keep_68 (by decide) ?_
    refine j_iadd dX4_keep_69 ?_
    refine j_topi (y := nI (cnt + 1)) (nI_add _ _) ?_
    refine j_put fl_X4_55 fp_X4 dX4_keep_70 (by omega) ((up_ne (by decide)).trans m0) (Or.inl rfl) rfl rfl (Nat.le_of_ble_eq_true rfl) ?_
    exact j_vret dX4_keep_73 rfl (h _ ⟨(MR.setO (MR.setAh D) ⟨by omega, by omega, by omega, by omega, by omega, by omega, by omega⟩), (fun k hk => ((up_ne (by omega)).trans ((up_ne (by omega)).trans rfl)))⟩)
  · skip
    obtain ⟨e1, e2, e3⟩ := k_hi hc hfi hcn
    rw [e1, e2, e3] at h
    refine j_aload_n dX4_keep_0 rfl ?_
    refine j_get fl_X4_55 dX4_keep_1 (by omega) m0 rfl ?_
    refine j_bipush (v := nI 30) dX4_keep_4 (by decide) ?_
    refine j_icmp_ne_f (tgt := 32) dX4_keep_6 (by decide) (nI_eq' (by omega)) ?_
    refine j_aload_n dX4_keep_9 rfl ?_
    refine j_aload_n dX4_keep_10 rfl ?_
    refine j_get fl_X4_58 dX4_keep_11 (by omega) m0 rfl ?_
    refine j_iconst (v := nI 1) dX4_keep_14 (by decide) ?_
    refine j_iadd dX4_keep_15 ?_
    refine j_topi (y := nI (first + 1)) (nI_add _ _) ?_
    refine j_bipush (v := nI 30) dX4_keep_16 (by decide) ?_
    refine j_irem dX4_keep_18 (nI_ne0 (by omega) (by omega)) ?_
    refine j_topi (y := nI ((first + 1) % 30)) (pk_rem (by omega) (by omega) (by omega)) ?_
    refine j_put fl_X4_58 fp_X4 dX4_keep_19 (by omega) m0 (Or.inl rfl) rfl rfl (Nat.le_of_ble_eq_true rfl) ?_
    refine j_aload_n dX4_keep_22 rfl ?_
    refine j_dup dX4_keep_23 rfl ?_
    refine j_get fl_X4_55 dX4_keep_24 (by omega) up_eq rfl ?_
    refine j_iconst (v := nI 1) dX4_keep_27 (by decide) ?_
    refine j_isub dX4_keep_28 ?_
    refine j_topi (y := nI (cnt - 1)) (pk_sub (by omega)) ?_
    refine j_put fl_X4_55 fp_X4 dX4_keep_29 (by omega) up_eq (Or.inl rfl) rfl rfl (Nat.le_of_ble_eq_true rfl) ?_
    refine j_E up_up ?_
    refine j_aload_n dX4_keep_32 rfl ?_
    refine j_get fl_X4_23 dX4_keep_33 (by omega) up_eq rfl ?_
    refine j_iconst (v := 0) dX4_keep_36 (by decide) ?_
    refine j_aload_n dX4_keep_37 rfl ?_
    refine j_get fl_X4_26 dX4_keep_38 (by omega) up_eq rfl ?_
    refine j_sipush (v := nI 128) dX4_keep_41 (by decide) ?_
    refine j_aload_n dX4_keep_44 rfl ?_
    refine j_get fl_X4_58 dX4_keep_45 (by omega) up_eq rfl ?_
    refine j_aload_n dX4_keep_48 rfl ?_
    refine j_get fl_X4_55 dX4_keep_49 (by omega) up_eq rfl ?_
    refine j_iadd dX4_keep_52 ?_
    refine j_topi (y := nI (((first + 1) % 30) + (cnt - 1))) (nI_add _ _) ?_
    refine j_bipush (v := nI 30) dX4_keep_53 (by decide) ?_
    refine j_irem dX4_keep_55 (nI_ne0 (by omega) (by omega)) ?_
    refine j_topi (y := nI ((((first + 1) % 30) + (cnt - 1)) % 30)) (pk_rem (by omega) (by omega) (by omega)) ?_
    refine j_imul dX4_keep_56 ?_
    refine j_topi (y := nI (128 * ((((first + 1) % 30) + (cnt - 1)) % 30))) (pk_mul _ _) ?_
    refine j_sipush (v := nI 128) dX4_keep_57 (by decide) ?_
    refine j_copy (sp := 0) (dp := 128 * ((((first + 1) % 30) + (cnt - 1)) % 30)) (cnt := 128) ln_X4_61 jn_copy js_copy iz_java_lang_System dX4_keep_60 (by decide) (Nat.le_of_ble_eq_true rfl) (by omega) ((up_ne (by decide)).trans m2) (by omega) ((up_ne (by decide)).trans m3) (by decide) (by decide) (by omega) (by omega) ?_
    refine j_aload_n dX4_keep_63 rfl ?_
    refine j_dup dX4_keep_64 rfl ?_
    refine j_get fl_X4_55 dX4_keep_65 (by omega) ((up_ne (by decide)).trans up_eq) rfl ?_
    refine j_iconst (v := nI 1) dX4_keep_68 (by decide) ?_
    refine j_iadd dX4_keep_69 ?_
    refine j_topi (y := nI ((cnt - 1) + 1)) (nI_add _ _) ?_
    refine j_put fl_X4_55 fp_X4 dX4_keep_70 (by omega) ((up_ne (by decide)).trans up_eq) (Or.inl rfl) rfl rfl (Nat.le_of_ble_eq_true rfl) ?_
    refine j_E (E' := va_up (va_up E 66 (aI g 3840 (va_cpy lv ah 0 (128 * ((((first + 1) % 30) + (cnt - 1)) % 30)) 128))) 63 (.inr (4, [.int th, .int (nI F), .int (nI S), .int hrs, .int su, .long gone, .ref (ad 64), .ref (ad 65), .ref (ad 66), .int (nI ((first + 1) % 30)), .int (nI ((cnt - 1) + 1)), .ref (ad 67), .int (nI mc), .ref (ad 68)]))) (by funext j9; simp only [va_up]; split <;> simp_all) ?_
    exact j_vret dX4_keep_73 rfl (h _ ⟨(MR.setO (MR.setAh D) ⟨by omega, by omega, by omega, by omega, by omega, by omega, by omega⟩), (fun k hk => ((up_ne (by omega)).trans ((up_ne (by omega)).trans rfl)))⟩)
set_option maxRecDepth 100000 in
set_option maxHeartbeats 4000000 in
theorem s_bring_ah {g : jG} {n : Nat} {ad : Nat → Nat} {E : Nat → va_E} {th : Int32} {F S : Nat} {hrs su : Int32} {gone : Int64} {lv ed : Nat → Int32} {first cnt : Nat} {ah : Nat → Int32} {mc : Nat} {mk : Nat → Int32} (D : MR g n ad E th F S hrs su gone lv ed first cnt ah mc mk) (q9 : Nat) (hq9 : q9 + 128 ≤ 3840) : Ret g mX4_bring 2 [.ref (ad 63), .ref (ad 66), .int (nI q9)] n ad E (some (.int (chgC lv (fun k => ah (q9 + k)) (F * S)))) (va_up E 65 (aI g 128 (va_cpy ah lv q9 0 128))) := by
  obtain ⟨m0, m1, m2, m3, m4, ⟨wk, m5⟩, hF, hS, hFp, hSp, hfi, hcn, hmc, hn⟩ := id D
  have hFS := fs128 hF hS
  intro Φ Ψ h
  show J g mX4_bring 2 0 0 0 [some (.ref (ad 63)), some (.ref (ad 66)), some (.int (nI q9)), none, none] [] n ad E Φ Ψ
  refine j_iconst (v := 0) dX4_bring_0 (by decide) ?_
  refine j_istore_n (L' := [some (.ref (ad 63)), some (.ref (ad 66)), some (.int (nI q9)), some (.int 0), none]) dX4_bring_1 (by decide) rfl rfl ?_
  refine j_iconst (v := nI 0) dX4_bring_2 (by decide) ?_
  refine j_istore (L' := [some (.ref (ad 63)), some (.ref (ad 66)), some (.int (nI q9)), some (.int 0), some (.int (nI 0))]) dX4_bring_3 (by decide) rfl rfl ?_
  refine lpf_ind (b := fun k c => if lv k = ah (q9 + k) then c else c + 1) (P := fun (k : Nat) (c : Int32) => J g mX4_bring 2 0 0 5 [some (.ref (ad 63)), some (.ref (ad 66)), some (.int (nI q9)), some (.int c), some (.int (nI k))] [] n ad E Φ Ψ) (N := F * S) 0 ?_ (F * S) 0 (by omega) ?_
  · intro k c hk0 hk ih
    show J g mX4_bring 2 0 0 5 [some (.ref (ad 63)), some (.ref (ad 66)), some (.int (nI q9)), some (.int c), some (.int (nI k))] [] n ad E Φ Ψ
    refine j_iload dX4_bring_5 rfl ?_
    refine j_aload_n dX4_bring_7 rfl ?_
    refine j_cV (As := []) (rest := [.int (nI k)]) cm_X4_all ci_X4_all cs_X4_all rfl ln_X4_67 (ci := 4) rfl dX4_bring_8 (d' := 0) (by decide) (by omega) m0 rfl rfl (Nat.le_of_ble_eq_true rfl) (Nat.le_of_ble_eq_true rfl) (s_X4_all D) ?_
    refine j_icmp_ge_f (tgt := 44) dX4_bring_11 (by decide) (nI_nle' (by omega) (by omega) (by omega)) ?_
    refine j_iload_n dX4_bring_14 rfl ?_
    refine j_aload_n dX4_bring_15 rfl ?_
    refine j_iload_n dX4_bring_16 rfl ?_
    refine j_iload dX4_bring_17 rfl ?_
    refine j_iadd dX4_bring_19 ?_
    refine j_topi (y := nI (q9 + k)) (nI_add _ _) ?_
    refine j_iald dX4_bring_20 (by omega) m3 (by decide) (by omega) rfl ?_
    refine j_aload_n dX4_bring_21 rfl ?_
    refine j_get fl_X4_23 dX4_bring_22 (by omega) m0 rfl ?_
    refine j_iload dX4_bring_25 rfl ?_
    refine j_iald dX4_bring_27 (by omega) m2 (by decide) (by omega) rfl ?_
    refine j_icmp_ne (tgt := 35) dX4_bring_28 (by decide) (fun hq => ?_) (fun hq => ?_)
    · skip
      refine j_iconst (v := 1) dX4_bring_35 (by decide) ?_
      refine j_iadd dX4_bring_36 ?_
      refine j_istore_n (L' := [some (.ref (ad 63)), some (.ref (ad 66)), some (.int (nI q9)), some (.int (c + 1)), some (.int (nI k))]) dX4_bring_37 (by decide) rfl rfl ?_
      refine j_iinc (v := nI (k + 1)) (L' := [some (.ref (ad 63)), some (.ref (ad 66)), some (.int (nI q9)), some (.int (c + 1)), some (.int (nI (k + 1)))]) dX4_bring_38 (by decide) rfl (nI_1 _) rfl rfl ?_
      refine j_goto (tgt := 5) dX4_bring_41 (by decide) ?_
      exact ih _ (by first | exact (Int32.add_zero _).trans (if_pos (Eq.symm hq)).symm | exact (if_neg (fun e => hq (Eq.symm e))).symm)
    · skip
      refine j_iconst (v := 0) dX4_bring_31 (by decide) ?_
      refine j_goto (tgt := 36) dX4_bring_32 (by decide) ?_
      refine j_iadd dX4_bring_36 ?_
      refine j_istore_n (L' := [some (.ref (ad 63)), some (.ref (ad 66)), some (.int (nI q9)), some (.int (c + 0)), some (.int (nI k))]) dX4_bring_37 (by decide) rfl rfl ?_
      refine j_iinc (v := nI (k + 1)) (L' := [some (.ref (ad 63)), some (.ref (ad 66)), some (.int (nI q9)), some (.int (c + 0)), some (.int (nI (k + 1)))]) dX4_bring_38 (by decide) rfl (nI_1 _) rfl rfl ?_
      refine j_goto (tgt := 5) dX4_bring_41 (by decide) ?_
      exact ih _ (by first | exact (Int32.add_zero _).trans (if_pos (Eq.symm hq)).symm | exact (if_neg (fun e => hq (Eq.symm e))).symm)
  · skip
    show J g mX4_bring 2 0 0 5 [some (.ref (ad 63)), some (.ref (ad 66)), some (.int (nI q9)), some (.int (chgC lv (fun k => ah (q9 + k)) (F * S))), some (.int (nI (F * S)))] [] n ad E Φ Ψ
    refine j_iload dX4_bring_5 rfl ?_
    refine j_aload_n dX4_bring_7 rfl ?_
    refine j_cV (As := []) (rest := [.int (nI (F * S))]) cm_X4_all ci_X4_all cs_X4_all rfl ln_X4_67 (ci := 4) rfl dX4_bring_8 (d' := 0) (by decide) (by omega) m0 rfl rfl (Nat.le_of_ble_eq_true rfl) (Nat.le_of_ble_eq_true rfl) (s_X4_all D) ?_
    refine j_icmp_ge_t (tgt := 44) dX4_bring_11 (by decide) (nI_le' (by omega) (by omega) (by omega)) ?_
    refine j_aload_n dX4_bring_44 rfl ?_
    refine j_iload_n dX4_bring_45 rfl ?_
    refine j_aload_n dX4_bring_46 rfl ?_
    refine j_get fl_X4_23 dX4_bring_47 (by omega) m0 rfl ?_
    refine j_iconst (v := nI 0) dX4_bring_50 (by decide) ?_
    refine j_sipush (v := nI 128) dX4_bring_51 (by decide) ?_
    refine j_copy (sp := q9) (dp := 0) (cnt := 128) ln_X4_61 jn_copy js_copy iz_java_lang_System dX4_bring_54 (by decide) (Nat.le_of_ble_eq_true rfl) (by omega) m3 (by omega) m2 (by decide) (by decide) (by omega) (by omega) ?_
    refine j_iload_n dX4_bring_57 rfl ?_
    exact j_iret dX4_bring_58 rfl h
set_option maxRecDepth 100000 in
set_option maxHeartbeats 4000000 in
theorem s_bring_mk {g : jG} {n : Nat} {ad : Nat → Nat} {E : Nat → va_E} {th : Int32} {F S : Nat} {hrs su : Int32} {gone : Int64} {lv ed : Nat → Int32} {first cnt : Nat} {ah : Nat → Int32} {mc : Nat} {mk : Nat → Int32} (D : MR g n ad E th F S hrs su gone lv ed first cnt ah mc mk) (q9 : Nat) (hq9 : q9 + 128 ≤ 1536) : Ret g mX4_bring 2 [.ref (ad 63), .ref (ad 67), .int (nI q9)] n ad E (some (.int (chgC lv (fun k => mk (q9 + k)) (F * S)))) (va_up E 65 (aI g 128 (va_cpy mk lv q9 0 128))) := by
  obtain ⟨m0, m1, m2, m3, m4, ⟨wk, m5⟩, hF, hS, hFp, hSp, hfi, hcn, hmc, hn⟩ := id D
  have hFS := fs128 hF hS
  intro Φ Ψ h
  show J g mX4_bring 2 0 0 0 [some (.ref (ad 63)), some (.ref (ad 67)), some (.int (nI q9)), none, none] [] n ad E Φ Ψ
  refine j_iconst (v := 0) dX4_bring_0 (by decide) ?_
  refine j_istore_n (L' := [some (.ref (ad 63)), some (.ref (ad 67)), some (.int (nI q9)), some (.int 0), none]) dX4_bring_1 (by decide) rfl rfl ?_
  refine j_iconst (v := nI 0) dX4_bring_2 (by decide) ?_
  refine j_istore (L' := [some (.ref (ad 63)), some (.ref (ad 67)), some (.int (nI q9)), some (.int 0), some (.int (nI 0))]) dX4_bring_3 (by decide) rfl rfl ?_
  refine lpf_ind (b := fun k c => if lv k = mk (q9 + k) then c else c + 1) (P := fun (k : Nat) (c : Int32) => J g mX4_bring 2 0 0 5 [some (.ref (ad 63)), some (.ref (ad 67)), some (.int (nI q9)), some (.int c), some (.int (nI k))] [] n ad E Φ Ψ) (N := F * S) 0 ?_ (F * S) 0 (by omega) ?_
  · intro k c hk0 hk ih
    show J g mX4_bring 2 0 0 5 [some (.ref (ad 63)), some (.ref (ad 67)), some (.int (nI q9)), some (.int c), some (.int (nI k))] [] n ad E Φ Ψ
    refine j_iload dX4_bring_5 rfl ?_
    refine j_aload_n dX4_bring_7 rfl ?_
    refine j_cV (As := []) (rest := [.int (nI k)]) cm_X4_all ci_X4_all cs_X4_all rfl ln_X4_67 (ci := 4) rfl dX4_bring_8 (d' := 0) (by decide) (by omega) m0 rfl rfl (Nat.le_of_ble_eq_true rfl) (Nat.le_of_ble_eq_true rfl) (s_X4_all D) ?_
    refine j_icmp_ge_f (tgt := 44) dX4_bring_11 (by decide) (nI_nle' (by omega) (by omega) (by omega)) ?_
    refine j_iload_n dX4_bring_14 rfl ?_
    refine j_aload_n dX4_bring_15 rfl ?_
    refine j_iload_n dX4_bring_16 rfl ?_
    refine j_iload dX4_bring_17 rfl ?_
    refine j_iadd dX4_bring_19 ?_
    refine j_topi (y := nI (q9 + k)) (nI_add _ _) ?_
    refine j_iald dX4_bring_20 (by omega) m4 (by decide) (by omega) rfl ?_
    refine j_aload_n dX4_bring_21 rfl ?_
    refine j_get fl_X4_23 dX4_bring_22 (by omega) m0 rfl ?_
    refine j_iload dX4_bring_25 rfl ?_
    refine j_iald dX4_bring_27 (by omega) m2 (by decide) (by omega) rfl ?_
    refine j_icmp_ne (tgt := 35) dX4_bring_28 (by decide) (fun hq => ?_) (fun hq => ?_)
    · skip
      refine j_iconst (v := 1) dX4_bring_35 (by decide) ?_
      refine j_iadd dX4_bring_36 ?_
      refine j_istore_n (L' := [some (.ref (ad 63)), some (.ref (ad 67)), some (.int (nI q9)), some (.int (c + 1)), some (.int (nI k))]) dX4_bring_37 (by decide) rfl rfl ?_
      refine j_iinc (v := nI (k + 1)) (L' := [some (.ref (ad 63)), some (.ref (ad 67)), some (.int (nI q9)), some (.int (c + 1)), some (.int (nI (k + 1)))]) dX4_bring_38 (by decide) rfl (nI_1 _) rfl rfl ?_
      refine j_goto (tgt := 5) dX4_bring_41 (by decide) ?_
      exact ih _ (by first | exact (Int32.add_zero _).trans (if_pos (Eq.symm hq)).symm | exact (if_neg (fun e => hq (Eq.symm e))).symm)
    · skip
      refine j_iconst (v := 0) dX4_bring_31 (by decide) ?_
      refine j_goto (tgt := 36) dX4_bring_32 (by decide) ?_
      refine j_iadd dX4_bring_36 ?_
      refine j_istore_n (L' := [some (.ref (ad 63)), some (.ref (ad 67)), some (.int (nI q9)), some (.int (c + 0)), some (.int (nI k))]) dX4_bring_37 (by decide) rfl rfl ?_
      refine j_iinc (v := nI (k + 1)) (L' := [some (.ref (ad 63)), some (.ref (ad 67)), some (.int (nI q9)), some (.int (c + 0)), some (.int (nI (k + 1)))]) dX4_bring_38 (by decide) rfl (nI_1 _) rfl rfl ?_
      refine j_goto (tgt := 5) dX4_bring_41 (by decide) ?_
      exact ih _ (by first | exact (Int32.add_zero _).trans (if_pos (Eq.symm hq)).symm | exact (if_neg (fun e => hq (Eq.symm e))).symm)
  · skip
    show J g mX4_bring 2 0 0 5 [some (.ref (ad 63)), some (.ref (ad 67)), some (.int (nI q9)), some (.int (chgC lv (fun k => mk (q9 + k)) (F * S))), some (.int (nI (F * S)))] [] n ad E Φ Ψ
    refine j_iload dX4_bring_5 rfl ?_
    refine j_aload_n dX4_bring_7 rfl ?_
    refine j_cV (As := []) (rest := [.int (nI (F * S))]) cm_X4_all ci_X4_all cs_X4_all rfl ln_X4_67 (ci := 4) rfl dX4_bring_8 (d' := 0) (by decide) (by omega) m0 rfl rfl (Nat.le_of_ble_eq_true rfl) (Nat.le_of_ble_eq_true rfl) (s_X4_all D) ?_
    refine j_icmp_ge_t (tgt := 44) dX4_bring_11 (by decide) (nI_le' (by omega) (by omega) (by omega)) ?_
    refine j_aload_n dX4_bring_44 rfl ?_
    refine j_iload_n dX4_bring_45 rfl ?_
    refine j_aload_n dX4_bring_46 rfl ?_
    refine j_get fl_X4_23 dX4_bring_47 (by omega) m0 rfl ?_
    refine j_iconst (v := nI 0) dX4_bring_50 (by decide) ?_
    refine j_sipush (v := nI 128) dX4_bring_51 (by decide) ?_
    refine j_copy (sp := q9) (dp := 0) (cnt := 128) ln_X4_61 jn_copy js_copy iz_java_lang_System dX4_bring_54 (by decide) (Nat.le_of_ble_eq_true rfl) (by omega) m4 (by omega) m2 (by decide) (by decide) (by omega) (by omega) ?_
    refine j_iload_n dX4_bring_57 rfl ?_
    exact j_iret dX4_bring_58 rfl h
set_option maxRecDepth 100000 in
set_option maxHeartbeats 4000000 in
theorem s_hour_lv {g : jG} {n : Nat} {ad : Nat → Nat} {E : Nat → va_E} {th : Int32} {F S : Nat} {hrs su : Int32} {gone : Int64} {lv ed : Nat → Int32} {first cnt : Nat} {ah : Nat → Int32} {mc : Nat} {mk : Nat → Int32} (D : MR g n ad E th F S hrs su gone lv ed first cnt ah mc mk) (x : Int32) : Ret g mX4_hourOn 1 [.ref (ad 63), .ref (ad 65), .int x] n ad E (some (.int ((hourR x ed F S lv).1))) (va_up E 65 (aI g 128 (hourR x ed F S lv).2)) := by
  obtain ⟨m0, m1, m2, m3, m4, ⟨wk, m5⟩, hF, hS, hFp, hSp, hfi, hcn, hmc, hn⟩ := id D
  have hFS := fs128 hF hS
  intro Φ Ψ h
  show J g mX4_hourOn 1 0 0 0 [some (.ref (ad 63)), some (.ref (ad 65)), some (.int x), none, none, none] [] n ad E Φ Ψ
  rw [← hourM_eq] at h
  refine j_iconst (v := 0) dX4_hourOn_0 (by decide) ?_
  refine j_istore_n (L' := [some (.ref (ad 63)), some (.ref (ad 65)), some (.int x), some (.int 0), none, none]) dX4_hourOn_1 (by decide) rfl rfl ?_
  refine j_iconst (v := nI 0) dX4_hourOn_2 (by decide) ?_
  refine j_istore (L' := [some (.ref (ad 63)), some (.ref (ad 65)), some (.int x), some (.int 0), some (.int (nI 0)), none]) dX4_hourOn_3 (by decide) rfl rfl ?_
  refine j_E (E' := va_up E 65 (aI g 128 lv)) (up_self m2).symm ?_
  refine lpf_ind (b := hmB x ed S) (P := fun (k : Nat) (y : Int32 × (Nat → Int32)) => J g mX4_hourOn 1 0 0 5 [some (.ref (ad 63)), some (.ref (ad 65)), some (.int x), some (.int y.1), some (.int (nI k)), none] [] n ad (va_up E 65 (aI g 128 y.2)) Φ Ψ) (N := F * S) 0 ?_ (F * S) ((0, lv) : Int32 × (Nat → Int32)) (by omega) ?_
  · intro k y hk0 hk ih
    obtain ⟨o1, f1⟩ := y
    show J g mX4_hourOn 1 0 0 5 [some (.ref (ad 63)), some (.ref (ad 65)), some (.int x), some (.int o1), some (.int (nI k)), none] [] n ad (va_up E 65 (aI g 128 f1)) Φ Ψ
    refine j_iload dX4_hourOn_5 rfl ?_
    refine j_aload_n dX4_hourOn_7 rfl ?_
    refine j_cV (As := []) (rest := [.int (nI k)]) cm_X4_all ci_X4_all cs_X4_all rfl ln_X4_67 (ci := 4) rfl dX4_hourOn_8 (d' := 0) (by decide) (by omega) ((up_ne (by decide)).trans m0) rfl rfl (Nat.le_of_ble_eq_true rfl) (Nat.le_of_ble_eq_true rfl) (s_X4_all (MR.setLv D)) ?_
    refine j_icmp_ge_f (tgt := 84) dX4_hourOn_11 (by decide) (nI_nle' (by omega) (by omega) (by omega)) ?_
    refine j_aload_n dX4_hourOn_14 rfl ?_
    refine j_iload dX4_hourOn_15 rfl ?_
    refine j_iald dX4_hourOn_17 (by omega) up_eq (by decide) (by omega) rfl ?_
    refine j_if_le (tgt := 34) dX4_hourOn_18 (by decide) (fun hq => ?_) (fun hq => ?_)
    · skip
      refine j_aload_n dX4_hourOn_34 rfl ?_
      refine j_iload dX4_hourOn_35 rfl ?_
      refine j_iald dX4_hourOn_37 (by omega) up_eq (by decide) (by omega) rfl ?_
      refine j_topi (y := dryv x (f1 k)) (by first | exact (if_pos hq).symm | exact (if_neg hq).symm) ?_
      refine j_istore (L' := [some (.ref (ad 63)), some (.ref (ad 65)), some (.int x), some (.int o1), some (.int (nI k)), some (.int (dryv x (f1 k)))]) dX4_hourOn_38 (by decide) rfl rfl ?_
      refine j_aload_n dX4_hourOn_40 rfl ?_
      refine j_iload dX4_hourOn_41 rfl ?_
      refine j_iload dX4_hourOn_43 rfl ?_
      refine j_iload_n dX4_hourOn_45 rfl ?_
      refine j_iadd dX4_hourOn_46 ?_
      refine j_iast (j := k) dX4_hourOn_47 (by omega) up_eq (by decide) (by omega) ?_
      refine j_E up_up ?_
      refine j_iconst (v := 0) dX4_hourOn_48 (by decide) ?_
      refine j_aload_n dX4_hourOn_49 rfl ?_
      refine j_iload dX4_hourOn_50 rfl ?_
      refine j_iald dX4_hourOn_52 (by omega) up_eq (by decide) (by omega) rfl ?_
      refine j_topi (y := dryv x (f1 k) + o1) (if_pos rfl) ?_
      refine j_aload_n dX4_hourOn_53 rfl ?_
      refine j_get fl_X4_19 dX4_hourOn_54 (by omega) ((up_ne (by decide)).trans m0) rfl ?_
      refine j_iload dX4_hourOn_57 rfl ?_
      refine j_aload_n dX4_hourOn_59 rfl ?_
      refine j_get fl_X4_13 dX4_hourOn_60 (by omega) ((up_ne (by decide)).trans m0) rfl ?_
      refine j_irem dX4_hourOn_63 (nI_ne0 (by omega) (by omega)) ?_
      refine j_topi (y := nI (k % S)) (pk_rem (by omega) (by omega) (by omega)) ?_
      refine j_iald dX4_hourOn_64 (by omega) ((up_ne (by decide)).trans m1) (by decide) (Nat.lt_of_lt_of_le (Nat.mod_lt _ (by omega)) hS) rfl ?_
      refine j_isub dX4_hourOn_65 ?_
      refine j_mmax ln_X4_71 js_max iz_java_lang_Math jc_max dX4_hourOn_66 (by decide) (Nat.le_of_ble_eq_true rfl) ?_
      refine j_topi (y := max0 (dryv x (f1 k) + o1 - ed (k % S))) rfl ?_
      refine j_istore_n (L' := [some (.ref (ad 63)), some (.ref (ad 65)), some (.int x), some (.int (max0 (dryv x (f1 k) + o1 - ed (k % S)))), some (.int (nI k)), some (.int (dryv x (f1 k)))]) dX4_hourOn_69 (by decide) rfl rfl ?_
      refine j_aload_n dX4_hourOn_70 rfl ?_
      refine j_iload dX4_hourOn_71 rfl ?_
      refine j_dup2 dX4_hourOn_73 rfl rfl ?_
      refine j_iald dX4_hourOn_74 (by omega) up_eq (by decide) (by omega) rfl ?_
      refine j_topi (y := dryv x (f1 k) + o1) (if_pos rfl) ?_
      refine j_iload_n dX4_hourOn_75 rfl ?_
      refine j_isub dX4_hourOn_76 ?_
      refine j_iast (j := k) dX4_hourOn_77 (by omega) up_eq (by decide) (by omega) ?_
      refine j_E up_up ?_
      refine j_iinc (v := nI (k + 1)) (L' := [some (.ref (ad 63)), some (.ref (ad 65)), some (.int x), some (.int (max0 (dryv x (f1 k) + o1 - ed (k % S)))), some (.int (nI (k + 1))), some (.int (dryv x (f1 k)))]) dX4_hourOn_78 (by decide) rfl (nI_1 _) rfl rfl ?_
      refine j_goto (tgt := 5) dX4_hourOn_81 (by decide) ?_
      refine j_clr 5 ?_
      exact ih (max0 (dryv x (f1 k) + o1 - ed (k % S)), upd (upd f1 k ((dryv x (f1 k)) + o1)) k ((dryv x (f1 k) + o1) - (max0 (dryv x (f1 k) + o1 - ed (k % S))))) rfl
    · skip
      refine j_iconst (v := 0) dX4_hourOn_21 (by decide) ?_
      refine j_aload_n dX4_hourOn_22 rfl ?_
      refine j_iload dX4_hourOn_23 rfl ?_
      refine j_iald dX4_hourOn_25 (by omega) up_eq (by decide) (by omega) rfl ?_
      refine j_iload_n dX4_hourOn_26 rfl ?_
      refine j_isub dX4_hourOn_27 ?_
      refine j_mmax ln_X4_71 js_max iz_java_lang_Math jc_max dX4_hourOn_28 (by decide) (Nat.le_of_ble_eq_true rfl) ?_
      refine j_goto (tgt := 38) dX4_hourOn_31 (by decide) ?_
      refine j_topi (y := dryv x (f1 k)) (by first | exact (if_pos hq).symm | exact (if_neg hq).symm) ?_
      refine j_istore (L' := [some (.ref (ad 63)), some (.ref (ad 65)), some (.int x), some (.int o1), some (.int (nI k)), some (.int (dryv x (f1 k)))]) dX4_hourOn_38 (by decide) rfl rfl ?_
      refine j_aload_n dX4_hourOn_40 rfl ?_
      refine j_iload dX4_hourOn_41 rfl ?_
      refine j_iload dX4_hourOn_43 rfl ?_
      refine j_iload_n dX4_hourOn_45 rfl ?_
      refine j_iadd dX4_hourOn_46 ?_
      refine j_iast (j := k) dX4_hourOn_47 (by omega) up_eq (by decide) (by omega) ?_
      refine j_E up_up ?_
      refine j_iconst (v := 0) dX4_hourOn_48 (by decide) ?_
      refine j_aload_n dX4_hourOn_49 rfl ?_
      refine j_iload dX4_hourOn_50 rfl ?_
      refine j_iald dX4_hourOn_52 (by omega) up_eq (by decide) (by omega) rfl ?_
      refine j_topi (y := dryv x (f1 k) + o1) (if_pos rfl) ?_
      refine j_aload_n dX4_hourOn_53 rfl ?_
      refine j_get fl_X4_19 dX4_hourOn_54 (by omega) ((up_ne (by decide)).trans m0) rfl ?_
      refine j_iload dX4_hourOn_57 rfl ?_
      refine j_aload_n dX4_hourOn_59 rfl ?_
      refine j_get fl_X4_13 dX4_hourOn_60 (by omega) ((up_ne (by decide)).trans m0) rfl ?_
      refine j_irem dX4_hourOn_63 (nI_ne0 (by omega) (by omega)) ?_
      refine j_topi (y := nI (k % S)) (pk_rem (by omega) (by omega) (by omega)) ?_
      refine j_iald dX4_hourOn_64 (by omega) ((up_ne (by decide)).trans m1) (by decide) (Nat.lt_of_lt_of_le (Nat.mod_lt _ (by omega)) hS) rfl ?_
      refine j_isub dX4_hourOn_65 ?_
      refine j_mmax ln_X4_71 js_max iz_java_lang_Math jc_max dX4_hourOn_66 (by decide) (Nat.le_of_ble_eq_true rfl) ?_
      refine j_topi (y := max0 (dryv x (f1 k) + o1 - ed (k % S))) rfl ?_
      refine j_istore_n (L' := [some (.ref (ad 63)), some (.ref (ad 65)), some (.int x), some (.int (max0 (dryv x (f1 k) + o1 - ed (k % S)))), some (.int (nI k)), some (.int (dryv x (f1 k)))]) dX4_hourOn_69 (by decide) rfl rfl ?_
      refine j_aload_n dX4_hourOn_70 rfl ?_
      refine j_iload dX4_hourOn_71 rfl ?_
      refine j_dup2 dX4_hourOn_73 rfl rfl ?_
      refine j_iald dX4_hourOn_74 (by omega) up_eq (by decide) (by omega) rfl ?_
      refine j_topi (y := dryv x (f1 k) + o1) (if_pos rfl) ?_
      refine j_iload_n dX4_hourOn_75 rfl ?_
      refine j_isub dX4_hourOn_76 ?_
      refine j_iast (j := k) dX4_hourOn_77 (by omega) up_eq (by decide) (by omega) ?_
      refine j_E up_up ?_
      refine j_iinc (v := nI (k + 1)) (L' := [some (.ref (ad 63)), some (.ref (ad 65)), some (.int x), some (.int (max0 (dryv x (f1 k) + o1 - ed (k % S)))), some (.int (nI (k + 1))), some (.int (dryv x (f1 k)))]) dX4_hourOn_78 (by decide) rfl (nI_1 _) rfl rfl ?_
      refine j_goto (tgt := 5) dX4_hourOn_81 (by decide) ?_
      refine j_clr 5 ?_
      exact ih (max0 (dryv x (f1 k) + o1 - ed (k % S)), upd (upd f1 k ((dryv x (f1 k)) + o1)) k ((dryv x (f1 k) + o1) - (max0 (dryv x (f1 k) + o1 - ed (k % S))))) rfl
  · skip
    show J g mX4_hourOn 1 0 0 5 [some (.ref (ad 63)), some (.ref (ad 65)), some (.int x), some (.int ((hourM x ed F S lv).1)), some (.int (nI (F * S))), none] [] n ad (va_up E 65 (aI g 128 ((hourM x ed F S lv).2))) Φ Ψ
    refine j_iload dX4_hourOn_5 rfl ?_
    refine j_aload_n dX4_hourOn_7 rfl ?_
    refine j_cV (As := []) (rest := [.int (nI (F * S))]) cm_X4_all ci_X4_all cs_X4_all rfl ln_X4_67 (ci := 4) rfl dX4_hourOn_8 (d' := 0) (by decide) (by omega) ((up_ne (by decide)).trans m0) rfl rfl (Nat.le_of_ble_eq_true rfl) (Nat.le_of_ble_eq_true rfl) (s_X4_all (MR.setLv D)) ?_
    refine j_icmp_ge_t (tgt := 84) dX4_hourOn_11 (by decide) (nI_le' (by omega) (by omega) (by omega)) ?_
    refine j_iload_n dX4_hourOn_84 rfl ?_
    exact j_iret dX4_hourOn_85 rfl h
set_option maxRecDepth 100000 in
set_option maxHeartbeats 4000000 in
theorem s_hour_wk {g : jG} {n : Nat} {ad : Nat → Nat} {E : Nat → va_E} {th : Int32} {F S : Nat} {hrs su : Int32} {gone : Int64} {lv ed : Nat → Int32} {first cnt : Nat} {ah : Nat → Int32} {mc : Nat} {mk : Nat → Int32} (D : MR g n ad E th F S hrs su gone lv ed first cnt ah mc mk) (x : Int32) (f : Nat → Int32) (h68 : E 68 = aI g 128 f) : Ret g mX4_hourOn 1 [.ref (ad 63), .ref (ad 68), .int x] n ad E (some (.int ((hourR x ed F S f).1))) (va_up E 68 (aI g 128 (hourR x ed F S f).2)) := by
  obtain ⟨m0, m1, m2, m3, m4, ⟨wk, m5⟩, hF, hS, hFp, hSp, hfi, hcn, hmc, hn⟩ := id D
  have hFS := fs128 hF hS
  intro Φ Ψ h
  show J g mX4_hourOn 1 0 0 0 [some (.ref (ad 63)), some (.ref (ad 68)), some (.int x), none, none, none] [] n ad E Φ Ψ
  rw [← hourM_eq] at h
  refine j_iconst (v := 0) dX4_hourOn_0 (by decide) ?_
  refine j_istore_n (L' := [some (.ref (ad 63)), some (.ref (ad 68)), some (.int x), some (.int 0), none, none]) dX4_hourOn_1 (by decide) rfl rfl ?_
  refine j_iconst (v := nI 0) dX4_hourOn_2 (by decide) ?_
  refine j_istore (L' := [some (.ref (ad 63)), some (.ref (ad 68)), some (.int x), some (.int 0), some (.int (nI 0)), none]) dX4_hourOn_3 (by decide) rfl rfl ?_
  refine j_E (E' := va_up E 68 (aI g 128 f)) (up_self h68).symm ?_
  refine lpf_ind (b := hmB x ed S) (P := fun (k : Nat) (y : Int32 × (Nat → Int32)) => J g mX4_hourOn 1 0 0 5 [some (.ref (ad 63)), some (.ref (ad 68)), some (.int x), some (.int y.1), some (.int (nI k)), none] [] n ad (va_up E 68 (aI g 128 y.2)) Φ Ψ) (N := F * S) 0 ?_ (F * S) ((0, f) : Int32 × (Nat → Int32)) (by omega) ?_
  · intro k y hk0 hk ih
    obtain ⟨o1, f1⟩ := y
    show J g mX4_hourOn 1 0 0 5 [some (.ref (ad 63)), some (.ref (ad 68)), some (.int x), some (.int o1), some (.int (nI k)), none] [] n ad (va_up E 68 (aI g 128 f1)) Φ Ψ
    refine j_iload dX4_hourOn_5 rfl ?_
    refine j_aload_n dX4_hourOn_7 rfl ?_
    refine j_cV (As := []) (rest := [.int (nI k)]) cm_X4_all ci_X4_all cs_X4_all rfl ln_X4_67 (ci := 4) rfl dX4_hourOn_8 (d' := 0) (by decide) (by omega) ((up_ne (by decide)).trans m0) rfl rfl (Nat.le_of_ble_eq_true rfl) (Nat.le_of_ble_eq_true rfl) (s_X4_all (MR.setWk D)) ?_
    refine j_icmp_ge_f (tgt := 84) dX4_hourOn_11 (by decide) (nI_nle' (by omega) (by omega) (by omega)) ?_
    refine j_aload_n dX4_hourOn_14 rfl ?_
    refine j_iload dX4_hourOn_15 rfl ?_
    refine j_iald dX4_hourOn_17 (by omega) up_eq (by decide) (by omega) rfl ?_
    refine j_if_le (tgt := 34) dX4_hourOn_18 (by decide) (fun hq => ?_) (fun hq => ?_)
    · skip
      refine j_aload_n dX4_hourOn_34 rfl ?_
      refine j_iload dX4_hourOn_35 rfl ?_
      refine j_iald dX4_hourOn_37 (by omega) up_eq (by decide) (by omega) rfl ?_
      refine j_topi (y := dryv x (f1 k)) (by first | exact (if_pos hq).symm | exact (if_neg hq).symm) ?_
      refine j_istore (L' := [some (.ref (ad 63)), some (.ref (ad 68)), some (.int x), some (.int o1), some (.int (nI k)), some (.int (dryv x (f1 k)))]) dX4_hourOn_38 (by decide) rfl rfl ?_
      refine j_aload_n dX4_hourOn_40 rfl ?_
      refine j_iload dX4_hourOn_41 rfl ?_
      refine j_iload dX4_hourOn_43 rfl ?_
      refine j_iload_n dX4_hourOn_45 rfl ?_
      refine j_iadd dX4_hourOn_46 ?_
      refine j_iast (j := k) dX4_hourOn_47 (by omega) up_eq (by decide) (by omega) ?_
      refine j_E up_up ?_
      refine j_iconst (v := 0) dX4_hourOn_48 (by decide) ?_
      refine j_aload_n dX4_hourOn_49 rfl ?_
      refine j_iload dX4_hourOn_50 rfl ?_
      refine j_iald dX4_hourOn_52 (by omega) up_eq (by decide) (by omega) rfl ?_
      refine j_topi (y := dryv x (f1 k) + o1) (if_pos rfl) ?_
      refine j_aload_n dX4_hourOn_53 rfl ?_
      refine j_get fl_X4_19 dX4_hourOn_54 (by omega) ((up_ne (by decide)).trans m0) rfl ?_
      refine j_iload dX4_hourOn_57 rfl ?_
      refine j_aload_n dX4_hourOn_59 rfl ?_
      refine j_get fl_X4_13 dX4_hourOn_60 (by omega) ((up_ne (by decide)).trans m0) rfl ?_
      refine j_irem dX4_hourOn_63 (nI_ne0 (by omega) (by omega)) ?_
      refine j_topi (y := nI (k % S)) (pk_rem (by omega) (by omega) (by omega)) ?_
      refine j_iald dX4_hourOn_64 (by omega) ((up_ne (by decide)).trans m1) (by decide) (Nat.lt_of_lt_of_le (Nat.mod_lt _ (by omega)) hS) rfl ?_
      refine j_isub dX4_hourOn_65 ?_
      refine j_mmax ln_X4_71 js_max iz_java_lang_Math jc_max dX4_hourOn_66 (by decide) (Nat.le_of_ble_eq_true rfl) ?_
      refine j_topi (y := max0 (dryv x (f1 k) + o1 - ed (k % S))) rfl ?_
      refine j_istore_n (L' := [some (.ref (ad 63)), some (.ref (ad 68)), some (.int x), some (.int (max0 (dryv x (f1 k) + o1 - ed (k % S)))), some (.int (nI k)), some (.int (dryv x (f1 k)))]) dX4_hourOn_69 (by decide) rfl rfl ?_
      refine j_aload_n dX4_hourOn_70 rfl ?_
      refine j_iload dX4_hourOn_71 rfl ?_
      refine j_dup2 dX4_hourOn_73 rfl rfl ?_
      refine j_iald dX4_hourOn_74 (by omega) up_eq (by decide) (by omega) rfl ?_
      refine j_topi (y := dryv x (f1 k) + o1) (if_pos rfl) ?_
      refine j_iload_n dX4_hourOn_75 rfl ?_
      refine j_isub dX4_hourOn_76 ?_
      refine j_iast (j := k) dX4_hourOn_77 (by omega) up_eq (by decide) (by omega) ?_
      refine j_E up_up ?_
      refine j_iinc (v := nI (k + 1)) (L' := [some (.ref (ad 63)), some (.ref (ad 68)), some (.int x), some (.int (max0 (dryv x (f1 k) + o1 - ed (k % S)))), some (.int (nI (k + 1))), some (.int (dryv x (f1 k)))]) dX4_hourOn_78 (by decide) rfl (nI_1 _) rfl rfl ?_
      refine j_goto (tgt := 5) dX4_hourOn_81 (by decide) ?_
      refine j_clr 5 ?_
      exact ih (max0 (dryv x (f1 k) + o1 - ed (k % S)), upd (upd f1 k ((dryv x (f1 k)) + o1)) k ((dryv x (f1 k) + o1) - (max0 (dryv x (f1 k) + o1 - ed (k % S))))) rfl
    · skip
      refine j_iconst (v := 0) dX4_hourOn_21 (by decide) ?_
      refine j_aload_n dX4_hourOn_22 rfl ?_
      refine j_iload dX4_hourOn_23 rfl ?_
      refine j_iald dX4_hourOn_25 (by omega) up_eq (by decide) (by omega) rfl ?_
      refine j_iload_n dX4_hourOn_26 rfl ?_
      refine j_isub dX4_hourOn_27 ?_
      refine j_mmax ln_X4_71 js_max iz_java_lang_Math jc_max dX4_hourOn_28 (by decide) (Nat.le_of_ble_eq_true rfl) ?_
      refine j_goto (tgt := 38) dX4_hourOn_31 (by decide) ?_
      refine j_topi (y := dryv x (f1 k)) (by first | exact (if_pos hq).symm | exact (if_neg hq).symm) ?_
      refine j_istore (L' := [some (.ref (ad 63)), some (.ref (ad 68)), some (.int x), some (.int o1), some (.int (nI k)), some (.int (dryv x (f1 k)))]) dX4_hourOn_38 (by decide) rfl rfl ?_
      refine j_aload_n dX4_hourOn_40 rfl ?_
      refine j_iload dX4_hourOn_41 rfl ?_
      refine j_iload dX4_hourOn_43 rfl ?_
      refine j_iload_n dX4_hourOn_45 rfl ?_
      refine j_iadd dX4_hourOn_46 ?_
      refine j_iast (j := k) dX4_hourOn_47 (by omega) up_eq (by decide) (by omega) ?_
      refine j_E up_up ?_
      refine j_iconst (v := 0) dX4_hourOn_48 (by decide) ?_
      refine j_aload_n dX4_hourOn_49 rfl ?_
      refine j_iload dX4_hourOn_50 rfl ?_
      refine j_iald dX4_hourOn_52 (by omega) up_eq (by decide) (by omega) rfl ?_
      refine j_topi (y := dryv x (f1 k) + o1) (if_pos rfl) ?_
      refine j_aload_n dX4_hourOn_53 rfl ?_
      refine j_get fl_X4_19 dX4_hourOn_54 (by omega) ((up_ne (by decide)).trans m0) rfl ?_
      refine j_iload dX4_hourOn_57 rfl ?_
      refine j_aload_n dX4_hourOn_59 rfl ?_
      refine j_get fl_X4_13 dX4_hourOn_60 (by omega) ((up_ne (by decide)).trans m0) rfl ?_
      refine j_irem dX4_hourOn_63 (nI_ne0 (by omega) (by omega)) ?_
      refine j_topi (y := nI (k % S)) (pk_rem (by omega) (by omega) (by omega)) ?_
      refine j_iald dX4_hourOn_64 (by omega) ((up_ne (by decide)).trans m1) (by decide) (Nat.lt_of_lt_of_le (Nat.mod_lt _ (by omega)) hS) rfl ?_
      refine j_isub dX4_hourOn_65 ?_
      refine j_mmax ln_X4_71 js_max iz_java_lang_Math jc_max dX4_hourOn_66 (by decide) (Nat.le_of_ble_eq_true rfl) ?_
      refine j_topi (y := max0 (dryv x (f1 k) + o1 - ed (k % S))) rfl ?_
      refine j_istore_n (L' := [some (.ref (ad 63)), some (.ref (ad 68)), some (.int x), some (.int (max0 (dryv x (f1 k) + o1 - ed (k % S)))), some (.int (nI k)), some (.int (dryv x (f1 k)))]) dX4_hourOn_69 (by decide) rfl rfl ?_
      refine j_aload_n dX4_hourOn_70 rfl ?_
      refine j_iload dX4_hourOn_71 rfl ?_
      refine j_dup2 dX4_hourOn_73 rfl rfl ?_
      refine j_iald dX4_hourOn_74 (by omega) up_eq (by decide) (by omega) rfl ?_
      refine j_topi (y := dryv x (f1 k) + o1) (if_pos rfl) ?_
      refine j_iload_n dX4_hourOn_75 rfl ?_
      refine j_isub dX4_hourOn_76 ?_
      refine j_iast (j := k) dX4_hourOn_77 (by omega) up_eq (by decide) (by omega) ?_
      refine j_E up_up ?_
      refine j_iinc (v := nI (k + 1)) (L' := [some (.ref (ad 63)), some (.ref (ad 68)), some (.int x), some (.int (max0 (dryv x (f1 k) + o1 - ed (k % S)))), some (.int (nI (k + 1))), some (.int (dryv x (f1 k)))]) dX4_hourOn_78 (by decide) rfl (nI_1 _) rfl rfl ?_
      refine j_goto (tgt := 5) dX4_hourOn_81 (by decide) ?_
      refine j_clr 5 ?_
      exact ih (max0 (dryv x (f1 k) + o1 - ed (k % S)), upd (upd f1 k ((dryv x (f1 k)) + o1)) k ((dryv x (f1 k) + o1) - (max0 (dryv x (f1 k) + o1 - ed (k % S))))) rfl
  · skip
    show J g mX4_hourOn 1 0 0 5 [some (.ref (ad 63)), some (.ref (ad 68)), some (.int x), some (.int ((hourM x ed F S f).1)), some (.int (nI (F * S))), none] [] n ad (va_up E 68 (aI g 128 ((hourM x ed F S f).2))) Φ Ψ
    refine j_iload dX4_hourOn_5 rfl ?_
    refine j_aload_n dX4_hourOn_7 rfl ?_
    refine j_cV (As := []) (rest := [.int (nI (F * S))]) cm_X4_all ci_X4_all cs_X4_all rfl ln_X4_67 (ci := 4) rfl dX4_hourOn_8 (d' := 0) (by decide) (by omega) ((up_ne (by decide)).trans m0) rfl rfl (Nat.le_of_ble_eq_true rfl) (Nat.le_of_ble_eq_true rfl) (s_X4_all (MR.setWk D)) ?_
    refine j_icmp_ge_t (tgt := 84) dX4_hourOn_11 (by decide) (nI_le' (by omega) (by omega) (by omega)) ?_
    refine j_iload_n dX4_hourOn_84 rfl ?_
    exact j_iret dX4_hourOn_85 rfl h
set_option maxRecDepth 100000 in
set_option maxHeartbeats 4000000 in
theorem s_X4_look {g : jG} {n : Nat} {ad : Nat → Nat} {E : Nat → va_E} {th : Int32} {F S : Nat} {hrs su : Int32} {gone : Int64} {lv ed : Nat → Int32} {first cnt : Nat} {ah : Nat → Int32} {mc : Nat} {mk : Nat → Int32} (D : MR g n ad E th F S hrs su gone lv ed first cnt ah mc mk) (w9 : Nat → Int32) (h68 : E 68 = aI g 128 w9) : Ret g mX4_look 2 [.ref (ad 63)] n ad E none (va_up E 68 (aI g 128 (va_cpy lv w9 0 0 128))) := by
  obtain ⟨m0, m1, m2, m3, m4, ⟨wk, m5⟩, hF, hS, hFp, hSp, hfi, hcn, hmc, hn⟩ := id D
  intro Φ Ψ h
  show J g mX4_look 2 0 0 0 [some (.ref (ad 63))] [] n ad E Φ Ψ
  refine j_aload_n dX4_look_0 rfl ?_
  refine j_get fl_X4_23 dX4_look_1 (by omega) m0 rfl ?_
  refine j_iconst (v := nI 0) dX4_look_4 (by decide) ?_
  refine j_aload_n dX4_look_5 rfl ?_
  refine j_get fl_X4_32 dX4_look_6 (by omega) m0 rfl ?_
  refine j_iconst (v := nI 0) dX4_look_9 (by decide) ?_
  refine j_sipush (v := nI 128) dX4_look_10 (by decide) ?_
  refine j_copy (sp := 0) (dp := 0) (cnt := 128) ln_X4_61 jn_copy js_copy iz_java_lang_System dX4_look_13 (by decide) (Nat.le_of_ble_eq_true rfl) (by omega) m2 (by omega) h68 (by decide) (by decide) (by omega) (by omega) ?_
  exact j_vret dX4_look_16 rfl h
set_option maxRecDepth 100000 in
set_option maxHeartbeats 4000000 in
theorem s_X4_goneBehind {g : jG} {n : Nat} {ad : Nat → Nat} {E : Nat → va_E} {th : Int32} {F S : Nat} {hrs su : Int32} {gone : Int64} {lv ed : Nat → Int32} {first cnt : Nat} {ah : Nat → Int32} {mc : Nat} {mk : Nat → Int32} (D : MR g n ad E th F S hrs su gone lv ed first cnt ah mc mk) (t9 : Nat) (ht2 : t9 ≤ 40) (x : Int32) : RetP g mX4_goneBehind 3 [.ref (ad 63), .int (nI t9), .int x] n ad E (some (.int (flowR x ed F S t9 lv).1)) (fun E9 => (MR g n ad E9 th F S hrs su gone lv ed first cnt ah mc mk ∧ ∀ k, (k < 63 ∨ 69 ≤ k) → E9 k = E k) ∧ ∃ f, E9 68 = aI g 128 f ∧ ∀ k, k < F * S → f k = (flowR x ed F S t9 lv).2 k) := by
  obtain ⟨m0, m1, m2, m3, m4, ⟨wk, m5⟩, hF, hS, hFp, hSp, hfi, hcn, hmc, hn⟩ := id D
  have hFS := fs128 hF hS
  intro Φ Ψ h
  show J g mX4_goneBehind 3 0 0 0 [some (.ref (ad 63)), some (.int (nI t9)), some (.int x), none, none] [] n ad E Φ Ψ
  refine j_aload_n dX4_goneBehind_0 rfl ?_
  refine j_cV (As := []) (rest := []) cm_X4_look ci_X4_look cs_X4_look rfl ln_X4_77 (ci := 4) rfl dX4_goneBehind_1 (d' := 2) (by decide) (by omega) m0 rfl rfl (Nat.le_of_ble_eq_true rfl) (Nat.le_of_ble_eq_true rfl) (s_X4_look D wk m5) ?_
  refine j_iconst (v := 0) dX4_goneBehind_4 (by decide) ?_
  refine j_istore_n (L' := [some (.ref (ad 63)), some (.int (nI t9)), some (.int x), some (.int 0), none]) dX4_goneBehind_5 (by decide) rfl rfl ?_
  refine j_iconst (v := nI 0) dX4_goneBehind_6 (by decide) ?_
  refine j_istore (L' := [some (.ref (ad 63)), some (.int (nI t9)), some (.int x), some (.int 0), some (.int (nI 0))]) dX4_goneBehind_7 (by decide) rfl rfl ?_
  refine lpf_ind (b := fun _ (a : Int32 × (Nat → Int32)) => (a.1 + (hourR x ed F S a.2).1, (hourR x ed F S a.2).2)) (P := fun (i : Nat) (y : Int32 × (Nat → Int32)) => J g mX4_goneBehind 3 0 0 9 [some (.ref (ad 63)), some (.int (nI t9)), some (.int x), some (.int y.1), some (.int (nI i))] [] n ad (va_up E 68 (aI g 128 y.2)) Φ Ψ) (N := t9) 0 ?_ t9 ((0, va_cpy lv wk 0 0 128) : Int32 × (Nat → Int32)) (by omega) ?_
  · intro i y hi0 hi ih
    obtain ⟨o1, f1⟩ := y
    show J g mX4_goneBehind 3 0 0 9 [some (.ref (ad 63)), some (.int (nI t9)), some (.int x), some (.int o1), some (.int (nI i))] [] n ad (va_up E 68 (aI g 128 f1)) Φ Ψ
    refine j_iload dX4_goneBehind_9 rfl ?_
    refine j_iload_n dX4_goneBehind_11 rfl ?_
    refine j_icmp_ge_f (tgt := 33) dX4_goneBehind_12 (by decide) (nI_nle' (by omega) (by omega) (by omega)) ?_
    refine j_iload_n dX4_goneBehind_15 rfl ?_
    refine j_aload_n dX4_goneBehind_16 rfl ?_
    refine j_aload_n dX4_goneBehind_17 rfl ?_
    refine j_get fl_X4_32 dX4_goneBehind_18 (by omega) ((up_ne (by decide)).trans m0) rfl ?_
    refine j_iload_n dX4_goneBehind_21 rfl ?_
    refine j_cV (As := [.ref (ad 68), .int x]) (rest := [.int o1]) cm_X4_hourOn ci_X4_hourOn cs_X4_hourOn rfl ln_X4_80 (ci := 4) rfl dX4_goneBehind_22 (d' := 1) (by decide) (by omega) ((up_ne (by decide)).trans m0) rfl rfl (Nat.le_of_ble_eq_true rfl) (Nat.le_of_ble_eq_true rfl) (s_hour_wk (MR.setWk D) x f1 up_eq) ?_
    refine j_E up_up ?_
    refine j_iadd dX4_goneBehind_25 ?_
    refine j_istore_n (L' := [some (.ref (ad 63)), some (.int (nI t9)), some (.int x), some (.int (o1 + ((hourR x ed F S f1).1))), some (.int (nI i))]) dX4_goneBehind_26 (by decide) rfl rfl ?_
    refine j_iinc (v := nI (i + 1)) (L' := [some (.ref (ad 63)), some (.int (nI t9)), some (.int x), some (.int (o1 + ((hourR x ed F S f1).1))), some (.int (nI (i + 1)))]) dX4_goneBehind_27 (by decide) rfl (nI_1 _) rfl rfl ?_
    refine j_goto (tgt := 9) dX4_goneBehind_30 (by decide) ?_
    exact ih (o1 + ((hourR x ed F S f1).1), (hourR x ed F S f1).2) rfl
  · skip
    show J g mX4_goneBehind 3 0 0 9 [some (.ref (ad 63)), some (.int (nI t9)), some (.int x), some (.int ((flowR x ed F S t9 (va_cpy lv wk 0 0 128)).1)), some (.int (nI t9))] [] n ad (va_up E 68 (aI g 128 ((flowR x ed F S t9 (va_cpy lv wk 0 0 128)).2))) Φ Ψ
    refine j_iload dX4_goneBehind_9 rfl ?_
    refine j_iload_n dX4_goneBehind_11 rfl ?_
    refine j_icmp_ge_t (tgt := 33) dX4_goneBehind_12 (by decide) (nI_le' (by omega) (by omega) (by omega)) ?_
    refine j_iload_n dX4_goneBehind_33 rfl ?_
    refine j_topi (y := (flowR x ed F S t9 lv).1) (flowR_congr (fun _ _ => rfl) (fun k hk => lk_at (by omega))).1 ?_
    exact j_iret dX4_goneBehind_34 rfl (h _ ⟨⟨(MR.setWk D), (fun k hk => ((up_ne (by omega)).trans rfl))⟩, _, up_eq, (flowR_congr (fun _ _ => rfl) (fun k hk => lk_at (by omega))).2⟩)
set_option maxRecDepth 100000 in
set_option maxHeartbeats 4000000 in
theorem s_isDry_t {g : jG} {n : Nat} {ad : Nat → Nat} {E : Nat → va_E} {th : Int32} {F S : Nat} {hrs su : Int32} {gone : Int64} {lv ed : Nat → Int32} {first cnt : Nat} {ah : Nat → Int32} {mc : Nat} {mk : Nat → Int32} (D : MR g n ad E th F S hrs su gone lv ed first cnt ah mc mk) (f : Nat → Int32) (h68 : E 68 = aI g 128 f) (hd : uptC f (F * S) 0 = nI (F * S)) : Ret g mX4_isDry 1 [.ref (ad 63), .ref (ad 68)] n ad E (some (.int 1)) E := by
  obtain ⟨m0, m1, m2, m3, m4, ⟨wk, m5⟩, hF, hS, hFp, hSp, hfi, hcn, hmc, hn⟩ := id D
  have hFS := fs128 hF hS
  intro Φ Ψ h
  show J g mX4_isDry 1 0 0 0 [some (.ref (ad 63)), some (.ref (ad 68)), none] [] n ad E Φ Ψ
  have hd9 := (allDry_iff (show F * S < 2 ^ 31 by omega)).mp hd
  refine j_iconst (v := nI 0) dX4_isDry_0 (by decide) ?_
  refine j_istore_n (L' := [some (.ref (ad 63)), some (.ref (ad 68)), some (.int (nI 0))]) dX4_isDry_1 (by decide) rfl rfl ?_
  refine up_ind (P := fun (k : Nat) => J g mX4_isDry 1 0 0 2 [some (.ref (ad 63)), some (.ref (ad 68)), some (.int (nI k))] [] n ad E Φ Ψ) (N := F * S) 0 ?_ (F * S) (by omega) ?_
  · intro k hk0 hk ih
    show J g mX4_isDry 1 0 0 2 [some (.ref (ad 63)), some (.ref (ad 68)), some (.int (nI k))] [] n ad E Φ Ψ
    refine j_iload_n dX4_isDry_2 rfl ?_
    refine j_aload_n dX4_isDry_3 rfl ?_
    refine j_cV (As := []) (rest := [.int (nI k)]) cm_X4_all ci_X4_all cs_X4_all rfl ln_X4_67 (ci := 4) rfl dX4_isDry_4 (d' := 0) (by decide) (by omega) m0 rfl rfl (Nat.le_of_ble_eq_true rfl) (Nat.le_of_ble_eq_true rfl) (s_X4_all D) ?_
    refine j_icmp_ge_f (tgt := 24) dX4_isDry_7 (by decide) (nI_nle' (by omega) (by omega) (by omega)) ?_
    refine j_aload_n dX4_isDry_10 rfl ?_
    refine j_iload_n dX4_isDry_11 rfl ?_
    refine j_iald dX4_isDry_12 (by omega) h68 (by decide) (by omega) rfl ?_
    refine j_if_le_t (tgt := 18) dX4_isDry_13 (by decide) (dry_of (hd9 k hk)) ?_
    refine j_iinc (v := nI (k + 1)) (L' := [some (.ref (ad 63)), some (.ref (ad 68)), some (.int (nI (k + 1)))]) dX4_isDry_18 (by decide) rfl (nI_1 _) rfl rfl ?_
    refine j_goto (tgt := 2) dX4_isDry_21 (by decide) ?_
    exact ih
  · skip
    show J g mX4_isDry 1 0 0 2 [some (.ref (ad 63)), some (.ref (ad 68)), some (.int (nI (F * S)))] [] n ad E Φ Ψ
    refine j_iload_n dX4_isDry_2 rfl ?_
    refine j_aload_n dX4_isDry_3 rfl ?_
    refine j_cV (As := []) (rest := [.int (nI (F * S))]) cm_X4_all ci_X4_all cs_X4_all rfl ln_X4_67 (ci := 4) rfl dX4_isDry_4 (d' := 0) (by decide) (by omega) m0 rfl rfl (Nat.le_of_ble_eq_true rfl) (Nat.le_of_ble_eq_true rfl) (s_X4_all D) ?_
    refine j_icmp_ge_t (tgt := 24) dX4_isDry_7 (by decide) (nI_le' (by omega) (by omega) (by omega)) ?_
    refine j_iconst (v := 1) dX4_isDry_24 (by decide) ?_
    exact j_zret dX4_isDry_25 rfl rfl h
set_option maxRecDepth 100000 in
set_option maxHeartbeats 4000000 in
theorem s_isDry_f {g : jG} {n : Nat} {ad : Nat → Nat} {E : Nat → va_E} {th : Int32} {F S : Nat} {hrs su : Int32} {gone : Int64} {lv ed : Nat → Int32} {first cnt : Nat} {ah : Nat → Int32} {mc : Nat} {mk : Nat → Int32} (D : MR g n ad E th F S hrs su gone lv ed first cnt ah mc mk) (f : Nat → Int32) (h68 : E 68 = aI g 128 f) (hd : ¬ uptC f (F * S) 0 = nI (F * S)) : Ret g mX4_isDry 1 [.ref (ad 63), .ref (ad 68)] n ad E (some (.int 0)) E := by
  obtain ⟨m0, m1, m2, m3, m4, ⟨wk, m5⟩, hF, hS, hFp, hSp, hfi, hcn, hmc, hn⟩ := id D
  have hFS := fs128 hF hS
  intro Φ Ψ h
  show J g mX4_isDry 1 0 0 0 [some (.ref (ad 63)), some (.ref (ad 68)), none] [] n ad E Φ Ψ
  obtain ⟨k0, hk0, hw0, hd9⟩ := wet_ex (show F * S < 2 ^ 31 by omega) hd
  refine j_iconst (v := nI 0) dX4_isDry_0 (by decide) ?_
  refine j_istore_n (L' := [some (.ref (ad 63)), some (.ref (ad 68)), some (.int (nI 0))]) dX4_isDry_1 (by decide) rfl rfl ?_
  refine up_ind (P := fun (k : Nat) => J g mX4_isDry 1 0 0 2 [some (.ref (ad 63)), some (.ref (ad 68)), some (.int (nI k))] [] n ad E Φ Ψ) (N := k0) 0 ?_ k0 (by omega) ?_
  · intro k hk0 hk ih
    show J g mX4_isDry 1 0 0 2 [some (.ref (ad 63)), some (.ref (ad 68)), some (.int (nI k))] [] n ad E Φ Ψ
    refine j_iload_n dX4_isDry_2 rfl ?_
    refine j_aload_n dX4_isDry_3 rfl ?_
    refine j_cV (As := []) (rest := [.int (nI k)]) cm_X4_all ci_X4_all cs_X4_all rfl ln_X4_67 (ci := 4) rfl dX4_isDry_4 (d' := 0) (by decide) (by omega) m0 rfl rfl (Nat.le_of_ble_eq_true rfl) (Nat.le_of_ble_eq_true rfl) (s_X4_all D) ?_
    refine j_icmp_ge_f (tgt := 24) dX4_isDry_7 (by decide) (nI_nle' (by omega) (by omega) (by omega)) ?_
    refine j_aload_n dX4_isDry_10 rfl ?_
    refine j_iload_n dX4_isDry_11 rfl ?_
    refine j_iald dX4_isDry_12 (by omega) h68 (by decide) (by omega) rfl ?_
    refine j_if_le_t (tgt := 18) dX4_isDry_13 (by decide) (dry_of (hd9 k hk)) ?_
    refine j_iinc (v := nI (k + 1)) (L' := [some (.ref (ad 63)), some (.ref (ad 68)), some (.int (nI (k + 1)))]) dX4_isDry_18 (by decide) rfl (nI_1 _) rfl rfl ?_
    refine j_goto (tgt := 2) dX4_isDry_21 (by decide) ?_
    exact ih
  · skip
    show J g mX4_isDry 1 0 0 2 [some (.ref (ad 63)), some (.ref (ad 68)), some (.int (nI k0))] [] n ad E Φ Ψ
    refine j_iload_n dX4_isDry_2 rfl ?_
    refine j_aload_n dX4_isDry_3 rfl ?_
    refine j_cV (As := []) (rest := [.int (nI k0)]) cm_X4_all ci_X4_all cs_X4_all rfl ln_X4_67 (ci := 4) rfl dX4_isDry_4 (d' := 0) (by decide) (by omega) m0 rfl rfl (Nat.le_of_ble_eq_true rfl) (Nat.le_of_ble_eq_true rfl) (s_X4_all D) ?_
    refine j_icmp_ge_f (tgt := 24) dX4_isDry_7 (by decide) (nI_nle' (by omega) (by omega) (by omega)) ?_
    refine j_aload_n dX4_isDry_10 rfl ?_
    refine j_iload_n dX4_isDry_11 rfl ?_
    refine j_iald dX4_isDry_12 (by omega) h68 (by decide) (by omega) rfl ?_
    refine j_if_le_f (tgt := 18) dX4_isDry_13 (by decide) (fun q => by rw [Int32.le_iff_toInt_le] at q; rw [Int32.lt_iff_toInt_lt] at hw0; omega) ?_
    refine j_iconst (v := 0) dX4_isDry_16 (by decide) ?_
    exact j_zret dX4_isDry_17 rfl rfl h
set_option maxRecDepth 100000 in
set_option maxHeartbeats 4000000 in
theorem s_X4_dryAt_ok {g : jG} {n : Nat} {ad : Nat → Nat} {E : Nat → va_E} {th : Int32} {F S : Nat} {hrs su : Int32} {gone : Int64} {lv ed : Nat → Int32} {first cnt : Nat} {ah : Nat → Int32} {mc : Nat} {mk : Nat → Int32} (D : MR g n ad E th F S hrs su gone lv ed first cnt ah mc mk) (p9 k0 : Nat) (hk0 : k0 < F * S) (hd0 : ¬ 0 < lv k0) (hp9 : dcnt lv k0 = p9) : RetP g mX4_dryAt 3 [.ref (ad 63), .int (nI p9)] n ad E (some (.int (nI k0))) (fun E9 => MR g n ad E9 0 F S hrs su gone lv ed first cnt ah mc mk ∧ ∀ k, (k < 63 ∨ 69 ≤ k) → E9 k = E k) := by
  obtain ⟨m0, m1, m2, m3, m4, ⟨wk, m5⟩, hF, hS, hFp, hSp, hfi, hcn, hmc, hn⟩ := id D
  have hFS := fs128 hF hS
  have hlt : p9 < dcnt lv (F * S) := hp9 ▸ dcnt_dry lv hk0 hd0
  have hle := dcnt_le lv (F * S)
  have hall := (dryP_flat lv hFp hSp).trans (uptC_dcnt lv (F * S))
  intro Φ Ψ h
  show J g mX4_dryAt 3 0 0 0 [some (.ref (ad 63)), some (.int (nI p9)), none, none] [] n ad E Φ Ψ
  refine j_aload_n dX4_dryAt_0 rfl ?_
  refine j_iconst (v := 0) dX4_dryAt_1 (by decide) ?_
  refine j_put fl_X4_38 fp_X4 dX4_dryAt_2 (by omega) m0 (Or.inl rfl) rfl rfl (Nat.le_of_ble_eq_true rfl) ?_
  refine j_iload_n dX4_dryAt_5 rfl ?_
  refine j_iconst (v := nI 0) dX4_dryAt_6 (by decide) ?_
  refine j_aload_n dX4_dryAt_7 rfl ?_
  refine j_cV (As := []) (rest := [.int (nI 0), .int (nI p9)]) cm_X4_dryNow ci_X4_dryNow cs_X4_dryNow rfl ln_X4_151 (ci := 4) rfl dX4_dryAt_8 (d' := 2) (by decide) (by omega) up_eq rfl rfl (Nat.le_of_ble_eq_true rfl) (Nat.le_of_ble_eq_true rfl) (s_X4_dryNow (MR.setO D ⟨by omega, by omega, by omega, by omega, by omega, by omega, by omega⟩)) ?_
  refine j_topi (y := nI (dcnt lv (F * S))) hall ?_
  refine j_iconst (v := nI 1) dX4_dryAt_11 (by decide) ?_
  refine j_isub dX4_dryAt_12 ?_
  refine j_topi (y := nI ((dcnt lv (F * S)) - 1)) (pk_sub (by omega)) ?_
  refine j_cS (As := [.int (nI p9), .int (nI 0), .int (nI ((dcnt lv (F * S)) - 1))]) (rest := []) cm_X4_isIn ct_X4_isIn ln_X4_41 dX4_dryAt_13 (d' := 0) (by decide) rfl rfl (Nat.le_of_ble_eq_true rfl) (Nat.le_of_ble_eq_true rfl) (s_isIn_t (nI p9) (nI 0) (nI ((dcnt lv (F * S)) - 1)) (nI_nlt' (by omega) (by omega) (by omega)) (nI_nlt' (by omega) (by omega) (by omega))) ?_
  refine j_if_ne_t (tgt := 25) dX4_dryAt_16 (by decide) (by decide) ?_
  refine j_iload_n dX4_dryAt_25 rfl ?_
  refine j_istore_n (L' := [some (.ref (ad 63)), some (.int (nI p9)), some (.int (nI p9)), none]) dX4_dryAt_26 (by decide) rfl rfl ?_
  refine j_iconst (v := nI 0) dX4_dryAt_27 (by decide) ?_
  refine j_istore_n (L' := [some (.ref (ad 63)), some (.int (nI p9)), some (.int (nI p9)), some (.int (nI 0))]) dX4_dryAt_28 (by decide) rfl rfl ?_
  have e0 : p9 = p9 - dcnt lv 0 := rfl
  refine up_ind (P := fun (j : Nat) => J g mX4_dryAt 3 0 0 29 [some (.ref (ad 63)), some (.int (nI p9)), some (.int (nI (p9 - dcnt lv j))), some (.int (nI j))] [] n ad (va_up E 63 (.inr (4, [.int 0, .int (nI F), .int (nI S), .int hrs, .int su, .long gone, .ref (ad 64), .ref (ad 65), .ref (ad 66), .int (nI first), .int (nI cnt), .ref (ad 67), .int (nI mc), .ref (ad 68)]))) Φ Ψ) (N := k0) 0 ?_ k0 (by omega) ?_
  · intro j hj0 hj ih
    show J g mX4_dryAt 3 0 0 29 [some (.ref (ad 63)), some (.int (nI p9)), some (.int (nI (p9 - dcnt lv j))), some (.int (nI j))] [] n ad (va_up E 63 (.inr (4, [.int 0, .int (nI F), .int (nI S), .int hrs, .int su, .long gone, .ref (ad 64), .ref (ad 65), .ref (ad 66), .int (nI first), .int (nI cnt), .ref (ad 67), .int (nI mc), .ref (ad 68)]))) Φ Ψ
    by_cases hq : 0 < lv j
    · skip
      have es : dcnt lv (j + 1) = dcnt lv j := by rw [dcnt_s, if_pos hq, Nat.add_zero]
      refine j_aload_n dX4_dryAt_29 rfl ?_
      refine j_get fl_X4_23 dX4_dryAt_30 (by omega) up_eq rfl ?_
      refine j_iload_n dX4_dryAt_33 rfl ?_
      refine j_iald dX4_dryAt_34 (by omega) ((up_ne (by decide)).trans m2) (by decide) (by omega) rfl ?_
      refine j_if_gt_t (tgt := 42) dX4_dryAt_35 (by decide) hq ?_
      refine j_iload_n dX4_dryAt_42 rfl ?_
      refine j_aload_n dX4_dryAt_43 rfl ?_
      refine j_get fl_X4_23 dX4_dryAt_44 (by omega) up_eq rfl ?_
      refine j_iload_n dX4_dryAt_47 rfl ?_
      refine j_iald dX4_dryAt_48 (by omega) ((up_ne (by decide)).trans m2) (by decide) (by omega) rfl ?_
      refine j_if_le_f (tgt := 56) dX4_dryAt_49 (by decide) (fun q => absurd hq (by rw [Int32.lt_iff_toInt_lt]; rw [Int32.le_iff_toInt_le] at q; omega)) ?_
      refine j_iconst (v := nI 0) dX4_dryAt_52 (by decide) ?_
      refine j_goto (tgt := 57) dX4_dryAt_53 (by decide) ?_
      refine j_isub dX4_dryAt_57 ?_
      refine j_topi (y := nI ((p9 - dcnt lv j) - 0)) (pk_sub (by omega)) ?_
      refine j_istore_n (L' := [some (.ref (ad 63)), some (.int (nI p9)), some (.int (nI ((p9 - dcnt lv j) - 0))), some (.int (nI j))]) dX4_dryAt_58 (by decide) rfl rfl ?_
      refine j_iinc (v := nI (j + 1)) (L' := [some (.ref (ad 63)), some (.int (nI p9)), some (.int (nI ((p9 - dcnt lv j) - 0))), some (.int (nI (j + 1)))]) dX4_dryAt_59 (by decide) rfl (nI_1 _) rfl rfl ?_
      refine j_goto (tgt := 29) dX4_dryAt_62 (by decide) ?_
      rw [es] at ih
      exact ih
    · skip
      have es : dcnt lv (j + 1) = dcnt lv j + 1 := by rw [dcnt_s, if_neg hq]
      have hl2 := dcnt_mono lv (show j + 1 ≤ k0 by omega)
      have es2 : p9 - dcnt lv (j + 1) = p9 - dcnt lv j - 1 := by omega
      refine j_aload_n dX4_dryAt_29 rfl ?_
      refine j_get fl_X4_23 dX4_dryAt_30 (by omega) up_eq rfl ?_
      refine j_iload_n dX4_dryAt_33 rfl ?_
      refine j_iald dX4_dryAt_34 (by omega) ((up_ne (by decide)).trans m2) (by decide) (by omega) rfl ?_
      refine j_if_gt_f (tgt := 42) dX4_dryAt_35 (by decide) hq ?_
      refine j_iload_n dX4_dryAt_38 rfl ?_
      refine j_if_le_f (tgt := 65) dX4_dryAt_39 (by decide) (nI_nle0 (by omega) (by omega)) ?_
      refine j_iload_n dX4_dryAt_42 rfl ?_
      refine j_aload_n dX4_dryAt_43 rfl ?_
      refine j_get fl_X4_23 dX4_dryAt_44 (by omega) up_eq rfl ?_
      refine j_iload_n dX4_dryAt_47 rfl ?_
      refine j_iald dX4_dryAt_48 (by omega) ((up_ne (by decide)).trans m2) (by decide) (by omega) rfl ?_
      refine j_if_le_t (tgt := 56) dX4_dryAt_49 (by decide) (dry_of hq) ?_
      refine j_iconst (v := nI 1) dX4_dryAt_56 (by decide) ?_
      refine j_isub dX4_dryAt_57 ?_
      refine j_topi (y := nI ((p9 - dcnt lv j) - 1)) (pk_sub (by omega)) ?_
      refine j_istore_n (L' := [some (.ref (ad 63)), some (.int (nI p9)), some (.int (nI ((p9 - dcnt lv j) - 1))), some (.int (nI j))]) dX4_dryAt_58 (by decide) rfl rfl ?_
      refine j_iinc (v := nI (j + 1)) (L' := [some (.ref (ad 63)), some (.int (nI p9)), some (.int (nI ((p9 - dcnt lv j) - 1))), some (.int (nI (j + 1)))]) dX4_dryAt_59 (by decide) rfl (nI_1 _) rfl rfl ?_
      refine j_goto (tgt := 29) dX4_dryAt_62 (by decide) ?_
      rw [es2] at ih
      exact ih
  · skip
    show J g mX4_dryAt 3 0 0 29 [some (.ref (ad 63)), some (.int (nI p9)), some (.int (nI (p9 - dcnt lv k0))), some (.int (nI k0))] [] n ad (va_up E 63 (.inr (4, [.int 0, .int (nI F), .int (nI S), .int hrs, .int su, .long gone, .ref (ad 64), .ref (ad 65), .ref (ad 66), .int (nI first), .int (nI cnt), .ref (ad 67), .int (nI mc), .ref (ad 68)]))) Φ Ψ
    refine j_aload_n dX4_dryAt_29 rfl ?_
    refine j_get fl_X4_23 dX4_dryAt_30 (by omega) up_eq rfl ?_
    refine j_iload_n dX4_dryAt_33 rfl ?_
    refine j_iald dX4_dryAt_34 (by omega) ((up_ne (by decide)).trans m2) (by decide) (by omega) rfl ?_
    refine j_if_gt_f (tgt := 42) dX4_dryAt_35 (by decide) hd0 ?_
    refine j_iload_n dX4_dryAt_38 rfl ?_
    refine j_if_le_t (tgt := 65) dX4_dryAt_39 (by decide) (nI_le0 (by omega)) ?_
    refine j_iload_n dX4_dryAt_65 rfl ?_
    exact j_iret dX4_dryAt_66 rfl (h _ ⟨(MR.setO D ⟨by omega, by omega, by omega, by omega, by omega, by omega, by omega⟩), (fun k hk => ((up_ne (by omega)).trans rfl))⟩)
set_option maxRecDepth 100000 in
set_option maxHeartbeats 4000000 in
theorem s_X4_dryAt_bad {g : jG} {n : Nat} {ad : Nat → Nat} {E : Nat → va_E} {th : Int32} {F S : Nat} {hrs su : Int32} {gone : Int64} {lv ed : Nat → Int32} {first cnt : Nat} {ah : Nat → Int32} {mc : Nat} {mk : Nat → Int32} (D : MR g n ad E th F S hrs su gone lv ed first cnt ah mc mk) (x : Int32) (hx : oob x (dcnt lv (F * S))) : RetP g mX4_dryAt 3 [.ref (ad 63), .int x] n ad E (some (.int 0)) (fun E9 => MR g n ad E9 1 F S hrs su gone lv ed first cnt ah mc mk ∧ ∀ k, (k < 63 ∨ 69 ≤ k) → E9 k = E k) := by
  obtain ⟨m0, m1, m2, m3, m4, ⟨wk, m5⟩, hF, hS, hFp, hSp, hfi, hcn, hmc, hn⟩ := id D
  have hFS := fs128 hF hS
  have hle := dcnt_le lv (F * S)
  have hall := (dryP_flat lv hFp hSp).trans (uptC_dcnt lv (F * S))
  intro Φ Ψ h
  show J g mX4_dryAt 3 0 0 0 [some (.ref (ad 63)), some (.int x), none, none] [] n ad E Φ Ψ
  refine j_aload_n dX4_dryAt_0 rfl ?_
  refine j_iconst (v := 0) dX4_dryAt_1 (by decide) ?_
  refine j_put fl_X4_38 fp_X4 dX4_dryAt_2 (by omega) m0 (Or.inl rfl) rfl rfl (Nat.le_of_ble_eq_true rfl) ?_
  refine j_iload_n dX4_dryAt_5 rfl ?_
  refine j_iconst (v := nI 0) dX4_dryAt_6 (by decide) ?_
  refine j_aload_n dX4_dryAt_7 rfl ?_
  refine j_cV (As := []) (rest := [.int (nI 0), .int x]) cm_X4_dryNow ci_X4_dryNow cs_X4_dryNow rfl ln_X4_151 (ci := 4) rfl dX4_dryAt_8 (d' := 2) (by decide) (by omega) up_eq rfl rfl (Nat.le_of_ble_eq_true rfl) (Nat.le_of_ble_eq_true rfl) (s_X4_dryNow (MR.setO D ⟨by omega, by omega, by omega, by omega, by omega, by omega, by omega⟩)) ?_
  refine j_topi (y := nI (dcnt lv (F * S))) hall ?_
  refine j_iconst (v := nI 1) dX4_dryAt_11 (by decide) ?_
  refine j_isub dX4_dryAt_12 ?_
  refine j_topi (y := nI (dcnt lv (F * S)) - nI 1) rfl ?_
  refine j_cS (As := [.int x, .int (nI 0), .int (nI (dcnt lv (F * S)) - nI 1)]) (rest := []) cm_X4_isIn ct_X4_isIn ln_X4_41 dX4_dryAt_13 (d' := 0) (by decide) rfl rfl (Nat.le_of_ble_eq_true rfl) (Nat.le_of_ble_eq_true rfl) (s_isIn_f x (nI 0) (nI (dcnt lv (F * S)) - nI 1) (hx.imp id (fun q => pred_lt0 (by omega) q))) ?_
  refine j_if_ne_f (tgt := 25) dX4_dryAt_16 (by decide) (by decide) ?_
  refine j_aload_n dX4_dryAt_19 rfl ?_
  refine j_iconst (v := 1) dX4_dryAt_20 (by decide) ?_
  refine j_cV (As := [.int 1]) (rest := []) cm_X4_no ci_X4_no cs_X4_no rfl ln_X4_84 (ci := 4) rfl dX4_dryAt_21 (d' := 0) (by decide) (by omega) up_eq rfl rfl (Nat.le_of_ble_eq_true rfl) (Nat.le_of_ble_eq_true rfl) (s_X4_no (MR.setO D ⟨by omega, by omega, by omega, by omega, by omega, by omega, by omega⟩) 1) ?_
  refine j_E up_up ?_
  exact j_iret dX4_dryAt_24 rfl (h _ ⟨(MR.setO D ⟨by omega, by omega, by omega, by omega, by omega, by omega, by omega⟩), (fun k hk => ((up_ne (by omega)).trans rfl))⟩)
