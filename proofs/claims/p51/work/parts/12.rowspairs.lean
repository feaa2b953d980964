/-! Copies of the water, kept rows, pairs of flights. -/
theorem mx1 {a : Nat} (h1 : 1 ≤ a) (h2 : a < 2 ^ 31) : (if nI 1 < nI a then nI a else nI 1) = nI a := by
  by_cases q : 1 < a
  · rw [if_pos (nI_lt' (by omega) h2 q)]
  · rw [if_neg (nI_nlt' (by omega) h2 (by omega))]
    exact nI_eq' (by omega)
theorem mnk {a k : Nat} (h1 : a ≤ k) (h2 : k < 2 ^ 31) : (if nI k < nI a then nI k else nI a) = nI a := if_neg (nI_nlt' h2 (by omega) h1)
theorem wat.setW {g : jG} {n : Nat} {ad : Nat → Nat} {E : Nat → va_E} {w iL iE F S F' S' : Nat} {su su' : Int32} {lv ed : Nat → Int32} (W : wat g n ad E w iL iE F S su lv ed) (h1 : F' ≤ 8) (h2 : S' ≤ 16) : wat g n ad (va_up E w (.inr (2, [.ref (ad iL), .ref (ad iE), .int (nI F'), .int (nI S'), .int su']))) w iL iE F' S' su' lv ed := by
  obtain ⟨q1, ⟨q2, q3, q4⟩, q5, q6, q7, q8⟩ := W
  exact ⟨q1, ⟨q2, q3, q4⟩, up_eq, (up_ne (Ne.symm q2)).trans q6, (up_ne (Ne.symm q3)).trans q7, h1, h2⟩
theorem wat.setE {g : jG} {n : Nat} {ad : Nat → Nat} {E : Nat → va_E} {w iL iE F S : Nat} {su : Int32} {lv ed ed' : Nat → Int32} (W : wat g n ad E w iL iE F S su lv ed) : wat g n ad (va_up E iE (aI g 16 ed')) w iL iE F S su lv ed' := by
  obtain ⟨h1, ⟨h2, h3, h4⟩, h5, h6, h7, h8⟩ := W
  exact ⟨h1, ⟨h2, h3, h4⟩, (up_ne h3).trans h5, (up_ne h4).trans h6, up_eq, h8⟩
theorem wat.kept {g : jG} {n : Nat} {ad : Nat → Nat} {E E' : Nat → va_E} {w iL iE F S : Nat} {su : Int32} {lv ed : Nat → Int32} (W : wat g n ad E w iL iE F S su lv ed) (h1 : E' w = E w) (h2 : E' iL = E iL) (h3 : E' iE = E iE) : wat g n ad E' w iL iE F S su lv ed := by
  obtain ⟨q1, q2, q5, q6, q7, q8⟩ := W
  exact ⟨q1, q2, h1.trans q5, h2.trans q6, h3.trans q7, q8⟩
set_option maxRecDepth 100000 in
set_option maxHeartbeats 4000000 in
theorem s_X2_copyFrom {g : jG} {n : Nat} {ad : Nat → Nat} {E : Nat → va_E} {w iL iE F S : Nat} {su : Int32} {lv ed : Nat → Int32} (W : wat g n ad E w iL iE F S su lv ed) {w2 iL2 iE2 F2 S2 : Nat} {su2 : Int32} {lv2 ed2 : Nat → Int32} (W2 : wat g n ad E w2 iL2 iE2 F2 S2 su2 lv2 ed2) (hd : (w2 ≠ w ∧ w2 ≠ iL ∧ w2 ≠ iE) ∧ (iL2 ≠ w ∧ iL2 ≠ iL ∧ iL2 ≠ iE) ∧ iE2 ≠ w ∧ iE2 ≠ iL ∧ iE2 ≠ iE) : Ret g mX2_copyFrom 1 [.ref (ad w), .ref (ad w2)] n ad E none (va_up (va_up (va_up E w (.inr (2, [.ref (ad iL), .ref (ad iE), .int (nI F2), .int (nI S2), .int su2]))) iL (aI g 128 (cpyN lv2 lv (F2 * S2)))) iE (aI g 16 (cpyN ed2 ed S2))) := by
  obtain ⟨⟨hwn, hLn, hEn⟩, ⟨hwL, hwE, hLE⟩, hw, hL, hE0, hF, hS⟩ := id W
  obtain ⟨⟨hwn2, hLn2, hEn2⟩, ⟨hwL2, hwE2, hLE2⟩, hw2, hL2, hE2, hF2, hS2⟩ := id W2
  have hFS2 := fs128 hF2 hS2
  intro Φ Ψ h
  show J g mX2_copyFrom 1 0 0 0 [some (.ref (ad w)), some (.ref (ad w2)), none] [] n ad E Φ Ψ
  refine j_aload_n dX2_copyFrom_0 rfl ?_
  refine j_aload_n dX2_copyFrom_1 rfl ?_
  refine j_get fl_X2_27 dX2_copyFrom_2 hwn2 hw2 rfl ?_
  refine j_put fl_X2_27 fp_X2 dX2_copyFrom_5 hwn hw (Or.inl rfl) rfl rfl (Nat.le_of_ble_eq_true rfl) ?_
  refine j_aload_n dX2_copyFrom_8 rfl ?_
  refine j_aload_n dX2_copyFrom_9 rfl ?_
  refine j_get fl_X2_31 dX2_copyFrom_10 hwn2 ((up_ne hd.1.1).trans hw2) rfl ?_
  refine j_put fl_X2_31 fp_X2 dX2_copyFrom_13 hwn up_eq (Or.inl rfl) rfl rfl (Nat.le_of_ble_eq_true rfl) ?_
  refine j_E up_up ?_
  refine j_aload_n dX2_copyFrom_16 rfl ?_
  refine j_aload_n dX2_copyFrom_17 rfl ?_
  refine j_get fl_X2_34 dX2_copyFrom_18 hwn2 ((up_ne hd.1.1).trans hw2) rfl ?_
  refine j_put fl_X2_34 fp_X2 dX2_copyFrom_21 hwn up_eq (Or.inl rfl) rfl rfl (Nat.le_of_ble_eq_true rfl) ?_
  refine j_E up_up ?_
  refine j_iconst (v := nI 0) dX2_copyFrom_24 (by decide) ?_
  refine j_istore_n (L' := [some (.ref (ad w)), some (.ref (ad w2)), some (.int (nI 0))]) dX2_copyFrom_25 (by decide) rfl rfl ?_
  refine j_E (E' := va_up (va_up E w (.inr (2, [.ref (ad iL), .ref (ad iE), .int (nI F2), .int (nI S2), .int su2]))) iL (aI g 128 (cpyN lv2 lv 0))) (up_self (by rw [up_ne (Ne.symm hwL), hL]; exact congrArg (aI g 128) (funext fun j => (if_neg (Nat.not_lt_zero j)).symm))).symm ?_
  refine up_ind (P := fun (k : Nat) => J g mX2_copyFrom 1 0 0 26 [some (.ref (ad w)), some (.ref (ad w2)), some (.int (nI k))] [] n ad (va_up (va_up E w (.inr (2, [.ref (ad iL), .ref (ad iE), .int (nI F2), .int (nI S2), .int su2]))) iL (aI g 128 (cpyN lv2 lv k))) Φ Ψ) (N := F2 * S2) 0 ?_ (F2 * S2) (by omega) ?_
  · intro k hk0 hk ih
    show J g mX2_copyFrom 1 0 0 26 [some (.ref (ad w)), some (.ref (ad w2)), some (.int (nI k))] [] n ad (va_up (va_up E w (.inr (2, [.ref (ad iL), .ref (ad iE), .int (nI F2), .int (nI S2), .int su2]))) iL (aI g 128 (cpyN lv2 lv k))) Φ Ψ
    refine j_iload_n dX2_copyFrom_26 rfl ?_
    refine j_aload_n dX2_copyFrom_27 rfl ?_
    refine j_cV (As := []) (rest := [.int (nI k)]) cm_X2_puddleCount ci_X2_puddleCount cs_X2_puddleCount rfl ln_X2_37 (ci := 2) rfl dX2_copyFrom_28 (d' := 0) (by decide) hwn ((up_ne hwL).trans up_eq) rfl rfl (Nat.le_of_ble_eq_true rfl) (Nat.le_of_ble_eq_true rfl) (s_X2_puddleCount (wat.setL (wat.setW W hF2 hS2))) ?_
    refine j_icmp_ge_f (tgt := 52) dX2_copyFrom_31 (by decide) (nI_nle' (by omega) (by omega) (by omega)) ?_
    refine j_aload_n dX2_copyFrom_34 rfl ?_
    refine j_get fl_X2_9 dX2_copyFrom_35 hwn ((up_ne hwL).trans up_eq) rfl ?_
    refine j_iload_n dX2_copyFrom_38 rfl ?_
    refine j_aload_n dX2_copyFrom_39 rfl ?_
    refine j_get fl_X2_9 dX2_copyFrom_40 hwn2 ((up_ne hd.1.2.1).trans ((up_ne hd.1.1).trans hw2)) rfl ?_
    refine j_iload_n dX2_copyFrom_43 rfl ?_
    refine j_iald dX2_copyFrom_44 hLn2 ((up_ne hd.2.1.2.1).trans ((up_ne hd.2.1.1).trans hL2)) (by decide) (by omega) rfl ?_
    refine j_iast (j := k) dX2_copyFrom_45 hLn up_eq (by decide) (by omega) ?_
    refine j_E up_up ?_
    refine j_iinc (v := nI (k + 1)) (L' := [some (.ref (ad w)), some (.ref (ad w2)), some (.int (nI (k + 1)))]) dX2_copyFrom_46 (by decide) rfl (nI_1 _) rfl rfl ?_
    refine j_goto (tgt := 26) dX2_copyFrom_49 (by decide) ?_
    exact j_E (congrArg (fun f => va_up (va_up E w (.inr (2, [.ref (ad iL), .ref (ad iE), .int (nI F2), .int (nI S2), .int su2]))) iL (aI g 128 f)) (cpyN_step lv2 lv k)) ih
  · skip
    show J g mX2_copyFrom 1 0 0 26 [some (.ref (ad w)), some (.ref (ad w2)), some (.int (nI (F2 * S2)))] [] n ad (va_up (va_up E w (.inr (2, [.ref (ad iL), .ref (ad iE), .int (nI F2), .int (nI S2), .int su2]))) iL (aI g 128 (cpyN lv2 lv (F2 * S2)))) Φ Ψ
    refine j_iload_n dX2_copyFrom_26 rfl ?_
    refine j_aload_n dX2_copyFrom_27 rfl ?_
    refine j_cV (As := []) (rest := [.int (nI (F2 * S2))]) cm_X2_puddleCount ci_X2_puddleCount cs_X2_puddleCount rfl ln_X2_37 (ci := 2) rfl dX2_copyFrom_28 (d' := 0) (by decide) hwn ((up_ne hwL).trans up_eq) rfl rfl (Nat.le_of_ble_eq_true rfl) (Nat.le_of_ble_eq_true rfl) (s_X2_puddleCount (wat.setL (wat.setW W hF2 hS2))) ?_
    refine j_icmp_ge_t (tgt := 52) dX2_copyFrom_31 (by decide) (nI_le' (by omega) (by omega) (by omega)) ?_
    refine j_iconst (v := nI 0) dX2_copyFrom_52 (by decide) ?_
    refine j_istore_n (L' := [some (.ref (ad w)), some (.ref (ad w2)), some (.int (nI 0))]) dX2_copyFrom_53 (by decide) rfl rfl ?_
    refine j_E (E' := va_up (va_up (va_up E w (.inr (2, [.ref (ad iL), .ref (ad iE), .int (nI F2), .int (nI S2), .int su2]))) iL (aI g 128 (cpyN lv2 lv (F2 * S2)))) iE (aI g 16 (cpyN ed2 ed 0))) (up_self (by rw [up_ne (Ne.symm hLE), up_ne (Ne.symm hwE), hE0]; exact congrArg (aI g 16) (funext fun j => (if_neg (Nat.not_lt_zero j)).symm))).symm ?_
    refine up_ind (P := fun (k : Nat) => J g mX2_copyFrom 1 0 0 54 [some (.ref (ad w)), some (.ref (ad w2)), some (.int (nI k))] [] n ad (va_up (va_up (va_up E w (.inr (2, [.ref (ad iL), .ref (ad iE), .int (nI F2), .int (nI S2), .int su2]))) iL (aI g 128 (cpyN lv2 lv (F2 * S2)))) iE (aI g 16 (cpyN ed2 ed k))) Φ Ψ) (N := S2) 0 ?_ S2 (by omega) ?_
    · intro k hk0 hk ih
      show J g mX2_copyFrom 1 0 0 54 [some (.ref (ad w)), some (.ref (ad w2)), some (.int (nI k))] [] n ad (va_up (va_up (va_up E w (.inr (2, [.ref (ad iL), .ref (ad iE), .int (nI F2), .int (nI S2), .int su2]))) iL (aI g 128 (cpyN lv2 lv (F2 * S2)))) iE (aI g 16 (cpyN ed2 ed k))) Φ Ψ
      refine j_iload_n dX2_copyFrom_54 rfl ?_
      refine j_aload_n dX2_copyFrom_55 rfl ?_
      refine j_get fl_X2_31 dX2_copyFrom_56 hwn ((up_ne hwE).trans ((up_ne hwL).trans up_eq)) rfl ?_
      refine j_icmp_ge_f (tgt := 80) dX2_copyFrom_59 (by decide) (nI_nle' (by omega) (by omega) (by omega)) ?_
      refine j_aload_n dX2_copyFrom_62 rfl ?_
      refine j_get fl_X2_15 dX2_copyFrom_63 hwn ((up_ne hwE).trans ((up_ne hwL).trans up_eq)) rfl ?_
      refine j_iload_n dX2_copyFrom_66 rfl ?_
      refine j_aload_n dX2_copyFrom_67 rfl ?_
      refine j_get fl_X2_15 dX2_copyFrom_68 hwn2 ((up_ne hd.1.2.2).trans ((up_ne hd.1.2.1).trans ((up_ne hd.1.1).trans hw2))) rfl ?_
      refine j_iload_n dX2_copyFrom_71 rfl ?_
      refine j_iald dX2_copyFrom_72 hEn2 ((up_ne hd.2.2.2.2).trans ((up_ne hd.2.2.2.1).trans ((up_ne hd.2.2.1).trans hE2))) (by decide) (by omega) rfl ?_
      refine j_iast (j := k) dX2_copyFrom_73 hEn up_eq (by decide) (by omega) ?_
      refine j_E up_up ?_
      refine j_iinc (v := nI (k + 1)) (L' := [some (.ref (ad w)), some (.ref (ad w2)), some (.int (nI (k + 1)))]) dX2_copyFrom_74 (by decide) rfl (nI_1 _) rfl rfl ?_
      refine j_goto (tgt := 54) dX2_copyFrom_77 (by decide) ?_
      exact j_E (congrArg (fun f => va_up (va_up (va_up E w (.inr (2, [.ref (ad iL), .ref (ad iE), .int (nI F2), .int (nI S2), .int su2]))) iL (aI g 128 (cpyN lv2 lv (F2 * S2)))) iE (aI g 16 f)) (cpyN_step ed2 ed k)) ih
    · skip
      show J g mX2_copyFrom 1 0 0 54 [some (.ref (ad w)), some (.ref (ad w2)), some (.int (nI S2))] [] n ad (va_up (va_up (va_up E w (.inr (2, [.ref (ad iL), .ref (ad iE), .int (nI F2), .int (nI S2), .int su2]))) iL (aI g 128 (cpyN lv2 lv (F2 * S2)))) iE (aI g 16 (cpyN ed2 ed S2))) Φ Ψ
      refine j_iload_n dX2_copyFrom_54 rfl ?_
      refine j_aload_n dX2_copyFrom_55 rfl ?_
      refine j_get fl_X2_31 dX2_copyFrom_56 hwn ((up_ne hwE).trans ((up_ne hwL).trans up_eq)) rfl ?_
      refine j_icmp_ge_t (tgt := 80) dX2_copyFrom_59 (by decide) (nI_le' (by omega) (by omega) (by omega)) ?_
      exact j_vret dX2_copyFrom_80 rfl h
set_option maxRecDepth 100000 in
set_option maxHeartbeats 4000000 in
theorem s_X2_layDry {g : jG} {n : Nat} {ad : Nat → Nat} {E : Nat → va_E} {w iL iE F S : Nat} {su : Int32} {lv ed : Nat → Int32} (W : wat g n ad E w iL iE F S su lv ed) (a b : Nat) (ha1 : 1 ≤ a) (ha : a ≤ 8) (hb1 : 1 ≤ b) (hb : b ≤ 16) : Ret g mX2_layDry 1 [.ref (ad w), .int (nI a), .int (nI b)] n ad E none (va_up (va_up (va_up E w (.inr (2, [.ref (ad iL), .ref (ad iE), .int (nI a), .int (nI b), .int su]))) iL (aI g 128 (cpyN (fun _ => 0) lv 128))) iE (aI g 16 (cpyN (fun _ => 50) ed 16))) := by
  obtain ⟨⟨hwn, hLn, hEn⟩, ⟨hwL, hwE, hLE⟩, hw, hL, hE0, hF, hS⟩ := id W
  intro Φ Ψ h
  show J g mX2_layDry 1 0 0 0 [some (.ref (ad w)), some (.int (nI a)), some (.int (nI b)), none] [] n ad E Φ Ψ
  refine j_aload_n dX2_layDry_0 rfl ?_
  refine j_iconst (v := nI 1) dX2_layDry_1 (by decide) ?_
  refine j_iload_n dX2_layDry_2 rfl ?_
  refine j_bipush (v := nI 8) dX2_layDry_3 (by decide) ?_
  refine j_mmin ln_X2_18 js_min iz_java_lang_Math jc_min dX2_layDry_5 (by decide) (Nat.le_of_ble_eq_true rfl) ?_
  refine j_topi (y := nI a) (mnk (by omega) (by omega)) ?_
  refine j_mmax ln_X2_24 js_max iz_java_lang_Math jc_max dX2_layDry_8 (by decide) (Nat.le_of_ble_eq_true rfl) ?_
  refine j_topi (y := nI a) (mx1 (by omega) (by omega)) ?_
  refine j_put fl_X2_27 fp_X2 dX2_layDry_11 hwn hw (Or.inl rfl) rfl rfl (Nat.le_of_ble_eq_true rfl) ?_
  refine j_aload_n dX2_layDry_14 rfl ?_
  refine j_iconst (v := nI 1) dX2_layDry_15 (by decide) ?_
  refine j_iload_n dX2_layDry_16 rfl ?_
  refine j_bipush (v := nI 16) dX2_layDry_17 (by decide) ?_
  refine j_mmin ln_X2_18 js_min iz_java_lang_Math jc_min dX2_layDry_19 (by decide) (Nat.le_of_ble_eq_true rfl) ?_
  refine j_topi (y := nI b) (mnk (by omega) (by omega)) ?_
  refine j_mmax ln_X2_24 js_max iz_java_lang_Math jc_max dX2_layDry_22 (by decide) (Nat.le_of_ble_eq_true rfl) ?_
  refine j_topi (y := nI b) (mx1 (by omega) (by omega)) ?_
  refine j_put fl_X2_31 fp_X2 dX2_layDry_25 hwn up_eq (Or.inl rfl) rfl rfl (Nat.le_of_ble_eq_true rfl) ?_
  refine j_E up_up ?_
  refine j_iconst (v := nI 0) dX2_layDry_28 (by decide) ?_
  refine j_istore_n (L' := [some (.ref (ad w)), some (.int (nI a)), some (.int (nI b)), some (.int (nI 0))]) dX2_layDry_29 (by decide) rfl rfl ?_
  refine j_E (E' := va_up (va_up E w (.inr (2, [.ref (ad iL), .ref (ad iE), .int (nI a), .int (nI b), .int su]))) iL (aI g 128 (cpyN (fun _ => 0) lv 0))) (up_self (by rw [up_ne (Ne.symm hwL), hL]; exact congrArg (aI g 128) (funext fun j => (if_neg (Nat.not_lt_zero j)).symm))).symm ?_
  refine up_ind (P := fun (k : Nat) => J g mX2_layDry 1 0 0 30 [some (.ref (ad w)), some (.int (nI a)), some (.int (nI b)), some (.int (nI k))] [] n ad (va_up (va_up E w (.inr (2, [.ref (ad iL), .ref (ad iE), .int (nI a), .int (nI b), .int su]))) iL (aI g 128 (cpyN (fun _ => 0) lv k))) Φ Ψ) (N := 128) 0 ?_ 128 (by omega) ?_
  · intro k hk0 hk ih
    show J g mX2_layDry 1 0 0 30 [some (.ref (ad w)), some (.int (nI a)), some (.int (nI b)), some (.int (nI k))] [] n ad (va_up (va_up E w (.inr (2, [.ref (ad iL), .ref (ad iE), .int (nI a), .int (nI b), .int su]))) iL (aI g 128 (cpyN (fun _ => 0) lv k))) Φ Ψ
    refine j_iload_n dX2_layDry_30 rfl ?_
    refine j_aload_n dX2_layDry_31 rfl ?_
    refine j_get fl_X2_9 dX2_layDry_32 hwn ((up_ne hwL).trans up_eq) rfl ?_
    refine j_alen 0 dX2_layDry_35 hLn up_eq rfl ?_
    refine j_icmp_ge_f (tgt := 52) dX2_layDry_36 (by decide) (nI_nle' (by omega) (by omega) (by omega)) ?_
    refine j_aload_n dX2_layDry_39 rfl ?_
    refine j_get fl_X2_9 dX2_layDry_40 hwn ((up_ne hwL).trans up_eq) rfl ?_
    refine j_iload_n dX2_layDry_43 rfl ?_
    refine j_iconst (v := 0) dX2_layDry_44 (by decide) ?_
    refine j_iast (j := k) dX2_layDry_45 hLn up_eq (by decide) (by omega) ?_
    refine j_E up_up ?_
    refine j_iinc (v := nI (k + 1)) (L' := [some (.ref (ad w)), some (.int (nI a)), some (.int (nI b)), some (.int (nI (k + 1)))]) dX2_layDry_46 (by decide) rfl (nI_1 _) rfl rfl ?_
    refine j_goto (tgt := 30) dX2_layDry_49 (by decide) ?_
    exact j_E (congrArg (fun f => va_up (va_up E w (.inr (2, [.ref (ad iL), .ref (ad iE), .int (nI a), .int (nI b), .int su]))) iL (aI g 128 f)) (cpyN_step (fun _ => 0) lv k)) ih
  · skip
    show J g mX2_layDry 1 0 0 30 [some (.ref (ad w)), some (.int (nI a)), some (.int (nI b)), some (.int (nI 128))] [] n ad (va_up (va_up E w (.inr (2, [.ref (ad iL), .ref (ad iE), .int (nI a), .int (nI b), .int su]))) iL (aI g 128 (cpyN (fun _ => 0) lv 128))) Φ Ψ
    refine j_iload_n dX2_layDry_30 rfl ?_
    refine j_aload_n dX2_layDry_31 rfl ?_
    refine j_get fl_X2_9 dX2_layDry_32 hwn ((up_ne hwL).trans up_eq) rfl ?_
    refine j_alen 0 dX2_layDry_35 hLn up_eq rfl ?_
    refine j_icmp_ge_t (tgt := 52) dX2_layDry_36 (by decide) (nI_le' (by omega) (by omega) (by omega)) ?_
    refine j_iconst (v := nI 0) dX2_layDry_52 (by decide) ?_
    refine j_istore_n (L' := [some (.ref (ad w)), some (.int (nI a)), some (.int (nI b)), some (.int (nI 0))]) dX2_layDry_53 (by decide) rfl rfl ?_
    refine j_E (E' := va_up (va_up (va_up E w (.inr (2, [.ref (ad iL), .ref (ad iE), .int (nI a), .int (nI b), .int su]))) iL (aI g 128 (cpyN (fun _ => 0) lv 128))) iE (aI g 16 (cpyN (fun _ => 50) ed 0))) (up_self (by rw [up_ne (Ne.symm hLE), up_ne (Ne.symm hwE), hE0]; exact congrArg (aI g 16) (funext fun j => (if_neg (Nat.not_lt_zero j)).symm))).symm ?_
    refine up_ind (P := fun (k : Nat) => J g mX2_layDry 1 0 0 54 [some (.ref (ad w)), some (.int (nI a)), some (.int (nI b)), some (.int (nI k))] [] n ad (va_up (va_up (va_up E w (.inr (2, [.ref (ad iL), .ref (ad iE), .int (nI a), .int (nI b), .int su]))) iL (aI g 128 (cpyN (fun _ => 0) lv 128))) iE (aI g 16 (cpyN (fun _ => 50) ed k))) Φ Ψ) (N := 16) 0 ?_ 16 (by omega) ?_
    · intro k hk0 hk ih
      show J g mX2_layDry 1 0 0 54 [some (.ref (ad w)), some (.int (nI a)), some (.int (nI b)), some (.int (nI k))] [] n ad (va_up (va_up (va_up E w (.inr (2, [.ref (ad iL), .ref (ad iE), .int (nI a), .int (nI b), .int su]))) iL (aI g 128 (cpyN (fun _ => 0) lv 128))) iE (aI g 16 (cpyN (fun _ => 50) ed k))) Φ Ψ
      refine j_iload_n dX2_layDry_54 rfl ?_
      refine j_aload_n dX2_layDry_55 rfl ?_
      refine j_get fl_X2_15 dX2_layDry_56 hwn ((up_ne hwE).trans ((up_ne hwL).trans up_eq)) rfl ?_
      refine j_alen 0 dX2_layDry_59 hEn up_eq rfl ?_
      refine j_icmp_ge_f (tgt := 77) dX2_layDry_60 (by decide) (nI_nle' (by omega) (by omega) (by omega)) ?_
      refine j_aload_n dX2_layDry_63 rfl ?_
      refine j_get fl_X2_15 dX2_layDry_64 hwn ((up_ne hwE).trans ((up_ne hwL).trans up_eq)) rfl ?_
      refine j_iload_n dX2_layDry_67 rfl ?_
      refine j_bipush (v := 50) dX2_layDry_68 (by decide) ?_
      refine j_iast (j := k) dX2_layDry_70 hEn up_eq (by decide) (by omega) ?_
      refine j_E up_up ?_
      refine j_iinc (v := nI (k + 1)) (L' := [some (.ref (ad w)), some (.int (nI a)), some (.int (nI b)), some (.int (nI (k + 1)))]) dX2_layDry_71 (by decide) rfl (nI_1 _) rfl rfl ?_
      refine j_goto (tgt := 54) dX2_layDry_74 (by decide) ?_
      exact j_E (congrArg (fun f => va_up (va_up (va_up E w (.inr (2, [.ref (ad iL), .ref (ad iE), .int (nI a), .int (nI b), .int su]))) iL (aI g 128 (cpyN (fun _ => 0) lv 128))) iE (aI g 16 f)) (cpyN_step (fun _ => 50) ed k)) ih
    · skip
      show J g mX2_layDry 1 0 0 54 [some (.ref (ad w)), some (.int (nI a)), some (.int (nI b)), some (.int (nI 16))] [] n ad (va_up (va_up (va_up E w (.inr (2, [.ref (ad iL), .ref (ad iE), .int (nI a), .int (nI b), .int su]))) iL (aI g 128 (cpyN (fun _ => 0) lv 128))) iE (aI g 16 (cpyN (fun _ => 50) ed 16))) Φ Ψ
      refine j_iload_n dX2_layDry_54 rfl ?_
      refine j_aload_n dX2_layDry_55 rfl ?_
      refine j_get fl_X2_15 dX2_layDry_56 hwn ((up_ne hwE).trans ((up_ne hwL).trans up_eq)) rfl ?_
      refine j_alen 0 dX2_layDry_59 hEn up_eq rfl ?_
      refine j_icmp_ge_t (tgt := 77) dX2_layDry_60 (by decide) (nI_le' (by omega) (by omega) (by omega)) ?_
      exact j_vret dX2_layDry_77 rfl h
def rws (g : jG) (n : Nat) (ad : Nat → Nat) (E : Nat → va_E) (rw iO base lim old cnt : Nat) (rows : Nat → Nat → Int32) : Prop :=
  (rw < n ∧ iO < n ∧ base + lim ≤ n) ∧ (rw ≠ iO ∧ ∀ i, i < lim → base + i ≠ rw ∧ base + i ≠ iO) ∧ E rw = .inr (1, [.ref (ad iO), .int (nI old), .int (nI cnt)]) ∧ E iO = aO g lim (fun i => if i < lim then some (ad (base + i)) else none) ∧ (∀ i, i < lim → E (base + i) = aI g 128 (rows i)) ∧ 1 ≤ lim ∧ lim ≤ 30 ∧ old < lim ∧ cnt ≤ lim
/-- where the row of a place lies -/
def slot (old p lim : Nat) : Nat := if old + p < lim then old + p else old + p - lim
theorem slot_lt {old p lim : Nat} (h1 : old < lim) (h2 : p < lim) : slot old p lim < lim := by
  unfold slot
  split <;> omega
theorem rws.kept {g : jG} {n : Nat} {ad : Nat → Nat} {E E' : Nat → va_E} {rw iO base lim old cnt : Nat} {rows : Nat → Nat → Int32} (W : rws g n ad E rw iO base lim old cnt rows) (h1 : E' rw = E rw) (h2 : E' iO = E iO) (h3 : ∀ i, i < lim → E' (base + i) = E (base + i)) : rws g n ad E' rw iO base lim old cnt rows := by
  obtain ⟨q1, q2, q3, q4, q5, q6⟩ := W
  exact ⟨q1, q2, h1.trans q3, h2.trans q4, fun i hi => (h3 i hi).trans (q5 i hi), q6⟩
theorem rws.setO {g : jG} {n : Nat} {ad : Nat → Nat} {E : Nat → va_E} {rw iO base lim old cnt old' cnt' : Nat} {rows : Nat → Nat → Int32} (W : rws g n ad E rw iO base lim old cnt rows) (h1 : old' < lim) (h2 : cnt' ≤ lim) : rws g n ad (va_up E rw (.inr (1, [.ref (ad iO), .int (nI old'), .int (nI cnt')]))) rw iO base lim old' cnt' rows := by
  obtain ⟨q1, ⟨q2, q3⟩, q4, q5, q6, q7, q8, q9⟩ := W
  exact ⟨q1, ⟨q2, q3⟩, up_eq, (up_ne (Ne.symm q2)).trans q5, fun i hi => (up_ne (q3 i hi).1).trans (q6 i hi), q7, q8, h1, h2⟩
/-- one row is another -/
def rowUp (rows : Nat → Nat → Int32) (i : Nat) (r : Nat → Int32) : Nat → Nat → Int32 := fun j => if j = i then r else rows j
theorem rws.setR {g : jG} {n : Nat} {ad : Nat → Nat} {E : Nat → va_E} {rw iO base lim old cnt i0 : Nat} {rows : Nat → Nat → Int32} {r : Nat → Int32} (W : rws g n ad E rw iO base lim old cnt rows) (hi : i0 < lim) : rws g n ad (va_up E (base + i0) (aI g 128 r)) rw iO base lim old cnt (rowUp rows i0 r) := by
  obtain ⟨q1, ⟨q2, q3⟩, q4, q5, q6, q7⟩ := W
  refine ⟨q1, ⟨q2, q3⟩, (up_ne (Ne.symm (q3 i0 hi).1)).trans q4, (up_ne (Ne.symm (q3 i0 hi).2)).trans q5, fun i h => ?_, q7⟩
  by_cases e : i = i0
  · subst e
    rw [up_eq]
    unfold rowUp
    rw [if_pos rfl]
  · rw [up_ne (by omega), q6 i h]
    unfold rowUp
    rw [if_neg e]
set_option maxRecDepth 100000 in
set_option maxHeartbeats 4000000 in
theorem s_X1_row {g : jG} {n : Nat} {ad : Nat → Nat} {E : Nat → va_E} {rw iO base lim old cnt : Nat} {rows : Nat → Nat → Int32} (Z : rws g n ad E rw iO base lim old cnt rows) (p : Nat) (hp : p < lim) : Ret g mX1_row 0 [.ref (ad rw), .int (nI p)] n ad E (some (.ref (ad (base + slot old p lim)))) E := by
  obtain ⟨⟨hrn, hOn, hbn⟩, ⟨hrO, hap⟩, hr, hO, hrow, hl1, hl30, hold, hcnt⟩ := id Z
  have hsl := slot_lt hold hp
  intro Φ Ψ h
  show J g mX1_row 0 0 0 0 [some (.ref (ad rw)), some (.int (nI p)), none] [] n ad E Φ Ψ
  refine j_aload_n dX1_row_0 rfl ?_
  refine j_get fl_X1_22 dX1_row_1 hrn hr rfl ?_
  refine j_iload_n dX1_row_4 rfl ?_
  refine j_iadd dX1_row_5 ?_
  refine j_topi (y := nI (old + p)) (nI_add _ _) ?_
  refine j_istore_n (L' := [some (.ref (ad rw)), some (.int (nI p)), some (.int (nI (old + p)))]) dX1_row_6 (by decide) rfl rfl ?_
  refine j_aload_n dX1_row_7 rfl ?_
  refine j_get fl_X1_17 dX1_row_8 hrn hr rfl ?_
  refine j_iload_n dX1_row_11 rfl ?_
  refine j_aload_n dX1_row_12 rfl ?_
  refine j_get fl_X1_17 dX1_row_13 hrn hr rfl ?_
  refine j_alen 2 dX1_row_16 hOn hO rfl ?_
  by_cases hq : old + p < lim
  · skip
    refine j_icmp_ge_f (tgt := 24) dX1_row_17 (by decide) (nI_nle' (by omega) (by omega) (by omega)) ?_
    refine j_iload_n dX1_row_20 rfl ?_
    refine j_goto (tgt := 31) dX1_row_21 (by decide) ?_
    refine j_aald (a := (ad (base + slot old p lim))) dX1_row_31 hOn hO (by omega) (by omega) (by rw [if_pos (by omega)]; simp only [slot, hq, if_true, if_false]) ?_
    exact j_aret dX1_row_32 rfl h
  · skip
    refine j_icmp_ge_t (tgt := 24) dX1_row_17 (by decide) (nI_le' (by omega) (by omega) (by omega)) ?_
    refine j_iload_n dX1_row_24 rfl ?_
    refine j_aload_n dX1_row_25 rfl ?_
    refine j_get fl_X1_17 dX1_row_26 hrn hr rfl ?_
    refine j_alen 2 dX1_row_29 hOn hO rfl ?_
    refine j_isub dX1_row_30 ?_
    refine j_topi (y := nI ((old + p) - lim)) (pk_sub (by omega)) ?_
    refine j_aald (a := (ad (base + slot old p lim))) dX1_row_31 hOn hO (by omega) (by omega) (by rw [if_pos (by omega)]; simp only [slot, hq, if_true, if_false]) ?_
    exact j_aret dX1_row_32 rfl h
set_option maxRecDepth 100000 in
set_option maxHeartbeats 4000000 in
theorem s_X1_clearAll {g : jG} {n : Nat} {ad : Nat → Nat} {E : Nat → va_E} {rw iO base lim old cnt : Nat} {rows : Nat → Nat → Int32} (Z : rws g n ad E rw iO base lim old cnt rows) : Ret g mX1_clearAll 0 [.ref (ad rw)] n ad E none (va_up E rw (.inr (1, [.ref (ad iO), .int (nI 0), .int (nI 0)]))) := by
  obtain ⟨⟨hrn, hOn, hbn⟩, ⟨hrO, hap⟩, hr, hO, hrow, hl1, hl30, hold, hcnt⟩ := id Z
  intro Φ Ψ h
  show J g mX1_clearAll 0 0 0 0 [some (.ref (ad rw))] [] n ad E Φ Ψ
  refine j_aload_n dX1_clearAll_0 rfl ?_
  refine j_iconst (v := nI 0) dX1_clearAll_1 (by decide) ?_
  refine j_put fl_X1_22 fp_X1 dX1_clearAll_2 hrn hr (Or.inl rfl) rfl rfl (Nat.le_of_ble_eq_true rfl) ?_
  refine j_aload_n dX1_clearAll_5 rfl ?_
  refine j_iconst (v := nI 0) dX1_clearAll_6 (by decide) ?_
  refine j_put fl_X1_26 fp_X1 dX1_clearAll_7 hrn up_eq (Or.inl rfl) rfl rfl (Nat.le_of_ble_eq_true rfl) ?_
  refine j_E up_up ?_
  exact j_vret dX1_clearAll_10 rfl h
set_option maxRecDepth 100000 in
set_option maxHeartbeats 4000000 in
theorem s_X1_dropLatest {g : jG} {n : Nat} {ad : Nat → Nat} {E : Nat → va_E} {rw iO base lim old cnt : Nat} {rows : Nat → Nat → Int32} (Z : rws g n ad E rw iO base lim old cnt rows) (hc : 1 ≤ cnt) : Ret g mX1_dropLatest 0 [.ref (ad rw)] n ad E none (va_up E rw (.inr (1, [.ref (ad iO), .int (nI old), .int (nI (cnt - 1))]))) := by
  obtain ⟨⟨hrn, hOn, hbn⟩, ⟨hrO, hap⟩, hr, hO, hrow, hl1, hl30, hold, hcnt⟩ := id Z
  intro Φ Ψ h
  show J g mX1_dropLatest 0 0 0 0 [some (.ref (ad rw))] [] n ad E Φ Ψ
  refine j_aload_n dX1_dropLatest_0 rfl ?_
  refine j_dup dX1_dropLatest_1 rfl ?_
  refine j_get fl_X1_26 dX1_dropLatest_2 hrn hr rfl ?_
  refine j_iconst (v := nI 1) dX1_dropLatest_5 (by decide) ?_
  refine j_isub dX1_dropLatest_6 ?_
  refine j_topi (y := nI (cnt - 1)) (pk_sub (by omega)) ?_
  refine j_put fl_X1_26 fp_X1 dX1_dropLatest_7 hrn hr (Or.inl rfl) rfl rfl (Nat.le_of_ble_eq_true rfl) ?_
  exact j_vret dX1_dropLatest_10 rfl h
set_option maxRecDepth 100000 in
set_option maxHeartbeats 4000000 in
theorem s_X1_addLatest_lo {g : jG} {n : Nat} {ad : Nat → Nat} {E : Nat → va_E} {rw iO base lim old cnt : Nat} {rows : Nat → Nat → Int32} (Z : rws g n ad E rw iO base lim old cnt rows) {w iL iE F S : Nat} {su : Int32} {lv ed : Nat → Int32} (W : wat g n ad E w iL iE F S su lv ed) (hx : (w ≠ rw ∧ iL ≠ rw ∧ iE ≠ rw) ∧ ∀ i, i < lim → w ≠ base + i ∧ iL ≠ base + i ∧ iE ≠ base + i) (hc : cnt < lim) : Ret g mX1_addLatest 1 [.ref (ad rw), .ref (ad w)] n ad E none (va_up (va_up E rw (.inr (1, [.ref (ad iO), .int (nI old), .int (nI (cnt + 1))]))) (base + slot old cnt lim) (aI g 128 (cpyN lv (rows (slot old cnt lim)) (F * S)))) := by
  obtain ⟨⟨hrn, hOn, hbn⟩, ⟨hrO, hap⟩, hr, hO, hrow, hl1, hl30, hold, hcnt⟩ := id Z
  obtain ⟨⟨hwn, hLn, hEn⟩, ⟨hwL, hwE, hLE⟩, hw, hL, hE0, hF, hS⟩ := id W
  have hFS := fs128 hF hS
  have hsl : slot old cnt lim < lim := slot_lt hold hc
  intro Φ Ψ h
  show J g mX1_addLatest 1 0 0 0 [some (.ref (ad rw)), some (.ref (ad w)), none, none] [] n ad E Φ Ψ
  refine j_aload_n dX1_addLatest_0 rfl ?_
  refine j_get fl_X1_26 dX1_addLatest_1 hrn hr rfl ?_
  refine j_aload_n dX1_addLatest_4 rfl ?_
  refine j_get fl_X1_17 dX1_addLatest_5 hrn hr rfl ?_
  refine j_alen 2 dX1_addLatest_8 hOn hO rfl ?_
  refine j_icmp_ge_f (tgt := 25) dX1_addLatest_9 (by decide) (nI_nle' (by omega) (by omega) (by omega)) ?_
  refine j_aload_n dX1_addLatest_12 rfl ?_
  refine j_dup dX1_addLatest_13 rfl ?_
  refine j_get fl_X1_26 dX1_addLatest_14 hrn hr rfl ?_
  refine j_iconst (v := nI 1) dX1_addLatest_17 (by decide) ?_
  refine j_iadd dX1_addLatest_18 ?_
  refine j_topi (y := nI (cnt + 1)) (nI_add _ _) ?_
  refine j_put fl_X1_26 fp_X1 dX1_addLatest_19 hrn hr (Or.inl rfl) rfl rfl (Nat.le_of_ble_eq_true rfl) ?_
  refine j_goto (tgt := 53) dX1_addLatest_22 (by decide) ?_
  refine j_aload_n dX1_addLatest_53 rfl ?_
  refine j_aload_n dX1_addLatest_54 rfl ?_
  refine j_get fl_X1_26 dX1_addLatest_55 hrn up_eq rfl ?_
  refine j_iconst (v := nI 1) dX1_addLatest_58 (by decide) ?_
  refine j_isub dX1_addLatest_59 ?_
  refine j_topi (y := nI ((cnt + 1) - 1)) (pk_sub (by omega)) ?_
  refine j_cV (As := [.int (nI ((cnt + 1) - 1))]) (rest := []) cm_X1_row ci_X1_row cs_X1_row rfl ln_X1_29 (ci := 1) rfl dX1_addLatest_60 (d' := 0) (by decide) hrn up_eq rfl rfl (Nat.le_of_ble_eq_true rfl) (Nat.le_of_ble_eq_true rfl) (s_X1_row (rws.setO Z hold (show cnt + 1 ≤ lim by omega)) ((cnt + 1) - 1) (by omega)) ?_
  refine j_st (st' := [.ref (ad (base + slot old cnt lim))]) (by rw [show cnt + 1 - 1 = cnt by omega] <;> rfl) ?_
  refine j_astore_n (L' := [some (.ref (ad rw)), some (.ref (ad w)), some (.ref (ad (base + slot old cnt lim))), none]) dX1_addLatest_63 (by decide) rfl rfl ?_
  refine j_iconst (v := nI 0) dX1_addLatest_64 (by decide) ?_
  refine j_istore_n (L' := [some (.ref (ad rw)), some (.ref (ad w)), some (.ref (ad (base + slot old cnt lim))), some (.int (nI 0))]) dX1_addLatest_65 (by decide) rfl rfl ?_
  refine j_E (E' := va_up (va_up E rw (.inr (1, [.ref (ad iO), .int (nI old), .int (nI (cnt + 1))]))) (base + slot old cnt lim) (aI g 128 (cpyN lv (rows (slot old cnt lim)) 0))) (up_self (by rw [up_ne (hap (slot old cnt lim) hsl).1, hrow (slot old cnt lim) hsl]; exact congrArg (aI g 128) (funext fun j => (if_neg (Nat.not_lt_zero j)).symm))).symm ?_
  refine up_ind (P := fun (k : Nat) => J g mX1_addLatest 1 0 0 66 [some (.ref (ad rw)), some (.ref (ad w)), some (.ref (ad (base + slot old cnt lim))), some (.int (nI k))] [] n ad (va_up (va_up E rw (.inr (1, [.ref (ad iO), .int (nI old), .int (nI (cnt + 1))]))) (base + slot old cnt lim) (aI g 128 (cpyN lv (rows (slot old cnt lim)) k))) Φ Ψ) (N := F * S) 0 ?_ (F * S) (by omega) ?_
  · intro k hk0 hk ih
    show J g mX1_addLatest 1 0 0 66 [some (.ref (ad rw)), some (.ref (ad w)), some (.ref (ad (base + slot old cnt lim))), some (.int (nI k))] [] n ad (va_up (va_up E rw (.inr (1, [.ref (ad iO), .int (nI old), .int (nI (cnt + 1))]))) (base + slot old cnt lim) (aI g 128 (cpyN lv (rows (slot old cnt lim)) k))) Φ Ψ
    refine j_iload_n dX1_addLatest_66 rfl ?_
    refine j_aload_n dX1_addLatest_67 rfl ?_
    refine j_cV (As := []) (rest := [.int (nI k)]) cm_X2_puddleCount ci_X2_puddleCount cs_X2_puddleCount rfl ln_X1_33 (ci := 2) rfl dX1_addLatest_68 (d' := 0) (by decide) hwn ((up_ne (hx.2 (slot old cnt lim) hsl).1).trans ((up_ne hx.1.1).trans hw)) rfl rfl (Nat.le_of_ble_eq_true rfl) (Nat.le_of_ble_eq_true rfl) (s_X2_puddleCount (wat.kept W ((up_ne (hx.2 (slot old cnt lim) hsl).1).trans (up_ne hx.1.1)) ((up_ne (hx.2 (slot old cnt lim) hsl).2.1).trans (up_ne hx.1.2.1)) ((up_ne (hx.2 (slot old cnt lim) hsl).2.2).trans (up_ne hx.1.2.2)))) ?_
    refine j_icmp_ge_f (tgt := 89) dX1_addLatest_71 (by decide) (nI_nle' (by omega) (by omega) (by omega)) ?_
    refine j_aload_n dX1_addLatest_74 rfl ?_
    refine j_iload_n dX1_addLatest_75 rfl ?_
    refine j_aload_n dX1_addLatest_76 rfl ?_
    refine j_get fl_X1_39 dX1_addLatest_77 hwn ((up_ne (hx.2 (slot old cnt lim) hsl).1).trans ((up_ne hx.1.1).trans hw)) rfl ?_
    refine j_iload_n dX1_addLatest_80 rfl ?_
    refine j_iald dX1_addLatest_81 hLn ((up_ne (hx.2 (slot old cnt lim) hsl).2.1).trans ((up_ne hx.1.2.1).trans hL)) (by decide) (by omega) rfl ?_
    refine j_iast (j := k) dX1_addLatest_82 (by omega) up_eq (by decide) (by omega) ?_
    refine j_E up_up ?_
    refine j_iinc (v := nI (k + 1)) (L' := [some (.ref (ad rw)), some (.ref (ad w)), some (.ref (ad (base + slot old cnt lim))), some (.int (nI (k + 1)))]) dX1_addLatest_83 (by decide) rfl (nI_1 _) rfl rfl ?_
    refine j_goto (tgt := 66) dX1_addLatest_86 (by decide) ?_
    exact j_E (congrArg (fun f => va_up (va_up E rw (.inr (1, [.ref (ad iO), .int (nI old), .int (nI (cnt + 1))]))) (base + slot old cnt lim) (aI g 128 f)) (cpyN_step lv (rows (slot old cnt lim)) k)) ih
  · skip
    show J g mX1_addLatest 1 0 0 66 [some (.ref (ad rw)), some (.ref (ad w)), some (.ref (ad (base + slot old cnt lim))), some (.int (nI (F * S)))] [] n ad (va_up (va_up E rw (.inr (1, [.ref (ad iO), .int (nI old), .int (nI (cnt + 1))]))) (base + slot old cnt lim) (aI g 128 (cpyN lv (rows (slot old cnt lim)) (F * S)))) Φ Ψ
    refine j_iload_n dX1_addLatest_66 rfl ?_
    refine j_aload_n dX1_addLatest_67 rfl ?_
    refine j_cV (As := []) (rest := [.int (nI (F * S))]) cm_X2_puddleCount ci_X2_puddleCount cs_X2_puddleCount rfl ln_X1_33 (ci := 2) rfl dX1_addLatest_68 (d' := 0) (by decide) hwn ((up_ne (hx.2 (slot old cnt lim) hsl).1).trans ((up_ne hx.1.1).trans hw)) rfl rfl (Nat.le_of_ble_eq_true rfl) (Nat.le_of_ble_eq_true rfl) (s_X2_puddleCount (wat.kept W ((up_ne (hx.2 (slot old cnt lim) hsl).1).trans (up_ne hx.1.1)) ((up_ne (hx.2 (slot old cnt lim) hsl).2.1).trans (up_ne hx.1.2.1)) ((up_ne (hx.2 (slot old cnt lim) hsl).2.2).trans (up_ne hx.1.2.2)))) ?_
    refine j_icmp_ge_t (tgt := 89) dX1_addLatest_71 (by decide) (nI_le' (by omega) (by omega) (by omega)) ?_
    exact j_vret dX1_addLatest_89 rfl h
set_option maxRecDepth 100000 in
set_option maxHeartbeats 4000000 in
theorem s_X1_addLatest_hi {g : jG} {n : Nat} {ad : Nat → Nat} {E : Nat → va_E} {rw iO base lim old cnt : Nat} {rows : Nat → Nat → Int32} (Z : rws g n ad E rw iO base lim old cnt rows) {w iL iE F S : Nat} {su : Int32} {lv ed : Nat → Int32} (W : wat g n ad E w iL iE F S su lv ed) (hx : (w ≠ rw ∧ iL ≠ rw ∧ iE ≠ rw) ∧ ∀ i, i < lim → w ≠ base + i ∧ iL ≠ base + i ∧ iE ≠ base + i) (hc : cnt = lim) : Ret g mX1_addLatest 1 [.ref (ad rw), .ref (ad w)] n ad E none (va_up (va_up E rw (.inr (1, [.ref (ad iO), .int (nI (if old + 1 < lim then old + 1 else 0)), .int (nI cnt)]))) (base + old) (aI g 128 (cpyN lv (rows (old)) (F * S)))) := by
  obtain ⟨⟨hrn, hOn, hbn⟩, ⟨hrO, hap⟩, hr, hO, hrow, hl1, hl30, hold, hcnt⟩ := id Z
  obtain ⟨⟨hwn, hLn, hEn⟩, ⟨hwL, hwE, hLE⟩, hw, hL, hE0, hF, hS⟩ := id W
  have hFS := fs128 hF hS
  have hsl : old < lim := hold
  intro Φ Ψ h
  show J g mX1_addLatest 1 0 0 0 [some (.ref (ad rw)), some (.ref (ad w)), none, none] [] n ad E Φ Ψ
  refine j_aload_n dX1_addLatest_0 rfl ?_
  refine j_get fl_X1_26 dX1_addLatest_1 hrn hr rfl ?_
  refine j_aload_n dX1_addLatest_4 rfl ?_
  refine j_get fl_X1_17 dX1_addLatest_5 hrn hr rfl ?_
  refine j_alen 2 dX1_addLatest_8 hOn hO rfl ?_
  refine j_icmp_ge_t (tgt := 25) dX1_addLatest_9 (by decide) (nI_le' (by omega) (by omega) (by omega)) ?_
  refine j_aload_n dX1_addLatest_25 rfl ?_
  refine j_aload_n dX1_addLatest_26 rfl ?_
  refine j_get fl_X1_22 dX1_addLatest_27 hrn hr rfl ?_
  refine j_iconst (v := nI 1) dX1_addLatest_30 (by decide) ?_
  refine j_iadd dX1_addLatest_31 ?_
  refine j_topi (y := nI (old + 1)) (nI_add _ _) ?_
  refine j_aload_n dX1_addLatest_32 rfl ?_
  refine j_get fl_X1_17 dX1_addLatest_33 hrn hr rfl ?_
  refine j_alen 2 dX1_addLatest_36 hOn hO rfl ?_
  by_cases hq : old + 1 < lim
  · skip
    refine j_icmp_ge_f (tgt := 49) dX1_addLatest_37 (by decide) (nI_nle' (by omega) (by omega) (by omega)) ?_
    refine j_aload_n dX1_addLatest_40 rfl ?_
    refine j_get fl_X1_22 dX1_addLatest_41 hrn hr rfl ?_
    refine j_iconst (v := nI 1) dX1_addLatest_44 (by decide) ?_
    refine j_iadd dX1_addLatest_45 ?_
    refine j_topi (y := nI (old + 1)) (nI_add _ _) ?_
    refine j_goto (tgt := 50) dX1_addLatest_46 (by decide) ?_
    refine j_st (st' := [.int (nI (if old + 1 < lim then old + 1 else 0)), .ref (ad rw)]) (by simp only [hq, if_true, if_false] <;> rfl) ?_
    refine j_put fl_X1_22 fp_X1 dX1_addLatest_50 hrn hr (Or.inl rfl) rfl rfl (Nat.le_of_ble_eq_true rfl) ?_
    refine j_aload_n dX1_addLatest_53 rfl ?_
    refine j_aload_n dX1_addLatest_54 rfl ?_
    refine j_get fl_X1_26 dX1_addLatest_55 hrn up_eq rfl ?_
    refine j_iconst (v := nI 1) dX1_addLatest_58 (by decide) ?_
    refine j_isub dX1_addLatest_59 ?_
    refine j_topi (y := nI (cnt - 1)) (pk_sub (by omega)) ?_
    refine j_cV (As := [.int (nI (cnt - 1))]) (rest := []) cm_X1_row ci_X1_row cs_X1_row rfl ln_X1_29 (ci := 1) rfl dX1_addLatest_60 (d' := 0) (by decide) hrn up_eq rfl rfl (Nat.le_of_ble_eq_true rfl) (Nat.le_of_ble_eq_true rfl) (s_X1_row (rws.setO (cnt' := cnt) Z (show (if old + 1 < lim then old + 1 else 0) < lim by split <;> omega) (by omega)) (cnt - 1) (by omega)) ?_
    refine j_st (st' := [.ref (ad (base + old))]) (by rw [show slot (if old + 1 < lim then old + 1 else 0) (cnt - 1) lim = old by unfold slot; split <;> split <;> omega] <;> rfl) ?_
    refine j_astore_n (L' := [some (.ref (ad rw)), some (.ref (ad w)), some (.ref (ad (base + old))), none]) dX1_addLatest_63 (by decide) rfl rfl ?_
    refine j_iconst (v := nI 0) dX1_addLatest_64 (by decide) ?_
    refine j_istore_n (L' := [some (.ref (ad rw)), some (.ref (ad w)), some (.ref (ad (base + old))), some (.int (nI 0))]) dX1_addLatest_65 (by decide) rfl rfl ?_
    refine j_E (E' := va_up (va_up E rw (.inr (1, [.ref (ad iO), .int (nI (if old + 1 < lim then old + 1 else 0)), .int (nI cnt)]))) (base + old) (aI g 128 (cpyN lv (rows (old)) 0))) (up_self (by rw [up_ne (hap (old) hsl).1, hrow (old) hsl]; exact congrArg (aI g 128) (funext fun j => (if_neg (Nat.not_lt_zero j)).symm))).symm ?_
    refine up_ind (P := fun (k : Nat) => J g mX1_addLatest 1 0 0 66 [some (.ref (ad rw)), some (.ref (ad w)), some (.ref (ad (base + old))), some (.int (nI k))] [] n ad (va_up (va_up E rw (.inr (1, [.ref (ad iO), .int (nI (if old + 1 < lim then old + 1 else 0)), .int (nI cnt)]))) (base + old) (aI g 128 (cpyN lv (rows (old)) k))) Φ Ψ) (N := F * S) 0 ?_ (F * S) (by omega) ?_
    · intro k hk0 hk ih
      show J g mX1_addLatest 1 0 0 66 [some (.ref (ad rw)), some (.ref (ad w)), some (.ref (ad (base + old))), some (.int (nI k))] [] n ad (va_up (va_up E rw (.inr (1, [.ref (ad iO), .int (nI (if old + 1 < lim then old + 1 else 0)), .int (nI cnt)]))) (base + old) (aI g 128 (cpyN lv (rows (old)) k))) Φ Ψ
      refine j_iload_n dX1_addLatest_66 rfl ?_
      refine j_aload_n dX1_addLatest_67 rfl ?_
      refine j_cV (As := []) (rest := [.int (nI k)]) cm_X2_puddleCount ci_X2_puddleCount cs_X2_puddleCount rfl ln_X1_33 (ci := 2) rfl dX1_addLatest_68 (d' := 0) (by decide) hwn ((up_ne (hx.2 (old) hsl).1).trans ((up_ne hx.1.1).trans hw)) rfl rfl (Nat.le_of_ble_eq_true rfl) (Nat.le_of_ble_eq_true rfl) (s_X2_puddleCount (wat.kept W ((up_ne (hx.2 (old) hsl).1).trans (up_ne hx.1.1)) ((up_ne (hx.2 (old) hsl).2.1).trans (up_ne hx.1.2.1)) ((up_ne (hx.2 (old) hsl).2.2).trans (up_ne hx.1.2.2)))) ?_
      refine j_icmp_ge_f (tgt := 89) dX1_addLatest_71 (by decide) (nI_nle' (by omega) (by omega) (by omega)) ?_
      refine j_aload_n dX1_addLatest_74 rfl ?_
      refine j_iload_n dX1_addLatest_75 rfl ?_
      refine j_aload_n dX1_addLatest_76 rfl ?_
      refine j_get fl_X1_39 dX1_addLatest_77 hwn ((up_ne (hx.2 (old) hsl).1).trans ((up_ne hx.1.1).trans hw)) rfl ?_
      refine j_iload_n dX1_addLatest_80 rfl ?_
      refine j_iald dX1_addLatest_81 hLn ((up_ne (hx.2 (old) hsl).2.1).trans ((up_ne hx.1.2.1).trans hL)) (by decide) (by omega) rfl ?_
      refine j_iast (j := k) dX1_addLatest_82 (by omega) up_eq (by decide) (by omega) ?_
      refine j_E up_up ?_
      refine j_iinc (v := nI (k + 1)) (L' := [some (.ref (ad rw)), some (.ref (ad w)), some (.ref (ad (base + old))), some (.int (nI (k + 1)))]) dX1_addLatest_83 (by decide) rfl (nI_1 _) rfl rfl ?_
      refine j_goto (tgt := 66) dX1_addLatest_86 (by decide) ?_
      exact j_E (congrArg (fun f => va_up (va_up E rw (.inr (1, [.ref (ad iO), .int (nI (if old + 1 < lim then old + 1 else 0)), .int (nI cnt)]))) (base + old) (aI g 128 f)) (cpyN_step lv (rows (old)) k)) ih
    · skip
      show J g mX1_addLatest 1 0 0 66 [some (.ref (ad rw)), some (.ref (ad w)), some (.ref (ad (base + old))), some (.int (nI (F * S)))] [] n ad (va_up (va_up E rw (.inr (1, [.ref (ad iO), .int (nI (if old + 1 < lim then old + 1 else 0)), .int (nI cnt)]))) (base + old) (aI g 128 (cpyN lv (rows (old)) (F * S)))) Φ Ψ
      refine j_iload_n dX1_addLatest_66 rfl ?_
      refine j_aload_n dX1_addLatest_67 rfl ?_
      refine j_cV (As := []) (rest := [.int (nI (F * S))]) cm_X2_puddleCount ci_X2_puddleCount cs_X2_puddleCount rfl ln_X1_33 (ci := 2) rfl dX1_addLatest_68 (d' := 0) (by decide) hwn ((up_ne (hx.2 (old) hsl).1).trans ((up_ne hx.1.1).trans hw)) rfl rfl (Nat.le_of_ble_eq_true rfl) (Nat.le_of_ble_eq_true rfl) (s_X2_puddleCount (wat.kept W ((up_ne (hx.2 (old) hsl).1).trans (up_ne hx.1.1)) ((up_ne (hx.2 (old) hsl).2.1).trans (up_ne hx.1.2.1)) ((up_ne (hx.2 (old) hsl).2.2).trans (up_ne hx.1.2.2)))) ?_
      refine j_icmp_ge_t (tgt := 89) dX1_addLatest_71 (by decide) (nI_le' (by omega) (by omega) (by omega)) ?_
      exact j_vret dX1_addLatest_89 rfl h
  · skip
    refine j_icmp_ge_t (tgt := 49) dX1_addLatest_37 (by decide) (nI_le' (by omega) (by omega) (by omega)) ?_
    refine j_iconst (v := nI 0) dX1_addLatest_49 (by decide) ?_
    refine j_st (st' := [.int (nI (if old + 1 < lim then old + 1 else 0)), .ref (ad rw)]) (by simp only [hq, if_true, if_false] <;> rfl) ?_
    refine j_put fl_X1_22 fp_X1 dX1_addLatest_50 hrn hr (Or.inl rfl) rfl rfl (Nat.le_of_ble_eq_true rfl) ?_
    refine j_aload_n dX1_addLatest_53 rfl ?_
    refine j_aload_n dX1_addLatest_54 rfl ?_
    refine j_get fl_X1_26 dX1_addLatest_55 hrn up_eq rfl ?_
    refine j_iconst (v := nI 1) dX1_addLatest_58 (by decide) ?_
    refine j_isub dX1_addLatest_59 ?_
    refine j_topi (y := nI (cnt - 1)) (pk_sub (by omega)) ?_
    refine j_cV (As := [.int (nI (cnt - 1))]) (rest := []) cm_X1_row ci_X1_row cs_X1_row rfl ln_X1_29 (ci := 1) rfl dX1_addLatest_60 (d' := 0) (by decide) hrn up_eq rfl rfl (Nat.le_of_ble_eq_true rfl) (Nat.le_of_ble_eq_true rfl) (s_X1_row (rws.setO (cnt' := cnt) Z (show (if old + 1 < lim then old + 1 else 0) < lim by split <;> omega) (by omega)) (cnt - 1) (by omega)) ?_
    refine j_st (st' := [.ref (ad (base + old))]) (by rw [show slot (if old + 1 < lim then old + 1 else 0) (cnt - 1) lim = old by unfold slot; split <;> split <;> omega] <;> rfl) ?_
    refine j_astore_n (L' := [some (.ref (ad rw)), some (.ref (ad w)), some (.ref (ad (base + old))), none]) dX1_addLatest_63 (by decide) rfl rfl ?_
    refine j_iconst (v := nI 0) dX1_addLatest_64 (by decide) ?_
    refine j_istore_n (L' := [some (.ref (ad rw)), some (.ref (ad w)), some (.ref (ad (base + old))), some (.int (nI 0))]) dX1_addLatest_65 (by decide) rfl rfl ?_
    refine j_E (E' := va_up (va_up E rw (.inr (1, [.ref (ad iO), .int (nI (if old + 1 < lim then old + 1 else 0)), .int (nI cnt)]))) (base + old) (aI g 128 (cpyN lv (rows (old)) 0))) (up_self (by rw [up_ne (hap (old) hsl).1, hrow (old) hsl]; exact congrArg (aI g 128) (funext fun j => (if_neg (Nat.not_lt_zero j)).symm))).symm ?_
    refine up_ind (P := fun (k : Nat) => J g mX1_addLatest 1 0 0 66 [some (.ref (ad rw)), some (.ref (ad w)), some (.ref (ad (base + old))), some (.int (nI k))] [] n ad (va_up (va_up E rw (.inr (1, [.ref (ad iO), .int (nI (if old + 1 < lim then old + 1 else 0)), .int (nI cnt)]))) (base + old) (aI g 128 (cpyN lv (rows (old)) k))) Φ Ψ) (N := F * S) 0 ?_ (F * S) (by omega) ?_
    · intro k hk0 hk ih
      show J g mX1_addLatest 1 0 0 66 [some (.ref (ad rw)), some (.ref (ad w)), some (.ref (ad (base + old))), some (.int (nI k))] [] n ad (va_up (va_up E rw (.inr (1, [.ref (ad iO), .int (nI (if old + 1 < lim then old + 1 else 0)), .int (nI cnt)]))) (base + old) (aI g 128 (cpyN lv (rows (old)) k))) Φ Ψ
      refine j_iload_n dX1_addLatest_66 rfl ?_
      refine j_aload_n dX1_addLatest_67 rfl ?_
      refine j_cV (As := []) (rest := [.int (nI k)]) cm_X2_puddleCount ci_X2_puddleCount cs_X2_puddleCount rfl ln_X1_33 (ci := 2) rfl dX1_addLatest_68 (d' := 0) (by decide) hwn ((up_ne (hx.2 (old) hsl).1).trans ((up_ne hx.1.1).trans hw)) rfl rfl (Nat.le_of_ble_eq_true rfl) (Nat.le_of_ble_eq_true rfl) (s_X2_puddleCount (wat.kept W ((up_ne (hx.2 (old) hsl).1).trans (up_ne hx.1.1)) ((up_ne (hx.2 (old) hsl).2.1).trans (up_ne hx.1.2.1)) ((up_ne (hx.2 (old) hsl).2.2).trans (up_ne hx.1.2.2)))) ?_
      refine j_icmp_ge_f (tgt := 89) dX1_addLatest_71 (by decide) (nI_nle' (by omega) (by omega) (by omega)) ?_
      refine j_aload_n dX1_addLatest_74 rfl ?_
      refine j_iload_n dX1_addLatest_75 rfl ?_
      refine j_aload_n dX1_addLatest_76 rfl ?_
      refine j_get fl_X1_39 dX1_addLatest_77 hwn ((up_ne (hx.2 (old) hsl).1).trans ((up_ne hx.1.1).trans hw)) rfl ?_
      refine j_iload_n dX1_addLatest_80 rfl ?_
      refine j_iald dX1_addLatest_81 hLn ((up_ne (hx.2 (old) hsl).2.1).trans ((up_ne hx.1.2.1).trans hL)) (by decide) (by omega) rfl ?_
      refine j_iast (j := k) dX1_addLatest_82 (by omega) up_eq (by decide) (by omega) ?_
      refine j_E up_up ?_
      refine j_iinc (v := nI (k + 1)) (L' := [some (.ref (ad rw)), some (.ref (ad w)), some (.ref (ad (base + old))), some (.int (nI (k + 1)))]) dX1_addLatest_83 (by decide) rfl (nI_1 _) rfl rfl ?_
      refine j_goto (tgt := 66) dX1_addLatest_86 (by decide) ?_
      exact j_E (congrArg (fun f => va_up (va_up E rw (.inr (1, [.ref (ad iO), .int (nI (if old + 1 < lim then old + 1 else 0)), .int (nI cnt)]))) (base + old) (aI g 128 f)) (cpyN_step lv (rows (old)) k)) ih
    · skip
      show J g mX1_addLatest 1 0 0 66 [some (.ref (ad rw)), some (.ref (ad w)), some (.ref (ad (base + old))), some (.int (nI (F * S)))] [] n ad (va_up (va_up E rw (.inr (1, [.ref (ad iO), .int (nI (if old + 1 < lim then old + 1 else 0)), .int (nI cnt)]))) (base + old) (aI g 128 (cpyN lv (rows (old)) (F * S)))) Φ Ψ
      refine j_iload_n dX1_addLatest_66 rfl ?_
      refine j_aload_n dX1_addLatest_67 rfl ?_
      refine j_cV (As := []) (rest := [.int (nI (F * S))]) cm_X2_puddleCount ci_X2_puddleCount cs_X2_puddleCount rfl ln_X1_33 (ci := 2) rfl dX1_addLatest_68 (d' := 0) (by decide) hwn ((up_ne (hx.2 (old) hsl).1).trans ((up_ne hx.1.1).trans hw)) rfl rfl (Nat.le_of_ble_eq_true rfl) (Nat.le_of_ble_eq_true rfl) (s_X2_puddleCount (wat.kept W ((up_ne (hx.2 (old) hsl).1).trans (up_ne hx.1.1)) ((up_ne (hx.2 (old) hsl).2.1).trans (up_ne hx.1.2.1)) ((up_ne (hx.2 (old) hsl).2.2).trans (up_ne hx.1.2.2)))) ?_
      refine j_icmp_ge_t (tgt := 89) dX1_addLatest_71 (by decide) (nI_le' (by omega) (by omega) (by omega)) ?_
      exact j_vret dX1_addLatest_89 rfl h
/-- the entries of a pool of rows -/
def pup (E : Nat → va_E) (base m : Nat) (R : Nat → va_E) : Nat → va_E := fun k => if base ≤ k ∧ k < base + m then R (k - base) else E k
theorem pup_in {E : Nat → va_E} {base m i : Nat} {R : Nat → va_E} (h : i < m) : pup E base m R (base + i) = R i := by
  unfold pup
  rw [if_pos ⟨by omega, by omega⟩, show base + i - base = i by omega]
theorem pup_out {E : Nat → va_E} {base m k : Nat} {R : Nat → va_E} (h : ∀ i, i < m → k ≠ base + i) : pup E base m R k = E k := by
  unfold pup
  rw [if_neg]
  rintro ⟨h1, h2⟩
  exact h (k - base) (by omega) (by omega)
theorem pup_set {E : Nat → va_E} {base m i : Nat} {R R' : Nat → va_E} {e : va_E} (hi : i < m) (h : ∀ j, j < m → R' j = if j = i then e else R j) : va_up (pup E base m R) (base + i) e = pup E base m R' := by
  funext k
  unfold va_up
  by_cases q : k = base + i
  · rw [if_pos q, q, pup_in hi, h i hi, if_pos rfl]
  · rw [if_neg q]
    unfold pup
    by_cases r : base ≤ k ∧ k < base + m
    · rw [if_pos r, if_pos r, h (k - base) (by omega), if_neg (by omega)]
    · rw [if_neg r, if_neg r]
theorem pup_self {E : Nat → va_E} {base m : Nat} {R : Nat → va_E} (h : ∀ i, i < m → E (base + i) = R i) : pup E base m R = E := by
  funext k
  unfold pup
  by_cases r : base ≤ k ∧ k < base + m
  · rw [if_pos r, ← h (k - base) (by omega), show base + (k - base) = k by omega]
  · rw [if_neg r]
def frs (g : jG) (n : Nat) (ad : Nat → Nat) (E : Nat → va_E) (fp iH base fc : Nat) (Hm : Nat → Nat → Int32) : Prop :=
  (fp < n ∧ iH < n ∧ base + 8 ≤ n) ∧ (fp ≠ iH ∧ ∀ i, i < 8 → base + i ≠ fp ∧ base + i ≠ iH) ∧ E fp = .inr (0, [.ref (ad iH), .int (nI fc)]) ∧ E iH = aO g 8 (fun i => if i < 8 then some (ad (base + i)) else none) ∧ (∀ i, i < 8 → E (base + i) = aI g 8 (Hm i)) ∧ fc ≤ 8
/-- flight against flight: pairs out of order -/
def cntOf (lv : Nat → Int32) (S a b : Nat) : Int32 := lpf (fun s x => lpf (fun t x => if lv (a * S + s) ≤ lv (b * S + t) then x else x + 1) (if a = b then s + 1 else 0) (S - (if a = b then s + 1 else 0)) x) 0 S 0
/-- which flight stands at a place when two are swapped -/
def swp (o t f : Nat) : Nat := if f = o then t else if f = t then o else f
theorem swp_lt {o t f F : Nat} (h1 : o < F) (h2 : t < F) (h3 : f < F) : swp o t f < F := by
  unfold swp
  split
  · exact h2
  · split
    · exact h1
    · exact h3
def outS (Hm : Nat → Nat → Int32) (F o t : Nat) : Int32 := lpf (fun a x => lpf (fun b x => x + Hm (swp o t a) (swp o t b)) a (F - a) x) 0 F 0
def bestS (Hm : Nat → Nat → Int32) (F f : Nat) : Nat × Int32 := lpf (fun t b => if b.2 ≤ outS Hm F f t then b else (t, outS Hm F f t)) 0 F (0, 2147483647)
set_option maxRecDepth 100000 in
set_option maxHeartbeats 4000000 in
theorem s_X0_countOf {g : jG} {n : Nat} {ad : Nat → Nat} {E : Nat → va_E} {w iL iE F S : Nat} {su : Int32} {lv ed : Nat → Int32} (W : wat g n ad E w iL iE F S su lv ed) (a b : Nat) (ha : a < F) (hb : b < F) : Ret g mX0_countOf 2 [.ref (ad w), .int (nI a), .int (nI b)] n ad E (some (.int (cntOf lv S a b))) E := by
  obtain ⟨⟨hwn, hLn, hEn⟩, ⟨hwL, hwE, hLE⟩, hw, hL, hE0, hF, hS⟩ := id W
  intro Φ Ψ h
  show J g mX0_countOf 2 0 0 0 [some (.ref (ad w)), some (.int (nI a)), some (.int (nI b)), none, none, none, none] [] n ad E Φ Ψ
  refine j_iconst (v := 0) dX0_countOf_0 (by decide) ?_
  refine j_istore_n (L' := [some (.ref (ad w)), some (.int (nI a)), some (.int (nI b)), some (.int 0), none, none, none]) dX0_countOf_1 (by decide) rfl rfl ?_
  refine j_iconst (v := nI 0) dX0_countOf_2 (by decide) ?_
  refine j_istore (L' := [some (.ref (ad w)), some (.int (nI a)), some (.int (nI b)), some (.int 0), some (.int (nI 0)), none, none]) dX0_countOf_3 (by decide) rfl rfl ?_
  refine lpf_ind (b := fun s x => lpf (fun t x => if lv (a * S + s) ≤ lv (b * S + t) then x else x + 1) (if a = b then s + 1 else 0) (S - (if a = b then s + 1 else 0)) x) (P := fun (s : Nat) (x : Int32) => J g mX0_countOf 2 0 0 5 [some (.ref (ad w)), some (.int (nI a)), some (.int (nI b)), some (.int x), some (.int (nI s)), none, none] [] n ad E Φ Ψ) (N := S) 0 ?_ S 0 (by omega) ?_
  · intro s x hs0 hs ih
    show J g mX0_countOf 2 0 0 5 [some (.ref (ad w)), some (.int (nI a)), some (.int (nI b)), some (.int x), some (.int (nI s)), none, none] [] n ad E Φ Ψ
    have ih0 := ih
    clear ih
    refine j_iload dX0_countOf_5 rfl ?_
    refine j_aload_n dX0_countOf_7 rfl ?_
    refine j_get fl_X0_27 dX0_countOf_8 hwn hw rfl ?_
    refine j_icmp_ge_f (tgt := 74) dX0_countOf_11 (by decide) (nI_nle' (by omega) (by omega) (by omega)) ?_
    refine j_aload_n dX0_countOf_14 rfl ?_
    refine j_iload_n dX0_countOf_15 rfl ?_
    refine j_iload dX0_countOf_16 rfl ?_
    refine j_cV (As := [.int (nI a), .int (nI s)]) (rest := []) cm_X2_level ci_X2_level cs_X2_level rfl ln_X0_30 (ci := 2) rfl dX0_countOf_18 (d' := 1) (by decide) hwn hw rfl rfl (Nat.le_of_ble_eq_true rfl) (Nat.le_of_ble_eq_true rfl) (s_X2_level W a s (ix128 hF hS ha hs)) ?_
    refine j_istore (L' := [some (.ref (ad w)), some (.int (nI a)), some (.int (nI b)), some (.int x), some (.int (nI s)), some (.int (lv (a * S + s))), none]) dX0_countOf_21 (by decide) rfl rfl ?_
    refine j_iload_n dX0_countOf_23 rfl ?_
    refine j_iload_n dX0_countOf_24 rfl ?_
    by_cases hab : a = b
    · skip
      refine j_icmp_ne_f (tgt := 35) dX0_countOf_25 (by decide) (nI_eq' (by omega)) ?_
      refine j_iload dX0_countOf_28 rfl ?_
      refine j_iconst (v := nI 1) dX0_countOf_30 (by decide) ?_
      refine j_iadd dX0_countOf_31 ?_
      refine j_topi (y := nI (s + 1)) (nI_add _ _) ?_
      refine j_goto (tgt := 36) dX0_countOf_32 (by decide) ?_
      refine j_st (st' := [.int (nI (if a = b then s + 1 else 0))]) (by simp only [hab, if_true, if_false] <;> rfl) ?_
      refine j_istore (L' := [some (.ref (ad w)), some (.int (nI a)), some (.int (nI b)), some (.int x), some (.int (nI s)), some (.int (lv (a * S + s))), some (.int (nI (if a = b then s + 1 else 0)))]) dX0_countOf_36 (by decide) rfl rfl ?_
      have ht0 : (if a = b then s + 1 else 0) ≤ S := by split <;> omega
      generalize (if a = b then s + 1 else 0) = t0 at ht0 ih0 ⊢
      show J g mX0_countOf 2 0 0 38 [some (.ref (ad w)), some (.int (nI a)), some (.int (nI b)), some (.int x), some (.int (nI s)), some (.int (lv (a * S + s))), some (.int (nI t0))] [] n ad E Φ Ψ
      refine lpf_ind (b := fun t x => if lv (a * S + s) ≤ lv (b * S + t) then x else x + 1) (P := fun (t : Nat) (x : Int32) => J g mX0_countOf 2 0 0 38 [some (.ref (ad w)), some (.int (nI a)), some (.int (nI b)), some (.int x), some (.int (nI s)), some (.int (lv (a * S + s))), some (.int (nI t))] [] n ad E Φ Ψ) (N := S) t0 ?_ (S - t0) x (by omega) ?_
      · intro t x ht0 ht ih
        show J g mX0_countOf 2 0 0 38 [some (.ref (ad w)), some (.int (nI a)), some (.int (nI b)), some (.int x), some (.int (nI s)), some (.int (lv (a * S + s))), some (.int (nI t))] [] n ad E Φ Ψ
        refine j_iload dX0_countOf_38 rfl ?_
        refine j_aload_n dX0_countOf_40 rfl ?_
        refine j_get fl_X0_27 dX0_countOf_41 hwn hw rfl ?_
        refine j_icmp_ge_f (tgt := 68) dX0_countOf_44 (by decide) (nI_nle' (by omega) (by omega) (by omega)) ?_
        refine j_iload dX0_countOf_47 rfl ?_
        refine j_aload_n dX0_countOf_49 rfl ?_
        refine j_iload_n dX0_countOf_50 rfl ?_
        refine j_iload dX0_countOf_51 rfl ?_
        refine j_cV (As := [.int (nI b), .int (nI t)]) (rest := [.int (lv (a * S + s))]) cm_X2_level ci_X2_level cs_X2_level rfl ln_X0_30 (ci := 2) rfl dX0_countOf_53 (d' := 1) (by decide) hwn hw rfl rfl (Nat.le_of_ble_eq_true rfl) (Nat.le_of_ble_eq_true rfl) (s_X2_level W b t (ix128 hF hS hb ht)) ?_
        refine j_icmp_le (tgt := 62) dX0_countOf_56 (by decide) (fun hq => ?_) (fun hq => ?_)
        · skip
          refine j_iinc (v := nI (t + 1)) (L' := [some (.ref (ad w)), some (.int (nI a)), some (.int (nI b)), some (.int x), some (.int (nI s)), some (.int (lv (a * S + s))), some (.int (nI (t + 1)))]) dX0_countOf_62 (by decide) rfl (nI_1 _) rfl rfl ?_
          refine j_goto (tgt := 38) dX0_countOf_65 (by decide) ?_
          exact ih _ (by simp only [hq, if_true, if_false])
        · skip
          refine j_iinc (v := x + 1) (L' := [some (.ref (ad w)), some (.int (nI a)), some (.int (nI b)), some (.int (x + 1)), some (.int (nI s)), some (.int (lv (a * S + s))), some (.int (nI t))]) dX0_countOf_59 (by decide) rfl rfl rfl rfl ?_
          refine j_iinc (v := nI (t + 1)) (L' := [some (.ref (ad w)), some (.int (nI a)), some (.int (nI b)), some (.int (x + 1)), some (.int (nI s)), some (.int (lv (a * S + s))), some (.int (nI (t + 1)))]) dX0_countOf_62 (by decide) rfl (nI_1 _) rfl rfl ?_
          refine j_goto (tgt := 38) dX0_countOf_65 (by decide) ?_
          exact ih _ (by simp only [hq, if_true, if_false])
      · skip
        show J g mX0_countOf 2 0 0 38 [some (.ref (ad w)), some (.int (nI a)), some (.int (nI b)), some (.int (lpf (fun t x => if lv (a * S + s) ≤ lv (b * S + t) then x else x + 1) t0 (S - t0) x)), some (.int (nI s)), some (.int (lv (a * S + s))), some (.int (nI S))] [] n ad E Φ Ψ
        refine j_iload dX0_countOf_38 rfl ?_
        refine j_aload_n dX0_countOf_40 rfl ?_
        refine j_get fl_X0_27 dX0_countOf_41 hwn hw rfl ?_
        refine j_icmp_ge_t (tgt := 68) dX0_countOf_44 (by decide) (nI_le' (by omega) (by omega) (by omega)) ?_
        refine j_iinc (v := nI (s + 1)) (L' := [some (.ref (ad w)), some (.int (nI a)), some (.int (nI b)), some (.int (lpf (fun t x => if lv (a * S + s) ≤ lv (b * S + t) then x else x + 1) t0 (S - t0) x)), some (.int (nI (s + 1))), some (.int (lv (a * S + s))), some (.int (nI S))]) dX0_countOf_68 (by decide) rfl (nI_1 _) rfl rfl ?_
        refine j_goto (tgt := 5) dX0_countOf_71 (by decide) ?_
        refine j_clr 5 ?_
        refine j_clr 6 ?_
        exact ih0 _ rfl
    · skip
      refine j_icmp_ne_t (tgt := 35) dX0_countOf_25 (by decide) (nI_ne' (by omega) (by omega) (by omega)) ?_
      refine j_iconst (v := nI 0) dX0_countOf_35 (by decide) ?_
      refine j_st (st' := [.int (nI (if a = b then s + 1 else 0))]) (by simp only [hab, if_true, if_false] <;> rfl) ?_
      refine j_istore (L' := [some (.ref (ad w)), some (.int (nI a)), some (.int (nI b)), some (.int x), some (.int (nI s)), some (.int (lv (a * S + s))), some (.int (nI (if a = b then s + 1 else 0)))]) dX0_countOf_36 (by decide) rfl rfl ?_
      have ht0 : (if a = b then s + 1 else 0) ≤ S := by split <;> omega
      generalize (if a = b then s + 1 else 0) = t0 at ht0 ih0 ⊢
      show J g mX0_countOf 2 0 0 38 [some (.ref (ad w)), some (.int (nI a)), some (.int (nI b)), some (.int x), some (.int (nI s)), some (.int (lv (a * S + s))), some (.int (nI t0))] [] n ad E Φ Ψ
      refine lpf_ind (b := fun t x => if lv (a * S + s) ≤ lv (b * S + t) then x else x + 1) (P := fun (t : Nat) (x : Int32) => J g mX0_countOf 2 0 0 38 [some (.ref (ad w)), some (.int (nI a)), some (.int (nI b)), some (.int x), some (.int (nI s)), some (.int (lv (a * S + s))), some (.int (nI t))] [] n ad E Φ Ψ) (N := S) t0 ?_ (S - t0) x (by omega) ?_
      · intro t x ht0 ht ih
        show J g mX0_countOf 2 0 0 38 [some (.ref (ad w)), some (.int (nI a)), some (.int (nI b)), some (.int x), some (.int (nI s)), some (.int (lv (a * S + s))), some (.int (nI t))] [] n ad E Φ Ψ
        refine j_iload dX0_countOf_38 rfl ?_
        refine j_aload_n dX0_countOf_40 rfl ?_
        refine j_get fl_X0_27 dX0_countOf_41 hwn hw rfl ?_
        refine j_icmp_ge_f (tgt := 68) dX0_countOf_44 (by decide) (nI_nle' (by omega) (by omega) (by omega)) ?_
        refine j_iload dX0_countOf_47 rfl ?_
        refine j_aload_n dX0_countOf_49 rfl ?_
        refine j_iload_n dX0_countOf_50 rfl ?_
        refine j_iload dX0_countOf_51 rfl ?_
        refine j_cV (As := [.int (nI b), .int (nI t)]) (rest := [.int (lv (a * S + s))]) cm_X2_level ci_X2_level cs_X2_level rfl ln_X0_30 (ci := 2) rfl dX0_countOf_53 (d' := 1) (by decide) hwn hw rfl rfl (Nat.le_of_ble_eq_true rfl) (Nat.le_of_ble_eq_true rfl) (s_X2_level W b t (ix128 hF hS hb ht)) ?_
        refine j_icmp_le (tgt := 62) dX0_countOf_56 (by decide) (fun hq => ?_) (fun hq => ?_)
        · skip
          refine j_iinc (v := nI (t + 1)) (L' := [some (.ref (ad w)), some (.int (nI a)), some (.int (nI b)), some (.int x), some (.int (nI s)), some (.int (lv (a * S + s))), some (.int (nI (t + 1)))]) dX0_countOf_62 (by decide) rfl (nI_1 _) rfl rfl ?_
          refine j_goto (tgt := 38) dX0_countOf_65 (by decide) ?_
          exact ih _ (by simp only [hq, if_true, if_false])
        · skip
          refine j_iinc (v := x + 1) (L' := [some (.ref (ad w)), some (.int (nI a)), some (.int (nI b)), some (.int (x + 1)), some (.int (nI s)), some (.int (lv (a * S + s))), some (.int (nI t))]) dX0_countOf_59 (by decide) rfl rfl rfl rfl ?_
          refine j_iinc (v := nI (t + 1)) (L' := [some (.ref (ad w)), some (.int (nI a)), some (.int (nI b)), some (.int (x + 1)), some (.int (nI s)), some (.int (lv (a * S + s))), some (.int (nI (t + 1)))]) dX0_countOf_62 (by decide) rfl (nI_1 _) rfl rfl ?_
          refine j_goto (tgt := 38) dX0_countOf_65 (by decide) ?_
          exact ih _ (by simp only [hq, if_true, if_false])
      · skip
        show J g mX0_countOf 2 0 0 38 [some (.ref (ad w)), some (.int (nI a)), some (.int (nI b)), some (.int (lpf (fun t x => if lv (a * S + s) ≤ lv (b * S + t) then x else x + 1) t0 (S - t0) x)), some (.int (nI s)), some (.int (lv (a * S + s))), some (.int (nI S))] [] n ad E Φ Ψ
        refine j_iload dX0_countOf_38 rfl ?_
        refine j_aload_n dX0_countOf_40 rfl ?_
        refine j_get fl_X0_27 dX0_countOf_41 hwn hw rfl ?_
        refine j_icmp_ge_t (tgt := 68) dX0_countOf_44 (by decide) (nI_le' (by omega) (by omega) (by omega)) ?_
        refine j_iinc (v := nI (s + 1)) (L' := [some (.ref (ad w)), some (.int (nI a)), some (.int (nI b)), some (.int (lpf (fun t x => if lv (a * S + s) ≤ lv (b * S + t) then x else x + 1) t0 (S - t0) x)), some (.int (nI (s + 1))), some (.int (lv (a * S + s))), some (.int (nI S))]) dX0_countOf_68 (by decide) rfl (nI_1 _) rfl rfl ?_
        refine j_goto (tgt := 5) dX0_countOf_71 (by decide) ?_
        refine j_clr 5 ?_
        refine j_clr 6 ?_
        exact ih0 _ rfl
  · skip
    show J g mX0_countOf 2 0 0 5 [some (.ref (ad w)), some (.int (nI a)), some (.int (nI b)), some (.int (lpf (fun s x => lpf (fun t x => if lv (a * S + s) ≤ lv (b * S + t) then x else x + 1) (if a = b then s + 1 else 0) (S - (if a = b then s + 1 else 0)) x) 0 S 0)), some (.int (nI S)), none, none] [] n ad E Φ Ψ
    refine j_iload dX0_countOf_5 rfl ?_
    refine j_aload_n dX0_countOf_7 rfl ?_
    refine j_get fl_X0_27 dX0_countOf_8 hwn hw rfl ?_
    refine j_icmp_ge_t (tgt := 74) dX0_countOf_11 (by decide) (nI_le' (by omega) (by omega) (by omega)) ?_
    refine j_iload_n dX0_countOf_74 rfl ?_
    exact j_iret dX0_countOf_75 rfl h
set_option maxRecDepth 100000 in
set_option maxHeartbeats 4000000 in
theorem s_X0_swapped {g : jG} {n : Nat} {ad : Nat → Nat} {E : Nat → va_E} (f o t : Nat) (hf : f < 100) (ho : o < 100) (ht : t < 100) : Ret g mX0_swapped 0 [.int (nI f), .int (nI o), .int (nI t)] n ad E (some (.int (nI (swp o t f)))) E := by
  intro Φ Ψ h
  show J g mX0_swapped 0 0 0 0 [some (.int (nI f)), some (.int (nI o)), some (.int (nI t))] [] n ad E Φ Ψ
  by_cases h1 : f = o
  · skip
    refine j_iload_n dX0_swapped_0 rfl ?_
    refine j_iload_n dX0_swapped_1 rfl ?_
    refine j_icmp_ne_f (tgt := 7) dX0_swapped_2 (by decide) (nI_eq' (by omega)) ?_
    refine j_iload_n dX0_swapped_5 rfl ?_
    exact j_iret dX0_swapped_6 rfl (by rw [show swp o t f = t from if_pos h1] at h; exact h)
  · skip
    by_cases h2 : f = t
    · skip
      refine j_iload_n dX0_swapped_0 rfl ?_
      refine j_iload_n dX0_swapped_1 rfl ?_
      refine j_icmp_ne_t (tgt := 7) dX0_swapped_2 (by decide) (nI_ne' (by omega) (by omega) (by omega)) ?_
      refine j_iload_n dX0_swapped_7 rfl ?_
      refine j_iload_n dX0_swapped_8 rfl ?_
      refine j_icmp_ne_f (tgt := 16) dX0_swapped_9 (by decide) (nI_eq' (by omega)) ?_
      refine j_iload_n dX0_swapped_12 rfl ?_
      refine j_goto (tgt := 17) dX0_swapped_13 (by decide) ?_
      exact j_iret dX0_swapped_17 rfl (by rw [show swp o t f = o from (if_neg h1).trans (if_pos h2)] at h; exact h)
    · skip
      refine j_iload_n dX0_swapped_0 rfl ?_
      refine j_iload_n dX0_swapped_1 rfl ?_
      refine j_icmp_ne_t (tgt := 7) dX0_swapped_2 (by decide) (nI_ne' (by omega) (by omega) (by omega)) ?_
      refine j_iload_n dX0_swapped_7 rfl ?_
      refine j_iload_n dX0_swapped_8 rfl ?_
      refine j_icmp_ne_t (tgt := 16) dX0_swapped_9 (by decide) (nI_ne' (by omega) (by omega) (by omega)) ?_
      refine j_iload_n dX0_swapped_16 rfl ?_
      exact j_iret dX0_swapped_17 rfl (by rw [show swp o t f = f from (if_neg h1).trans (if_neg h2)] at h; exact h)
set_option maxRecDepth 100000 in
set_option maxHeartbeats 4000000 in
theorem s_X0_outWithSwap {g : jG} {n : Nat} {ad : Nat → Nat} {E : Nat → va_E} {fp iH base fc : Nat} {Hm : Nat → Nat → Int32} (Z : frs g n ad E fp iH base fc Hm) (o t : Nat) (ho : o < fc) (ht : t < fc) : Ret g mX0_outWithSwap 1 [.ref (ad fp), .int (nI o), .int (nI t)] n ad E (some (.int (outS Hm fc o t))) E := by
  obtain ⟨⟨hfn, hHn, hbn⟩, ⟨hfH, hap⟩, hf0, hH, hrow, hfc⟩ := id Z
  intro Φ Ψ h
  show J g mX0_outWithSwap 1 0 0 0 [some (.ref (ad fp)), some (.int (nI o)), some (.int (nI t)), none, none, none] [] n ad E Φ Ψ
  refine j_iconst (v := 0) dX0_outWithSwap_0 (by decide) ?_
  refine j_istore_n (L' := [some (.ref (ad fp)), some (.int (nI o)), some (.int (nI t)), some (.int 0), none, none]) dX0_outWithSwap_1 (by decide) rfl rfl ?_
  refine j_iconst (v := nI 0) dX0_outWithSwap_2 (by decide) ?_
  refine j_istore (L' := [some (.ref (ad fp)), some (.int (nI o)), some (.int (nI t)), some (.int 0), some (.int (nI 0)), none]) dX0_outWithSwap_3 (by decide) rfl rfl ?_
  refine lpf_ind (b := fun a x => lpf (fun b x => x + Hm (swp o t a) (swp o t b)) a (fc - a) x) (P := fun (a : Nat) (x : Int32) => J g mX0_outWithSwap 1 0 0 5 [some (.ref (ad fp)), some (.int (nI o)), some (.int (nI t)), some (.int x), some (.int (nI a)), none] [] n ad E Φ Ψ) (N := fc) 0 ?_ fc 0 (by omega) ?_
  · intro a x ha0 ha ih
    show J g mX0_outWithSwap 1 0 0 5 [some (.ref (ad fp)), some (.int (nI o)), some (.int (nI t)), some (.int x), some (.int (nI a)), none] [] n ad E Φ Ψ
    have ih0 := ih
    clear ih
    have hsa := swp_lt ho ht ha
    refine j_iload dX0_outWithSwap_5 rfl ?_
    refine j_aload_n dX0_outWithSwap_7 rfl ?_
    refine j_get fl_X0_22 dX0_outWithSwap_8 hfn hf0 rfl ?_
    refine j_icmp_ge_f (tgt := 62) dX0_outWithSwap_11 (by decide) (nI_nle' (by omega) (by omega) (by omega)) ?_
    refine j_iload dX0_outWithSwap_14 rfl ?_
    refine j_istore (L' := [some (.ref (ad fp)), some (.int (nI o)), some (.int (nI t)), some (.int x), some (.int (nI a)), some (.int (nI a))]) dX0_outWithSwap_16 (by decide) rfl rfl ?_
    refine lpf_ind (b := fun b x => x + Hm (swp o t a) (swp o t b)) (P := fun (b : Nat) (x : Int32) => J g mX0_outWithSwap 1 0 0 18 [some (.ref (ad fp)), some (.int (nI o)), some (.int (nI t)), some (.int x), some (.int (nI a)), some (.int (nI b))] [] n ad E Φ Ψ) (N := fc) a ?_ (fc - a) x (by omega) ?_
    · intro b x hb0 hb ih
      show J g mX0_outWithSwap 1 0 0 18 [some (.ref (ad fp)), some (.int (nI o)), some (.int (nI t)), some (.int x), some (.int (nI a)), some (.int (nI b))] [] n ad E Φ Ψ
      have hsb := swp_lt ho ht hb
      refine j_iload dX0_outWithSwap_18 rfl ?_
      refine j_aload_n dX0_outWithSwap_20 rfl ?_
      refine j_get fl_X0_22 dX0_outWithSwap_21 hfn hf0 rfl ?_
      refine j_icmp_ge_f (tgt := 56) dX0_outWithSwap_24 (by decide) (nI_nle' (by omega) (by omega) (by omega)) ?_
      refine j_iload_n dX0_outWithSwap_27 rfl ?_
      refine j_aload_n dX0_outWithSwap_28 rfl ?_
      refine j_get fl_X0_11 dX0_outWithSwap_29 hfn hf0 rfl ?_
      refine j_iload dX0_outWithSwap_32 rfl ?_
      refine j_iload_n dX0_outWithSwap_34 rfl ?_
      refine j_iload_n dX0_outWithSwap_35 rfl ?_
      refine j_cS (As := [.int (nI a), .int (nI o), .int (nI t)]) (rest := [.ref (ad iH), .int x]) cm_X0_swapped ct_X0_swapped ln_X0_34 dX0_outWithSwap_36 (d' := 0) (by decide) rfl rfl (Nat.le_of_ble_eq_true rfl) (Nat.le_of_ble_eq_true rfl) (s_X0_swapped a o t (by omega) (by omega) (by omega)) ?_
      refine j_aald (a := (ad (base + swp o t a))) dX0_outWithSwap_39 hHn hH (by decide) (by omega) (if_pos (by omega)) ?_
      refine j_iload dX0_outWithSwap_40 rfl ?_
      refine j_iload_n dX0_outWithSwap_42 rfl ?_
      refine j_iload_n dX0_outWithSwap_43 rfl ?_
      refine j_cS (As := [.int (nI b), .int (nI o), .int (nI t)]) (rest := [.ref (ad (base + swp o t a)), .int x]) cm_X0_swapped ct_X0_swapped ln_X0_34 dX0_outWithSwap_44 (d' := 0) (by decide) rfl rfl (Nat.le_of_ble_eq_true rfl) (Nat.le_of_ble_eq_true rfl) (s_X0_swapped b o t (by omega) (by omega) (by omega)) ?_
      refine j_iald dX0_outWithSwap_47 (by omega) (hrow (swp o t a) (by omega)) (by decide) (by omega) rfl ?_
      refine j_iadd dX0_outWithSwap_48 ?_
      refine j_istore_n (L' := [some (.ref (ad fp)), some (.int (nI o)), some (.int (nI t)), some (.int (x + ((Hm (swp o t a)) (swp o t b)))), some (.int (nI a)), some (.int (nI b))]) dX0_outWithSwap_49 (by decide) rfl rfl ?_
      refine j_iinc (v := nI (b + 1)) (L' := [some (.ref (ad fp)), some (.int (nI o)), some (.int (nI t)), some (.int (x + ((Hm (swp o t a)) (swp o t b)))), some (.int (nI a)), some (.int (nI (b + 1)))]) dX0_outWithSwap_50 (by decide) rfl (nI_1 _) rfl rfl ?_
      refine j_goto (tgt := 18) dX0_outWithSwap_53 (by decide) ?_
      exact ih _ rfl
    · skip
      show J g mX0_outWithSwap 1 0 0 18 [some (.ref (ad fp)), some (.int (nI o)), some (.int (nI t)), some (.int (lpf (fun b x => x + Hm (swp o t a) (swp o t b)) a (fc - a) x)), some (.int (nI a)), some (.int (nI fc))] [] n ad E Φ Ψ
      refine j_iload dX0_outWithSwap_18 rfl ?_
      refine j_aload_n dX0_outWithSwap_20 rfl ?_
      refine j_get fl_X0_22 dX0_outWithSwap_21 hfn hf0 rfl ?_
      refine j_icmp_ge_t (tgt := 56) dX0_outWithSwap_24 (by decide) (nI_le' (by omega) (by omega) (by omega)) ?_
      refine j_iinc (v := nI (a + 1)) (L' := [some (.ref (ad fp)), some (.int (nI o)), some (.int (nI t)), some (.int (lpf (fun b x => x + Hm (swp o t a) (swp o t b)) a (fc - a) x)), some (.int (nI (a + 1))), some (.int (nI fc))]) dX0_outWithSwap_56 (by decide) rfl (nI_1 _) rfl rfl ?_
      refine j_goto (tgt := 5) dX0_outWithSwap_59 (by decide) ?_
      refine j_clr 5 ?_
      exact ih0 _ rfl
  · skip
    show J g mX0_outWithSwap 1 0 0 5 [some (.ref (ad fp)), some (.int (nI o)), some (.int (nI t)), some (.int (lpf (fun a x => lpf (fun b x => x + Hm (swp o t a) (swp o t b)) a (fc - a) x) 0 fc 0)), some (.int (nI fc)), none] [] n ad E Φ Ψ
    refine j_iload dX0_outWithSwap_5 rfl ?_
    refine j_aload_n dX0_outWithSwap_7 rfl ?_
    refine j_get fl_X0_22 dX0_outWithSwap_8 hfn hf0 rfl ?_
    refine j_icmp_ge_t (tgt := 62) dX0_outWithSwap_11 (by decide) (nI_le' (by omega) (by omega) (by omega)) ?_
    refine j_iload_n dX0_outWithSwap_62 rfl ?_
    exact j_iret dX0_outWithSwap_63 rfl h
def bestN (Hm : Nat → Nat → Int32) (F f : Nat) : Nat × Int32 := lpf (fun t b => if b.2 ≤ outS Hm F f t then b else (t, outS Hm F f t)) 1 (F - 1) (0, outS Hm F f 0)
theorem bestN_eq (Hm : Nat → Nat → Int32) {F : Nat} (f : Nat) (hF : 1 ≤ F) : (bestN Hm F f).1 = (bestS Hm F f).1 := by
  obtain ⟨T, rfl⟩ : ∃ T, F = T + 1 := ⟨F - 1, by omega⟩
  unfold bestN bestS
  refine congrArg (fun p : Nat × Int32 => p.1) ?_
  show lpf _ 1 (T + 1 - 1) _ = lpf _ (0 + 1) T (if (2147483647 : Int32) ≤ outS Hm (T + 1) f 0 then (0, 2147483647) else (0, outS Hm (T + 1) f 0))
  have e : (if (2147483647 : Int32) ≤ outS Hm (T + 1) f 0 then ((0, 2147483647) : Nat × Int32) else (0, outS Hm (T + 1) f 0)) = (0, outS Hm (T + 1) f 0) := by
    by_cases q : (2147483647 : Int32) ≤ outS Hm (T + 1) f 0
    · rw [if_pos q]
      have h1 := Int32.toInt_lt (outS Hm (T + 1) f 0)
      have h2 : (2147483647 : Int32).toInt = 2147483647 := by decide
      rw [Int32.le_iff_toInt_le] at q
      have : (2147483647 : Int32) = outS Hm (T + 1) f 0 := by
        rw [← Int32.toInt_inj]
        omega
      rw [← this]
    · rw [if_neg q]
  rw [e, Nat.zero_add, show T + 1 - 1 = T by omega]
set_option maxRecDepth 100000 in
set_option maxHeartbeats 4000000 in
theorem s_X0_bestPartner0 {g : jG} {n : Nat} {ad : Nat → Nat} {E : Nat → va_E} {fp iH base fc : Nat} {Hm : Nat → Nat → Int32} (Z : frs g n ad E fp iH base fc Hm) (f : Nat) (hf : f < fc) : Ret g mX0_bestPartner 2 [.ref (ad fp), .int (nI f)] n ad E (some (.int (nI ((bestN Hm fc f).1)))) E := by
  obtain ⟨⟨hfn, hHn, hbn⟩, ⟨hfH, hap⟩, hf0, hH, hrow, hfc⟩ := id Z
  intro Φ Ψ h
  show J g mX0_bestPartner 2 0 0 0 [some (.ref (ad fp)), some (.int (nI f)), none, none, none, none] [] n ad E Φ Ψ
  refine j_iconst (v := nI 0) dX0_bestPartner_0 (by decide) ?_
  refine j_istore_n (L' := [some (.ref (ad fp)), some (.int (nI f)), some (.int (nI 0)), none, none, none]) dX0_bestPartner_1 (by decide) rfl rfl ?_
  refine j_aload_n dX0_bestPartner_2 rfl ?_
  refine j_iload_n dX0_bestPartner_3 rfl ?_
  refine j_iconst (v := nI 0) dX0_bestPartner_4 (by decide) ?_
  refine j_cV (As := [.int (nI f), .int (nI 0)]) (rest := []) cm_X0_outWithSwap ci_X0_outWithSwap cs_X0_outWithSwap rfl ln_X0_38 (ci := 0) rfl dX0_bestPartner_5 (d' := 1) (by decide) hfn hf0 rfl rfl (Nat.le_of_ble_eq_true rfl) (Nat.le_of_ble_eq_true rfl) (s_X0_outWithSwap Z f 0 hf (by omega)) ?_
  refine j_istore_n (L' := [some (.ref (ad fp)), some (.int (nI f)), some (.int (nI 0)), some (.int (outS Hm fc f 0)), none, none]) dX0_bestPartner_8 (by decide) rfl rfl ?_
  refine j_iconst (v := nI 1) dX0_bestPartner_9 (by decide) ?_
  refine j_istore (L' := [some (.ref (ad fp)), some (.int (nI f)), some (.int (nI 0)), some (.int (outS Hm fc f 0)), some (.int (nI 1)), none]) dX0_bestPartner_10 (by decide) rfl rfl ?_
  refine lpf_ind (b := fun t b => if b.2 ≤ outS Hm fc f t then b else (t, outS Hm fc f t)) (P := fun (t : Nat) (b9 : Nat × Int32) => J g mX0_bestPartner 2 0 0 12 [some (.ref (ad fp)), some (.int (nI f)), some (.int (nI b9.1)), some (.int b9.2), some (.int (nI t)), none] [] n ad E Φ Ψ) (N := fc) 1 ?_ (fc - 1) ((0, outS Hm fc f 0) : Nat × Int32) (by omega) ?_
  · intro t b9 ht0 ht ih
    obtain ⟨b0, c0⟩ := b9
    show J g mX0_bestPartner 2 0 0 12 [some (.ref (ad fp)), some (.int (nI f)), some (.int (nI b0)), some (.int c0), some (.int (nI t)), none] [] n ad E Φ Ψ
    refine j_iload dX0_bestPartner_12 rfl ?_
    refine j_aload_n dX0_bestPartner_14 rfl ?_
    refine j_get fl_X0_22 dX0_bestPartner_15 hfn hf0 rfl ?_
    refine j_icmp_ge_f (tgt := 48) dX0_bestPartner_18 (by decide) (nI_nle' (by omega) (by omega) (by omega)) ?_
    refine j_aload_n dX0_bestPartner_21 rfl ?_
    refine j_iload_n dX0_bestPartner_22 rfl ?_
    refine j_iload dX0_bestPartner_23 rfl ?_
    refine j_cV (As := [.int (nI f), .int (nI t)]) (rest := []) cm_X0_outWithSwap ci_X0_outWithSwap cs_X0_outWithSwap rfl ln_X0_38 (ci := 0) rfl dX0_bestPartner_25 (d' := 1) (by decide) hfn hf0 rfl rfl (Nat.le_of_ble_eq_true rfl) (Nat.le_of_ble_eq_true rfl) (s_X0_outWithSwap Z f t hf ht) ?_
    refine j_istore (L' := [some (.ref (ad fp)), some (.int (nI f)), some (.int (nI b0)), some (.int c0), some (.int (nI t)), some (.int (outS Hm fc f t))]) dX0_bestPartner_28 (by decide) rfl rfl ?_
    refine j_iload dX0_bestPartner_30 rfl ?_
    refine j_iload_n dX0_bestPartner_32 rfl ?_
    refine j_icmp_ge (tgt := 42) dX0_bestPartner_33 (by decide) (fun hq => ?_) (fun hq => ?_)
    · skip
      refine j_iinc (v := nI (t + 1)) (L' := [some (.ref (ad fp)), some (.int (nI f)), some (.int (nI b0)), some (.int c0), some (.int (nI (t + 1))), some (.int (outS Hm fc f t))]) dX0_bestPartner_42 (by decide) rfl (nI_1 _) rfl rfl ?_
      refine j_goto (tgt := 12) dX0_bestPartner_45 (by decide) ?_
      refine j_clr 5 ?_
      exact ih (b0, c0) (by simp only [hq, if_true, if_false])
    · skip
      refine j_iload dX0_bestPartner_36 rfl ?_
      refine j_istore_n (L' := [some (.ref (ad fp)), some (.int (nI f)), some (.int (nI b0)), some (.int (outS Hm fc f t)), some (.int (nI t)), some (.int (outS Hm fc f t))]) dX0_bestPartner_38 (by decide) rfl rfl ?_
      refine j_iload dX0_bestPartner_39 rfl ?_
      refine j_istore_n (L' := [some (.ref (ad fp)), some (.int (nI f)), some (.int (nI t)), some (.int (outS Hm fc f t)), some (.int (nI t)), some (.int (outS Hm fc f t))]) dX0_bestPartner_41 (by decide) rfl rfl ?_
      refine j_iinc (v := nI (t + 1)) (L' := [some (.ref (ad fp)), some (.int (nI f)), some (.int (nI t)), some (.int (outS Hm fc f t)), some (.int (nI (t + 1))), some (.int (outS Hm fc f t))]) dX0_bestPartner_42 (by decide) rfl (nI_1 _) rfl rfl ?_
      refine j_goto (tgt := 12) dX0_bestPartner_45 (by decide) ?_
      refine j_clr 5 ?_
      exact ih (t, outS Hm fc f t) (by simp only [hq, if_true, if_false])
  · skip
    show J g mX0_bestPartner 2 0 0 12 [some (.ref (ad fp)), some (.int (nI f)), some (.int (nI ((bestN Hm fc f).1))), some (.int ((bestN Hm fc f).2)), some (.int (nI fc)), none] [] n ad E Φ Ψ
    refine j_iload dX0_bestPartner_12 rfl ?_
    refine j_aload_n dX0_bestPartner_14 rfl ?_
    refine j_get fl_X0_22 dX0_bestPartner_15 hfn hf0 rfl ?_
    refine j_icmp_ge_t (tgt := 48) dX0_bestPartner_18 (by decide) (nI_le' (by omega) (by omega) (by omega)) ?_
    refine j_iload_n dX0_bestPartner_48 rfl ?_
    exact j_iret dX0_bestPartner_49 rfl h
theorem s_X0_bestPartner {g : jG} {n : Nat} {ad : Nat → Nat} {E : Nat → va_E} {fp iH base fc : Nat} {Hm : Nat → Nat → Int32} (Z : frs g n ad E fp iH base fc Hm) (f : Nat) (hf : f < fc) : Ret g mX0_bestPartner 2 [.ref (ad fp), .int (nI f)] n ad E (some (.int (nI (bestS Hm fc f).1))) E := by
  rw [← bestN_eq Hm f (by omega)]
  exact s_X0_bestPartner0 Z f hf
def cmat (lv : Nat → Int32) (S F : Nat) (Hm : Nat → Nat → Int32) (a b : Nat) : Nat → Nat → Int32 := fun i j => if (i < a ∧ j < F) ∨ (i = a ∧ j < b) then cntOf lv S i j else Hm i j
theorem cmat_0 (lv : Nat → Int32) (S F : Nat) (Hm : Nat → Nat → Int32) (i : Nat) : cmat lv S F Hm 0 0 i = Hm i := by
  funext j
  unfold cmat
  rw [if_neg]
  omega
theorem cmat_next (lv : Nat → Int32) (S F : Nat) (Hm : Nat → Nat → Int32) (a i : Nat) : cmat lv S F Hm a F i = cmat lv S F Hm (a + 1) 0 i := by
  funext j
  unfold cmat
  by_cases h : (i < a ∧ j < F) ∨ (i = a ∧ j < F)
  · rw [if_pos h, if_pos (by omega)]
  · rw [if_neg h, if_neg (by omega)]
theorem cmat_step (g : jG) (lv : Nat → Int32) (S F : Nat) (Hm : Nat → Nat → Int32) (a b j : Nat) (hb : b < F) : aI g 8 (cmat lv S F Hm a (b + 1) j) = if j = a then aI g 8 (upd (cmat lv S F Hm a b a) b (cntOf lv S a b)) else aI g 8 (cmat lv S F Hm a b j) := by
  by_cases h : j = a
  · subst h
    rw [if_pos rfl]
    refine congrArg (aI g 8) (funext fun k => ?_)
    unfold upd cmat
    by_cases q : k = b
    · subst q
      rw [if_pos rfl, if_pos (by omega)]
    · rw [if_neg q]
      by_cases r : k < b
      · rw [if_pos (by omega), if_pos (by omega)]
      · rw [if_neg (by omega), if_neg (by omega)]
  · rw [if_neg h]
    refine congrArg (aI g 8) (funext fun k => ?_)
    unfold cmat
    by_cases r : j < a ∧ k < F
    · rw [if_pos (Or.inl r), if_pos (Or.inl r)]
    · rw [if_neg (by omega), if_neg (by omega)]
set_option maxRecDepth 100000 in
set_option maxHeartbeats 4000000 in
theorem s_X0_countIn {g : jG} {n : Nat} {ad : Nat → Nat} {E : Nat → va_E} {fp iH base fc : Nat} {Hm : Nat → Nat → Int32} (Z : frs g n ad E fp iH base fc Hm) {w iL iE F S : Nat} {su : Int32} {lv ed : Nat → Int32} (W : wat g n ad E w iL iE F S su lv ed) (hx : (w ≠ fp ∧ iL ≠ fp ∧ iE ≠ fp) ∧ ∀ i, i < 8 → w ≠ base + i ∧ iL ≠ base + i ∧ iE ≠ base + i) : Ret g mX0_countIn 3 [.ref (ad fp), .ref (ad w)] n ad E none (pup (va_up E fp (.inr (0, [.ref (ad iH), .int (nI F)]))) base 8 (fun i => aI g 8 (cmat lv S F Hm F 0 i))) := by
  obtain ⟨⟨hfn, hHn, hbn⟩, ⟨hfH, hap⟩, hf0, hH, hrow, hfc⟩ := id Z
  obtain ⟨⟨hwn, hLn, hEn⟩, ⟨hwL, hwE, hLE⟩, hw, hL, hE0, hF, hS⟩ := id W
  intro Φ Ψ h
  show J g mX0_countIn 3 0 0 0 [some (.ref (ad fp)), some (.ref (ad w)), none, none] [] n ad E Φ Ψ
  refine j_aload_n dX0_countIn_0 rfl ?_
  refine j_aload_n dX0_countIn_1 rfl ?_
  refine j_get fl_X0_16 dX0_countIn_2 hwn hw rfl ?_
  refine j_put fl_X0_22 fp_X0 dX0_countIn_5 hfn hf0 (Or.inl rfl) rfl rfl (Nat.le_of_ble_eq_true rfl) ?_
  refine j_iconst (v := nI 0) dX0_countIn_8 (by decide) ?_
  refine j_istore_n (L' := [some (.ref (ad fp)), some (.ref (ad w)), some (.int (nI 0)), none]) dX0_countIn_9 (by decide) rfl rfl ?_
  refine j_E (E' := pup (va_up E fp (.inr (0, [.ref (ad iH), .int (nI F)]))) base 8 (fun i => aI g 8 (cmat lv S F Hm 0 0 i))) (pup_self (fun i hi => by rw [up_ne (hap i hi).1, hrow i hi, cmat_0])).symm ?_
  refine up_ind (P := fun (a : Nat) => J g mX0_countIn 3 0 0 10 [some (.ref (ad fp)), some (.ref (ad w)), some (.int (nI a)), none] [] n ad (pup (va_up E fp (.inr (0, [.ref (ad iH), .int (nI F)]))) base 8 (fun i => aI g 8 (cmat lv S F Hm a 0 i))) Φ Ψ) (N := F) 0 ?_ F (by omega) ?_
  · intro a ha0 ha ih
    show J g mX0_countIn 3 0 0 10 [some (.ref (ad fp)), some (.ref (ad w)), some (.int (nI a)), none] [] n ad (pup (va_up E fp (.inr (0, [.ref (ad iH), .int (nI F)]))) base 8 (fun i => aI g 8 (cmat lv S F Hm a 0 i))) Φ Ψ
    have ih0 := ih
    clear ih
    refine j_iload_n dX0_countIn_10 rfl ?_
    refine j_aload_n dX0_countIn_11 rfl ?_
    refine j_get fl_X0_22 dX0_countIn_12 hfn ((pup_out (fun i hi => Ne.symm (hap i hi).1)).trans up_eq) rfl ?_
    refine j_icmp_ge_f (tgt := 54) dX0_countIn_15 (by decide) (nI_nle' (by omega) (by omega) (by omega)) ?_
    refine j_iconst (v := nI 0) dX0_countIn_18 (by decide) ?_
    refine j_istore_n (L' := [some (.ref (ad fp)), some (.ref (ad w)), some (.int (nI a)), some (.int (nI 0))]) dX0_countIn_19 (by decide) rfl rfl ?_
    refine up_ind (P := fun (b : Nat) => J g mX0_countIn 3 0 0 20 [some (.ref (ad fp)), some (.ref (ad w)), some (.int (nI a)), some (.int (nI b))] [] n ad (pup (va_up E fp (.inr (0, [.ref (ad iH), .int (nI F)]))) base 8 (fun i => aI g 8 (cmat lv S F Hm a b i))) Φ Ψ) (N := F) 0 ?_ F (by omega) ?_
    · intro b hb0 hb ih
      show J g mX0_countIn 3 0 0 20 [some (.ref (ad fp)), some (.ref (ad w)), some (.int (nI a)), some (.int (nI b))] [] n ad (pup (va_up E fp (.inr (0, [.ref (ad iH), .int (nI F)]))) base 8 (fun i => aI g 8 (cmat lv S F Hm a b i))) Φ Ψ
      refine j_iload_n dX0_countIn_20 rfl ?_
      refine j_aload_n dX0_countIn_21 rfl ?_
      refine j_get fl_X0_22 dX0_countIn_22 hfn ((pup_out (fun i hi => Ne.symm (hap i hi).1)).trans up_eq) rfl ?_
      refine j_icmp_ge_f (tgt := 48) dX0_countIn_25 (by decide) (nI_nle' (by omega) (by omega) (by omega)) ?_
      refine j_aload_n dX0_countIn_28 rfl ?_
      refine j_get fl_X0_11 dX0_countIn_29 hfn ((pup_out (fun i hi => Ne.symm (hap i hi).1)).trans up_eq) rfl ?_
      refine j_iload_n dX0_countIn_32 rfl ?_
      refine j_aald (a := (ad (base + a))) dX0_countIn_33 hHn ((pup_out (fun i hi => Ne.symm (hap i hi).2)).trans ((up_ne (Ne.symm hfH)).trans hH)) (by decide) (by omega) (if_pos (by omega)) ?_
      refine j_iload_n dX0_countIn_34 rfl ?_
      refine j_aload_n dX0_countIn_35 rfl ?_
      refine j_iload_n dX0_countIn_36 rfl ?_
      refine j_iload_n dX0_countIn_37 rfl ?_
      refine j_cS (As := [.ref (ad w), .int (nI a), .int (nI b)]) (rest := [.int (nI b), .ref (ad (base + a))]) cm_X0_countOf ct_X0_countOf ln_X0_23 dX0_countIn_38 (d' := 2) (by decide) rfl rfl (Nat.le_of_ble_eq_true rfl) (Nat.le_of_ble_eq_true rfl) (s_X0_countOf (wat.kept W ((pup_out (fun i hi => (hx.2 i hi).1)).trans (up_ne hx.1.1)) ((pup_out (fun i hi => (hx.2 i hi).2.1)).trans (up_ne hx.1.2.1)) ((pup_out (fun i hi => (hx.2 i hi).2.2)).trans (up_ne hx.1.2.2))) a b ha hb) ?_
      refine j_iast (j := b) dX0_countIn_41 (by omega) (pup_in (by omega)) (by decide) (by omega) ?_
      refine j_iinc (v := nI (b + 1)) (L' := [some (.ref (ad fp)), some (.ref (ad w)), some (.int (nI a)), some (.int (nI (b + 1)))]) dX0_countIn_42 (by decide) rfl (nI_1 _) rfl rfl ?_
      refine j_goto (tgt := 20) dX0_countIn_45 (by decide) ?_
      exact j_E (pup_set (by omega) (fun j hj => cmat_step g lv S F Hm a b j hb)) ih
    · skip
      show J g mX0_countIn 3 0 0 20 [some (.ref (ad fp)), some (.ref (ad w)), some (.int (nI a)), some (.int (nI F))] [] n ad (pup (va_up E fp (.inr (0, [.ref (ad iH), .int (nI F)]))) base 8 (fun i => aI g 8 (cmat lv S F Hm a F i))) Φ Ψ
      refine j_iload_n dX0_countIn_20 rfl ?_
      refine j_aload_n dX0_countIn_21 rfl ?_
      refine j_get fl_X0_22 dX0_countIn_22 hfn ((pup_out (fun i hi => Ne.symm (hap i hi).1)).trans up_eq) rfl ?_
      refine j_icmp_ge_t (tgt := 48) dX0_countIn_25 (by decide) (nI_le' (by omega) (by omega) (by omega)) ?_
      refine j_iinc (v := nI (a + 1)) (L' := [some (.ref (ad fp)), some (.ref (ad w)), some (.int (nI (a + 1))), some (.int (nI F))]) dX0_countIn_48 (by decide) rfl (nI_1 _) rfl rfl ?_
      refine j_goto (tgt := 10) dX0_countIn_51 (by decide) ?_
      refine j_clr 3 ?_
      exact j_E (congrArg (fun f => pup (va_up E fp (.inr (0, [.ref (ad iH), .int (nI F)]))) base 8 f) (funext fun i => congrArg (aI g 8) (cmat_next lv S F Hm a i))) ih0
  · skip
    show J g mX0_countIn 3 0 0 10 [some (.ref (ad fp)), some (.ref (ad w)), some (.int (nI F)), none] [] n ad (pup (va_up E fp (.inr (0, [.ref (ad iH), .int (nI F)]))) base 8 (fun i => aI g 8 (cmat lv S F Hm F 0 i))) Φ Ψ
    refine j_iload_n dX0_countIn_10 rfl ?_
    refine j_aload_n dX0_countIn_11 rfl ?_
    refine j_get fl_X0_22 dX0_countIn_12 hfn ((pup_out (fun i hi => Ne.symm (hap i hi).1)).trans up_eq) rfl ?_
    refine j_icmp_ge_t (tgt := 54) dX0_countIn_15 (by decide) (nI_le' (by omega) (by omega) (by omega)) ?_
    exact j_vret dX0_countIn_54 rfl h
