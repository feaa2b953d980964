set_option maxRecDepth 100000 in
set_option maxHeartbeats 4000000 in
theorem lw_s9 {g : jG} {n : Nat} {ad : Nat → Nat} {E : Nat → va_E} {i F S : Nat} {hrs su : Int32} {gone : Int64} {lv ed : Nat → Int32} {old cnt : Nat} {dr : Nat → Nat → Int32} {mc : Nat} {mr : Nat → Nat → Int32} {m : Nat → Nat → Int32} {e : Nat → Int32} {A B : Nat → Nat → Nat → Int32} (C : CR g n ad E F S hrs su gone lv ed old cnt dr mc mr) (R : SR g n ad E F S su hrs gone m e cnt A mc B) (L : RS i F S su lv ed old cnt dr mc mr m e A B) (hi : i ≤ 500) {tm : Nat} {x : Int32} {f s : Nat} (hf : f < F) (hs : s < S) {bc bs : Nat} {Φ : Option Value → jR} {Ψ : String → jR} (K : ∀ (n9 : Nat) (a9 : Nat → Nat) (E9 : Nat → va_E), n ≤ n9 → (∀ k, k < n → a9 k = ad k) → CR g n9 a9 E9 F S hrs su gone lv ed old cnt dr mc mr → SR g n9 a9 E9 F S su hrs gone m e cnt A mc B → J g mL_law 13 bc bs 876 [some (.ref g.1.2.1), some (.ref (a9 0)), some (.ref (a9 63)), some (.int (nI tm)), some (.int x), some (.long (dgAll hrs su gone lv ed F S cnt mc mr)), none, some (.int (nI F)), some (.int (nI S)), some (.int (nI (F * S))), some (.int (nI f)), some (.int (nI s)), none, none, none, none, some (.int (nI (dcnt lv (F * S)))), none, none, none, none, none, none, none, none, none, none, none, none, none, none, none, none, none, none, none, none, none, none, none, none, none] [] n9 a9 E9 Φ Ψ) : J g mL_law 13 (bc + 60) (bs + 800) 784 [some (.ref g.1.2.1), some (.ref (ad 0)), some (.ref (ad 63)), some (.int (nI tm)), some (.int x), some (.long (dgAll hrs su gone lv ed F S cnt mc mr)), none, some (.int (nI F)), some (.int (nI S)), some (.int (nI (F * S))), some (.int (nI f)), some (.int (nI s)), none, none, none, none, some (.int (nI (dcnt lv (F * S)))), none, none, none, none, none, none, none, none, none, none, none, none, none, none, none, none, none, none, none, none, none, none, none, none, none] [] n ad E Φ Ψ := by
  obtain ⟨hF8, hS16, hF1, hS1, hold, hcn, hmc, hN, hn63⟩ := C.bd
  have hN1 := fs1 hF1 hS1
  obtain ⟨iL0, iE0, r0, ia0, im0, X0⟩ := id R
  replace X0 : SX g n ad E iL0 iE0 r0 ia0 im0 F S su hrs gone m e cnt A mc B := X0
  obtain ⟨V0, ⟨lL0, lE0, lr0⟩, K10, K20⟩ := id X0
  obtain ⟨⟨hwn0, hLn0, hEn0, hrn0⟩, ⟨hwL0, hwE0, hLE0, hrA0⟩, hri0, hw0, hL0, hE0, hR0, -⟩ := id V0
  have hB := best_ok lv f hF1 hN
  refine j_aload_n dL_law_784 rfl ?_
  refine j_cVp (As := []) (rest := []) cm_X3_outOfOrder ci_X3_outOfOrder cs_X3_outOfOrder rfl ln_L_183 (ci := 3) rfl dL_law_785 (d' := 4) (by decide) (by omega) C.1 rfl rfl (Nat.le_of_ble_eq_true rfl) (Nat.le_of_ble_eq_true rfl) (s_X3_outOfOrder C) (fun E1 q1 => ?_)
  show J g mL_law 13 (bc + 60) (bs + 800) 788 [some (.ref g.1.2.1), some (.ref (ad 0)), some (.ref (ad 63)), some (.int (nI tm)), some (.int x), some (.long (dgAll hrs su gone lv ed F S cnt mc mr)), none, some (.int (nI F)), some (.int (nI S)), some (.int (nI (F * S))), some (.int (nI f)), some (.int (nI s)), none, none, none, none, some (.int (nI (dcnt lv (F * S)))), none, none, none, none, none, none, none, none, none, none, none, none, none, none, none, none, none, none, none, none, none, none, none, none, none] [.int (outS (cntOf lv S) F 0 0)] n ad E1 Φ Ψ
  have X1 := X0.tr (Nat.le_refl _) (fun _ _ => rfl) (fun k hk _ => q1.2 k hk)
  obtain ⟨V1, ⟨lL1, lE1, lr1⟩, K11, K21⟩ := id X1
  obtain ⟨⟨hwn1, hLn1, hEn1, hrn1⟩, ⟨hwL1, hwE1, hLE1, hrA1⟩, hri1, hw1, hL1, hE1, hR1, -⟩ := id V1
  refine j_istore (L' := [some (.ref g.1.2.1), some (.ref (ad 0)), some (.ref (ad 63)), some (.int (nI tm)), some (.int x), some (.long (dgAll hrs su gone lv ed F S cnt mc mr)), none, some (.int (nI F)), some (.int (nI S)), some (.int (nI (F * S))), some (.int (nI f)), some (.int (nI s)), none, none, none, none, some (.int (nI (dcnt lv (F * S)))), none, none, none, none, none, none, none, some (.int (outS (cntOf lv S) F 0 0)), none, none, none, none, none, none, none, none, none, none, none, none, none, none, none, none, none]) dL_law_788 (by decide) rfl rfl ?_
  refine j_aload_n dL_law_790 rfl ?_
  refine j_bud (bc' := 3 + 1 + 4 + (F + 1 + (0 + 1)) + 1 + (bc + 30)) (bs' := 8 + 4 + 4 * 8 + (F * S + F + (0 + S)) + 7 + (bs + 400)) (by omega) (by omega) ?_
  refine j_callV (As := []) (rest := []) (d' := 4) (Ψ' := fun _ _ _ _ => False) cm_X4_copy ci_X4_copy cs_X4_copy rfl ln_L_186 (ci := 4) rfl dL_law_791 (by decide) V1.1.1 V1.2.2.2.1 rfl rfl (Nat.le_of_ble_eq_true rfl) (Nat.le_of_ble_eq_true rfl) (c_X4_copy V1 _) (fun v2 n2 a2 E2 q2 => ?_) (fun _ _ _ _ q => q.elim)
  obtain ⟨hv2, hn2, g2, e2, iL2, iE2, r2, va2, vm2, W2, lL2, lE2, lr2⟩ := q2
  subst hv2
  rw [← g2 0 (by omega), ← g2 63 (by omega)]
  have C2 := q1.1.tr63 (n' := n2) (ad' := a2) (E' := E2) (by omega) (fun k hk => g2 k (by omega)) (fun k hk => e2 k (by omega))
  show J g mL_law 13 (bc + 30) (bs + 400) 794 [some (.ref g.1.2.1), some (.ref (a2 0)), some (.ref (a2 63)), some (.int (nI tm)), some (.int x), some (.long (dgAll hrs su gone lv ed F S cnt mc mr)), none, some (.int (nI F)), some (.int (nI S)), some (.int (nI (F * S))), some (.int (nI f)), some (.int (nI s)), none, none, none, none, some (.int (nI (dcnt lv (F * S)))), none, none, none, none, none, none, none, some (.int (outS (cntOf lv S) F 0 0)), none, none, none, none, none, none, none, none, none, none, none, none, none, none, none, none, none] [.ref (a2 n)] n2 a2 E2 Φ Ψ
  refine j_astore (L' := [some (.ref g.1.2.1), some (.ref (a2 0)), some (.ref (a2 63)), some (.int (nI tm)), some (.int x), some (.long (dgAll hrs su gone lv ed F S cnt mc mr)), none, some (.int (nI F)), some (.int (nI S)), some (.int (nI (F * S))), some (.int (nI f)), some (.int (nI s)), none, none, none, none, some (.int (nI (dcnt lv (F * S)))), none, none, none, none, none, none, none, some (.int (outS (cntOf lv S) F 0 0)), some (.ref (a2 n)), none, none, none, none, none, none, none, none, none, none, none, none, none, none, none, none]) dL_law_794 (by decide) rfl rfl ?_
  refine j_aload dL_law_796 rfl ?_
  refine j_iload dL_law_798 rfl ?_
  refine j_aload_n dL_law_800 rfl ?_
  refine j_iload dL_law_801 rfl ?_
  refine j_cVp (As := [.int (nI f)]) (rest := [.int (nI f), .ref (a2 n)]) cm_X3_bestSwap ci_X3_bestSwap cs_X3_bestSwap rfl ln_L_190 (ci := 3) rfl dL_law_803 (d' := 8) (by decide) (by omega) C2.1 rfl rfl (Nat.le_of_ble_eq_true rfl) (Nat.le_of_ble_eq_true rfl) (s_X3_bestSwap C2 f hf) (fun E3 q3 => ?_)
  show J g mL_law 13 (bc + 30) (bs + 400) 806 [some (.ref g.1.2.1), some (.ref (a2 0)), some (.ref (a2 63)), some (.int (nI tm)), some (.int x), some (.long (dgAll hrs su gone lv ed F S cnt mc mr)), none, some (.int (nI F)), some (.int (nI S)), some (.int (nI (F * S))), some (.int (nI f)), some (.int (nI s)), none, none, none, none, some (.int (nI (dcnt lv (F * S)))), none, none, none, none, none, none, none, some (.int (outS (cntOf lv S) F 0 0)), some (.ref (a2 n)), none, none, none, none, none, none, none, none, none, none, none, none, none, none, none, none] [.int (nI ((bestS (cntOf lv S) F f).1)), .int (nI f), .ref (a2 n)] n2 a2 E3 Φ Ψ
  have W3 := W2.kept (E' := E3) (fun k hk => q3.2 k (by rcases hk with z | z | z | ⟨f9, hf9, z⟩ <;> first | omega | (have := lr2 f9 hf9; omega)))
  have hBf := hB.1
  generalize hbq : (bestS (cntOf lv S) F f).1 = b at hBf hB ⊢
  refine j_cV (As := [.int (nI f), .int (nI b)]) (rest := []) cm_X4_swap ci_X4_swap cs_X4_swap rfl ln_L_44 (ci := 4) rfl dL_law_806 (d' := 0) (by decide) W3.1.1 W3.2.2.2.1 rfl rfl (Nat.le_of_ble_eq_true rfl) (Nat.le_of_ble_eq_true rfl) (s_X4_swap W3 f (b) hf hBf) ?_
  show J g mL_law 13 (bc + 30) (bs + 400) 809 [some (.ref g.1.2.1), some (.ref (a2 0)), some (.ref (a2 63)), some (.int (nI tm)), some (.int x), some (.long (dgAll hrs su gone lv ed F S cnt mc mr)), none, some (.int (nI F)), some (.int (nI S)), some (.int (nI (F * S))), some (.int (nI f)), some (.int (nI s)), none, none, none, none, some (.int (nI (dcnt lv (F * S)))), none, none, none, none, none, none, none, some (.int (outS (cntOf lv S) F 0 0)), some (.ref (a2 n)), none, none, none, none, none, none, none, none, none, none, none, none, none, none, none, none] [] n2 a2 (va_up E3 iL2 (aO g F (fun g9 => if g9 < F then some (a2 (swR f (b) r2 g9)) else none))) Φ Ψ
  have W4 := W3.swap (a := f) (b := b) hf hBf
  have C4 : CR g n2 a2 (va_up E3 iL2 (aO g F (fun g9 => if g9 < F then some (a2 (swR f (b) r2 g9)) else none))) F S hrs su gone lv ed old cnt dr mc mr := q3.1.kept (fun k hk => up_ne (by omega))
  have he4 : ∀ k, k ≠ iL2 → (va_up E3 iL2 (aO g F (fun g9 => if g9 < F then some (a2 (swR f (b) r2 g9)) else none))) k = E3 k := fun k hk => up_ne hk
  generalize va_up E3 iL2 (aO g F (fun g9 => if g9 < F then some (a2 (swR f (b) r2 g9)) else none)) = E4 at W4 C4 he4 ⊢
  show J g mL_law 13 (bc + 30) (bs + 400) 809 [some (.ref g.1.2.1), some (.ref (a2 0)), some (.ref (a2 63)), some (.int (nI tm)), some (.int x), some (.long (dgAll hrs su gone lv ed F S cnt mc mr)), none, some (.int (nI F)), some (.int (nI S)), some (.int (nI (F * S))), some (.int (nI f)), some (.int (nI s)), none, none, none, none, some (.int (nI (dcnt lv (F * S)))), none, none, none, none, none, none, none, some (.int (outS (cntOf lv S) F 0 0)), some (.ref (a2 n)), none, none, none, none, none, none, none, none, none, none, none, none, none, none, none, none] [] n2 a2 E4 Φ Ψ
  have X4 := X1.tr (n' := n2) (ad' := a2) (E' := E4) (by omega) g2 (fun k h6 hk => (he4 k (by omega)).trans ((q3.2 k h6).trans (e2 k hk)))
  refine j_aload_n dL_law_809 rfl ?_
  refine j_bud (bc' := 3 + 1 + 4 + (F + 1 + (0 + 1)) + 1 + (bc)) (bs' := 8 + 4 + 4 * 8 + (F * S + F + (0 + S)) + 7 + (bs)) (by omega) (by omega) ?_
  refine j_callV (As := []) (rest := []) (d' := 4) (Ψ' := fun _ _ _ _ => False) cm_X4_copy ci_X4_copy cs_X4_copy rfl ln_L_186 (ci := 4) rfl dL_law_810 (by decide) X4.1.1.1 X4.1.2.2.2.1 rfl rfl (Nat.le_of_ble_eq_true rfl) (Nat.le_of_ble_eq_true rfl) (c_X4_copy X4.1 _) (fun v5 n5 a5 E5 q5 => ?_) (fun _ _ _ _ q => q.elim)
  obtain ⟨hv5, hn5, g5, e5, iL5, iE5, r5, va5, vm5, W5, lL5, lE5, lr5⟩ := q5
  subst hv5
  rw [← g5 0 (by omega), ← g5 63 (by omega), ← g5 n W4.1.1]
  have C5 := C4.tr63 (n' := n5) (ad' := a5) (E' := E5) (by omega) (fun k hk => g5 k (by omega)) (fun k hk => e5 k (by omega))
  have W6 := W4.tr (n' := n5) (ad' := a5) (E' := E5) (by omega) g5 e5
  show J g mL_law 13 bc bs 813 [some (.ref g.1.2.1), some (.ref (a5 0)), some (.ref (a5 63)), some (.int (nI tm)), some (.int x), some (.long (dgAll hrs su gone lv ed F S cnt mc mr)), none, some (.int (nI F)), some (.int (nI S)), some (.int (nI (F * S))), some (.int (nI f)), some (.int (nI s)), none, none, none, none, some (.int (nI (dcnt lv (F * S)))), none, none, none, none, none, none, none, some (.int (outS (cntOf lv S) F 0 0)), some (.ref (a5 n)), none, none, none, none, none, none, none, none, none, none, none, none, none, none, none, none] [.ref (a5 n2)] n5 a5 E5 Φ Ψ
  refine j_astore (L' := [some (.ref g.1.2.1), some (.ref (a5 0)), some (.ref (a5 63)), some (.int (nI tm)), some (.int x), some (.long (dgAll hrs su gone lv ed F S cnt mc mr)), none, some (.int (nI F)), some (.int (nI S)), some (.int (nI (F * S))), some (.int (nI f)), some (.int (nI s)), none, none, none, none, some (.int (nI (dcnt lv (F * S)))), none, none, none, none, none, none, none, some (.int (outS (cntOf lv S) F 0 0)), some (.ref (a5 n)), some (.ref (a5 n2)), none, none, none, none, none, none, none, none, none, none, none, none, none, none, none]) dL_law_813 (by decide) rfl rfl ?_
  refine j_aload dL_law_815 rfl ?_
  refine j_iload dL_law_817 rfl ?_
  refine j_iload dL_law_819 rfl ?_
  refine j_bipush (v := 7) dL_law_821 (by decide) ?_
  refine j_ishr dL_law_823 ?_
  refine j_iload dL_law_824 rfl ?_
  refine j_cS (As := [.int (x >>> (7 &&& 31)), .int (nI F)]) (rest := [.int (nI f), .ref (a5 n2)]) cm_L_below ct_L_below ln_L_19 dL_law_826 (d' := 0) (by decide) rfl rfl (Nat.le_of_ble_eq_true rfl) (Nat.le_of_ble_eq_true rfl) (s_L_below (x >>> (7 &&& 31)) F (by omega) (by omega)) ?_
  have hbt : bl (x >>> (7 &&& 31)) F < F := bl_lt _ (by omega)
  generalize bl (x >>> (7 &&& 31)) F = t at hbt ⊢
  refine j_cV (As := [.int (nI f), .int (nI t)]) (rest := []) cm_X4_swap ci_X4_swap cs_X4_swap rfl ln_L_44 (ci := 4) rfl dL_law_829 (d' := 0) (by decide) W5.1.1 W5.2.2.2.1 rfl rfl (Nat.le_of_ble_eq_true rfl) (Nat.le_of_ble_eq_true rfl) (s_X4_swap W5 f (t) hf hbt) ?_
  show J g mL_law 13 bc bs 832 [some (.ref g.1.2.1), some (.ref (a5 0)), some (.ref (a5 63)), some (.int (nI tm)), some (.int x), some (.long (dgAll hrs su gone lv ed F S cnt mc mr)), none, some (.int (nI F)), some (.int (nI S)), some (.int (nI (F * S))), some (.int (nI f)), some (.int (nI s)), none, none, none, none, some (.int (nI (dcnt lv (F * S)))), none, none, none, none, none, none, none, some (.int (outS (cntOf lv S) F 0 0)), some (.ref (a5 n)), some (.ref (a5 n2)), none, none, none, none, none, none, none, none, none, none, none, none, none, none, none] [] n5 a5 (va_up E5 iL5 (aO g F (fun g9 => if g9 < F then some (a5 (swR f (t) r5 g9)) else none))) Φ Ψ
  have W7 := W5.swap (a := f) (b := t) hf hbt
  have C7 : CR g n5 a5 (va_up E5 iL5 (aO g F (fun g9 => if g9 < F then some (a5 (swR f (t) r5 g9)) else none))) F S hrs su gone lv ed old cnt dr mc mr := C5.kept (fun k hk => up_ne (by omega))
  have he7 : ∀ k, k ≠ iL5 → (va_up E5 iL5 (aO g F (fun g9 => if g9 < F then some (a5 (swR f (t) r5 g9)) else none))) k = E5 k := fun k hk => up_ne hk
  generalize va_up E5 iL5 (aO g F (fun g9 => if g9 < F then some (a5 (swR f (t) r5 g9)) else none)) = E7 at W7 C7 he7 ⊢
  have W8 := W6.kept (E' := E7) (fun k hk => he7 k (by rcases hk with z | z | z | ⟨f9, hf9, z⟩ <;> first | (have := W4.1.1; have := W4.1.2.1; have := W4.1.2.2.1; omega) | (have := W4.1.2.2.2 f9 hf9; omega)))
  have X9 := X1.tr (n' := n5) (ad' := a5) (E' := E7) (by omega) (fun k hk => (g5 k (by omega)).trans (g2 k hk)) (fun k h6 hk => (he7 k (by omega)).trans ((e5 k (by omega)).trans ((he4 k (by omega)).trans ((q3.2 k h6).trans (e2 k hk)))))
  show J g mL_law 13 bc bs 832 [some (.ref g.1.2.1), some (.ref (a5 0)), some (.ref (a5 63)), some (.int (nI tm)), some (.int x), some (.long (dgAll hrs su gone lv ed F S cnt mc mr)), none, some (.int (nI F)), some (.int (nI S)), some (.int (nI (F * S))), some (.int (nI f)), some (.int (nI s)), none, none, none, none, some (.int (nI (dcnt lv (F * S)))), none, none, none, none, none, none, none, some (.int (outS (cntOf lv S) F 0 0)), some (.ref (a5 n)), some (.ref (a5 n2)), none, none, none, none, none, none, none, none, none, none, none, none, none, none, none] [] n5 a5 E7 Φ Ψ
  have hp0 : outS (cntOf lv S) F 0 0 = nI (pairsN (swL lv S 0 0) (F * S)) := out_pairs lv F S 0 0
  have hpl := pairs_le (swL lv S 0 0) (F * S)
  have hpt := pairs_lt (swL lv S 0 0) hN
  have hmm : F * S * (F * S - 1) ≤ 128 * 127 := Nat.mul_le_mul hN (by omega)
  have hA : ¬ outS (cntOf lv S) F 0 0 < prC (fun f9 => m (swp f b f9)) F S := by rw [sim_pairs L.1 hf hBf, ← out_same lv F S f]; exact hB.2 f hf
  have hD : prC (fun f9 => m (swp f b f9)) F S ≤ prC (fun f9 => m (swp f t f9)) F S := by rw [sim_pairs L.1 hf hBf, sim_pairs L.1 hf hbt]; exact Int32.not_lt.mp (hB.2 t hbt)
  refine j_iload dL_law_832 rfl ?_
  refine j_if_lt_f (tgt := 874) dL_law_834 (by decide) (by rw [hp0]; exact nI_pos (by omega)) ?_
  refine j_iload dL_law_837 rfl ?_
  refine j_iload dL_law_839 rfl ?_
  refine j_iload dL_law_841 rfl ?_
  refine j_iconst (v := nI 1) dL_law_843 (by decide) ?_
  refine j_isub dL_law_844 ?_
  refine j_topi (y := nI ((F * S) - 1)) (pk_sub (by omega)) ?_
  refine j_imul dL_law_845 ?_
  refine j_topi (y := nI ((F * S) * ((F * S) - 1))) (pk_mul _ _) ?_
  refine j_iconst (v := nI 2) dL_law_846 (by decide) ?_
  refine j_idiv dL_law_847 (nI_ne0 (by omega) (by omega)) ?_
  refine j_topi (y := nI (((F * S) * ((F * S) - 1)) / 2)) (pk_div (by omega) (by omega) (by omega)) ?_
  refine j_icmp_gt_f (tgt := 874) dL_law_848 (by decide) (by rw [hp0]; exact nI_nlt' (by omega) (by omega) hpl) ?_
  refine j_aload dL_law_851 rfl ?_
  refine j_cV (As := []) (rest := []) cm_X4_pairs ci_X4_pairs cs_X4_pairs rfl ln_L_193 (ci := 4) rfl dL_law_853 (d' := 0) (by decide) W8.1.1 W8.2.2.2.1 rfl rfl (Nat.le_of_ble_eq_true rfl) (Nat.le_of_ble_eq_true rfl) (s_X4_pairs W8) ?_
  refine j_iload dL_law_856 rfl ?_
  refine j_icmp_gt_f (tgt := 874) dL_law_858 (by decide) hA ?_
  refine j_aload dL_law_861 rfl ?_
  refine j_cV (As := []) (rest := []) cm_X4_pairs ci_X4_pairs cs_X4_pairs rfl ln_L_193 (ci := 4) rfl dL_law_863 (d' := 0) (by decide) W8.1.1 W8.2.2.2.1 rfl rfl (Nat.le_of_ble_eq_true rfl) (Nat.le_of_ble_eq_true rfl) (s_X4_pairs W8) ?_
  refine j_aload dL_law_866 rfl ?_
  refine j_cV (As := []) (rest := [.int (prC (fun f9 => m (swp f b f9)) F S)]) cm_X4_pairs ci_X4_pairs cs_X4_pairs rfl ln_L_193 (ci := 4) rfl dL_law_868 (d' := 0) (by decide) W7.1.1 W7.2.2.2.1 rfl rfl (Nat.le_of_ble_eq_true rfl) (Nat.le_of_ble_eq_true rfl) (s_X4_pairs W7) ?_
  refine j_icmp_le_t (tgt := 876) dL_law_871 (by decide) hD ?_
  refine j_clr 26 ?_
  refine j_clr 25 ?_
  refine j_clr 24 ?_
  exact K n5 a5 E7 (by omega) (fun k hk => (g5 k (by omega)).trans (g2 k hk)) C7 X9.sr
