set_option maxRecDepth 100000 in
set_option maxHeartbeats 4000000 in
theorem lw_s6 {g : jG} {n : Nat} {ad : Nat → Nat} {E : Nat → va_E} {i F S : Nat} {hrs su : Int32} {gone : Int64} {lv ed : Nat → Int32} {old cnt : Nat} {dr : Nat → Nat → Int32} {mc : Nat} {mr : Nat → Nat → Int32} {m : Nat → Nat → Int32} {e : Nat → Int32} {A B : Nat → Nat → Nat → Int32} (C : CR g n ad E F S hrs su gone lv ed old cnt dr mc mr) {tm : Nat} {x : Int32} {f s : Nat} (hf : f < F) (hs : s < S) {bc bs : Nat} {Φ : Option Value → jR} {Ψ : String → jR} (K : J g mL_law 13 bc bs 581 [some (.ref g.1.2.1), some (.ref (ad 0)), some (.ref (ad 63)), some (.int (nI tm)), some (.int x), some (.long (dgAll hrs su gone lv ed F S cnt mc mr)), none, some (.int (nI F)), some (.int (nI S)), some (.int (nI (F * S))), some (.int (nI f)), some (.int (nI s)), none, none, none, none, some (.int (nI (dcnt lv (F * S)))), none, none, none, none, none, none, none, none, none, none, none, none, none, none, none, none, none, none, none, none, none, none, none, none, none] [] n ad E Φ Ψ) : J g mL_law 13 bc bs 517 [some (.ref g.1.2.1), some (.ref (ad 0)), some (.ref (ad 63)), some (.int (nI tm)), some (.int x), some (.long (dgAll hrs su gone lv ed F S cnt mc mr)), none, some (.int (nI F)), some (.int (nI S)), some (.int (nI (F * S))), some (.int (nI f)), some (.int (nI s)), none, none, none, none, some (.int (nI (dcnt lv (F * S)))), none, none, none, none, none, none, none, none, none, none, none, none, none, none, none, none, none, none, none, none, none, none, none, none, none] [] n ad E Φ Ψ := by
  obtain ⟨hF8, hS16, hF1, hS1, hold, hcn, hmc, hN, hn63⟩ := C.bd
  have hN1 := fs1 hF1 hS1
  refine j_iconst (v := (-1)) dL_law_517 (by decide) ?_
  refine j_istore (L' := [some (.ref g.1.2.1), some (.ref (ad 0)), some (.ref (ad 63)), some (.int (nI tm)), some (.int x), some (.long (dgAll hrs su gone lv ed F S cnt mc mr)), none, some (.int (nI F)), some (.int (nI S)), some (.int (nI (F * S))), some (.int (nI f)), some (.int (nI s)), none, none, none, none, some (.int (nI (dcnt lv (F * S)))), none, none, some (.int (-1)), none, none, none, none, none, none, none, none, none, none, none, none, none, none, none, none, none, none, none, none, none, none]) dL_law_518 (by decide) rfl rfl ?_
  refine j_iconst (v := nI 0) dL_law_520 (by decide) ?_
  refine j_istore (L' := [some (.ref g.1.2.1), some (.ref (ad 0)), some (.ref (ad 63)), some (.int (nI tm)), some (.int x), some (.long (dgAll hrs su gone lv ed F S cnt mc mr)), none, some (.int (nI F)), some (.int (nI S)), some (.int (nI (F * S))), some (.int (nI f)), some (.int (nI s)), none, none, none, none, some (.int (nI (dcnt lv (F * S)))), none, none, some (.int (-1)), some (.int (nI 0)), none, none, none, none, none, none, none, none, none, none, none, none, none, none, none, none, none, none, none, none, none]) dL_law_521 (by decide) rfl rfl ?_
  show J g mL_law 13 bc bs 523 [some (.ref g.1.2.1), some (.ref (ad 0)), some (.ref (ad 63)), some (.int (nI tm)), some (.int x), some (.long (dgAll hrs su gone lv ed F S cnt mc mr)), none, some (.int (nI F)), some (.int (nI S)), some (.int (nI (F * S))), some (.int (nI f)), some (.int (nI s)), none, none, none, none, some (.int (nI (dcnt lv (F * S)))), none, none, some (.int (pvl lv (F * S) 0)), some (.int (nI 0)), none, none, none, none, none, none, none, none, none, none, none, none, none, none, none, none, none, none, none, none, none] [] n ad E Φ Ψ
  have hdl := dcnt_le lv (F * S)
  refine up_ind (P := fun (k : Nat) => J g mL_law 13 bc bs 523 [some (.ref g.1.2.1), some (.ref (ad 0)), some (.ref (ad 63)), some (.int (nI tm)), some (.int x), some (.long (dgAll hrs su gone lv ed F S cnt mc mr)), none, some (.int (nI F)), some (.int (nI S)), some (.int (nI (F * S))), some (.int (nI f)), some (.int (nI s)), none, none, none, none, some (.int (nI (dcnt lv (F * S)))), none, none, some (.int (pvl lv (F * S) k)), some (.int (nI k)), none, none, none, none, none, none, none, none, none, none, none, none, none, none, none, none, none, none, none, none, none] [] n ad E Φ Ψ) (N := dcnt lv (F * S)) 0 ?_ (dcnt lv (F * S)) (by omega) ?_
  · intro k hk0 hk ih
    show J g mL_law 13 bc bs 523 [some (.ref g.1.2.1), some (.ref (ad 0)), some (.ref (ad 63)), some (.int (nI tm)), some (.int x), some (.long (dgAll hrs su gone lv ed F S cnt mc mr)), none, some (.int (nI F)), some (.int (nI S)), some (.int (nI (F * S))), some (.int (nI f)), some (.int (nI s)), none, none, none, none, some (.int (nI (dcnt lv (F * S)))), none, none, some (.int (pvl lv (F * S) k)), some (.int (nI k)), none, none, none, none, none, none, none, none, none, none, none, none, none, none, none, none, none, none, none, none, none] [] n ad E Φ Ψ
    have ih0 := ih
    clear ih
    obtain ⟨hq1, hq2, hq3, hq4⟩ := dpl_ok (lv := lv) (N := F * S) (k := k) (by omega) hk
    have hv : lv (dpl lv (F * S) k / S * S + dpl lv (F * S) k % S) ≤ 0 := by rw [← dm]; exact Int32.not_lt.mp hq3
    refine j_iload dL_law_523 rfl ?_
    refine j_iload dL_law_525 rfl ?_
    refine j_icmp_ge_f (tgt := 581) dL_law_527 (by decide) (nI_nle' (by omega) (by omega) (by omega)) ?_
    refine j_aload_n dL_law_530 rfl ?_
    refine j_iload dL_law_531 rfl ?_
    refine j_cV (As := [.int (nI k)]) (rest := []) cm_X3_dryAt ci_X3_dryAt cs_X3_dryAt rfl ln_L_168 (ci := 3) rfl dL_law_533 (d' := 6) (by decide) (by omega) C.1 rfl rfl (Nat.le_of_ble_eq_true rfl) (Nat.le_of_ble_eq_true rfl) (s_X3_dryAt_some C (nI k) (dpl lv (F * S) k) hq1) ?_
    refine j_istore (L' := [some (.ref g.1.2.1), some (.ref (ad 0)), some (.ref (ad 63)), some (.int (nI tm)), some (.int x), some (.long (dgAll hrs su gone lv ed F S cnt mc mr)), none, some (.int (nI F)), some (.int (nI S)), some (.int (nI (F * S))), some (.int (nI f)), some (.int (nI s)), none, none, none, none, some (.int (nI (dcnt lv (F * S)))), none, none, some (.int (pvl lv (F * S) k)), some (.int (nI k)), some (.int (nI (dpl lv (F * S) k))), none, none, none, none, none, none, none, none, none, none, none, none, none, none, none, none, none, none, none, none]) dL_law_536 (by decide) rfl rfl ?_
    refine j_iload dL_law_538 rfl ?_
    refine j_iload dL_law_540 rfl ?_
    refine j_icmp_le_f (tgt := 569) dL_law_542 (by decide) (pvl_lt (by omega) hk) ?_
    refine j_iload dL_law_545 rfl ?_
    refine j_iload dL_law_547 rfl ?_
    refine j_icmp_ge_f (tgt := 569) dL_law_549 (by decide) (nI_nle' (by omega) (by omega) (by omega)) ?_
    refine j_aload_n dL_law_552 rfl ?_
    refine j_iload dL_law_553 rfl ?_
    refine j_iload dL_law_555 rfl ?_
    refine j_idiv dL_law_557 (nI_ne0 (by omega) (by omega)) ?_
    refine j_topi (y := nI ((dpl lv (F * S) k) / S)) (pk_div (by omega) (by omega) (by omega)) ?_
    refine j_iload dL_law_558 rfl ?_
    refine j_iload dL_law_560 rfl ?_
    refine j_irem dL_law_562 (nI_ne0 (by omega) (by omega)) ?_
    refine j_topi (y := nI ((dpl lv (F * S) k) % S)) (pk_rem (by omega) (by omega) (by omega)) ?_
    refine j_cV (As := [.int (nI ((dpl lv (F * S) k) / S)), .int (nI ((dpl lv (F * S) k) % S))]) (rest := []) cm_X3_levelAt ci_X3_levelAt cs_X3_levelAt rfl ln_L_148 (ci := 3) rfl dL_law_563 (d' := 9) (by decide) (by omega) C.1 rfl rfl (Nat.le_of_ble_eq_true rfl) (Nat.le_of_ble_eq_true rfl) (s_X3_levelAt C (dpl lv (F * S) k / S) (dpl lv (F * S) k % S) (div_ltN hq2) (Nat.mod_lt _ hS1)) ?_
    refine j_if_le_t (tgt := 571) dL_law_566 (by decide) hv ?_
    refine j_iload dL_law_571 rfl ?_
    refine j_istore (L' := [some (.ref g.1.2.1), some (.ref (ad 0)), some (.ref (ad 63)), some (.int (nI tm)), some (.int x), some (.long (dgAll hrs su gone lv ed F S cnt mc mr)), none, some (.int (nI F)), some (.int (nI S)), some (.int (nI (F * S))), some (.int (nI f)), some (.int (nI s)), none, none, none, none, some (.int (nI (dcnt lv (F * S)))), none, none, some (.int (nI (dpl lv (F * S) k))), some (.int (nI k)), some (.int (nI (dpl lv (F * S) k))), none, none, none, none, none, none, none, none, none, none, none, none, none, none, none, none, none, none, none, none]) dL_law_573 (by decide) rfl rfl ?_
    refine j_iinc (v := nI (k + 1)) (L' := [some (.ref g.1.2.1), some (.ref (ad 0)), some (.ref (ad 63)), some (.int (nI tm)), some (.int x), some (.long (dgAll hrs su gone lv ed F S cnt mc mr)), none, some (.int (nI F)), some (.int (nI S)), some (.int (nI (F * S))), some (.int (nI f)), some (.int (nI s)), none, none, none, none, some (.int (nI (dcnt lv (F * S)))), none, none, some (.int (nI (dpl lv (F * S) k))), some (.int (nI (k + 1))), some (.int (nI (dpl lv (F * S) k))), none, none, none, none, none, none, none, none, none, none, none, none, none, none, none, none, none, none, none, none]) dL_law_575 (by decide) rfl (nI_1 _) rfl rfl ?_
    refine j_goto (tgt := 523) dL_law_578 (by decide) ?_
    refine j_clr 21 ?_
    exact ih0
  · skip
    show J g mL_law 13 bc bs 523 [some (.ref g.1.2.1), some (.ref (ad 0)), some (.ref (ad 63)), some (.int (nI tm)), some (.int x), some (.long (dgAll hrs su gone lv ed F S cnt mc mr)), none, some (.int (nI F)), some (.int (nI S)), some (.int (nI (F * S))), some (.int (nI f)), some (.int (nI s)), none, none, none, none, some (.int (nI (dcnt lv (F * S)))), none, none, some (.int (pvl lv (F * S) (dcnt lv (F * S)))), some (.int (nI (dcnt lv (F * S)))), none, none, none, none, none, none, none, none, none, none, none, none, none, none, none, none, none, none, none, none, none] [] n ad E Φ Ψ
    refine j_iload dL_law_523 rfl ?_
    refine j_iload dL_law_525 rfl ?_
    refine j_icmp_ge_t (tgt := 581) dL_law_527 (by decide) (nI_le' (by omega) (by omega) (by omega)) ?_
    refine j_clr 20 ?_
    refine j_clr 19 ?_
    exact K
set_option maxRecDepth 100000 in
set_option maxHeartbeats 4000000 in
theorem lw_s7 {g : jG} {n : Nat} {ad : Nat → Nat} {E : Nat → va_E} {i F S : Nat} {hrs su : Int32} {gone : Int64} {lv ed : Nat → Int32} {old cnt : Nat} {dr : Nat → Nat → Int32} {mc : Nat} {mr : Nat → Nat → Int32} {m : Nat → Nat → Int32} {e : Nat → Int32} {A B : Nat → Nat → Nat → Int32} (C : CR g n ad E F S hrs su gone lv ed old cnt dr mc mr) {tm : Nat} {x : Int32} {f s : Nat} (hf : f < F) (hs : s < S) {bc bs : Nat} {Φ : Option Value → jR} {Ψ : String → jR} (K : J g mL_law 13 bc bs 681 [some (.ref g.1.2.1), some (.ref (ad 0)), some (.ref (ad 63)), some (.int (nI tm)), some (.int x), some (.long (dgAll hrs su gone lv ed F S cnt mc mr)), none, some (.int (nI F)), some (.int (nI S)), some (.int (nI (F * S))), some (.int (nI f)), some (.int (nI s)), none, none, none, none, some (.int (nI (dcnt lv (F * S)))), none, none, none, none, none, none, none, none, none, none, none, none, none, none, none, none, none, none, none, none, none, none, none, none, none] [] n ad E Φ Ψ) : J g mL_law 13 bc bs 581 [some (.ref g.1.2.1), some (.ref (ad 0)), some (.ref (ad 63)), some (.int (nI tm)), some (.int x), some (.long (dgAll hrs su gone lv ed F S cnt mc mr)), none, some (.int (nI F)), some (.int (nI S)), some (.int (nI (F * S))), some (.int (nI f)), some (.int (nI s)), none, none, none, none, some (.int (nI (dcnt lv (F * S)))), none, none, none, none, none, none, none, none, none, none, none, none, none, none, none, none, none, none, none, none, none, none, none, none, none] [] n ad E Φ Ψ := by
  obtain ⟨hF8, hS16, hF1, hS1, hold, hcn, hmc, hN, hn63⟩ := C.bd
  have hN1 := fs1 hF1 hS1
  refine j_iload dL_law_581 rfl ?_
  refine j_iconst (v := 4) dL_law_583 (by decide) ?_
  refine j_ishr dL_law_584 ?_
  refine j_sipush (v := nI 200) dL_law_585 (by decide) ?_
  refine j_cS (As := [.int (x >>> (4 &&& 31)), .int (nI 200)]) (rest := []) cm_L_below ct_L_below ln_L_19 dL_law_588 (d' := 0) (by decide) rfl rfl (Nat.le_of_ble_eq_true rfl) (Nat.le_of_ble_eq_true rfl) (s_L_below (x >>> (4 &&& 31)) 200 (by omega) (by omega)) ?_
  have hbz : bl (x >>> (4 &&& 31)) 200 < 200 := bl_lt _ (by omega)
  generalize bl (x >>> (4 &&& 31)) 200 = z at hbz ⊢
  refine j_bipush (v := 50) dL_law_591 (by decide) ?_
  refine j_isub dL_law_593 ?_
  refine j_topi (y := nI z - 50) rfl ?_
  generalize nI z - 50 = dp
  show J g mL_law 13 bc bs 594 [some (.ref g.1.2.1), some (.ref (ad 0)), some (.ref (ad 63)), some (.int (nI tm)), some (.int x), some (.long (dgAll hrs su gone lv ed F S cnt mc mr)), none, some (.int (nI F)), some (.int (nI S)), some (.int (nI (F * S))), some (.int (nI f)), some (.int (nI s)), none, none, none, none, some (.int (nI (dcnt lv (F * S)))), none, none, none, none, none, none, none, none, none, none, none, none, none, none, none, none, none, none, none, none, none, none, none, none, none] [.int dp] n ad E Φ Ψ
  refine j_istore (L' := [some (.ref g.1.2.1), some (.ref (ad 0)), some (.ref (ad 63)), some (.int (nI tm)), some (.int x), some (.long (dgAll hrs su gone lv ed F S cnt mc mr)), none, some (.int (nI F)), some (.int (nI S)), some (.int (nI (F * S))), some (.int (nI f)), some (.int (nI s)), none, none, none, none, some (.int (nI (dcnt lv (F * S)))), none, none, none, some (.int dp), none, none, none, none, none, none, none, none, none, none, none, none, none, none, none, none, none, none, none, none, none]) dL_law_594 (by decide) rfl rfl ?_
  refine j_aload_n dL_law_596 rfl ?_
  refine j_iload dL_law_597 rfl ?_
  refine j_iload dL_law_599 rfl ?_
  rcases reach_ok lv f dp hS1 with ⟨y0, hr, h1⟩ | ⟨t, hr, ht, h1, h2⟩
  · skip
    refine j_cV (As := [.int (nI f), .int dp]) (rest := []) cm_X3_firstReaching ci_X3_firstReaching cs_X3_firstReaching rfl ln_L_171 (ci := 3) rfl dL_law_601 (d' := 8) (by decide) (by omega) C.1 rfl rfl (Nat.le_of_ble_eq_true rfl) (Nat.le_of_ble_eq_true rfl) (s_X3_firstReaching_none C f hf dp y0 hr) ?_
    refine j_istore (L' := [some (.ref g.1.2.1), some (.ref (ad 0)), some (.ref (ad 63)), some (.int (nI tm)), some (.int x), some (.long (dgAll hrs su gone lv ed F S cnt mc mr)), none, some (.int (nI F)), some (.int (nI S)), some (.int (nI (F * S))), some (.int (nI f)), some (.int (nI s)), none, none, none, none, some (.int (nI (dcnt lv (F * S)))), none, none, none, some (.int dp), some (.int (-1)), none, none, none, none, none, none, none, none, none, none, none, none, none, none, none, none, none, none, none, none]) dL_law_604 (by decide) rfl rfl ?_
    refine j_iload dL_law_606 rfl ?_
    refine j_iload dL_law_608 rfl ?_
    refine j_icmp_ge_f (tgt := 679) dL_law_610 (by decide) (fun q => by rw [Int32.le_iff_toInt_le, nI_toInt (by omega), m1_i] at q; omega) ?_
    refine j_iload dL_law_613 rfl ?_
    refine j_if_lt_t (tgt := 636) dL_law_615 (by decide) (by decide) ?_
    refine j_iload dL_law_636 rfl ?_
    refine j_if_le_t (tgt := 661) dL_law_638 (by decide) (by decide) ?_
    refine j_iload dL_law_661 rfl ?_
    refine j_if_ge_f (tgt := 681) dL_law_663 (by decide) (by decide) ?_
    refine j_aload_n dL_law_666 rfl ?_
    refine j_iload dL_law_667 rfl ?_
    refine j_cV (As := [.int (nI f)]) (rest := []) cm_X3_flightSum ci_X3_flightSum cs_X3_flightSum rfl ln_L_128 (ci := 3) rfl dL_law_669 (d' := 8) (by decide) (by omega) C.1 rfl rfl (Nat.le_of_ble_eq_true rfl) (Nat.le_of_ble_eq_true rfl) (s_X3_flightSum C f hf) ?_
    refine j_iload dL_law_672 rfl ?_
    refine j_i2l dL_law_674 ?_
    refine j_lcmp dL_law_675 ?_
    refine j_if_lt_t (tgt := 681) dL_law_676 (by decide) ((lg_cmp_lt _ _).mpr h1) ?_
    refine j_clr 21 ?_
    refine j_clr 20 ?_
    exact K
  · skip
    by_cases h0 : t = 0
    · skip
      refine j_cV (As := [.int (nI f), .int dp]) (rest := []) cm_X3_firstReaching ci_X3_firstReaching cs_X3_firstReaching rfl ln_L_171 (ci := 3) rfl dL_law_601 (d' := 8) (by decide) (by omega) C.1 rfl rfl (Nat.le_of_ble_eq_true rfl) (Nat.le_of_ble_eq_true rfl) (s_X3_firstReaching_some C f hf dp t hr) ?_
      refine j_istore (L' := [some (.ref g.1.2.1), some (.ref (ad 0)), some (.ref (ad 63)), some (.int (nI tm)), some (.int x), some (.long (dgAll hrs su gone lv ed F S cnt mc mr)), none, some (.int (nI F)), some (.int (nI S)), some (.int (nI (F * S))), some (.int (nI f)), some (.int (nI s)), none, none, none, none, some (.int (nI (dcnt lv (F * S)))), none, none, none, some (.int dp), some (.int (nI t)), none, none, none, none, none, none, none, none, none, none, none, none, none, none, none, none, none, none, none, none]) dL_law_604 (by decide) rfl rfl ?_
      refine j_iload dL_law_606 rfl ?_
      refine j_iload dL_law_608 rfl ?_
      refine j_icmp_ge_f (tgt := 679) dL_law_610 (by decide) (nI_nle' (by omega) (by omega) (by omega)) ?_
      refine j_iload dL_law_613 rfl ?_
      refine j_if_lt_f (tgt := 636) dL_law_615 (by decide) (show ¬ nI t < nI 0 from nI_nlt' (by omega) (by omega) (by omega)) ?_
      refine j_aload_n dL_law_618 rfl ?_
      refine j_iload dL_law_619 rfl ?_
      refine j_iconst (v := nI 0) dL_law_621 (by decide) ?_
      refine j_iload dL_law_622 rfl ?_
      refine j_iload dL_law_624 rfl ?_
      refine j_cV (As := [.int (nI f), .int (nI 0), .int (nI f), .int (nI t)]) (rest := []) cm_X3_sumOf ci_X3_sumOf cs_X3_sumOf rfl ln_L_158 (ci := 3) rfl dL_law_626 (d' := 10) (by decide) (by omega) C.1 rfl rfl (Nat.le_of_ble_eq_true rfl) (Nat.le_of_ble_eq_true rfl) (s_X3_sumOf C f 0 f (t) (by omega) (by omega) (by omega) (by omega) (by omega) (by omega)) ?_
      refine j_iload dL_law_629 rfl ?_
      refine j_i2l dL_law_631 ?_
      refine j_lcmp dL_law_632 ?_
      refine j_if_lt_f (tgt := 679) dL_law_633 (by decide) (fun q => h1 ((lg_cmp_lt _ _).mp q)) ?_
      refine j_iload dL_law_636 rfl ?_
      refine j_if_le_t (tgt := 661) dL_law_638 (by decide) (show nI t ≤ nI 0 from nI_le' (by omega) (by omega) (by omega)) ?_
      refine j_iload dL_law_661 rfl ?_
      refine j_if_ge_t (tgt := 681) dL_law_663 (by decide) (show nI 0 ≤ nI t from nI_le' (by omega) (by omega) (by omega)) ?_
      refine j_clr 21 ?_
      refine j_clr 20 ?_
      exact K
    · skip
      refine j_cV (As := [.int (nI f), .int dp]) (rest := []) cm_X3_firstReaching ci_X3_firstReaching cs_X3_firstReaching rfl ln_L_171 (ci := 3) rfl dL_law_601 (d' := 8) (by decide) (by omega) C.1 rfl rfl (Nat.le_of_ble_eq_true rfl) (Nat.le_of_ble_eq_true rfl) (s_X3_firstReaching_some C f hf dp t hr) ?_
      refine j_istore (L' := [some (.ref g.1.2.1), some (.ref (ad 0)), some (.ref (ad 63)), some (.int (nI tm)), some (.int x), some (.long (dgAll hrs su gone lv ed F S cnt mc mr)), none, some (.int (nI F)), some (.int (nI S)), some (.int (nI (F * S))), some (.int (nI f)), some (.int (nI s)), none, none, none, none, some (.int (nI (dcnt lv (F * S)))), none, none, none, some (.int dp), some (.int (nI t)), none, none, none, none, none, none, none, none, none, none, none, none, none, none, none, none, none, none, none, none]) dL_law_604 (by decide) rfl rfl ?_
      refine j_iload dL_law_606 rfl ?_
      refine j_iload dL_law_608 rfl ?_
      refine j_icmp_ge_f (tgt := 679) dL_law_610 (by decide) (nI_nle' (by omega) (by omega) (by omega)) ?_
      refine j_iload dL_law_613 rfl ?_
      refine j_if_lt_f (tgt := 636) dL_law_615 (by decide) (show ¬ nI t < nI 0 from nI_nlt' (by omega) (by omega) (by omega)) ?_
      refine j_aload_n dL_law_618 rfl ?_
      refine j_iload dL_law_619 rfl ?_
      refine j_iconst (v := nI 0) dL_law_621 (by decide) ?_
      refine j_iload dL_law_622 rfl ?_
      refine j_iload dL_law_624 rfl ?_
      refine j_cV (As := [.int (nI f), .int (nI 0), .int (nI f), .int (nI t)]) (rest := []) cm_X3_sumOf ci_X3_sumOf cs_X3_sumOf rfl ln_L_158 (ci := 3) rfl dL_law_626 (d' := 10) (by decide) (by omega) C.1 rfl rfl (Nat.le_of_ble_eq_true rfl) (Nat.le_of_ble_eq_true rfl) (s_X3_sumOf C f 0 f (t) (by omega) (by omega) (by omega) (by omega) (by omega) (by omega)) ?_
      refine j_iload dL_law_629 rfl ?_
      refine j_i2l dL_law_631 ?_
      refine j_lcmp dL_law_632 ?_
      refine j_if_lt_f (tgt := 679) dL_law_633 (by decide) (fun q => h1 ((lg_cmp_lt _ _).mp q)) ?_
      refine j_iload dL_law_636 rfl ?_
      refine j_if_le_f (tgt := 661) dL_law_638 (by decide) (show ¬ nI t ≤ nI 0 from nI_nle' (by omega) (by omega) (by omega)) ?_
      refine j_aload_n dL_law_641 rfl ?_
      refine j_iload dL_law_642 rfl ?_
      refine j_iconst (v := nI 0) dL_law_644 (by decide) ?_
      refine j_iload dL_law_645 rfl ?_
      refine j_iload dL_law_647 rfl ?_
      refine j_iconst (v := nI 1) dL_law_649 (by decide) ?_
      refine j_isub dL_law_650 ?_
      refine j_topi (y := nI (t - 1)) (pk_sub (by omega)) ?_
      refine j_cV (As := [.int (nI f), .int (nI 0), .int (nI f), .int (nI (t - 1))]) (rest := []) cm_X3_sumOf ci_X3_sumOf cs_X3_sumOf rfl ln_L_158 (ci := 3) rfl dL_law_651 (d' := 10) (by decide) (by omega) C.1 rfl rfl (Nat.le_of_ble_eq_true rfl) (Nat.le_of_ble_eq_true rfl) (s_X3_sumOf C f 0 f (t - 1) (by omega) (by omega) (by omega) (by omega) (by omega) (by omega)) ?_
      refine j_iload dL_law_654 rfl ?_
      refine j_i2l dL_law_656 ?_
      refine j_lcmp dL_law_657 ?_
      refine j_if_ge_f (tgt := 679) dL_law_658 (by decide) (fun q => absurd (h2 (by omega)) (Int64.not_lt.mpr ((lg_cmp_ge _ _).mp q))) ?_
      refine j_iload dL_law_661 rfl ?_
      refine j_if_ge_t (tgt := 681) dL_law_663 (by decide) (show nI 0 ≤ nI t from nI_le' (by omega) (by omega) (by omega)) ?_
      refine j_clr 21 ?_
      refine j_clr 20 ?_
      exact K
set_option maxRecDepth 100000 in
set_option maxHeartbeats 4000000 in
theorem lw_s8 {g : jG} {n : Nat} {ad : Nat → Nat} {E : Nat → va_E} {i F S : Nat} {hrs su : Int32} {gone : Int64} {lv ed : Nat → Int32} {old cnt : Nat} {dr : Nat → Nat → Int32} {mc : Nat} {mr : Nat → Nat → Int32} {m : Nat → Nat → Int32} {e : Nat → Int32} {A B : Nat → Nat → Nat → Int32} (C : CR g n ad E F S hrs su gone lv ed old cnt dr mc mr) {tm : Nat} {x : Int32} {f s : Nat} (hf : f < F) (hs : s < S) {bc bs : Nat} {Φ : Option Value → jR} {Ψ : String → jR} (hb : BD (-100000) 100000 (F * S) lv) (K : J g mL_law 13 bc bs 784 [some (.ref g.1.2.1), some (.ref (ad 0)), some (.ref (ad 63)), some (.int (nI tm)), some (.int x), some (.long (dgAll hrs su gone lv ed F S cnt mc mr)), none, some (.int (nI F)), some (.int (nI S)), some (.int (nI (F * S))), some (.int (nI f)), some (.int (nI s)), none, none, none, none, some (.int (nI (dcnt lv (F * S)))), none, none, none, none, none, none, none, none, none, none, none, none, none, none, none, none, none, none, none, none, none, none, none, none, none] [] n ad E Φ Ψ) : J g mL_law 13 bc bs 681 [some (.ref g.1.2.1), some (.ref (ad 0)), some (.ref (ad 63)), some (.int (nI tm)), some (.int x), some (.long (dgAll hrs su gone lv ed F S cnt mc mr)), none, some (.int (nI F)), some (.int (nI S)), some (.int (nI (F * S))), some (.int (nI f)), some (.int (nI s)), none, none, none, none, some (.int (nI (dcnt lv (F * S)))), none, none, none, none, none, none, none, none, none, none, none, none, none, none, none, none, none, none, none, none, none, none, none, none, none] [] n ad E Φ Ψ := by
  obtain ⟨hF8, hS16, hF1, hS1, hold, hcn, hmc, hN, hn63⟩ := C.bd
  have hN1 := fs1 hF1 hS1
  refine j_iload dL_law_681 rfl ?_
  refine j_bipush (v := 6) dL_law_683 (by decide) ?_
  refine j_ishr dL_law_685 ?_
  refine j_iload dL_law_686 rfl ?_
  refine j_cS (As := [.int (x >>> (6 &&& 31)), .int (nI (F * S))]) (rest := []) cm_L_below ct_L_below ln_L_19 dL_law_688 (d' := 0) (by decide) rfl rfl (Nat.le_of_ble_eq_true rfl) (Nat.le_of_ble_eq_true rfl) (s_L_below (x >>> (6 &&& 31)) (F * S) (by omega) (by omega)) ?_
  have hbp : bl (x >>> (6 &&& 31)) (F * S) < F * S := bl_lt _ (by omega)
  generalize bl (x >>> (6 &&& 31)) (F * S) = p at hbp ⊢
  by_cases h0 : p = 0
  · skip
    refine j_istore (L' := [some (.ref g.1.2.1), some (.ref (ad 0)), some (.ref (ad 63)), some (.int (nI tm)), some (.int x), some (.long (dgAll hrs su gone lv ed F S cnt mc mr)), none, some (.int (nI F)), some (.int (nI S)), some (.int (nI (F * S))), some (.int (nI f)), some (.int (nI s)), none, none, none, none, some (.int (nI (dcnt lv (F * S)))), none, none, none, none, none, some (.int (nI p)), none, none, none, none, none, none, none, none, none, none, none, none, none, none, none, none, none, none, none]) dL_law_691 (by decide) rfl rfl ?_
    refine j_aload_n dL_law_693 rfl ?_
    refine j_iload dL_law_694 rfl ?_
    refine j_cV (As := [.int (nI p)]) (rest := []) cm_X3_levelInOrder ci_X3_levelInOrder cs_X3_levelInOrder rfl ln_L_174 (ci := 3) rfl dL_law_696 (d' := 7) (by decide) (by omega) C.1 rfl rfl (Nat.le_of_ble_eq_true rfl) (Nat.le_of_ble_eq_true rfl) (s_X3_levelInOrder C p hbp) ?_
    refine j_istore (L' := [some (.ref g.1.2.1), some (.ref (ad 0)), some (.ref (ad 63)), some (.int (nI tm)), some (.int x), some (.long (dgAll hrs su gone lv ed F S cnt mc mr)), none, some (.int (nI F)), some (.int (nI S)), some (.int (nI (F * S))), some (.int (nI f)), some (.int (nI s)), none, none, none, none, some (.int (nI (dcnt lv (F * S)))), none, none, none, none, none, some (.int (nI p)), some (.int (orderR lv (F * S) (nI p))), none, none, none, none, none, none, none, none, none, none, none, none, none, none, none, none, none, none]) dL_law_699 (by decide) rfl rfl ?_
    refine j_iload dL_law_701 rfl ?_
    refine j_if_le_t (tgt := 719) dL_law_703 (by decide) (show nI p ≤ nI 0 from nI_le' (by omega) (by omega) (by omega)) ?_
    refine j_aload_n dL_law_719 rfl ?_
    refine j_iload dL_law_720 rfl ?_
    refine j_cV (As := [.int (orderR lv (F * S) (nI p))]) (rest := []) cm_X3_upTo ci_X3_upTo cs_X3_upTo rfl ln_L_177 (ci := 3) rfl dL_law_722 (d' := 2) (by decide) (by omega) C.1 rfl rfl (Nat.le_of_ble_eq_true rfl) (Nat.le_of_ble_eq_true rfl) (s_X3_upTo C (orderR lv (F * S) (nI p))) ?_
    refine j_iload dL_law_725 rfl ?_
    refine j_icmp_le_f (tgt := 782) dL_law_727 (by decide) (order_up lv (by omega) hbp) ?_
    refine j_aload_n dL_law_730 rfl ?_
    refine j_iload dL_law_731 rfl ?_
    refine j_iconst (v := 1) dL_law_733 (by decide) ?_
    refine j_isub dL_law_734 ?_
    refine j_topi (y := orderR lv (F * S) (nI p) - 1) rfl ?_
    refine j_cV (As := [.int (orderR lv (F * S) (nI p) - 1)]) (rest := []) cm_X3_upTo ci_X3_upTo cs_X3_upTo rfl ln_L_177 (ci := 3) rfl dL_law_735 (d' := 2) (by decide) (by omega) C.1 rfl rfl (Nat.le_of_ble_eq_true rfl) (Nat.le_of_ble_eq_true rfl) (s_X3_upTo C (orderR lv (F * S) (nI p) - 1)) ?_
    refine j_iload dL_law_738 rfl ?_
    refine j_icmp_gt_f (tgt := 782) dL_law_740 (by decide) (order_down lv (by omega) hbp hb (by omega)) ?_
    refine j_aload_n dL_law_743 rfl ?_
    refine j_iconst (v := nI 0) dL_law_744 (by decide) ?_
    refine j_iconst (v := nI 0) dL_law_745 (by decide) ?_
    refine j_iload dL_law_746 rfl ?_
    refine j_iconst (v := nI 1) dL_law_748 (by decide) ?_
    refine j_isub dL_law_749 ?_
    refine j_topi (y := nI (F - 1)) (pk_sub (by omega)) ?_
    refine j_iload dL_law_750 rfl ?_
    refine j_iconst (v := nI 1) dL_law_752 (by decide) ?_
    refine j_isub dL_law_753 ?_
    refine j_topi (y := nI (S - 1)) (pk_sub (by omega)) ?_
    refine j_cV (As := [.int (nI 0), .int (nI 0), .int (nI (F - 1)), .int (nI (S - 1))]) (rest := []) cm_X3_lowestIn ci_X3_lowestIn cs_X3_lowestIn rfl ln_L_180 (ci := 3) rfl dL_law_754 (d' := 10) (by decide) (by omega) C.1 rfl rfl (Nat.le_of_ble_eq_true rfl) (Nat.le_of_ble_eq_true rfl) (s_X3_lowestIn C 0 0 (F - 1) (S - 1) (by omega) (by omega) (by omega) (by omega) (by omega) (by omega)) ?_
    refine j_aload_n dL_law_757 rfl ?_
    refine j_iconst (v := nI 0) dL_law_758 (by decide) ?_
    refine j_cV (As := [.int (nI 0)]) (rest := [.int (lowR lv S 0 0 (F - 1) (S - 1))]) cm_X3_levelInOrder ci_X3_levelInOrder cs_X3_levelInOrder rfl ln_L_174 (ci := 3) rfl dL_law_759 (d' := 7) (by decide) (by omega) C.1 rfl rfl (Nat.le_of_ble_eq_true rfl) (Nat.le_of_ble_eq_true rfl) (s_X3_levelInOrder C 0 (by omega)) ?_
    refine j_icmp_ne_f (tgt := 782) dL_law_762 (by decide) (order_low lv hF1 hS1 (by omega)) ?_
    refine j_aload_n dL_law_765 rfl ?_
    refine j_aload_n dL_law_766 rfl ?_
    refine j_iload dL_law_767 rfl ?_
    refine j_iconst (v := nI 1) dL_law_769 (by decide) ?_
    refine j_isub dL_law_770 ?_
    refine j_topi (y := nI ((F * S) - 1)) (pk_sub (by omega)) ?_
    refine j_cV (As := [.int (nI ((F * S) - 1))]) (rest := [.ref (ad 0)]) cm_X3_levelInOrder ci_X3_levelInOrder cs_X3_levelInOrder rfl ln_L_174 (ci := 3) rfl dL_law_771 (d' := 7) (by decide) (by omega) C.1 rfl rfl (Nat.le_of_ble_eq_true rfl) (Nat.le_of_ble_eq_true rfl) (s_X3_levelInOrder C (F * S - 1) (by omega)) ?_
    refine j_cV (As := [.int (orderR lv (F * S) (nI (F * S - 1)))]) (rest := []) cm_X3_upTo ci_X3_upTo cs_X3_upTo rfl ln_L_177 (ci := 3) rfl dL_law_774 (d' := 2) (by decide) (by omega) C.1 rfl rfl (Nat.le_of_ble_eq_true rfl) (Nat.le_of_ble_eq_true rfl) (s_X3_upTo C (orderR lv (F * S) (nI (F * S - 1)))) ?_
    refine j_iload dL_law_777 rfl ?_
    refine j_icmp_eq_t (tgt := 784) dL_law_779 (by decide) (order_last lv (by omega) (by omega)) ?_
    refine j_clr 23 ?_
    refine j_clr 22 ?_
    exact K
  · skip
    refine j_istore (L' := [some (.ref g.1.2.1), some (.ref (ad 0)), some (.ref (ad 63)), some (.int (nI tm)), some (.int x), some (.long (dgAll hrs su gone lv ed F S cnt mc mr)), none, some (.int (nI F)), some (.int (nI S)), some (.int (nI (F * S))), some (.int (nI f)), some (.int (nI s)), none, none, none, none, some (.int (nI (dcnt lv (F * S)))), none, none, none, none, none, some (.int (nI p)), none, none, none, none, none, none, none, none, none, none, none, none, none, none, none, none, none, none, none]) dL_law_691 (by decide) rfl rfl ?_
    refine j_aload_n dL_law_693 rfl ?_
    refine j_iload dL_law_694 rfl ?_
    refine j_cV (As := [.int (nI p)]) (rest := []) cm_X3_levelInOrder ci_X3_levelInOrder cs_X3_levelInOrder rfl ln_L_174 (ci := 3) rfl dL_law_696 (d' := 7) (by decide) (by omega) C.1 rfl rfl (Nat.le_of_ble_eq_true rfl) (Nat.le_of_ble_eq_true rfl) (s_X3_levelInOrder C p hbp) ?_
    refine j_istore (L' := [some (.ref g.1.2.1), some (.ref (ad 0)), some (.ref (ad 63)), some (.int (nI tm)), some (.int x), some (.long (dgAll hrs su gone lv ed F S cnt mc mr)), none, some (.int (nI F)), some (.int (nI S)), some (.int (nI (F * S))), some (.int (nI f)), some (.int (nI s)), none, none, none, none, some (.int (nI (dcnt lv (F * S)))), none, none, none, none, none, some (.int (nI p)), some (.int (orderR lv (F * S) (nI p))), none, none, none, none, none, none, none, none, none, none, none, none, none, none, none, none, none, none]) dL_law_699 (by decide) rfl rfl ?_
    refine j_iload dL_law_701 rfl ?_
    refine j_if_le_f (tgt := 719) dL_law_703 (by decide) (show ¬ nI p ≤ nI 0 from nI_nle' (by omega) (by omega) (by omega)) ?_
    refine j_aload_n dL_law_706 rfl ?_
    refine j_iload dL_law_707 rfl ?_
    refine j_iconst (v := nI 1) dL_law_709 (by decide) ?_
    refine j_isub dL_law_710 ?_
    refine j_topi (y := nI (p - 1)) (pk_sub (by omega)) ?_
    refine j_cV (As := [.int (nI (p - 1))]) (rest := []) cm_X3_levelInOrder ci_X3_levelInOrder cs_X3_levelInOrder rfl ln_L_174 (ci := 3) rfl dL_law_711 (d' := 7) (by decide) (by omega) C.1 rfl rfl (Nat.le_of_ble_eq_true rfl) (Nat.le_of_ble_eq_true rfl) (s_X3_levelInOrder C (p - 1) (by omega)) ?_
    refine j_iload dL_law_714 rfl ?_
    refine j_icmp_gt_f (tgt := 782) dL_law_716 (by decide) (order_mono lv (by omega) hbp (by omega)) ?_
    refine j_aload_n dL_law_719 rfl ?_
    refine j_iload dL_law_720 rfl ?_
    refine j_cV (As := [.int (orderR lv (F * S) (nI p))]) (rest := []) cm_X3_upTo ci_X3_upTo cs_X3_upTo rfl ln_L_177 (ci := 3) rfl dL_law_722 (d' := 2) (by decide) (by omega) C.1 rfl rfl (Nat.le_of_ble_eq_true rfl) (Nat.le_of_ble_eq_true rfl) (s_X3_upTo C (orderR lv (F * S) (nI p))) ?_
    refine j_iload dL_law_725 rfl ?_
    refine j_icmp_le_f (tgt := 782) dL_law_727 (by decide) (order_up lv (by omega) hbp) ?_
    refine j_aload_n dL_law_730 rfl ?_
    refine j_iload dL_law_731 rfl ?_
    refine j_iconst (v := 1) dL_law_733 (by decide) ?_
    refine j_isub dL_law_734 ?_
    refine j_topi (y := orderR lv (F * S) (nI p) - 1) rfl ?_
    refine j_cV (As := [.int (orderR lv (F * S) (nI p) - 1)]) (rest := []) cm_X3_upTo ci_X3_upTo cs_X3_upTo rfl ln_L_177 (ci := 3) rfl dL_law_735 (d' := 2) (by decide) (by omega) C.1 rfl rfl (Nat.le_of_ble_eq_true rfl) (Nat.le_of_ble_eq_true rfl) (s_X3_upTo C (orderR lv (F * S) (nI p) - 1)) ?_
    refine j_iload dL_law_738 rfl ?_
    refine j_icmp_gt_f (tgt := 782) dL_law_740 (by decide) (order_down lv (by omega) hbp hb (by omega)) ?_
    refine j_aload_n dL_law_743 rfl ?_
    refine j_iconst (v := nI 0) dL_law_744 (by decide) ?_
    refine j_iconst (v := nI 0) dL_law_745 (by decide) ?_
    refine j_iload dL_law_746 rfl ?_
    refine j_iconst (v := nI 1) dL_law_748 (by decide) ?_
    refine j_isub dL_law_749 ?_
    refine j_topi (y := nI (F - 1)) (pk_sub (by omega)) ?_
    refine j_iload dL_law_750 rfl ?_
    refine j_iconst (v := nI 1) dL_law_752 (by decide) ?_
    refine j_isub dL_law_753 ?_
    refine j_topi (y := nI (S - 1)) (pk_sub (by omega)) ?_
    refine j_cV (As := [.int (nI 0), .int (nI 0), .int (nI (F - 1)), .int (nI (S - 1))]) (rest := []) cm_X3_lowestIn ci_X3_lowestIn cs_X3_lowestIn rfl ln_L_180 (ci := 3) rfl dL_law_754 (d' := 10) (by decide) (by omega) C.1 rfl rfl (Nat.le_of_ble_eq_true rfl) (Nat.le_of_ble_eq_true rfl) (s_X3_lowestIn C 0 0 (F - 1) (S - 1) (by omega) (by omega) (by omega) (by omega) (by omega) (by omega)) ?_
    refine j_aload_n dL_law_757 rfl ?_
    refine j_iconst (v := nI 0) dL_law_758 (by decide) ?_
    refine j_cV (As := [.int (nI 0)]) (rest := [.int (lowR lv S 0 0 (F - 1) (S - 1))]) cm_X3_levelInOrder ci_X3_levelInOrder cs_X3_levelInOrder rfl ln_L_174 (ci := 3) rfl dL_law_759 (d' := 7) (by decide) (by omega) C.1 rfl rfl (Nat.le_of_ble_eq_true rfl) (Nat.le_of_ble_eq_true rfl) (s_X3_levelInOrder C 0 (by omega)) ?_
    refine j_icmp_ne_f (tgt := 782) dL_law_762 (by decide) (order_low lv hF1 hS1 (by omega)) ?_
    refine j_aload_n dL_law_765 rfl ?_
    refine j_aload_n dL_law_766 rfl ?_
    refine j_iload dL_law_767 rfl ?_
    refine j_iconst (v := nI 1) dL_law_769 (by decide) ?_
    refine j_isub dL_law_770 ?_
    refine j_topi (y := nI ((F * S) - 1)) (pk_sub (by omega)) ?_
    refine j_cV (As := [.int (nI ((F * S) - 1))]) (rest := [.ref (ad 0)]) cm_X3_levelInOrder ci_X3_levelInOrder cs_X3_levelInOrder rfl ln_L_174 (ci := 3) rfl dL_law_771 (d' := 7) (by decide) (by omega) C.1 rfl rfl (Nat.le_of_ble_eq_true rfl) (Nat.le_of_ble_eq_true rfl) (s_X3_levelInOrder C (F * S - 1) (by omega)) ?_
    refine j_cV (As := [.int (orderR lv (F * S) (nI (F * S - 1)))]) (rest := []) cm_X3_upTo ci_X3_upTo cs_X3_upTo rfl ln_L_177 (ci := 3) rfl dL_law_774 (d' := 2) (by decide) (by omega) C.1 rfl rfl (Nat.le_of_ble_eq_true rfl) (Nat.le_of_ble_eq_true rfl) (s_X3_upTo C (orderR lv (F * S) (nI (F * S - 1)))) ?_
    refine j_iload dL_law_777 rfl ?_
    refine j_icmp_eq_t (tgt := 784) dL_law_779 (by decide) (order_last lv (by omega) (by omega)) ?_
    refine j_clr 23 ?_
    refine j_clr 22 ?_
    exact K
