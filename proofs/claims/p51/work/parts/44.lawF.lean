set_option maxRecDepth 100000 in
set_option maxHeartbeats 4000000 in
theorem lw_s0 {g : jG} {n : Nat} {ad : Nat → Nat} {E : Nat → va_E} {i : Nat} (Q : AS i g n ad E) (hi : i ≤ 400) (hL : g.1.2.2.1 ≤ 260) {tm : Nat} {Φ : Option Value → jR} {Ψ : String → jR} {bc bs : Nat} (htm : tm < 4) (K : ∀ (x : Int32) (n9 : Nat) (a9 : Nat → Nat) (E9 : Nat → va_E), n ≤ n9 → (∀ k, k < n → a9 k = ad k) → AS (i + 4) g n9 a9 E9 → J g mL_law 13 bc bs 79 [some (.ref g.1.2.1), some (.ref (a9 0)), some (.ref (a9 63)), some (.int (nI tm)), some (.int x), some (.int (nI 4)), none, none, none, none, none, none, none, none, none, none, none, none, none, none, none, none, none, none, none, none, none, none, none, none, none, none, none, none, none, none, none, none, none, none, none, none] [] n9 a9 E9 Φ Ψ) : J g mL_law 13 (bc + 240) (bs + 4800) 22 [some (.ref g.1.2.1), some (.ref (ad 0)), some (.ref (ad 63)), some (.int (nI tm)), none, none, none, none, none, none, none, none, none, none, none, none, none, none, none, none, none, none, none, none, none, none, none, none, none, none, none, none, none, none, none, none, none, none, none, none, none, none] [] n ad E Φ Ψ := by
  have hn0 := Q.n64
  refine j_iload_n dL_law_22 rfl ?_
  refine j_iconst (v := nI 4) dL_law_23 (by decide) ?_
  refine j_icmp_ge_f (tgt := 1355) dL_law_24 (by decide) (nI_nle' (by omega) (by omega) (by omega)) ?_
  refine j_aload_n dL_law_27 rfl ?_
  refine j_iload_n dL_law_28 rfl ?_
  refine j_cS (As := [.ref g.1.2.1, .int (nI tm)]) (rest := []) cm_L_cell ct_L_cell ln_L_105 dL_law_29 (d' := 0) (by decide) rfl rfl (Nat.le_of_ble_eq_true rfl) (Nat.le_of_ble_eq_true rfl) (s_L_cell tm (by omega) hL) ?_
  refine j_iconst (v := 2) dL_law_32 (by decide) ?_
  refine j_ishr dL_law_33 ?_
  refine j_bipush (v := nI 53) dL_law_34 (by decide) ?_
  refine j_iload_n dL_law_36 rfl ?_
  refine j_imul dL_law_37 ?_
  refine j_topi (y := nI (53 * tm)) (pk_mul _ _) ?_
  refine j_iadd dL_law_38 ?_
  generalize ((clv g tm) >>> (2 &&& 31)) + (nI (53 * tm)) = x
  show J g mL_law 13 (bc + 240) (bs + 4800) 39 [some (.ref g.1.2.1), some (.ref (ad 0)), some (.ref (ad 63)), some (.int (nI tm)), none, none, none, none, none, none, none, none, none, none, none, none, none, none, none, none, none, none, none, none, none, none, none, none, none, none, none, none, none, none, none, none, none, none, none, none, none, none] [.int x] n ad E Φ Ψ
  refine j_istore (L' := [some (.ref g.1.2.1), some (.ref (ad 0)), some (.ref (ad 63)), some (.int (nI tm)), some (.int x), none, none, none, none, none, none, none, none, none, none, none, none, none, none, none, none, none, none, none, none, none, none, none, none, none, none, none, none, none, none, none, none, none, none, none, none, none]) dL_law_39 (by decide) rfl rfl ?_
  refine j_iconst (v := nI 0) dL_law_41 (by decide) ?_
  refine j_istore (L' := [some (.ref g.1.2.1), some (.ref (ad 0)), some (.ref (ad 63)), some (.int (nI tm)), some (.int x), some (.int (nI 0)), none, none, none, none, none, none, none, none, none, none, none, none, none, none, none, none, none, none, none, none, none, none, none, none, none, none, none, none, none, none, none, none, none, none, none, none]) dL_law_42 (by decide) rfl rfl ?_
  refine j_bud (bc' := bc + 60 * (4 - 0)) (bs' := bs + 1200 * (4 - 0)) (by omega) (by omega) ?_
  suffices hall : ∀ (n9 : Nat) (a9 : Nat → Nat) (E9 : Nat → va_E), n ≤ n9 → (∀ k, k < n → a9 k = ad k) → AS (i + 0) g n9 a9 E9 → J g mL_law 13 (bc + 60 * (4 - 0)) (bs + 1200 * (4 - 0)) 44 [some (.ref g.1.2.1), some (.ref (a9 0)), some (.ref (a9 63)), some (.int (nI tm)), some (.int x), some (.int (nI 0)), none, none, none, none, none, none, none, none, none, none, none, none, none, none, none, none, none, none, none, none, none, none, none, none, none, none, none, none, none, none, none, none, none, none, none, none] [] n9 a9 E9 Φ Ψ from hall n ad E (Nat.le_refl _) (fun _ _ => rfl) Q
  refine up_ind (P := fun (k : Nat) => ∀ (n9 : Nat) (a9 : Nat → Nat) (E9 : Nat → va_E), n ≤ n9 → (∀ k, k < n → a9 k = ad k) → AS (i + k) g n9 a9 E9 → J g mL_law 13 (bc + 60 * (4 - k)) (bs + 1200 * (4 - k)) 44 [some (.ref g.1.2.1), some (.ref (a9 0)), some (.ref (a9 63)), some (.int (nI tm)), some (.int x), some (.int (nI k)), none, none, none, none, none, none, none, none, none, none, none, none, none, none, none, none, none, none, none, none, none, none, none, none, none, none, none, none, none, none, none, none, none, none, none, none] [] n9 a9 E9 Φ Ψ) (N := 4) 0 ?_ 4 (by omega) ?_
  · intro k hk0 hk ih n9 a9 E9 hn9 hA Q9
    have hn8 := Q9.n64
    refine j_bud (bc' := 60 + (bc + 60 * (4 - (k + 1)))) (bs' := 1200 + (bs + 1200 * (4 - (k + 1)))) (by omega) (by omega) ?_
    show J g mL_law 13 (60 + (bc + 60 * (4 - (k + 1)))) (1200 + (bs + 1200 * (4 - (k + 1)))) 44 [some (.ref g.1.2.1), some (.ref (a9 0)), some (.ref (a9 63)), some (.int (nI tm)), some (.int x), some (.int (nI k)), none, none, none, none, none, none, none, none, none, none, none, none, none, none, none, none, none, none, none, none, none, none, none, none, none, none, none, none, none, none, none, none, none, none, none, none] [] n9 a9 E9 Φ Ψ
    refine j_iload dL_law_44 rfl ?_
    refine j_iconst (v := nI 4) dL_law_46 (by decide) ?_
    refine j_icmp_ge_f (tgt := 79) dL_law_47 (by decide) (nI_nle' (by omega) (by omega) (by omega)) ?_
    refine j_aload_n dL_law_50 rfl ?_
    refine j_aload_n dL_law_51 rfl ?_
    refine j_iload dL_law_52 rfl ?_
    refine j_iconst (v := nI 3) dL_law_54 (by decide) ?_
    refine j_iload dL_law_55 rfl ?_
    refine j_imul dL_law_57 ?_
    refine j_topi (y := nI (3 * k)) (pk_mul _ _) ?_
    refine j_ishr dL_law_58 ?_
    refine j_bipush (v := nI 29) dL_law_59 (by decide) ?_
    refine j_iload dL_law_61 rfl ?_
    refine j_imul dL_law_63 ?_
    refine j_topi (y := nI (29 * k)) (pk_mul _ _) ?_
    refine j_iadd dL_law_64 ?_
    generalize (x >>> ((nI (3 * k)) &&& 31)) + (nI (29 * k)) = y
    refine j_callS (As := [.ref (a9 0), .ref (a9 63), .int y]) (rest := []) (d' := 11) (Φ' := OAct (i + k) n9 a9 g) (Ψ' := fun _ _ _ _ => False) cm_L_act ct_L_act ln_L_109 dL_law_65 (by decide) rfl rfl (Nat.le_of_ble_eq_true rfl) (Nat.le_of_ble_eq_true rfl) (c_actO Q9 (by omega) y _) (fun v7 n7 a7 E7 q7 => ?_) (fun _ _ _ _ q => q.elim)
    obtain ⟨rfl, hn7, g7, Q7⟩ := q7
    rw [← g7 0 (by omega), ← g7 63 (by omega)]
    show J g mL_law 13 (bc + 60 * (4 - (k + 1))) (bs + 1200 * (4 - (k + 1))) 68 [some (.ref g.1.2.1), some (.ref (a7 0)), some (.ref (a7 63)), some (.int (nI tm)), some (.int x), some (.int (nI k)), none, none, none, none, none, none, none, none, none, none, none, none, none, none, none, none, none, none, none, none, none, none, none, none, none, none, none, none, none, none, none, none, none, none, none, none] [.int 1] n7 a7 E7 Φ Ψ
    refine j_if_ne_t (tgt := 73) dL_law_68 (by decide) (by decide) ?_
    refine j_iinc (v := nI (k + 1)) (L' := [some (.ref g.1.2.1), some (.ref (a7 0)), some (.ref (a7 63)), some (.int (nI tm)), some (.int x), some (.int (nI (k + 1))), none, none, none, none, none, none, none, none, none, none, none, none, none, none, none, none, none, none, none, none, none, none, none, none, none, none, none, none, none, none, none, none, none, none, none, none]) dL_law_73 (by decide) rfl (nI_1 _) rfl rfl ?_
    refine j_goto (tgt := 44) dL_law_76 (by decide) ?_
    exact ih n7 a7 E7 (by omega) (fun j hj => (g7 j (by omega)).trans (hA j hj)) Q7
  · intro n9 a9 E9 hn9 hA Q9
    refine j_bud (bc' := bc) (bs' := bs) (by omega) (by omega) ?_
    show J g mL_law 13 bc bs 44 [some (.ref g.1.2.1), some (.ref (a9 0)), some (.ref (a9 63)), some (.int (nI tm)), some (.int x), some (.int (nI 4)), none, none, none, none, none, none, none, none, none, none, none, none, none, none, none, none, none, none, none, none, none, none, none, none, none, none, none, none, none, none, none, none, none, none, none, none] [] n9 a9 E9 Φ Ψ
    refine j_iload dL_law_44 rfl ?_
    refine j_iconst (v := nI 4) dL_law_46 (by decide) ?_
    refine j_icmp_ge_t (tgt := 79) dL_law_47 (by decide) (nI_le' (by omega) (by omega) (by omega)) ?_
    exact K x n9 a9 E9 hn9 hA Q9
set_option maxRecDepth 100000 in
set_option maxHeartbeats 4000000 in
theorem lw_s1 {g : jG} {n : Nat} {ad : Nat → Nat} {E : Nat → va_E} {i F S : Nat} {hrs su : Int32} {gone : Int64} {lv ed : Nat → Int32} {old cnt : Nat} {dr : Nat → Nat → Int32} {mc : Nat} {mr : Nat → Nat → Int32} {m : Nat → Nat → Int32} {e : Nat → Int32} {A B : Nat → Nat → Nat → Int32} (C : CR g n ad E F S hrs su gone lv ed old cnt dr mc mr) (R : SR g n ad E F S su hrs gone m e cnt A mc B) (L : RS i F S su lv ed old cnt dr mc mr m e A B) (hi : i ≤ 500) {tm : Nat} {x : Int32} {bc bs : Nat} {Φ : Option Value → jR} {Ψ : String → jR} (K : ∀ (f s : Nat) (E9 : Nat → va_E), f < F → s < S → CR g n ad E9 F S hrs su gone lv ed old cnt dr mc mr → SR g n ad E9 F S su hrs gone m e cnt A mc B → J g mL_law 13 bc bs 138 [some (.ref g.1.2.1), some (.ref (ad 0)), some (.ref (ad 63)), some (.int (nI tm)), some (.int x), some (.long (dgAll hrs su gone lv ed F S cnt mc mr)), none, some (.int (nI F)), some (.int (nI S)), some (.int (nI (F * S))), some (.int (nI f)), some (.int (nI s)), some (.long 0), none, some (.long 0), none, some (.int 0), some (.int (nI 0)), none, none, none, none, none, none, none, none, none, none, none, none, none, none, none, none, none, none, none, none, none, none, none, none] [] n ad E9 Φ Ψ) : J g mL_law 13 bc bs 79 [some (.ref g.1.2.1), some (.ref (ad 0)), some (.ref (ad 63)), some (.int (nI tm)), some (.int x), some (.int (nI 4)), none, none, none, none, none, none, none, none, none, none, none, none, none, none, none, none, none, none, none, none, none, none, none, none, none, none, none, none, none, none, none, none, none, none, none, none] [] n ad E Φ Ψ := by
  obtain ⟨hF8, hS16, hF1, hS1, hold, hcn, hmc, hN, hn63⟩ := C.bd
  have hN1 := fs1 hF1 hS1
  obtain ⟨iL0, iE0, r0, ia0, im0, X0⟩ := id R
  replace X0 : SX g n ad E iL0 iE0 r0 ia0 im0 F S su hrs gone m e cnt A mc B := X0
  obtain ⟨V0, ⟨lL0, lE0, lr0⟩, K10, K20⟩ := id X0
  obtain ⟨⟨hwn0, hLn0, hEn0, hrn0⟩, ⟨hwL0, hwE0, hLE0, hrA0⟩, hri0, hw0, hL0, hE0, hR0, -⟩ := id V0
  refine j_aload_n dL_law_79 rfl ?_
  refine j_cVp (As := []) (rest := []) cm_X3_digest ci_X3_digest cs_X3_digest rfl ln_L_118 (ci := 3) rfl dL_law_80 (d' := 10) (by decide) (by omega) C.1 rfl rfl (Nat.le_of_ble_eq_true rfl) (Nat.le_of_ble_eq_true rfl) (s_X3_digest C) (fun E1 q1 => ?_)
  show J g mL_law 13 bc bs 83 [some (.ref g.1.2.1), some (.ref (ad 0)), some (.ref (ad 63)), some (.int (nI tm)), some (.int x), some (.int (nI 4)), none, none, none, none, none, none, none, none, none, none, none, none, none, none, none, none, none, none, none, none, none, none, none, none, none, none, none, none, none, none, none, none, none, none, none, none] [.long (dgAll hrs su gone lv ed F S cnt mc mr)] n ad E1 Φ Ψ
  have X1 := X0.tr (Nat.le_refl _) (fun _ _ => rfl) (fun k hk _ => q1.2 k hk)
  obtain ⟨V1, ⟨lL1, lE1, lr1⟩, K11, K21⟩ := id X1
  obtain ⟨⟨hwn1, hLn1, hEn1, hrn1⟩, ⟨hwL1, hwE1, hLE1, hrA1⟩, hri1, hw1, hL1, hE1, hR1, -⟩ := id V1
  refine j_lstore (L' := [some (.ref g.1.2.1), some (.ref (ad 0)), some (.ref (ad 63)), some (.int (nI tm)), some (.int x), some (.long (dgAll hrs su gone lv ed F S cnt mc mr)), none, none, none, none, none, none, none, none, none, none, none, none, none, none, none, none, none, none, none, none, none, none, none, none, none, none, none, none, none, none, none, none, none, none, none, none]) dL_law_83 (by decide) rfl rfl ?_
  refine j_aload_n dL_law_85 rfl ?_
  refine j_cV (As := []) (rest := []) cm_X3_flights ci_X3_flights cs_X3_flights rfl ln_L_122 (ci := 3) rfl dL_law_86 (d' := 0) (by decide) (by omega) q1.1.1 rfl rfl (Nat.le_of_ble_eq_true rfl) (Nat.le_of_ble_eq_true rfl) (s_X3_flights q1.1) ?_
  refine j_istore (L' := [some (.ref g.1.2.1), some (.ref (ad 0)), some (.ref (ad 63)), some (.int (nI tm)), some (.int x), some (.long (dgAll hrs su gone lv ed F S cnt mc mr)), none, some (.int (nI F)), none, none, none, none, none, none, none, none, none, none, none, none, none, none, none, none, none, none, none, none, none, none, none, none, none, none, none, none, none, none, none, none, none, none]) dL_law_89 (by decide) rfl rfl ?_
  refine j_aload_n dL_law_91 rfl ?_
  refine j_cV (As := []) (rest := []) cm_X3_steps ci_X3_steps cs_X3_steps rfl ln_L_125 (ci := 3) rfl dL_law_92 (d' := 0) (by decide) (by omega) q1.1.1 rfl rfl (Nat.le_of_ble_eq_true rfl) (Nat.le_of_ble_eq_true rfl) (s_X3_steps q1.1) ?_
  refine j_istore (L' := [some (.ref g.1.2.1), some (.ref (ad 0)), some (.ref (ad 63)), some (.int (nI tm)), some (.int x), some (.long (dgAll hrs su gone lv ed F S cnt mc mr)), none, some (.int (nI F)), some (.int (nI S)), none, none, none, none, none, none, none, none, none, none, none, none, none, none, none, none, none, none, none, none, none, none, none, none, none, none, none, none, none, none, none, none, none]) dL_law_95 (by decide) rfl rfl ?_
  refine j_iload dL_law_97 rfl ?_
  refine j_iload dL_law_99 rfl ?_
  refine j_imul dL_law_101 ?_
  refine j_topi (y := nI (F * S)) (pk_mul _ _) ?_
  refine j_istore (L' := [some (.ref g.1.2.1), some (.ref (ad 0)), some (.ref (ad 63)), some (.int (nI tm)), some (.int x), some (.long (dgAll hrs su gone lv ed F S cnt mc mr)), none, some (.int (nI F)), some (.int (nI S)), some (.int (nI (F * S))), none, none, none, none, none, none, none, none, none, none, none, none, none, none, none, none, none, none, none, none, none, none, none, none, none, none, none, none, none, none, none, none]) dL_law_102 (by decide) rfl rfl ?_
  refine j_iload dL_law_104 rfl ?_
  refine j_iconst (v := 3) dL_law_106 (by decide) ?_
  refine j_ishr dL_law_107 ?_
  refine j_iload dL_law_108 rfl ?_
  refine j_cS (As := [.int (x >>> (3 &&& 31)), .int (nI F)]) (rest := []) cm_L_below ct_L_below ln_L_19 dL_law_110 (d' := 0) (by decide) rfl rfl (Nat.le_of_ble_eq_true rfl) (Nat.le_of_ble_eq_true rfl) (s_L_below (x >>> (3 &&& 31)) F (by omega) (by omega)) ?_
  have hbf : bl (x >>> (3 &&& 31)) F < F := bl_lt _ (by omega)
  generalize bl (x >>> (3 &&& 31)) F = f at hbf ⊢
  refine j_istore (L' := [some (.ref g.1.2.1), some (.ref (ad 0)), some (.ref (ad 63)), some (.int (nI tm)), some (.int x), some (.long (dgAll hrs su gone lv ed F S cnt mc mr)), none, some (.int (nI F)), some (.int (nI S)), some (.int (nI (F * S))), some (.int (nI f)), none, none, none, none, none, none, none, none, none, none, none, none, none, none, none, none, none, none, none, none, none, none, none, none, none, none, none, none, none, none, none]) dL_law_113 (by decide) rfl rfl ?_
  refine j_iload dL_law_115 rfl ?_
  refine j_iconst (v := 5) dL_law_117 (by decide) ?_
  refine j_ishr dL_law_118 ?_
  refine j_iload dL_law_119 rfl ?_
  refine j_cS (As := [.int (x >>> (5 &&& 31)), .int (nI S)]) (rest := []) cm_L_below ct_L_below ln_L_19 dL_law_121 (d' := 0) (by decide) rfl rfl (Nat.le_of_ble_eq_true rfl) (Nat.le_of_ble_eq_true rfl) (s_L_below (x >>> (5 &&& 31)) S (by omega) (by omega)) ?_
  have hbs : bl (x >>> (5 &&& 31)) S < S := bl_lt _ (by omega)
  generalize bl (x >>> (5 &&& 31)) S = s at hbs ⊢
  refine j_istore (L' := [some (.ref g.1.2.1), some (.ref (ad 0)), some (.ref (ad 63)), some (.int (nI tm)), some (.int x), some (.long (dgAll hrs su gone lv ed F S cnt mc mr)), none, some (.int (nI F)), some (.int (nI S)), some (.int (nI (F * S))), some (.int (nI f)), some (.int (nI s)), none, none, none, none, none, none, none, none, none, none, none, none, none, none, none, none, none, none, none, none, none, none, none, none, none, none, none, none, none, none]) dL_law_124 (by decide) rfl rfl ?_
  refine j_lconst (v := 0) dL_law_126 rfl ?_
  refine j_lstore (L' := [some (.ref g.1.2.1), some (.ref (ad 0)), some (.ref (ad 63)), some (.int (nI tm)), some (.int x), some (.long (dgAll hrs su gone lv ed F S cnt mc mr)), none, some (.int (nI F)), some (.int (nI S)), some (.int (nI (F * S))), some (.int (nI f)), some (.int (nI s)), some (.long 0), none, none, none, none, none, none, none, none, none, none, none, none, none, none, none, none, none, none, none, none, none, none, none, none, none, none, none, none, none]) dL_law_127 (by decide) rfl rfl ?_
  refine j_lconst (v := 0) dL_law_129 rfl ?_
  refine j_lstore (L' := [some (.ref g.1.2.1), some (.ref (ad 0)), some (.ref (ad 63)), some (.int (nI tm)), some (.int x), some (.long (dgAll hrs su gone lv ed F S cnt mc mr)), none, some (.int (nI F)), some (.int (nI S)), some (.int (nI (F * S))), some (.int (nI f)), some (.int (nI s)), some (.long 0), none, some (.long 0), none, none, none, none, none, none, none, none, none, none, none, none, none, none, none, none, none, none, none, none, none, none, none, none, none, none, none]) dL_law_130 (by decide) rfl rfl ?_
  refine j_iconst (v := 0) dL_law_132 (by decide) ?_
  refine j_istore (L' := [some (.ref g.1.2.1), some (.ref (ad 0)), some (.ref (ad 63)), some (.int (nI tm)), some (.int x), some (.long (dgAll hrs su gone lv ed F S cnt mc mr)), none, some (.int (nI F)), some (.int (nI S)), some (.int (nI (F * S))), some (.int (nI f)), some (.int (nI s)), some (.long 0), none, some (.long 0), none, some (.int 0), none, none, none, none, none, none, none, none, none, none, none, none, none, none, none, none, none, none, none, none, none, none, none, none, none]) dL_law_133 (by decide) rfl rfl ?_
  refine j_iconst (v := nI 0) dL_law_135 (by decide) ?_
  refine j_istore (L' := [some (.ref g.1.2.1), some (.ref (ad 0)), some (.ref (ad 63)), some (.int (nI tm)), some (.int x), some (.long (dgAll hrs su gone lv ed F S cnt mc mr)), none, some (.int (nI F)), some (.int (nI S)), some (.int (nI (F * S))), some (.int (nI f)), some (.int (nI s)), some (.long 0), none, some (.long 0), none, some (.int 0), some (.int (nI 0)), none, none, none, none, none, none, none, none, none, none, none, none, none, none, none, none, none, none, none, none, none, none, none, none]) dL_law_136 (by decide) rfl rfl ?_
  exact K f s E1 hbf hbs q1.1 X1.sr
set_option maxRecDepth 100000 in
set_option maxHeartbeats 4000000 in
theorem lw_hours {g : jG} {n : Nat} {ad : Nat → Nat} {E : Nat → va_E} {i F S : Nat} {hrs su : Int32} {gone : Int64} {lv ed : Nat → Int32} {old cnt : Nat} {dr : Nat → Nat → Int32} {mc : Nat} {mr : Nat → Nat → Int32} {m : Nat → Nat → Int32} {e : Nat → Int32} {A B : Nat → Nat → Nat → Int32} (C : CR g n ad E F S hrs su gone lv ed old cnt dr mc mr) (R : SR g n ad E F S su hrs gone m e cnt A mc B) (L : RS i F S su lv ed old cnt dr mc mr m e A B) (hi : i ≤ 490) {tm : Nat} {x : Int32} {f s : Nat} (hf : f < F) (hs : s < S) {bc bs : Nat} {Φ : Option Value → jR} {Ψ : String → jR} {h : Nat} (hh1 : 1 ≤ h) (hh9 : h ≤ 9) (K : ∀ (n9 : Nat) (a9 : Nat → Nat) (E9 : Nat → va_E) (hrs9 : Int32) (old9 cnt9 : Nat) (dr9 : Nat → Nat → Int32) (m9 : Nat → Nat → Int32) (A9 : Nat → Nat → Nat → Int32), n ≤ n9 → (∀ k, k < n → a9 k = ad k) → CR g n9 a9 E9 F S hrs9 su (gone + (flowR su ed F S h lv).1.toInt64) ((flowR su ed F S h lv).2) ed old9 cnt9 dr9 mc mr → SR g n9 a9 E9 F S su hrs9 (gone + (flowR su ed F S h lv).1.toInt64) m9 e cnt9 A9 mc B → RS (i + h) F S su ((flowR su ed F S h lv).2) ed old9 cnt9 dr9 mc mr m9 e A9 B → J g mL_law 13 bc bs 1167 [some (.ref g.1.2.1), some (.ref (a9 0)), some (.ref (a9 63)), some (.int (nI tm)), some (.int x), some (.long (dgAll hrs su gone lv ed F S cnt mc mr)), none, some (.int (nI F)), some (.int (nI S)), some (.int (nI (F * S))), some (.int (nI f)), some (.int (nI s)), none, none, none, none, some (.int (nI (dcnt lv (F * S)))), none, none, none, none, none, none, none, none, none, none, some (.int (nI h)), some (.long (sumP ((flowR su ed F S h lv).2) S 0 0 (F - 1) (S - 1))), none, some (.int ((flowR su ed F S h lv).1)), some (.int (untilD su ed F S lv)), some (.long gone), none, some (.int ((flowR su ed F S h lv).1)), some (.int (nI (h + 1))), none, none, none, none, none, none] [] n9 a9 E9 Φ Ψ) : J g mL_law 13 (bc + 180) (bs + 2250) 955 [some (.ref g.1.2.1), some (.ref (ad 0)), some (.ref (ad 63)), some (.int (nI tm)), some (.int x), some (.long (dgAll hrs su gone lv ed F S cnt mc mr)), none, some (.int (nI F)), some (.int (nI S)), some (.int (nI (F * S))), some (.int (nI f)), some (.int (nI s)), none, none, none, none, some (.int (nI (dcnt lv (F * S)))), none, none, none, none, none, none, none, none, none, none, some (.int (nI h)), some (.long (sumP ((flowR su ed F S h lv).2) S 0 0 (F - 1) (S - 1))), none, some (.int ((flowR su ed F S h lv).1)), some (.int (untilD su ed F S lv)), none, none, none, none, none, none, none, none, none, none] [] n ad E Φ Ψ := by
  obtain ⟨hF8, hS16, hF1, hS1, hold, hcn, hmc, hN, hn63⟩ := C.bd
  have hN1 := fs1 hF1 hS1
  refine j_aload_n dL_law_955 rfl ?_
  refine j_cV (As := []) (rest := []) cm_X3_gone ci_X3_gone cs_X3_gone rfl ln_L_205 (ci := 3) rfl dL_law_956 (d' := 0) (by decide) (by omega) C.1 rfl rfl (Nat.le_of_ble_eq_true rfl) (Nat.le_of_ble_eq_true rfl) (s_X3_gone C) ?_
  refine j_lstore (L' := [some (.ref g.1.2.1), some (.ref (ad 0)), some (.ref (ad 63)), some (.int (nI tm)), some (.int x), some (.long (dgAll hrs su gone lv ed F S cnt mc mr)), none, some (.int (nI F)), some (.int (nI S)), some (.int (nI (F * S))), some (.int (nI f)), some (.int (nI s)), none, none, none, none, some (.int (nI (dcnt lv (F * S)))), none, none, none, none, none, none, none, none, none, none, some (.int (nI h)), some (.long (sumP ((flowR su ed F S h lv).2) S 0 0 (F - 1) (S - 1))), none, some (.int ((flowR su ed F S h lv).1)), some (.int (untilD su ed F S lv)), some (.long gone), none, none, none, none, none, none, none, none, none]) dL_law_959 (by decide) rfl rfl ?_
  refine j_iconst (v := 0) dL_law_961 (by decide) ?_
  refine j_istore (L' := [some (.ref g.1.2.1), some (.ref (ad 0)), some (.ref (ad 63)), some (.int (nI tm)), some (.int x), some (.long (dgAll hrs su gone lv ed F S cnt mc mr)), none, some (.int (nI F)), some (.int (nI S)), some (.int (nI (F * S))), some (.int (nI f)), some (.int (nI s)), none, none, none, none, some (.int (nI (dcnt lv (F * S)))), none, none, none, none, none, none, none, none, none, none, some (.int (nI h)), some (.long (sumP ((flowR su ed F S h lv).2) S 0 0 (F - 1) (S - 1))), none, some (.int ((flowR su ed F S h lv).1)), some (.int (untilD su ed F S lv)), some (.long gone), none, some (.int 0), none, none, none, none, none, none, none]) dL_law_962 (by decide) rfl rfl ?_
  refine j_iconst (v := nI 1) dL_law_964 (by decide) ?_
  refine j_istore (L' := [some (.ref g.1.2.1), some (.ref (ad 0)), some (.ref (ad 63)), some (.int (nI tm)), some (.int x), some (.long (dgAll hrs su gone lv ed F S cnt mc mr)), none, some (.int (nI F)), some (.int (nI S)), some (.int (nI (F * S))), some (.int (nI f)), some (.int (nI s)), none, none, none, none, some (.int (nI (dcnt lv (F * S)))), none, none, none, none, none, none, none, none, none, none, some (.int (nI h)), some (.long (sumP ((flowR su ed F S h lv).2) S 0 0 (F - 1) (S - 1))), none, some (.int ((flowR su ed F S h lv).1)), some (.int (untilD su ed F S lv)), some (.long gone), none, some (.int 0), some (.int (nI 1)), none, none, none, none, none, none]) dL_law_965 (by decide) rfl rfl ?_
  refine j_bud (bc' := bc + 20 * (h - 0)) (bs' := bs + 250 * (h - 0)) (by omega) (by omega) ?_
  have z0 : gone + (flowR su ed F S 0 lv).1.toInt64 = gone := by show gone + (0 : Int32).toInt64 = gone; rw [show (0 : Int32).toInt64 = 0 from rfl, Int64.add_zero]
  suffices hall : ∀ (n9 : Nat) (a9 : Nat → Nat) (E9 : Nat → va_E) (hrs9 : Int32) (old9 cnt9 : Nat) (dr9 : Nat → Nat → Int32) (m9 : Nat → Nat → Int32) (A9 : Nat → Nat → Nat → Int32), n ≤ n9 → (∀ k, k < n → a9 k = ad k) → CR g n9 a9 E9 F S hrs9 su (gone + (flowR su ed F S 0 lv).1.toInt64) ((flowR su ed F S 0 lv).2) ed old9 cnt9 dr9 mc mr → SR g n9 a9 E9 F S su hrs9 (gone + (flowR su ed F S 0 lv).1.toInt64) m9 e cnt9 A9 mc B → RS (i + 0) F S su ((flowR su ed F S 0 lv).2) ed old9 cnt9 dr9 mc mr m9 e A9 B → J g mL_law 13 (bc + 20 * (h - 0)) (bs + 250 * (h - 0)) 967 [some (.ref g.1.2.1), some (.ref (a9 0)), some (.ref (a9 63)), some (.int (nI tm)), some (.int x), some (.long (dgAll hrs su gone lv ed F S cnt mc mr)), none, some (.int (nI F)), some (.int (nI S)), some (.int (nI (F * S))), some (.int (nI f)), some (.int (nI s)), none, none, none, none, some (.int (nI (dcnt lv (F * S)))), none, none, none, none, none, none, none, none, none, none, some (.int (nI h)), some (.long (sumP ((flowR su ed F S h lv).2) S 0 0 (F - 1) (S - 1))), none, some (.int ((flowR su ed F S h lv).1)), some (.int (untilD su ed F S lv)), some (.long gone), none, some (.int ((flowR su ed F S 0 lv).1)), some (.int (nI (0 + 1))), none, none, none, none, none, none] [] n9 a9 E9 Φ Ψ from hall n ad E hrs old cnt dr m A (Nat.le_refl _) (fun _ _ => rfl) (z0.symm ▸ C) (z0.symm ▸ R) L
  refine up_ind (P := fun (j : Nat) => ∀ (n9 : Nat) (a9 : Nat → Nat) (E9 : Nat → va_E) (hrs9 : Int32) (old9 cnt9 : Nat) (dr9 : Nat → Nat → Int32) (m9 : Nat → Nat → Int32) (A9 : Nat → Nat → Nat → Int32), n ≤ n9 → (∀ k, k < n → a9 k = ad k) → CR g n9 a9 E9 F S hrs9 su (gone + (flowR su ed F S j lv).1.toInt64) ((flowR su ed F S j lv).2) ed old9 cnt9 dr9 mc mr → SR g n9 a9 E9 F S su hrs9 (gone + (flowR su ed F S j lv).1.toInt64) m9 e cnt9 A9 mc B → RS (i + j) F S su ((flowR su ed F S j lv).2) ed old9 cnt9 dr9 mc mr m9 e A9 B → J g mL_law 13 (bc + 20 * (h - j)) (bs + 250 * (h - j)) 967 [some (.ref g.1.2.1), some (.ref (a9 0)), some (.ref (a9 63)), some (.int (nI tm)), some (.int x), some (.long (dgAll hrs su gone lv ed F S cnt mc mr)), none, some (.int (nI F)), some (.int (nI S)), some (.int (nI (F * S))), some (.int (nI f)), some (.int (nI s)), none, none, none, none, some (.int (nI (dcnt lv (F * S)))), none, none, none, none, none, none, none, none, none, none, some (.int (nI h)), some (.long (sumP ((flowR su ed F S h lv).2) S 0 0 (F - 1) (S - 1))), none, some (.int ((flowR su ed F S h lv).1)), some (.int (untilD su ed F S lv)), some (.long gone), none, some (.int ((flowR su ed F S j lv).1)), some (.int (nI (j + 1))), none, none, none, none, none, none] [] n9 a9 E9 Φ Ψ) (N := h) 0 ?_ h (by omega) ?_
  · intro j hj0 hj ih n9 a9 E9 hrs9 old9 cnt9 dr9 m9 A9 hn9 hA C9 R9 L9
    refine j_bud (bc' := bc + 20 * (h - (j + 1)) + 20) (bs' := bs + 250 * (h - (j + 1)) + 250) (by omega) (by omega) ?_
    show J g mL_law 13 (bc + 20 * (h - (j + 1)) + 20) (bs + 250 * (h - (j + 1)) + 250) 967 [some (.ref g.1.2.1), some (.ref (a9 0)), some (.ref (a9 63)), some (.int (nI tm)), some (.int x), some (.long (dgAll hrs su gone lv ed F S cnt mc mr)), none, some (.int (nI F)), some (.int (nI S)), some (.int (nI (F * S))), some (.int (nI f)), some (.int (nI s)), none, none, none, none, some (.int (nI (dcnt lv (F * S)))), none, none, none, none, none, none, none, none, none, none, some (.int (nI h)), some (.long (sumP ((flowR su ed F S h lv).2) S 0 0 (F - 1) (S - 1))), none, some (.int ((flowR su ed F S h lv).1)), some (.int (untilD su ed F S lv)), some (.long gone), none, some (.int ((flowR su ed F S j lv).1)), some (.int (nI (j + 1))), none, none, none, none, none, none] [] n9 a9 E9 Φ Ψ
    refine j_iload dL_law_967 rfl ?_
    refine j_iload dL_law_969 rfl ?_
    refine j_icmp_gt_f (tgt := 1167) dL_law_971 (by decide) (nI_nlt' (by omega) (by omega) (by omega)) ?_
    have e1 := flow_s su ed F S lv j
    have e2 : (flowR su ed F S (j + 1) lv).1 = (flowR su ed F S j lv).1 + (hourR su ed F S (flowR su ed F S j lv).2).1 := by rw [e1]
    have e3 : (flowR su ed F S (j + 1) lv).2 = (hourR su ed F S (flowR su ed F S j lv).2).2 := by rw [e1]
    have e4 := flow_64 (t := j) hS1 hN L.2.2.2.2.1 L.2.2.2.2.2.1 L.2.2.2.1 (by omega) (by omega) (by omega) (by omega) L.2.2.1 (by omega) gone
    refine lw_hour C9 R9 L9 (by omega) hf hs (by omega) (fun hu => by rw [← e3]; exact until_hour hS1 hN L.2.2.2.2.1 L.2.2.2.2.2.1 L.2.2.2.1 (by omega) (by omega) (by omega) (by omega) L.2.2.1 (by omega) hu) (fun n8 a8 E8 hn8 g8 C8 R8 L8 => ?_)
    rw [e4, ← e3] at C8
    rw [e4] at R8
    rw [← e3] at L8
    rw [← e2]
    exact ih n8 a8 E8 _ _ _ _ _ _ (by omega) (fun k hk => (g8 k (by omega)).trans (hA k hk)) C8 R8 L8
  · intro n9 a9 E9 hrs9 old9 cnt9 dr9 m9 A9 hn9 hA C9 R9 L9
    refine j_bud (bc' := bc) (bs' := bs) (by omega) (by omega) ?_
    show J g mL_law 13 bc bs 967 [some (.ref g.1.2.1), some (.ref (a9 0)), some (.ref (a9 63)), some (.int (nI tm)), some (.int x), some (.long (dgAll hrs su gone lv ed F S cnt mc mr)), none, some (.int (nI F)), some (.int (nI S)), some (.int (nI (F * S))), some (.int (nI f)), some (.int (nI s)), none, none, none, none, some (.int (nI (dcnt lv (F * S)))), none, none, none, none, none, none, none, none, none, none, some (.int (nI h)), some (.long (sumP ((flowR su ed F S h lv).2) S 0 0 (F - 1) (S - 1))), none, some (.int ((flowR su ed F S h lv).1)), some (.int (untilD su ed F S lv)), some (.long gone), none, some (.int ((flowR su ed F S h lv).1)), some (.int (nI (h + 1))), none, none, none, none, none, none] [] n9 a9 E9 Φ Ψ
    refine j_iload dL_law_967 rfl ?_
    refine j_iload dL_law_969 rfl ?_
    refine j_icmp_gt_t (tgt := 1167) dL_law_971 (by decide) (nI_lt' (by omega) (by omega) (by omega)) ?_
    exact K n9 a9 E9 _ _ _ _ _ _ hn9 hA C9 R9 L9
set_option maxRecDepth 100000 in
set_option maxHeartbeats 4000000 in
theorem lw_round {g : jG} {n : Nat} {ad : Nat → Nat} {E : Nat → va_E} {i : Nat} (Q : AS i g n ad E) (hi : i ≤ 400) (hL : g.1.2.2.1 ≤ 260) {tm : Nat} {Φ : Option Value → jR} {Ψ : String → jR} {bc bs : Nat} (htm : tm < 4) (K : ∀ (i9 n9 : Nat) (a9 : Nat → Nat) (E9 : Nat → va_E), i9 ≤ i + 15 → n ≤ n9 → (∀ k, k < n → a9 k = ad k) → AS i9 g n9 a9 E9 → J g mL_law 13 bc bs 1349 [some (.ref g.1.2.1), some (.ref (a9 0)), some (.ref (a9 63)), some (.int (nI tm)), none, none, none, none, none, none, none, none, none, none, none, none, none, none, none, none, none, none, none, none, none, none, none, none, none, none, none, none, none, none, none, none, none, none, none, none, none, none] [] n9 a9 E9 Φ Ψ) : J g mL_law 13 (bc + 500) (bs + 9000) 22 [some (.ref g.1.2.1), some (.ref (ad 0)), some (.ref (ad 63)), some (.int (nI tm)), none, none, none, none, none, none, none, none, none, none, none, none, none, none, none, none, none, none, none, none, none, none, none, none, none, none, none, none, none, none, none, none, none, none, none, none, none, none] [] n ad E Φ Ψ := by
  refine j_bud (bc' := bc + 20 + 180 + 60 + 240) (bs' := bs + 250 + 2250 + 800 + 4800) (by omega) (by omega) ?_
  refine lw_s0 Q hi hL htm (fun x n1 a1 E1 hn1 g1 Q1 => ?_)
  obtain ⟨F, S, hrs, su, gone, lv, ed, old, cnt, dr, mc, mr, m, e, A, B, C1, R1, L⟩ := Q1
  refine lw_s1 C1 R1 L (by omega) (fun f s E2 hf hs C2 R2 => ?_)
  obtain ⟨hF8, hS16, hF1, hS1, -⟩ := C2.bd
  refine lw_s2 (i := i) (m := m) (e := e) (A := A) (B := B) C2 hf hs ?_
  refine lw_s3 (i := i) (m := m) (e := e) (A := A) (B := B) C2 hf hs ?_
  refine lw_s4 (i := i) (m := m) (e := e) (A := A) (B := B) C2 hf hs ?_
  refine lw_s6 (i := i) (m := m) (e := e) (A := A) (B := B) C2 hf hs ?_
  refine lw_s7 (i := i) (m := m) (e := e) (A := A) (B := B) C2 hf hs ?_
  refine lw_s8 (i := i) (m := m) (e := e) (A := A) (B := B) C2 hf hs (L.2.2.1.le (by omega) (by omega)) ?_
  refine lw_s9 C2 R2 L (by omega) hf hs (fun n3 a3 E3 hn3 g3 C3 R3 => ?_)
  refine lw_s10 C3 R3 L (by omega) hf hs (fun h E4 hh1 hh9 C4 R4 => ?_)
  refine lw_hours C4 R4 L (by omega) hf hs hh1 hh9 (fun n5 a5 E5 hrs5 old5 cnt5 dr5 m5 A5 hn5 g5 C5 R5 L5 => ?_)
  refine lw_s12 (i := i) (tot := 0) (went := 0) (m := m5) (e := e) (A := A5) (B := B) C5 hf hs rfl ?_
  refine lw_bail C5 R5 L5 (by omega) hf hs (fun n6 a6 E6 hn6 g6 Q6 => ?_)
  exact K _ n6 a6 E6 (by omega) (by omega) (fun k hk => (g6 k (by omega)).trans ((g5 k (by omega)).trans ((g3 k (by omega)).trans (g1 k hk)))) Q6
