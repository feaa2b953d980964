/-! The model's digest. -/
def mgF (lv : Nat → Int32) (F S f : Nat) (d : Int64) : Int64 := lpf (fun s d => d * 31 + (lv (f * S + s)).toInt64) 0 S (((((d * 31 + sumP lv S f 0 f (S - 1)) * 31 + (runM lv S f).1) * 31 + (longR lv S f).1.toInt64) * 31 + (nI (highR lv S f)).toInt64) * 31 + (swapM lv S F f).1.toInt64)
def mgFs (lv : Nat → Int32) (F S : Nat) (d : Int64) : Int64 := lpf (mgF lv F S) 0 F d
def mgMs (lv mk : Nat → Int32) (N mc : Nat) (d : Int64) : Int64 := lpf (fun k d => d * 31 + (chgC lv (fun i => mk (128 * k + i)) N).toInt64) 0 mc d
def mgHead (hrs su : Int32) (gone : Int64) (lv ed : Nat → Int32) (F S cnt mc : Nat) : Int64 := ((((((((((((((2281 * 31 + (nI F).toInt64) * 31 + (nI S).toInt64) * 31 + hrs.toInt64) * 31 + su.toInt64) * 31 + (nI mc).toInt64) * 31 + (nI cnt).toInt64) * 31 + gone) * 31 + sumP lv S 0 0 (F - 1) (S - 1)) * 31 + (dryP lv S 0 0 (F - 1) (S - 1)).toInt64) * 31 + (nI (driestM lv F S)).toInt64) * 31 + (pairsM lv (F * S)).toInt64) * 31 + (untilD su ed F S lv).toInt64) * 31 + sumP (flowR su ed F S 3 lv).2 S 0 0 (F - 1) (S - 1)) * 31 + (flowR su ed F S 3 lv).1.toInt64) * 31 + (wantD ed F S 5 lv).toInt64
def mgAll (hrs su : Int32) (gone : Int64) (lv ed : Nat → Int32) (F S cnt mc : Nat) (mk : Nat → Int32) : Int64 := mgMs lv mk (F * S) mc (dgSs lv ed F S (mgFs lv F S (mgHead hrs su gone lv ed F S cnt mc)))
theorem j_addr {g : jG} {M : jM} {d bc bs pc : Nat} {L : List (Option Value)} {st : List Value} {n : Nat} {ad ad' : Nat → Nat} {E : Nat → va_E} {Φ : Option Value → jR} {Ψ : String → jR} (h : ∀ k, k < n → ad k = ad' k) (k : J g M d bc bs pc L st n ad' E Φ Ψ) : J g M d bc bs pc L st n ad E Φ Ψ := by
  intro l p e R s m args below meth c H locs cells slots ls C h1 h2 hW hS hl
  exact k l p e R s m args below meth c H locs cells slots ls C h1 h2 (hW.congr h (fun _ _ => rfl)) hS hl
theorem MR.less {g : jG} {n n' : Nat} {ad : Nat → Nat} {E : Nat → va_E} {th : Int32} {F S : Nat} {hrs su : Int32} {gone : Int64} {lv ed : Nat → Int32} {first cnt : Nat} {ah : Nat → Int32} {mc : Nat} {mk : Nat → Int32} (D : MR g n ad E th F S hrs su gone lv ed first cnt ah mc mk) (h : 69 ≤ n') : MR g n' ad E th F S hrs su gone lv ed first cnt ah mc mk := by
  obtain ⟨m0, m1, m2, m3, m4, m5, h1, h2, h3, h4, h5, h6, h7, h8⟩ := D
  exact ⟨m0, m1, m2, m3, m4, m5, h1, h2, h3, h4, h5, h6, h7, h⟩
theorem MR.addr {g : jG} {n : Nat} {ad ad' : Nat → Nat} {E : Nat → va_E} {th : Int32} {F S : Nat} {hrs su : Int32} {gone : Int64} {lv ed : Nat → Int32} {first cnt : Nat} {ah : Nat → Int32} {mc : Nat} {mk : Nat → Int32} (D : MR g n ad E th F S hrs su gone lv ed first cnt ah mc mk) (h : ∀ k, k < n → ad' k = ad k) : MR g n ad' E th F S hrs su gone lv ed first cnt ah mc mk := by
  obtain ⟨m0, m1, m2, m3, m4, m5, h1, h2, h3, h4, h5, h6, h7, h8⟩ := D
  exact ⟨by rw [m0, h 64 (by omega), h 65 (by omega), h 66 (by omega), h 67 (by omega), h 68 (by omega)], m1, m2, m3, m4, m5, h1, h2, h3, h4, h5, h6, h7, h8⟩
theorem dg15 (a0 a1 a2 a3 a4 a5 a6 a7 a8 a9 a10 a11 a12 a13 a14 : Int64) : lpf (fun i (d : Int64) => d * 31 + (vp_updL (vp_updL (vp_updL (vp_updL (vp_updL (vp_updL (vp_updL (vp_updL (vp_updL (vp_updL (vp_updL (vp_updL (vp_updL (vp_updL (vp_updL (fun _ => 0) 0 a0) 1 a1) 2 a2) 3 a3) 4 a4) 5 a5) 6 a6) 7 a7) 8 a8) 9 a9) 10 a10) 11 a11) 12 a12) 13 a13) 14 a14) i) 0 15 2281 = (((((((((((((((2281 * 31 + a0) * 31 + a1) * 31 + a2) * 31 + a3) * 31 + a4) * 31 + a5) * 31 + a6) * 31 + a7) * 31 + a8) * 31 + a9) * 31 + a10) * 31 + a11) * 31 + a12) * 31 + a13) * 31 + a14) := rfl
set_option maxRecDepth 100000 in
set_option maxHeartbeats 4000000 in
theorem s_digest_tail {g : jG} {n : Nat} {ad : Nat → Nat} {E : Nat → va_E} {th : Int32} {F S : Nat} {hrs su : Int32} {gone : Int64} {lv ed : Nat → Int32} {first cnt : Nat} {ah : Nat → Int32} {mc : Nat} {mk : Nat → Int32} (D : MR g n ad E 0 F S hrs su gone lv ed first cnt ah mc mk) (p9 : Nat) (hp9 : 69 ≤ p9) (hpn : p9 < n) (hA : E p9 = aL g 15 (fun _ => 0)) {Φ : Option Value → jR} {Ψ : String → jR} (h : ∀ E9 : Nat → va_E, (MR g n ad E9 0 F S hrs su gone lv ed first cnt ah mc mk ∧ ∀ k, (k < 63 ∨ 69 ≤ k) → k ≠ p9 → E9 k = E k) → J g mX4_digest 5 0 0 378 [] [.long (mgAll hrs su gone lv ed F S cnt mc mk)] n ad E9 Φ Ψ) : J g mX4_digest 5 0 0 9 [some (.ref (ad 63)), none, none, none, none, none, none, none, none] [.ref (ad p9)] n ad E Φ Ψ := by
  obtain ⟨m0, m1, m2, m3, m4, ⟨wk, m5⟩, hF, hS, hFp, hSp, hfi, hcn, hmc, hn⟩ := id D
  have hFS := fs128 hF hS
  refine j_dup dX4_digest_9 rfl ?_
  refine j_iconst (v := nI 0) dX4_digest_10 (by decide) ?_
  refine j_aload_n dX4_digest_11 rfl ?_
  refine j_get fl_X4_9 dX4_digest_12 (by omega) m0 rfl ?_
  refine j_i2l dX4_digest_15 ?_
  refine j_last (j := 0) dX4_digest_16 (by omega) hA (by decide) (by omega) ?_
  refine j_dup dX4_digest_17 rfl ?_
  refine j_iconst (v := nI 1) dX4_digest_18 (by decide) ?_
  refine j_aload_n dX4_digest_19 rfl ?_
  refine j_get fl_X4_13 dX4_digest_20 (by omega) ((up_ne (by omega)).trans m0) rfl ?_
  refine j_i2l dX4_digest_23 ?_
  refine j_last (j := 1) dX4_digest_24 (by omega) up_eq (by decide) (by omega) ?_
  refine j_E up_up ?_
  refine j_dup dX4_digest_25 rfl ?_
  refine j_iconst (v := nI 2) dX4_digest_26 (by decide) ?_
  refine j_aload_n dX4_digest_27 rfl ?_
  refine j_get fl_X4_101 dX4_digest_28 (by omega) ((up_ne (by omega)).trans m0) rfl ?_
  refine j_i2l dX4_digest_31 ?_
  refine j_last (j := 2) dX4_digest_32 (by omega) up_eq (by decide) (by omega) ?_
  refine j_E up_up ?_
  refine j_dup dX4_digest_33 rfl ?_
  refine j_iconst (v := nI 3) dX4_digest_34 (by decide) ?_
  refine j_aload_n dX4_digest_35 rfl ?_
  refine j_get fl_X4_16 dX4_digest_36 (by omega) ((up_ne (by omega)).trans m0) rfl ?_
  refine j_i2l dX4_digest_39 ?_
  refine j_last (j := 3) dX4_digest_40 (by omega) up_eq (by decide) (by omega) ?_
  refine j_E up_up ?_
  refine j_dup dX4_digest_41 rfl ?_
  refine j_iconst (v := nI 4) dX4_digest_42 (by decide) ?_
  refine j_aload_n dX4_digest_43 rfl ?_
  refine j_get fl_X4_45 dX4_digest_44 (by omega) ((up_ne (by omega)).trans m0) rfl ?_
  refine j_i2l dX4_digest_47 ?_
  refine j_last (j := 4) dX4_digest_48 (by omega) up_eq (by decide) (by omega) ?_
  refine j_E up_up ?_
  refine j_dup dX4_digest_49 rfl ?_
  refine j_iconst (v := nI 5) dX4_digest_50 (by decide) ?_
  refine j_aload_n dX4_digest_51 rfl ?_
  refine j_get fl_X4_55 dX4_digest_52 (by omega) ((up_ne (by omega)).trans m0) rfl ?_
  refine j_i2l dX4_digest_55 ?_
  refine j_last (j := 5) dX4_digest_56 (by omega) up_eq (by decide) (by omega) ?_
  refine j_E up_up ?_
  refine j_dup dX4_digest_57 rfl ?_
  refine j_bipush (v := nI 6) dX4_digest_58 (by decide) ?_
  refine j_aload_n dX4_digest_60 rfl ?_
  refine j_get fl_X4_104 dX4_digest_61 (by omega) ((up_ne (by omega)).trans m0) rfl ?_
  refine j_last (j := 6) dX4_digest_64 (by omega) up_eq (by decide) (by omega) ?_
  refine j_E up_up ?_
  refine j_dup dX4_digest_65 rfl ?_
  refine j_bipush (v := nI 7) dX4_digest_66 (by decide) ?_
  refine j_aload_n dX4_digest_68 rfl ?_
  refine j_cV (As := []) (rest := [.int (nI 7), .ref (ad p9), .ref (ad p9)]) cm_X4_sumOfAll ci_X4_sumOfAll cs_X4_sumOfAll rfl ln_X4_135 (ci := 4) rfl dX4_digest_69 (d' := 2) (by decide) (by omega) ((up_ne (by omega)).trans m0) rfl rfl (Nat.le_of_ble_eq_true rfl) (Nat.le_of_ble_eq_true rfl) (s_X4_sumOfAll (MR.kept D (fun k h1 h2 => up_ne (by omega)))) ?_
  refine j_last (j := 7) dX4_digest_72 (by omega) up_eq (by decide) (by omega) ?_
  refine j_E up_up ?_
  refine j_dup dX4_digest_73 rfl ?_
  refine j_bipush (v := nI 8) dX4_digest_74 (by decide) ?_
  refine j_aload_n dX4_digest_76 rfl ?_
  refine j_cV (As := []) (rest := [.int (nI 8), .ref (ad p9), .ref (ad p9)]) cm_X4_dryNow ci_X4_dryNow cs_X4_dryNow rfl ln_X4_151 (ci := 4) rfl dX4_digest_77 (d' := 2) (by decide) (by omega) ((up_ne (by omega)).trans m0) rfl rfl (Nat.le_of_ble_eq_true rfl) (Nat.le_of_ble_eq_true rfl) (s_X4_dryNow (MR.kept D (fun k h1 h2 => up_ne (by omega)))) ?_
  refine j_i2l dX4_digest_80 ?_
  refine j_last (j := 8) dX4_digest_81 (by omega) up_eq (by decide) (by omega) ?_
  refine j_E up_up ?_
  refine j_dup dX4_digest_82 rfl ?_
  refine j_bipush (v := nI 9) dX4_digest_83 (by decide) ?_
  refine j_aload_n dX4_digest_85 rfl ?_
  refine j_cV (As := []) (rest := [.int (nI 9), .ref (ad p9), .ref (ad p9)]) cm_X4_driest ci_X4_driest cs_X4_driest rfl ln_X4_157 (ci := 4) rfl dX4_digest_86 (d' := 2) (by decide) (by omega) ((up_ne (by omega)).trans m0) rfl rfl (Nat.le_of_ble_eq_true rfl) (Nat.le_of_ble_eq_true rfl) (s_X4_driest (MR.kept D (fun k h1 h2 => up_ne (by omega)))) ?_
  refine j_i2l dX4_digest_89 ?_
  refine j_last (j := 9) dX4_digest_90 (by omega) up_eq (by decide) (by omega) ?_
  refine j_E up_up ?_
  refine j_dup dX4_digest_91 rfl ?_
  refine j_bipush (v := nI 10) dX4_digest_92 (by decide) ?_
  refine j_aload_n dX4_digest_94 rfl ?_
  refine j_cV (As := []) (rest := [.int (nI 10), .ref (ad p9), .ref (ad p9)]) cm_X4_pairs ci_X4_pairs cs_X4_pairs rfl ln_X4_166 (ci := 4) rfl dX4_digest_95 (d' := 1) (by decide) (by omega) ((up_ne (by omega)).trans m0) rfl rfl (Nat.le_of_ble_eq_true rfl) (Nat.le_of_ble_eq_true rfl) (s_X4_pairs (MR.kept D (fun k h1 h2 => up_ne (by omega)))) ?_
  refine j_i2l dX4_digest_98 ?_
  refine j_last (j := 10) dX4_digest_99 (by omega) up_eq (by decide) (by omega) ?_
  refine j_E up_up ?_
  refine j_dup dX4_digest_100 rfl ?_
  refine j_bipush (v := nI 11) dX4_digest_101 (by decide) ?_
  refine j_aload_n dX4_digest_103 rfl ?_
  refine j_cVp (As := []) (rest := [.int (nI 11), .ref (ad p9), .ref (ad p9)]) cm_X4_untilDry ci_X4_untilDry cs_X4_untilDry rfl ln_X4_182 (ci := 4) rfl dX4_digest_104 (d' := 3) (by decide) (by omega) ((up_ne (by omega)).trans m0) rfl rfl (Nat.le_of_ble_eq_true rfl) (Nat.le_of_ble_eq_true rfl) (s_X4_untilDry (MR.kept D (fun k h1 h2 => up_ne (by omega)))) (fun E1 q1 => ?_)
  have D1 := q1.1
  have z1 : ∀ k, (k < 63 ∨ 69 ≤ k) → k ≠ p9 → E1 k = E k := fun k hk hp => (q1.2 k hk).trans ((up_ne (by omega)).trans rfl)
  have hA1 : E1 p9 = aL g 15 (vp_updL (vp_updL (vp_updL (vp_updL (vp_updL (vp_updL (vp_updL (vp_updL (vp_updL (vp_updL (vp_updL (fun _ => 0) 0 ((nI F).toInt64)) 1 ((nI S).toInt64)) 2 hrs.toInt64) 3 su.toInt64) 4 ((nI mc).toInt64)) 5 ((nI cnt).toInt64)) 6 gone) 7 (sumP lv S 0 0 (F - 1) (S - 1))) 8 ((dryP lv S 0 0 (F - 1) (S - 1)).toInt64)) 9 ((nI (driestM lv F S)).toInt64)) 10 ((pairsM lv (F * S)).toInt64)) := (q1.2 p9 (Or.inr (by omega))).trans up_eq
  obtain ⟨m01, m11, m21, m31, m41, ⟨wk1, m51⟩, hF1, hS1, hFp1, hSp1, hfi1, hcn1, hmc1, hn1⟩ := id D1
  show J g mX4_digest 5 0 0 107 [some (.ref (ad 63)), none, none, none, none, none, none, none, none] [.int (untilD su ed F S lv), .int (nI 11), .ref (ad p9), .ref (ad p9)] n ad E1 Φ Ψ
  refine j_i2l dX4_digest_107 ?_
  refine j_last (j := 11) dX4_digest_108 (by omega) hA1 (by decide) (by omega) ?_
  refine j_dup dX4_digest_109 rfl ?_
  refine j_bipush (v := nI 12) dX4_digest_110 (by decide) ?_
  refine j_aload_n dX4_digest_112 rfl ?_
  refine j_iconst (v := nI 3) dX4_digest_113 (by decide) ?_
  refine j_cVp (As := [.int (nI 3)]) (rest := [.int (nI 12), .ref (ad p9), .ref (ad p9)]) cm_X4_later ci_X4_later cs_X4_later rfl ln_X4_175 (ci := 4) rfl dX4_digest_114 (d' := 4) (by decide) (by omega) ((up_ne (by omega)).trans m01) rfl rfl (Nat.le_of_ble_eq_true rfl) (Nat.le_of_ble_eq_true rfl) (s_X4_later (MR.kept D1 (fun k h1 h2 => up_ne (by omega))) 3 (by omega)) (fun E2 q2 => ?_)
  have D2 := q2.1
  have z2 : ∀ k, (k < 63 ∨ 69 ≤ k) → k ≠ p9 → E2 k = E k := fun k hk hp => (q2.2 k hk).trans ((up_ne (by omega)).trans (z1 k hk hp))
  have hA2 : E2 p9 = aL g 15 (vp_updL (vp_updL (vp_updL (vp_updL (vp_updL (vp_updL (vp_updL (vp_updL (vp_updL (vp_updL (vp_updL (vp_updL (fun _ => 0) 0 ((nI F).toInt64)) 1 ((nI S).toInt64)) 2 hrs.toInt64) 3 su.toInt64) 4 ((nI mc).toInt64)) 5 ((nI cnt).toInt64)) 6 gone) 7 (sumP lv S 0 0 (F - 1) (S - 1))) 8 ((dryP lv S 0 0 (F - 1) (S - 1)).toInt64)) 9 ((nI (driestM lv F S)).toInt64)) 10 ((pairsM lv (F * S)).toInt64)) 11 ((untilD su ed F S lv).toInt64)) := (q2.2 p9 (Or.inr (by omega))).trans up_eq
  obtain ⟨m02, m12, m22, m32, m42, ⟨wk2, m52⟩, hF2, hS2, hFp2, hSp2, hfi2, hcn2, hmc2, hn2⟩ := id D2
  show J g mX4_digest 5 0 0 117 [some (.ref (ad 63)), none, none, none, none, none, none, none, none] [.long (sumP (flowR su ed F S 3 lv).2 S 0 0 (F - 1) (S - 1)), .int (nI 12), .ref (ad p9), .ref (ad p9)] n ad E2 Φ Ψ
  refine j_last (j := 12) dX4_digest_117 (by omega) hA2 (by decide) (by omega) ?_
  refine j_dup dX4_digest_118 rfl ?_
  refine j_bipush (v := nI 13) dX4_digest_119 (by decide) ?_
  refine j_aload_n dX4_digest_121 rfl ?_
  refine j_iconst (v := nI 3) dX4_digest_122 (by decide) ?_
  refine j_aload_n dX4_digest_123 rfl ?_
  refine j_get fl_X4_16 dX4_digest_124 (by omega) ((up_ne (by omega)).trans m02) rfl ?_
  refine j_cVp (As := [.int (nI 3), .int su]) (rest := [.int (nI 13), .ref (ad p9), .ref (ad p9)]) cm_X4_goneBehind ci_X4_goneBehind cs_X4_goneBehind rfl ln_X4_172 (ci := 4) rfl dX4_digest_127 (d' := 3) (by decide) (by omega) ((up_ne (by omega)).trans m02) rfl rfl (Nat.le_of_ble_eq_true rfl) (Nat.le_of_ble_eq_true rfl) (s_X4_goneBehind (MR.kept D2 (fun k h1 h2 => up_ne (by omega))) 3 (by omega) su) (fun E3 q3 => ?_)
  obtain ⟨q3, f3, h683, hf3⟩ := q3
  have D3 := q3.1
  have z3 : ∀ k, (k < 63 ∨ 69 ≤ k) → k ≠ p9 → E3 k = E k := fun k hk hp => (q3.2 k hk).trans ((up_ne (by omega)).trans (z2 k hk hp))
  have hA3 : E3 p9 = aL g 15 (vp_updL (vp_updL (vp_updL (vp_updL (vp_updL (vp_updL (vp_updL (vp_updL (vp_updL (vp_updL (vp_updL (vp_updL (vp_updL (fun _ => 0) 0 ((nI F).toInt64)) 1 ((nI S).toInt64)) 2 hrs.toInt64) 3 su.toInt64) 4 ((nI mc).toInt64)) 5 ((nI cnt).toInt64)) 6 gone) 7 (sumP lv S 0 0 (F - 1) (S - 1))) 8 ((dryP lv S 0 0 (F - 1) (S - 1)).toInt64)) 9 ((nI (driestM lv F S)).toInt64)) 10 ((pairsM lv (F * S)).toInt64)) 11 ((untilD su ed F S lv).toInt64)) 12 (sumP (flowR su ed F S 3 lv).2 S 0 0 (F - 1) (S - 1))) := (q3.2 p9 (Or.inr (by omega))).trans up_eq
  obtain ⟨m03, m13, m23, m33, m43, ⟨wk3, m53⟩, hF3, hS3, hFp3, hSp3, hfi3, hcn3, hmc3, hn3⟩ := id D3
  show J g mX4_digest 5 0 0 130 [some (.ref (ad 63)), none, none, none, none, none, none, none, none] [.int ((flowR su ed F S 3 lv).1), .int (nI 13), .ref (ad p9), .ref (ad p9)] n ad E3 Φ Ψ
  refine j_i2l dX4_digest_130 ?_
  refine j_last (j := 13) dX4_digest_131 (by omega) hA3 (by decide) (by omega) ?_
  refine j_dup dX4_digest_132 rfl ?_
  refine j_bipush (v := nI 14) dX4_digest_133 (by decide) ?_
  refine j_aload_n dX4_digest_135 rfl ?_
  refine j_iconst (v := nI 5) dX4_digest_136 (by decide) ?_
  refine j_cVp (As := [.int (nI 5)]) (rest := [.int (nI 14), .ref (ad p9), .ref (ad p9)]) cm_X4_wanted ci_X4_wanted cs_X4_wanted rfl ln_X4_185 (ci := 4) rfl dX4_digest_137 (d' := 4) (by decide) (by omega) ((up_ne (by omega)).trans m03) rfl rfl (Nat.le_of_ble_eq_true rfl) (Nat.le_of_ble_eq_true rfl) (s_X4_wanted (MR.kept D3 (fun k h1 h2 => up_ne (by omega))) 5 (by omega)) (fun E4 q4 => ?_)
  have D4 := q4.1
  have z4 : ∀ k, (k < 63 ∨ 69 ≤ k) → k ≠ p9 → E4 k = E k := fun k hk hp => (q4.2 k hk).trans ((up_ne (by omega)).trans (z3 k hk hp))
  have hA4 : E4 p9 = aL g 15 (vp_updL (vp_updL (vp_updL (vp_updL (vp_updL (vp_updL (vp_updL (vp_updL (vp_updL (vp_updL (vp_updL (vp_updL (vp_updL (vp_updL (fun _ => 0) 0 ((nI F).toInt64)) 1 ((nI S).toInt64)) 2 hrs.toInt64) 3 su.toInt64) 4 ((nI mc).toInt64)) 5 ((nI cnt).toInt64)) 6 gone) 7 (sumP lv S 0 0 (F - 1) (S - 1))) 8 ((dryP lv S 0 0 (F - 1) (S - 1)).toInt64)) 9 ((nI (driestM lv F S)).toInt64)) 10 ((pairsM lv (F * S)).toInt64)) 11 ((untilD su ed F S lv).toInt64)) 12 (sumP (flowR su ed F S 3 lv).2 S 0 0 (F - 1) (S - 1))) 13 (((flowR su ed F S 3 lv).1).toInt64)) := (q4.2 p9 (Or.inr (by omega))).trans up_eq
  obtain ⟨m04, m14, m24, m34, m44, ⟨wk4, m54⟩, hF4, hS4, hFp4, hSp4, hfi4, hcn4, hmc4, hn4⟩ := id D4
  show J g mX4_digest 5 0 0 140 [some (.ref (ad 63)), none, none, none, none, none, none, none, none] [.int (wantD ed F S 5 lv), .int (nI 14), .ref (ad p9), .ref (ad p9)] n ad E4 Φ Ψ
  refine j_i2l dX4_digest_140 ?_
  refine j_last (j := 14) dX4_digest_141 (by omega) hA4 (by decide) (by omega) ?_
  refine j_astore_n (L' := [some (.ref (ad 63)), some (.ref (ad p9)), none, none, none, none, none, none, none]) dX4_digest_142 (by decide) rfl rfl ?_
  refine j_ldc2 dX4_digest_143 cn_X4_191 ?_
  refine j_lstore_n (L' := [some (.ref (ad 63)), some (.ref (ad p9)), some (.long 2281), none, none, none, none, none, none]) dX4_digest_146 (by decide) rfl rfl ?_
  refine j_aload_n dX4_digest_147 rfl ?_
  refine j_astore (L' := [some (.ref (ad 63)), some (.ref (ad p9)), some (.long 2281), none, some (.ref (ad p9)), none, none, none, none]) dX4_digest_148 (by decide) rfl rfl ?_
  refine j_aload dX4_digest_150 rfl ?_
  refine j_alen 1 dX4_digest_152 (by omega) up_eq rfl ?_
  refine j_istore (L' := [some (.ref (ad 63)), some (.ref (ad p9)), some (.long 2281), none, some (.ref (ad p9)), some (.int (nI 15)), none, none, none]) dX4_digest_153 (by decide) rfl rfl ?_
  refine j_iconst (v := nI 0) dX4_digest_155 (by decide) ?_
  refine j_istore (L' := [some (.ref (ad 63)), some (.ref (ad p9)), some (.long 2281), none, some (.ref (ad p9)), some (.int (nI 15)), some (.int (nI 0)), none, none]) dX4_digest_156 (by decide) rfl rfl ?_
  refine lpf_ind (b := fun i (d : Int64) => d * 31 + (vp_updL (vp_updL (vp_updL (vp_updL (vp_updL (vp_updL (vp_updL (vp_updL (vp_updL (vp_updL (vp_updL (vp_updL (vp_updL (vp_updL (vp_updL (fun _ => 0) 0 ((nI F).toInt64)) 1 ((nI S).toInt64)) 2 hrs.toInt64) 3 su.toInt64) 4 ((nI mc).toInt64)) 5 ((nI cnt).toInt64)) 6 gone) 7 (sumP lv S 0 0 (F - 1) (S - 1))) 8 ((dryP lv S 0 0 (F - 1) (S - 1)).toInt64)) 9 ((nI (driestM lv F S)).toInt64)) 10 ((pairsM lv (F * S)).toInt64)) 11 ((untilD su ed F S lv).toInt64)) 12 (sumP (flowR su ed F S 3 lv).2 S 0 0 (F - 1) (S - 1))) 13 (((flowR su ed F S 3 lv).1).toInt64)) 14 ((wantD ed F S 5 lv).toInt64)) i) (P := fun (i : Nat) (y : Int64) => J g mX4_digest 5 0 0 158 [some (.ref (ad 63)), some (.ref (ad p9)), some (.long y), none, some (.ref (ad p9)), some (.int (nI 15)), some (.int (nI i)), none, none] [] n ad (va_up E4 p9 (aL g 15 (vp_updL (vp_updL (vp_updL (vp_updL (vp_updL (vp_updL (vp_updL (vp_updL (vp_updL (vp_updL (vp_updL (vp_updL (vp_updL (vp_updL (vp_updL (fun _ => 0) 0 ((nI F).toInt64)) 1 ((nI S).toInt64)) 2 hrs.toInt64) 3 su.toInt64) 4 ((nI mc).toInt64)) 5 ((nI cnt).toInt64)) 6 gone) 7 (sumP lv S 0 0 (F - 1) (S - 1))) 8 ((dryP lv S 0 0 (F - 1) (S - 1)).toInt64)) 9 ((nI (driestM lv F S)).toInt64)) 10 ((pairsM lv (F * S)).toInt64)) 11 ((untilD su ed F S lv).toInt64)) 12 (sumP (flowR su ed F S 3 lv).2 S 0 0 (F - 1) (S - 1))) 13 (((flowR su ed F S 3 lv).1).toInt64)) 14 ((wantD ed F S 5 lv).toInt64)))) Φ Ψ) (N := 15) 0 ?_ 15 2281 (by omega) ?_
  · intro i y hi0 hi ih
    show J g mX4_digest 5 0 0 158 [some (.ref (ad 63)), some (.ref (ad p9)), some (.long y), none, some (.ref (ad p9)), some (.int (nI 15)), some (.int (nI i)), none, none] [] n ad (va_up E4 p9 (aL g 15 (vp_updL (vp_updL (vp_updL (vp_updL (vp_updL (vp_updL (vp_updL (vp_updL (vp_updL (vp_updL (vp_updL (vp_updL (vp_updL (vp_updL (vp_updL (fun _ => 0) 0 ((nI F).toInt64)) 1 ((nI S).toInt64)) 2 hrs.toInt64) 3 su.toInt64) 4 ((nI mc).toInt64)) 5 ((nI cnt).toInt64)) 6 gone) 7 (sumP lv S 0 0 (F - 1) (S - 1))) 8 ((dryP lv S 0 0 (F - 1) (S - 1)).toInt64)) 9 ((nI (driestM lv F S)).toInt64)) 10 ((pairsM lv (F * S)).toInt64)) 11 ((untilD su ed F S lv).toInt64)) 12 (sumP (flowR su ed F S 3 lv).2 S 0 0 (F - 1) (S - 1))) 13 (((flowR su ed F S 3 lv).1).toInt64)) 14 ((wantD ed F S 5 lv).toInt64)))) Φ Ψ
    refine j_iload dX4_digest_158 rfl ?_
    refine j_iload dX4_digest_160 rfl ?_
    refine j_icmp_ge_f (tgt := 187) dX4_digest_162 (by decide) (nI_nle' (by omega) (by omega) (by omega)) ?_
    refine j_aload dX4_digest_165 rfl ?_
    refine j_iload dX4_digest_167 rfl ?_
    refine j_lald dX4_digest_169 (by omega) up_eq (by decide) (by omega) rfl ?_
    refine j_lstore (L' := [some (.ref (ad 63)), some (.ref (ad p9)), some (.long y), none, some (.ref (ad p9)), some (.int (nI 15)), some (.int (nI i)), some (.long ((vp_updL (vp_updL (vp_updL (vp_updL (vp_updL (vp_updL (vp_updL (vp_updL (vp_updL (vp_updL (vp_updL (vp_updL (vp_updL (vp_updL (vp_updL (fun _ => 0) 0 ((nI F).toInt64)) 1 ((nI S).toInt64)) 2 hrs.toInt64) 3 su.toInt64) 4 ((nI mc).toInt64)) 5 ((nI cnt).toInt64)) 6 gone) 7 (sumP lv S 0 0 (F - 1) (S - 1))) 8 ((dryP lv S 0 0 (F - 1) (S - 1)).toInt64)) 9 ((nI (driestM lv F S)).toInt64)) 10 ((pairsM lv (F * S)).toInt64)) 11 ((untilD su ed F S lv).toInt64)) 12 (sumP (flowR su ed F S 3 lv).2 S 0 0 (F - 1) (S - 1))) 13 (((flowR su ed F S 3 lv).1).toInt64)) 14 ((wantD ed F S 5 lv).toInt64)) i)), none]) dX4_digest_170 (by decide) rfl rfl ?_
    refine j_lload_n dX4_digest_172 rfl ?_
    refine j_ldc2 dX4_digest_173 cn_X4_193 ?_
    refine j_lmul dX4_digest_176 ?_
    refine j_lload dX4_digest_177 rfl ?_
    refine j_ladd dX4_digest_179 ?_
    refine j_lstore_n (L' := [some (.ref (ad 63)), some (.ref (ad p9)), some (.long ((y * 31) + ((vp_updL (vp_updL (vp_updL (vp_updL (vp_updL (vp_updL (vp_updL (vp_updL (vp_updL (vp_updL (vp_updL (vp_updL (vp_updL (vp_updL (vp_updL (fun _ => 0) 0 ((nI F).toInt64)) 1 ((nI S).toInt64)) 2 hrs.toInt64) 3 su.toInt64) 4 ((nI mc).toInt64)) 5 ((nI cnt).toInt64)) 6 gone) 7 (sumP lv S 0 0 (F - 1) (S - 1))) 8 ((dryP lv S 0 0 (F - 1) (S - 1)).toInt64)) 9 ((nI (driestM lv F S)).toInt64)) 10 ((pairsM lv (F * S)).toInt64)) 11 ((untilD su ed F S lv).toInt64)) 12 (sumP (flowR su ed F S 3 lv).2 S 0 0 (F - 1) (S - 1))) 13 (((flowR su ed F S 3 lv).1).toInt64)) 14 ((wantD ed F S 5 lv).toInt64)) i))), none, some (.ref (ad p9)), some (.int (nI 15)), some (.int (nI i)), some (.long ((vp_updL (vp_updL (vp_updL (vp_updL (vp_updL (vp_updL (vp_updL (vp_updL (vp_updL (vp_updL (vp_updL (vp_updL (vp_updL (vp_updL (vp_updL (fun _ => 0) 0 ((nI F).toInt64)) 1 ((nI S).toInt64)) 2 hrs.toInt64) 3 su.toInt64) 4 ((nI mc).toInt64)) 5 ((nI cnt).toInt64)) 6 gone) 7 (sumP lv S 0 0 (F - 1) (S - 1))) 8 ((dryP lv S 0 0 (F - 1) (S - 1)).toInt64)) 9 ((nI (driestM lv F S)).toInt64)) 10 ((pairsM lv (F * S)).toInt64)) 11 ((untilD su ed F S lv).toInt64)) 12 (sumP (flowR su ed F S 3 lv).2 S 0 0 (F - 1) (S - 1))) 13 (((flowR su ed F S 3 lv).1).toInt64)) 14 ((wantD ed F S 5 lv).toInt64)) i)), none]) dX4_digest_180 (by decide) rfl rfl ?_
    refine j_iinc (v := nI (i + 1)) (L' := [some (.ref (ad 63)), some (.ref (ad p9)), some (.long ((y * 31) + ((vp_updL (vp_updL (vp_updL (vp_updL (vp_updL (vp_updL (vp_updL (vp_updL (vp_updL (vp_updL (vp_updL (vp_updL (vp_updL (vp_updL (vp_updL (fun _ => 0) 0 ((nI F).toInt64)) 1 ((nI S).toInt64)) 2 hrs.toInt64) 3 su.toInt64) 4 ((nI mc).toInt64)) 5 ((nI cnt).toInt64)) 6 gone) 7 (sumP lv S 0 0 (F - 1) (S - 1))) 8 ((dryP lv S 0 0 (F - 1) (S - 1)).toInt64)) 9 ((nI (driestM lv F S)).toInt64)) 10 ((pairsM lv (F * S)).toInt64)) 11 ((untilD su ed F S lv).toInt64)) 12 (sumP (flowR su ed F S 3 lv).2 S 0 0 (F - 1) (S - 1))) 13 (((flowR su ed F S 3 lv).1).toInt64)) 14 ((wantD ed F S 5 lv).toInt64)) i))), none, some (.ref (ad p9)), some (.int (nI 15)), some (.int (nI (i + 1))), some (.long ((vp_updL (vp_updL (vp_updL (vp_updL (vp_updL (vp_updL (vp_updL (vp_updL (vp_updL (vp_updL (vp_updL (vp_updL (vp_updL (vp_updL (vp_updL (fun _ => 0) 0 ((nI F).toInt64)) 1 ((nI S).toInt64)) 2 hrs.toInt64) 3 su.toInt64) 4 ((nI mc).toInt64)) 5 ((nI cnt).toInt64)) 6 gone) 7 (sumP lv S 0 0 (F - 1) (S - 1))) 8 ((dryP lv S 0 0 (F - 1) (S - 1)).toInt64)) 9 ((nI (driestM lv F S)).toInt64)) 10 ((pairsM lv (F * S)).toInt64)) 11 ((untilD su ed F S lv).toInt64)) 12 (sumP (flowR su ed F S 3 lv).2 S 0 0 (F - 1) (S - 1))) 13 (((flowR su ed F S 3 lv).1).toInt64)) 14 ((wantD ed F S 5 lv).toInt64)) i)), none]) dX4_digest_181 (by decide) rfl (nI_1 _) rfl rfl ?_
    refine j_goto (tgt := 158) dX4_digest_184 (by decide) ?_
    refine j_clr 7 ?_
    exact ih _ rfl
  · skip
    show J g mX4_digest 5 0 0 158 [some (.ref (ad 63)), some (.ref (ad p9)), some (.long (lpf (fun i (d : Int64) => d * 31 + (vp_updL (vp_updL (vp_updL (vp_updL (vp_updL (vp_updL (vp_updL (vp_updL (vp_updL (vp_updL (vp_updL (vp_updL (vp_updL (vp_updL (vp_updL (fun _ => 0) 0 ((nI F).toInt64)) 1 ((nI S).toInt64)) 2 hrs.toInt64) 3 su.toInt64) 4 ((nI mc).toInt64)) 5 ((nI cnt).toInt64)) 6 gone) 7 (sumP lv S 0 0 (F - 1) (S - 1))) 8 ((dryP lv S 0 0 (F - 1) (S - 1)).toInt64)) 9 ((nI (driestM lv F S)).toInt64)) 10 ((pairsM lv (F * S)).toInt64)) 11 ((untilD su ed F S lv).toInt64)) 12 (sumP (flowR su ed F S 3 lv).2 S 0 0 (F - 1) (S - 1))) 13 (((flowR su ed F S 3 lv).1).toInt64)) 14 ((wantD ed F S 5 lv).toInt64)) i) 0 15 2281)), none, some (.ref (ad p9)), some (.int (nI 15)), some (.int (nI 15)), none, none] [] n ad (va_up E4 p9 (aL g 15 (vp_updL (vp_updL (vp_updL (vp_updL (vp_updL (vp_updL (vp_updL (vp_updL (vp_updL (vp_updL (vp_updL (vp_updL (vp_updL (vp_updL (vp_updL (fun _ => 0) 0 ((nI F).toInt64)) 1 ((nI S).toInt64)) 2 hrs.toInt64) 3 su.toInt64) 4 ((nI mc).toInt64)) 5 ((nI cnt).toInt64)) 6 gone) 7 (sumP lv S 0 0 (F - 1) (S - 1))) 8 ((dryP lv S 0 0 (F - 1) (S - 1)).toInt64)) 9 ((nI (driestM lv F S)).toInt64)) 10 ((pairsM lv (F * S)).toInt64)) 11 ((untilD su ed F S lv).toInt64)) 12 (sumP (flowR su ed F S 3 lv).2 S 0 0 (F - 1) (S - 1))) 13 (((flowR su ed F S 3 lv).1).toInt64)) 14 ((wantD ed F S 5 lv).toInt64)))) Φ Ψ
    rw [dg15]
    show J g mX4_digest 5 0 0 158 [some (.ref (ad 63)), some (.ref (ad p9)), some (.long (mgHead hrs su gone lv ed F S cnt mc)), none, some (.ref (ad p9)), some (.int (nI 15)), some (.int (nI 15)), none, none] [] n ad (va_up E4 p9 (aL g 15 (vp_updL (vp_updL (vp_updL (vp_updL (vp_updL (vp_updL (vp_updL (vp_updL (vp_updL (vp_updL (vp_updL (vp_updL (vp_updL (vp_updL (vp_updL (fun _ => 0) 0 ((nI F).toInt64)) 1 ((nI S).toInt64)) 2 hrs.toInt64) 3 su.toInt64) 4 ((nI mc).toInt64)) 5 ((nI cnt).toInt64)) 6 gone) 7 (sumP lv S 0 0 (F - 1) (S - 1))) 8 ((dryP lv S 0 0 (F - 1) (S - 1)).toInt64)) 9 ((nI (driestM lv F S)).toInt64)) 10 ((pairsM lv (F * S)).toInt64)) 11 ((untilD su ed F S lv).toInt64)) 12 (sumP (flowR su ed F S 3 lv).2 S 0 0 (F - 1) (S - 1))) 13 (((flowR su ed F S 3 lv).1).toInt64)) 14 ((wantD ed F S 5 lv).toInt64)))) Φ Ψ
    refine j_iload dX4_digest_158 rfl ?_
    refine j_iload dX4_digest_160 rfl ?_
    refine j_icmp_ge_t (tgt := 187) dX4_digest_162 (by decide) (nI_le' (by omega) (by omega) (by omega)) ?_
    refine j_iconst (v := nI 0) dX4_digest_187 (by decide) ?_
    refine j_istore (L' := [some (.ref (ad 63)), some (.ref (ad p9)), some (.long (mgHead hrs su gone lv ed F S cnt mc)), none, some (.int (nI 0)), some (.int (nI 15)), some (.int (nI 15)), none, none]) dX4_digest_188 (by decide) rfl rfl ?_
    refine j_clr 5 ?_
    refine j_clr 6 ?_
    refine lpf_ind (b := mgF lv F S) (P := fun (f : Nat) (y : Int64) => J g mX4_digest 5 0 0 190 [some (.ref (ad 63)), some (.ref (ad p9)), some (.long y), none, some (.int (nI f)), none, none, none, none] [] n ad (va_up E4 p9 (aL g 15 (vp_updL (vp_updL (vp_updL (vp_updL (vp_updL (vp_updL (vp_updL (vp_updL (vp_updL (vp_updL (vp_updL (vp_updL (vp_updL (vp_updL (vp_updL (fun _ => 0) 0 ((nI F).toInt64)) 1 ((nI S).toInt64)) 2 hrs.toInt64) 3 su.toInt64) 4 ((nI mc).toInt64)) 5 ((nI cnt).toInt64)) 6 gone) 7 (sumP lv S 0 0 (F - 1) (S - 1))) 8 ((dryP lv S 0 0 (F - 1) (S - 1)).toInt64)) 9 ((nI (driestM lv F S)).toInt64)) 10 ((pairsM lv (F * S)).toInt64)) 11 ((untilD su ed F S lv).toInt64)) 12 (sumP (flowR su ed F S 3 lv).2 S 0 0 (F - 1) (S - 1))) 13 (((flowR su ed F S 3 lv).1).toInt64)) 14 ((wantD ed F S 5 lv).toInt64)))) Φ Ψ) (N := F) 0 ?_ F (mgHead hrs su gone lv ed F S cnt mc) (by omega) ?_
    · intro f y hf0 hf ih
      show J g mX4_digest 5 0 0 190 [some (.ref (ad 63)), some (.ref (ad p9)), some (.long y), none, some (.int (nI f)), none, none, none, none] [] n ad (va_up E4 p9 (aL g 15 (vp_updL (vp_updL (vp_updL (vp_updL (vp_updL (vp_updL (vp_updL (vp_updL (vp_updL (vp_updL (vp_updL (vp_updL (vp_updL (vp_updL (vp_updL (fun _ => 0) 0 ((nI F).toInt64)) 1 ((nI S).toInt64)) 2 hrs.toInt64) 3 su.toInt64) 4 ((nI mc).toInt64)) 5 ((nI cnt).toInt64)) 6 gone) 7 (sumP lv S 0 0 (F - 1) (S - 1))) 8 ((dryP lv S 0 0 (F - 1) (S - 1)).toInt64)) 9 ((nI (driestM lv F S)).toInt64)) 10 ((pairsM lv (F * S)).toInt64)) 11 ((untilD su ed F S lv).toInt64)) 12 (sumP (flowR su ed F S 3 lv).2 S 0 0 (F - 1) (S - 1))) 13 (((flowR su ed F S 3 lv).1).toInt64)) 14 ((wantD ed F S 5 lv).toInt64)))) Φ Ψ
      have ih0 := ih
      clear ih
      refine j_iload dX4_digest_190 rfl ?_
      refine j_aload_n dX4_digest_192 rfl ?_
      refine j_get fl_X4_9 dX4_digest_193 (by omega) ((up_ne (by omega)).trans m04) rfl ?_
      refine j_icmp_ge_f (tgt := 301) dX4_digest_196 (by decide) (nI_nle' (by omega) (by omega) (by omega)) ?_
      refine j_lload_n dX4_digest_199 rfl ?_
      refine j_ldc2 dX4_digest_200 cn_X4_193 ?_
      refine j_lmul dX4_digest_203 ?_
      refine j_aload_n dX4_digest_204 rfl ?_
      refine j_iload dX4_digest_205 rfl ?_
      refine j_cV (As := [.int (nI f)]) (rest := [.long (y * 31)]) cm_X4_ofFlight ci_X4_ofFlight cs_X4_ofFlight rfl ln_X4_128 (ci := 4) rfl dX4_digest_207 (d' := 2) (by decide) (by omega) ((up_ne (by omega)).trans m04) rfl rfl (Nat.le_of_ble_eq_true rfl) (Nat.le_of_ble_eq_true rfl) (s_X4_ofFlight (MR.kept D4 (fun k h1 h2 => up_ne (by omega))) f hf) ?_
      refine j_ladd dX4_digest_210 ?_
      refine j_ldc2 dX4_digest_211 cn_X4_193 ?_
      refine j_lmul dX4_digest_214 ?_
      refine j_aload_n dX4_digest_215 rfl ?_
      refine j_iload dX4_digest_216 rfl ?_
      refine j_cV (As := [.int (nI f)]) (rest := [.long (((y * 31) + (sumP lv S f 0 f (S - 1))) * 31)]) cm_X4_run ci_X4_run cs_X4_run rfl ln_X4_145 (ci := 4) rfl dX4_digest_218 (d' := 1) (by decide) (by omega) ((up_ne (by omega)).trans m04) rfl rfl (Nat.le_of_ble_eq_true rfl) (Nat.le_of_ble_eq_true rfl) (s_X4_run (MR.kept D4 (fun k h1 h2 => up_ne (by omega))) f hf) ?_
      refine j_ladd dX4_digest_221 ?_
      refine j_ldc2 dX4_digest_222 cn_X4_193 ?_
      refine j_lmul dX4_digest_225 ?_
      refine j_aload_n dX4_digest_226 rfl ?_
      refine j_iload dX4_digest_227 rfl ?_
      refine j_cV (As := [.int (nI f)]) (rest := [.long (((((y * 31) + (sumP lv S f 0 f (S - 1))) * 31) + ((runM lv S f).1)) * 31)]) cm_X4_longest ci_X4_longest cs_X4_longest rfl ln_X4_154 (ci := 4) rfl dX4_digest_229 (d' := 1) (by decide) (by omega) ((up_ne (by omega)).trans m04) rfl rfl (Nat.le_of_ble_eq_true rfl) (Nat.le_of_ble_eq_true rfl) (s_X4_longest (MR.kept D4 (fun k h1 h2 => up_ne (by omega))) f hf) ?_
      refine j_i2l dX4_digest_232 ?_
      refine j_ladd dX4_digest_233 ?_
      refine j_lstore_n (L' := [some (.ref (ad 63)), some (.ref (ad p9)), some (.long ((((((y * 31) + (sumP lv S f 0 f (S - 1))) * 31) + ((runM lv S f).1)) * 31) + (((longR lv S f).1).toInt64))), none, some (.int (nI f)), none, none, none, none]) dX4_digest_234 (by decide) rfl rfl ?_
      refine j_lload_n dX4_digest_235 rfl ?_
      refine j_ldc2 dX4_digest_236 cn_X4_193 ?_
      refine j_lmul dX4_digest_239 ?_
      refine j_aload_n dX4_digest_240 rfl ?_
      refine j_iload dX4_digest_241 rfl ?_
      refine j_cV (As := [.int (nI f)]) (rest := [.long (((((((y * 31) + (sumP lv S f 0 f (S - 1))) * 31) + ((runM lv S f).1)) * 31) + (((longR lv S f).1).toInt64)) * 31)]) cm_X4_highest ci_X4_highest cs_X4_highest rfl ln_X4_160 (ci := 4) rfl dX4_digest_243 (d' := 1) (by decide) (by omega) ((up_ne (by omega)).trans m04) rfl rfl (Nat.le_of_ble_eq_true rfl) (Nat.le_of_ble_eq_true rfl) (s_X4_highest (MR.kept D4 (fun k h1 h2 => up_ne (by omega))) f hf) ?_
      refine j_i2l dX4_digest_246 ?_
      refine j_ladd dX4_digest_247 ?_
      refine j_ldc2 dX4_digest_248 cn_X4_193 ?_
      refine j_lmul dX4_digest_251 ?_
      refine j_aload_n dX4_digest_252 rfl ?_
      refine j_iload dX4_digest_253 rfl ?_
      refine j_cV (As := [.int (nI f)]) (rest := [.long (((((((((y * 31) + (sumP lv S f 0 f (S - 1))) * 31) + ((runM lv S f).1)) * 31) + (((longR lv S f).1).toInt64)) * 31) + ((nI (highR lv S f)).toInt64)) * 31)]) cm_X4_swapFor ci_X4_swapFor cs_X4_swapFor rfl ln_X4_188 (ci := 4) rfl dX4_digest_255 (d' := 2) (by decide) (by omega) ((up_ne (by omega)).trans m04) rfl rfl (Nat.le_of_ble_eq_true rfl) (Nat.le_of_ble_eq_true rfl) (s_X4_swapFor (MR.kept D4 (fun k h1 h2 => up_ne (by omega))) f hf) ?_
      refine j_i2l dX4_digest_258 ?_
      refine j_ladd dX4_digest_259 ?_
      refine j_lstore_n (L' := [some (.ref (ad 63)), some (.ref (ad p9)), some (.long ((((((((((y * 31) + (sumP lv S f 0 f (S - 1))) * 31) + ((runM lv S f).1)) * 31) + (((longR lv S f).1).toInt64)) * 31) + ((nI (highR lv S f)).toInt64)) * 31) + (((swapM lv S F f).1).toInt64))), none, some (.int (nI f)), none, none, none, none]) dX4_digest_260 (by decide) rfl rfl ?_
      refine j_iconst (v := nI 0) dX4_digest_261 (by decide) ?_
      refine j_istore (L' := [some (.ref (ad 63)), some (.ref (ad p9)), some (.long ((((((((((y * 31) + (sumP lv S f 0 f (S - 1))) * 31) + ((runM lv S f).1)) * 31) + (((longR lv S f).1).toInt64)) * 31) + ((nI (highR lv S f)).toInt64)) * 31) + (((swapM lv S F f).1).toInt64))), none, some (.int (nI f)), some (.int (nI 0)), none, none, none]) dX4_digest_262 (by decide) rfl rfl ?_
      refine lpf_ind (b := fun s d => d * 31 + (lv (f * S + s)).toInt64) (P := fun (s : Nat) (y : Int64) => J g mX4_digest 5 0 0 264 [some (.ref (ad 63)), some (.ref (ad p9)), some (.long y), none, some (.int (nI f)), some (.int (nI s)), none, none, none] [] n ad (va_up E4 p9 (aL g 15 (vp_updL (vp_updL (vp_updL (vp_updL (vp_updL (vp_updL (vp_updL (vp_updL (vp_updL (vp_updL (vp_updL (vp_updL (vp_updL (vp_updL (vp_updL (fun _ => 0) 0 ((nI F).toInt64)) 1 ((nI S).toInt64)) 2 hrs.toInt64) 3 su.toInt64) 4 ((nI mc).toInt64)) 5 ((nI cnt).toInt64)) 6 gone) 7 (sumP lv S 0 0 (F - 1) (S - 1))) 8 ((dryP lv S 0 0 (F - 1) (S - 1)).toInt64)) 9 ((nI (driestM lv F S)).toInt64)) 10 ((pairsM lv (F * S)).toInt64)) 11 ((untilD su ed F S lv).toInt64)) 12 (sumP (flowR su ed F S 3 lv).2 S 0 0 (F - 1) (S - 1))) 13 (((flowR su ed F S 3 lv).1).toInt64)) 14 ((wantD ed F S 5 lv).toInt64)))) Φ Ψ) (N := S) 0 ?_ S ((((((((((y * 31) + (sumP lv S f 0 f (S - 1))) * 31) + ((runM lv S f).1)) * 31) + (((longR lv S f).1).toInt64)) * 31) + ((nI (highR lv S f)).toInt64)) * 31) + (((swapM lv S F f).1).toInt64)) (by omega) ?_
      · intro s y hs0 hs ih
        show J g mX4_digest 5 0 0 264 [some (.ref (ad 63)), some (.ref (ad p9)), some (.long y), none, some (.int (nI f)), some (.int (nI s)), none, none, none] [] n ad (va_up E4 p9 (aL g 15 (vp_updL (vp_updL (vp_updL (vp_updL (vp_updL (vp_updL (vp_updL (vp_updL (vp_updL (vp_updL (vp_updL (vp_updL (vp_updL (vp_updL (vp_updL (fun _ => 0) 0 ((nI F).toInt64)) 1 ((nI S).toInt64)) 2 hrs.toInt64) 3 su.toInt64) 4 ((nI mc).toInt64)) 5 ((nI cnt).toInt64)) 6 gone) 7 (sumP lv S 0 0 (F - 1) (S - 1))) 8 ((dryP lv S 0 0 (F - 1) (S - 1)).toInt64)) 9 ((nI (driestM lv F S)).toInt64)) 10 ((pairsM lv (F * S)).toInt64)) 11 ((untilD su ed F S lv).toInt64)) 12 (sumP (flowR su ed F S 3 lv).2 S 0 0 (F - 1) (S - 1))) 13 (((flowR su ed F S 3 lv).1).toInt64)) 14 ((wantD ed F S 5 lv).toInt64)))) Φ Ψ
        refine j_iload dX4_digest_264 rfl ?_
        refine j_aload_n dX4_digest_266 rfl ?_
        refine j_get fl_X4_13 dX4_digest_267 (by omega) ((up_ne (by omega)).trans m04) rfl ?_
        refine j_icmp_ge_f (tgt := 295) dX4_digest_270 (by decide) (nI_nle' (by omega) (by omega) (by omega)) ?_
        refine j_lload_n dX4_digest_273 rfl ?_
        refine j_ldc2 dX4_digest_274 cn_X4_193 ?_
        refine j_lmul dX4_digest_277 ?_
        refine j_aload_n dX4_digest_278 rfl ?_
        refine j_iload dX4_digest_279 rfl ?_
        refine j_iload dX4_digest_281 rfl ?_
        refine j_cV (As := [.int (nI f), .int (nI s)]) (rest := [.long (y * 31)]) cm_X4_at ci_X4_at cs_X4_at rfl ln_X4_121 (ci := 4) rfl dX4_digest_283 (d' := 0) (by decide) (by omega) ((up_ne (by omega)).trans m04) rfl rfl (Nat.le_of_ble_eq_true rfl) (Nat.le_of_ble_eq_true rfl) (s_X4_at (MR.kept D4 (fun k h1 h2 => up_ne (by omega))) f s (ix128 hF hS hf hs)) ?_
        refine j_i2l dX4_digest_286 ?_
        refine j_ladd dX4_digest_287 ?_
        refine j_lstore_n (L' := [some (.ref (ad 63)), some (.ref (ad p9)), some (.long ((y * 31) + ((lv (f * S + s)).toInt64))), none, some (.int (nI f)), some (.int (nI s)), none, none, none]) dX4_digest_288 (by decide) rfl rfl ?_
        refine j_iinc (v := nI (s + 1)) (L' := [some (.ref (ad 63)), some (.ref (ad p9)), some (.long ((y * 31) + ((lv (f * S + s)).toInt64))), none, some (.int (nI f)), some (.int (nI (s + 1))), none, none, none]) dX4_digest_289 (by decide) rfl (nI_1 _) rfl rfl ?_
        refine j_goto (tgt := 264) dX4_digest_292 (by decide) ?_
        exact ih _ rfl
      · skip
        show J g mX4_digest 5 0 0 264 [some (.ref (ad 63)), some (.ref (ad p9)), some (.long (lpf (fun s d => d * 31 + (lv (f * S + s)).toInt64) 0 S ((((((((((y * 31) + (sumP lv S f 0 f (S - 1))) * 31) + ((runM lv S f).1)) * 31) + (((longR lv S f).1).toInt64)) * 31) + ((nI (highR lv S f)).toInt64)) * 31) + (((swapM lv S F f).1).toInt64)))), none, some (.int (nI f)), some (.int (nI S)), none, none, none] [] n ad (va_up E4 p9 (aL g 15 (vp_updL (vp_updL (vp_updL (vp_updL (vp_updL (vp_updL (vp_updL (vp_updL (vp_updL (vp_updL (vp_updL (vp_updL (vp_updL (vp_updL (vp_updL (fun _ => 0) 0 ((nI F).toInt64)) 1 ((nI S).toInt64)) 2 hrs.toInt64) 3 su.toInt64) 4 ((nI mc).toInt64)) 5 ((nI cnt).toInt64)) 6 gone) 7 (sumP lv S 0 0 (F - 1) (S - 1))) 8 ((dryP lv S 0 0 (F - 1) (S - 1)).toInt64)) 9 ((nI (driestM lv F S)).toInt64)) 10 ((pairsM lv (F * S)).toInt64)) 11 ((untilD su ed F S lv).toInt64)) 12 (sumP (flowR su ed F S 3 lv).2 S 0 0 (F - 1) (S - 1))) 13 (((flowR su ed F S 3 lv).1).toInt64)) 14 ((wantD ed F S 5 lv).toInt64)))) Φ Ψ
        refine j_iload dX4_digest_264 rfl ?_
        refine j_aload_n dX4_digest_266 rfl ?_
        refine j_get fl_X4_13 dX4_digest_267 (by omega) ((up_ne (by omega)).trans m04) rfl ?_
        refine j_icmp_ge_t (tgt := 295) dX4_digest_270 (by decide) (nI_le' (by omega) (by omega) (by omega)) ?_
        refine j_iinc (v := nI (f + 1)) (L' := [some (.ref (ad 63)), some (.ref (ad p9)), some (.long (lpf (fun s d => d * 31 + (lv (f * S + s)).toInt64) 0 S ((((((((((y * 31) + (sumP lv S f 0 f (S - 1))) * 31) + ((runM lv S f).1)) * 31) + (((longR lv S f).1).toInt64)) * 31) + ((nI (highR lv S f)).toInt64)) * 31) + (((swapM lv S F f).1).toInt64)))), none, some (.int (nI (f + 1))), some (.int (nI S)), none, none, none]) dX4_digest_295 (by decide) rfl (nI_1 _) rfl rfl ?_
        refine j_goto (tgt := 190) dX4_digest_298 (by decide) ?_
        refine j_clr 5 ?_
        exact ih0 _ rfl
    · skip
      show J g mX4_digest 5 0 0 190 [some (.ref (ad 63)), some (.ref (ad p9)), some (.long (mgFs lv F S (mgHead hrs su gone lv ed F S cnt mc))), none, some (.int (nI F)), none, none, none, none] [] n ad (va_up E4 p9 (aL g 15 (vp_updL (vp_updL (vp_updL (vp_updL (vp_updL (vp_updL (vp_updL (vp_updL (vp_updL (vp_updL (vp_updL (vp_updL (vp_updL (vp_updL (vp_updL (fun _ => 0) 0 ((nI F).toInt64)) 1 ((nI S).toInt64)) 2 hrs.toInt64) 3 su.toInt64) 4 ((nI mc).toInt64)) 5 ((nI cnt).toInt64)) 6 gone) 7 (sumP lv S 0 0 (F - 1) (S - 1))) 8 ((dryP lv S 0 0 (F - 1) (S - 1)).toInt64)) 9 ((nI (driestM lv F S)).toInt64)) 10 ((pairsM lv (F * S)).toInt64)) 11 ((untilD su ed F S lv).toInt64)) 12 (sumP (flowR su ed F S 3 lv).2 S 0 0 (F - 1) (S - 1))) 13 (((flowR su ed F S 3 lv).1).toInt64)) 14 ((wantD ed F S 5 lv).toInt64)))) Φ Ψ
      refine j_iload dX4_digest_190 rfl ?_
      refine j_aload_n dX4_digest_192 rfl ?_
      refine j_get fl_X4_9 dX4_digest_193 (by omega) ((up_ne (by omega)).trans m04) rfl ?_
      refine j_icmp_ge_t (tgt := 301) dX4_digest_196 (by decide) (nI_le' (by omega) (by omega) (by omega)) ?_
      refine j_iconst (v := nI 0) dX4_digest_301 (by decide) ?_
      refine j_istore (L' := [some (.ref (ad 63)), some (.ref (ad p9)), some (.long (mgFs lv F S (mgHead hrs su gone lv ed F S cnt mc))), none, some (.int (nI 0)), none, none, none, none]) dX4_digest_302 (by decide) rfl rfl ?_
      refine lpf_ind (b := fun s d => (d * 31 + (ed s).toInt64) * 31 + sumP lv S 0 s (F - 1) s) (P := fun (s : Nat) (y : Int64) => J g mX4_digest 5 0 0 304 [some (.ref (ad 63)), some (.ref (ad p9)), some (.long y), none, some (.int (nI s)), none, none, none, none] [] n ad (va_up E4 p9 (aL g 15 (vp_updL (vp_updL (vp_updL (vp_updL (vp_updL (vp_updL (vp_updL (vp_updL (vp_updL (vp_updL (vp_updL (vp_updL (vp_updL (vp_updL (vp_updL (fun _ => 0) 0 ((nI F).toInt64)) 1 ((nI S).toInt64)) 2 hrs.toInt64) 3 su.toInt64) 4 ((nI mc).toInt64)) 5 ((nI cnt).toInt64)) 6 gone) 7 (sumP lv S 0 0 (F - 1) (S - 1))) 8 ((dryP lv S 0 0 (F - 1) (S - 1)).toInt64)) 9 ((nI (driestM lv F S)).toInt64)) 10 ((pairsM lv (F * S)).toInt64)) 11 ((untilD su ed F S lv).toInt64)) 12 (sumP (flowR su ed F S 3 lv).2 S 0 0 (F - 1) (S - 1))) 13 (((flowR su ed F S 3 lv).1).toInt64)) 14 ((wantD ed F S 5 lv).toInt64)))) Φ Ψ) (N := S) 0 ?_ S (mgFs lv F S (mgHead hrs su gone lv ed F S cnt mc)) (by omega) ?_
      · intro s y hs0 hs ih
        show J g mX4_digest 5 0 0 304 [some (.ref (ad 63)), some (.ref (ad p9)), some (.long y), none, some (.int (nI s)), none, none, none, none] [] n ad (va_up E4 p9 (aL g 15 (vp_updL (vp_updL (vp_updL (vp_updL (vp_updL (vp_updL (vp_updL (vp_updL (vp_updL (vp_updL (vp_updL (vp_updL (vp_updL (vp_updL (vp_updL (fun _ => 0) 0 ((nI F).toInt64)) 1 ((nI S).toInt64)) 2 hrs.toInt64) 3 su.toInt64) 4 ((nI mc).toInt64)) 5 ((nI cnt).toInt64)) 6 gone) 7 (sumP lv S 0 0 (F - 1) (S - 1))) 8 ((dryP lv S 0 0 (F - 1) (S - 1)).toInt64)) 9 ((nI (driestM lv F S)).toInt64)) 10 ((pairsM lv (F * S)).toInt64)) 11 ((untilD su ed F S lv).toInt64)) 12 (sumP (flowR su ed F S 3 lv).2 S 0 0 (F - 1) (S - 1))) 13 (((flowR su ed F S 3 lv).1).toInt64)) 14 ((wantD ed F S 5 lv).toInt64)))) Φ Ψ
        refine j_iload dX4_digest_304 rfl ?_
        refine j_aload_n dX4_digest_306 rfl ?_
        refine j_get fl_X4_13 dX4_digest_307 (by omega) ((up_ne (by omega)).trans m04) rfl ?_
        refine j_icmp_ge_f (tgt := 345) dX4_digest_310 (by decide) (nI_nle' (by omega) (by omega) (by omega)) ?_
        refine j_lload_n dX4_digest_313 rfl ?_
        refine j_ldc2 dX4_digest_314 cn_X4_193 ?_
        refine j_lmul dX4_digest_317 ?_
        refine j_aload_n dX4_digest_318 rfl ?_
        refine j_get fl_X4_19 dX4_digest_319 (by omega) ((up_ne (by omega)).trans m04) rfl ?_
        refine j_iload dX4_digest_322 rfl ?_
        refine j_iald dX4_digest_324 (by omega) ((up_ne (by omega)).trans m14) (by decide) (by omega) rfl ?_
        refine j_i2l dX4_digest_325 ?_
        refine j_ladd dX4_digest_326 ?_
        refine j_ldc2 dX4_digest_327 cn_X4_193 ?_
        refine j_lmul dX4_digest_330 ?_
        refine j_aload_n dX4_digest_331 rfl ?_
        refine j_iload dX4_digest_332 rfl ?_
        refine j_cV (As := [.int (nI s)]) (rest := [.long (((y * 31) + ((ed s).toInt64)) * 31)]) cm_X4_ofStep ci_X4_ofStep cs_X4_ofStep rfl ln_X4_132 (ci := 4) rfl dX4_digest_334 (d' := 2) (by decide) (by omega) ((up_ne (by omega)).trans m04) rfl rfl (Nat.le_of_ble_eq_true rfl) (Nat.le_of_ble_eq_true rfl) (s_X4_ofStep (MR.kept D4 (fun k h1 h2 => up_ne (by omega))) s hs) ?_
        refine j_ladd dX4_digest_337 ?_
        refine j_lstore_n (L' := [some (.ref (ad 63)), some (.ref (ad p9)), some (.long ((((y * 31) + ((ed s).toInt64)) * 31) + (sumP lv S 0 s (F - 1) s))), none, some (.int (nI s)), none, none, none, none]) dX4_digest_338 (by decide) rfl rfl ?_
        refine j_iinc (v := nI (s + 1)) (L' := [some (.ref (ad 63)), some (.ref (ad p9)), some (.long ((((y * 31) + ((ed s).toInt64)) * 31) + (sumP lv S 0 s (F - 1) s))), none, some (.int (nI (s + 1))), none, none, none, none]) dX4_digest_339 (by decide) rfl (nI_1 _) rfl rfl ?_
        refine j_goto (tgt := 304) dX4_digest_342 (by decide) ?_
        exact ih _ rfl
      · skip
        show J g mX4_digest 5 0 0 304 [some (.ref (ad 63)), some (.ref (ad p9)), some (.long (dgSs lv ed F S (mgFs lv F S (mgHead hrs su gone lv ed F S cnt mc)))), none, some (.int (nI S)), none, none, none, none] [] n ad (va_up E4 p9 (aL g 15 (vp_updL (vp_updL (vp_updL (vp_updL (vp_updL (vp_updL (vp_updL (vp_updL (vp_updL (vp_updL (vp_updL (vp_updL (vp_updL (vp_updL (vp_updL (fun _ => 0) 0 ((nI F).toInt64)) 1 ((nI S).toInt64)) 2 hrs.toInt64) 3 su.toInt64) 4 ((nI mc).toInt64)) 5 ((nI cnt).toInt64)) 6 gone) 7 (sumP lv S 0 0 (F - 1) (S - 1))) 8 ((dryP lv S 0 0 (F - 1) (S - 1)).toInt64)) 9 ((nI (driestM lv F S)).toInt64)) 10 ((pairsM lv (F * S)).toInt64)) 11 ((untilD su ed F S lv).toInt64)) 12 (sumP (flowR su ed F S 3 lv).2 S 0 0 (F - 1) (S - 1))) 13 (((flowR su ed F S 3 lv).1).toInt64)) 14 ((wantD ed F S 5 lv).toInt64)))) Φ Ψ
        refine j_iload dX4_digest_304 rfl ?_
        refine j_aload_n dX4_digest_306 rfl ?_
        refine j_get fl_X4_13 dX4_digest_307 (by omega) ((up_ne (by omega)).trans m04) rfl ?_
        refine j_icmp_ge_t (tgt := 345) dX4_digest_310 (by decide) (nI_le' (by omega) (by omega) (by omega)) ?_
        refine j_iconst (v := nI 0) dX4_digest_345 (by decide) ?_
        refine j_istore (L' := [some (.ref (ad 63)), some (.ref (ad p9)), some (.long (dgSs lv ed F S (mgFs lv F S (mgHead hrs su gone lv ed F S cnt mc)))), none, some (.int (nI 0)), none, none, none, none]) dX4_digest_346 (by decide) rfl rfl ?_
        refine lpf_ind (b := fun k d => d * 31 + (chgC lv (fun i => mk (128 * k + i)) (F * S)).toInt64) (P := fun (m9 : Nat) (y : Int64) => J g mX4_digest 5 0 0 348 [some (.ref (ad 63)), some (.ref (ad p9)), some (.long y), none, some (.int (nI m9)), none, none, none, none] [] n ad (va_up E4 p9 (aL g 15 (vp_updL (vp_updL (vp_updL (vp_updL (vp_updL (vp_updL (vp_updL (vp_updL (vp_updL (vp_updL (vp_updL (vp_updL (vp_updL (vp_updL (vp_updL (fun _ => 0) 0 ((nI F).toInt64)) 1 ((nI S).toInt64)) 2 hrs.toInt64) 3 su.toInt64) 4 ((nI mc).toInt64)) 5 ((nI cnt).toInt64)) 6 gone) 7 (sumP lv S 0 0 (F - 1) (S - 1))) 8 ((dryP lv S 0 0 (F - 1) (S - 1)).toInt64)) 9 ((nI (driestM lv F S)).toInt64)) 10 ((pairsM lv (F * S)).toInt64)) 11 ((untilD su ed F S lv).toInt64)) 12 (sumP (flowR su ed F S 3 lv).2 S 0 0 (F - 1) (S - 1))) 13 (((flowR su ed F S 3 lv).1).toInt64)) 14 ((wantD ed F S 5 lv).toInt64)))) Φ Ψ) (N := mc) 0 ?_ mc (dgSs lv ed F S (mgFs lv F S (mgHead hrs su gone lv ed F S cnt mc))) (by omega) ?_
        · intro m9 y hm90 hm9 ih
          show J g mX4_digest 5 0 0 348 [some (.ref (ad 63)), some (.ref (ad p9)), some (.long y), none, some (.int (nI m9)), none, none, none, none] [] n ad (va_up E4 p9 (aL g 15 (vp_updL (vp_updL (vp_updL (vp_updL (vp_updL (vp_updL (vp_updL (vp_updL (vp_updL (vp_updL (vp_updL (vp_updL (vp_updL (vp_updL (vp_updL (fun _ => 0) 0 ((nI F).toInt64)) 1 ((nI S).toInt64)) 2 hrs.toInt64) 3 su.toInt64) 4 ((nI mc).toInt64)) 5 ((nI cnt).toInt64)) 6 gone) 7 (sumP lv S 0 0 (F - 1) (S - 1))) 8 ((dryP lv S 0 0 (F - 1) (S - 1)).toInt64)) 9 ((nI (driestM lv F S)).toInt64)) 10 ((pairsM lv (F * S)).toInt64)) 11 ((untilD su ed F S lv).toInt64)) 12 (sumP (flowR su ed F S 3 lv).2 S 0 0 (F - 1) (S - 1))) 13 (((flowR su ed F S 3 lv).1).toInt64)) 14 ((wantD ed F S 5 lv).toInt64)))) Φ Ψ
          refine j_iload dX4_digest_348 rfl ?_
          refine j_aload_n dX4_digest_350 rfl ?_
          refine j_get fl_X4_45 dX4_digest_351 (by omega) ((up_ne (by omega)).trans m04) rfl ?_
          refine j_icmp_ge_f (tgt := 377) dX4_digest_354 (by decide) (nI_nle' (by omega) (by omega) (by omega)) ?_
          refine j_lload_n dX4_digest_357 rfl ?_
          refine j_ldc2 dX4_digest_358 cn_X4_193 ?_
          refine j_lmul dX4_digest_361 ?_
          refine j_aload_n dX4_digest_362 rfl ?_
          refine j_iload dX4_digest_363 rfl ?_
          refine j_cV (As := [.int (nI m9)]) (rest := [.long (y * 31)]) cm_X4_changed ci_X4_changed cs_X4_changed rfl ln_X4_169 (ci := 4) rfl dX4_digest_365 (d' := 1) (by decide) (by omega) ((up_ne (by omega)).trans m04) rfl rfl (Nat.le_of_ble_eq_true rfl) (Nat.le_of_ble_eq_true rfl) (s_X4_changed (MR.kept D4 (fun k h1 h2 => up_ne (by omega))) m9 hm9) ?_
          refine j_i2l dX4_digest_368 ?_
          refine j_ladd dX4_digest_369 ?_
          refine j_lstore_n (L' := [some (.ref (ad 63)), some (.ref (ad p9)), some (.long ((y * 31) + ((chgC lv (fun k => mk (128 * m9 + k)) (F * S)).toInt64))), none, some (.int (nI m9)), none, none, none, none]) dX4_digest_370 (by decide) rfl rfl ?_
          refine j_iinc (v := nI (m9 + 1)) (L' := [some (.ref (ad 63)), some (.ref (ad p9)), some (.long ((y * 31) + ((chgC lv (fun k => mk (128 * m9 + k)) (F * S)).toInt64))), none, some (.int (nI (m9 + 1))), none, none, none, none]) dX4_digest_371 (by decide) rfl (nI_1 _) rfl rfl ?_
          refine j_goto (tgt := 348) dX4_digest_374 (by decide) ?_
          exact ih _ rfl
        · skip
          show J g mX4_digest 5 0 0 348 [some (.ref (ad 63)), some (.ref (ad p9)), some (.long (mgAll hrs su gone lv ed F S cnt mc mk)), none, some (.int (nI mc)), none, none, none, none] [] n ad (va_up E4 p9 (aL g 15 (vp_updL (vp_updL (vp_updL (vp_updL (vp_updL (vp_updL (vp_updL (vp_updL (vp_updL (vp_updL (vp_updL (vp_updL (vp_updL (vp_updL (vp_updL (fun _ => 0) 0 ((nI F).toInt64)) 1 ((nI S).toInt64)) 2 hrs.toInt64) 3 su.toInt64) 4 ((nI mc).toInt64)) 5 ((nI cnt).toInt64)) 6 gone) 7 (sumP lv S 0 0 (F - 1) (S - 1))) 8 ((dryP lv S 0 0 (F - 1) (S - 1)).toInt64)) 9 ((nI (driestM lv F S)).toInt64)) 10 ((pairsM lv (F * S)).toInt64)) 11 ((untilD su ed F S lv).toInt64)) 12 (sumP (flowR su ed F S 3 lv).2 S 0 0 (F - 1) (S - 1))) 13 (((flowR su ed F S 3 lv).1).toInt64)) 14 ((wantD ed F S 5 lv).toInt64)))) Φ Ψ
          refine j_iload dX4_digest_348 rfl ?_
          refine j_aload_n dX4_digest_350 rfl ?_
          refine j_get fl_X4_45 dX4_digest_351 (by omega) ((up_ne (by omega)).trans m04) rfl ?_
          refine j_icmp_ge_t (tgt := 377) dX4_digest_354 (by decide) (nI_le' (by omega) (by omega) (by omega)) ?_
          refine j_lload_n dX4_digest_377 rfl ?_
          refine j_locals (L' := []) (fun i v q => by cases q) ?_
          exact h _ ⟨(MR.kept D4 (fun k h1 h2 => up_ne (by omega))), fun k hk hp => ((up_ne (by omega)).trans (z4 k hk hp))⟩
theorem s_X4_digest {g : jG} {n : Nat} {ad : Nat → Nat} {E : Nat → va_E} {th : Int32} {F S : Nat} {hrs su : Int32} {gone : Int64} {lv ed : Nat → Int32} {first cnt : Nat} {ah : Nat → Int32} {mc : Nat} {mk : Nat → Int32} (D : MR g n ad E th F S hrs su gone lv ed first cnt ah mc mk) : ∀ (Φ : Option Value → jR) (Ψ : String → jR), (∀ E', (fun E9 => MR g n ad E9 0 F S hrs su gone lv ed first cnt ah mc mk ∧ ∀ k, (k < 63 ∨ 69 ≤ k) → E9 k = E k) E' → Φ (some (.long (mgAll hrs su gone lv ed F S cnt mc mk))) n ad E') → JE g mX4_digest 5 1 15 [.ref (ad 63)] n ad E Φ Ψ := by
  have hn := D.2.2.2.2.2.2.2.2.2.2.2.2.2
  obtain ⟨m0, m1, m2, m3, m4, ⟨wk, m5⟩, hF, hS, hFp, hSp, hfi, hcn, hmc, hn⟩ := id D
  intro Φ Ψ h
  show J g mX4_digest 5 1 15 0 [some (.ref (ad 63)), none, none, none, none, none, none, none, none] [] n ad E Φ Ψ
  refine j_aload_n dX4_digest_0 rfl ?_
  refine j_iconst (v := 0) dX4_digest_1 (by decide) ?_
  refine j_put fl_X4_38 fp_X4 dX4_digest_2 (by omega) m0 (Or.inl rfl) rfl rfl (Nat.le_of_ble_eq_true rfl) ?_
  refine j_bipush (v := nI 15) dX4_digest_5 (by decide) ?_
  refine j_newL (N := 15) ac_long (by decide) dX4_digest_7 (fun ad1 hag => ?_)
  rw [← hag 63 (by omega)]
  have D1 : MR g (n + 1) ad1 (va_up (va_up E 63 (.inr (4, [.int 0, .int (nI F), .int (nI S), .int hrs, .int su, .long gone, .ref (ad 64), .ref (ad 65), .ref (ad 66), .int (nI first), .int (nI cnt), .ref (ad 67), .int (nI mc), .ref (ad 68)]))) n (aL g 15 (fun _ => 0))) 0 F S hrs su gone lv ed first cnt ah mc mk := MR.kept (MR.more (MR.addr (MR.setO D ⟨by omega, by omega, by omega, by omega, by omega, by omega, by omega⟩) hag) (Nat.le_succ n)) (fun k h1 h2 => up_ne (by omega))
  refine s_digest_tail (th := th) D1 n (by omega) (Nat.lt_succ_self n) up_eq (fun E9 q9 => ?_)
  refine j_drop (Nat.le_succ n) (j_addr (fun k hk => hag k hk) ?_)
  refine j_world (E' := fun k => if k < n then E9 k else E k) (fun k hk => (if_pos hk).symm) ?_
  refine j_lret dX4_digest_378 rfl (h _ ⟨?_, ?_⟩)
  · exact MR.kept (E := E9) (MR.addr (MR.less q9.1 (n' := n) (by omega)) (fun k hk => (hag k hk).symm)) (fun k h1 h2 => if_pos (by omega))
  · intro k hk
    show (if k < n then E9 k else E k) = E k
    by_cases q : k < n
    · rw [if_pos q, q9.2 k hk (Nat.ne_of_lt q)]
      exact (up_ne (by omega)).trans (up_ne (by omega))
    · rw [if_neg q]
