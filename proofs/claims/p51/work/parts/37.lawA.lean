/-! The law's round, piece by piece. -/
theorem lpf_fst {α β : Type} {p : Nat → α → α} {q : Nat → β → β} : ∀ (k j : Nat) (y : α × β), (lpf (fun i (y : α × β) => (p i y.1, q i y.2)) j k y).1 = lpf p j k y.1
  | 0, _, _ => rfl
  | k + 1, j, y => lpf_fst k (j + 1) (p j y.1, q j y.2)
theorem lpf_snd {α β : Type} {p : Nat → α → α} {q : Nat → β → β} : ∀ (k j : Nat) (y : α × β), (lpf (fun i (y : α × β) => (p i y.1, q i y.2)) j k y).2 = lpf q j k y.2
  | 0, _, _ => rfl
  | k + 1, j, y => lpf_snd k (j + 1) (p j y.1, q j y.2)
set_option maxRecDepth 100000 in
set_option maxHeartbeats 4000000 in
theorem lw_s2 {g : jG} {n : Nat} {ad : Nat → Nat} {E : Nat → va_E} {i F S : Nat} {hrs su : Int32} {gone : Int64} {lv ed : Nat → Int32} {old cnt : Nat} {dr : Nat → Nat → Int32} {mc : Nat} {mr : Nat → Nat → Int32} {m : Nat → Nat → Int32} {e : Nat → Int32} {A B : Nat → Nat → Nat → Int32} (C : CR g n ad E F S hrs su gone lv ed old cnt dr mc mr) {tm : Nat} {x : Int32} {f s : Nat} (hf : f < F) (hs : s < S) {bc bs : Nat} {Φ : Option Value → jR} {Ψ : String → jR} (K : J g mL_law 13 bc bs 342 [some (.ref g.1.2.1), some (.ref (ad 0)), some (.ref (ad 63)), some (.int (nI tm)), some (.int x), some (.long (dgAll hrs su gone lv ed F S cnt mc mr)), none, some (.int (nI F)), some (.int (nI S)), some (.int (nI (F * S))), some (.int (nI f)), some (.int (nI s)), some (.long (sumP lv S 0 0 (F - 1) (S - 1))), none, some (.long 0), none, some (.int (uptC lv (F * S) 0)), none, none, none, none, none, none, none, none, none, none, none, none, none, none, none, none, none, none, none, none, none, none, none, none, none] [] n ad E Φ Ψ) : J g mL_law 13 bc bs 138 [some (.ref g.1.2.1), some (.ref (ad 0)), some (.ref (ad 63)), some (.int (nI tm)), some (.int x), some (.long (dgAll hrs su gone lv ed F S cnt mc mr)), none, some (.int (nI F)), some (.int (nI S)), some (.int (nI (F * S))), some (.int (nI f)), some (.int (nI s)), some (.long 0), none, some (.long 0), none, some (.int 0), some (.int (nI 0)), none, none, none, none, none, none, none, none, none, none, none, none, none, none, none, none, none, none, none, none, none, none, none, none] [] n ad E Φ Ψ := by
  obtain ⟨hF8, hS16, hF1, hS1, hold, hcn, hmc, hN, hn63⟩ := C.bd
  have hN1 := fs1 hF1 hS1
  have hD := driest_top lv hF1 hS1 hS16
  refine lpf_ind (b := fun k (y : Int64 × Int32) => (y.1 + sumP lv S k 0 k (S - 1), y.2 + dryP lv S k 0 k (S - 1))) (P := fun (k : Nat) (y : Int64 × Int32) => J g mL_law 13 bc bs 138 [some (.ref g.1.2.1), some (.ref (ad 0)), some (.ref (ad 63)), some (.int (nI tm)), some (.int x), some (.long (dgAll hrs su gone lv ed F S cnt mc mr)), none, some (.int (nI F)), some (.int (nI S)), some (.int (nI (F * S))), some (.int (nI f)), some (.int (nI s)), some (.long y.1), none, some (.long 0), none, some (.int y.2), some (.int (nI k)), none, none, none, none, none, none, none, none, none, none, none, none, none, none, none, none, none, none, none, none, none, none, none, none] [] n ad E Φ Ψ) (N := F) 0 ?_ F ((0, 0) : Int64 × Int32) (by omega) ?_
  · intro k y hk0 hk ih
    show J g mL_law 13 bc bs 138 [some (.ref g.1.2.1), some (.ref (ad 0)), some (.ref (ad 63)), some (.int (nI tm)), some (.int x), some (.long (dgAll hrs su gone lv ed F S cnt mc mr)), none, some (.int (nI F)), some (.int (nI S)), some (.int (nI (F * S))), some (.int (nI f)), some (.int (nI s)), some (.long y.1), none, some (.long 0), none, some (.int y.2), some (.int (nI k)), none, none, none, none, none, none, none, none, none, none, none, none, none, none, none, none, none, none, none, none, none, none, none, none] [] n ad E Φ Ψ
    have hH := high_top lv k hS1
    have hR := run_top lv k hS1 hS16
    have hG := long_dry lv k hS1 hS16
    refine j_iload dL_law_138 rfl ?_
    refine j_iload dL_law_140 rfl ?_
    refine j_icmp_ge_f (tgt := 342) dL_law_142 (by decide) (nI_nle' (by omega) (by omega) (by omega)) ?_
    refine j_lload dL_law_145 rfl ?_
    refine j_aload_n dL_law_147 rfl ?_
    refine j_iload dL_law_148 rfl ?_
    refine j_cV (As := [.int (nI k)]) (rest := [.long y.1]) cm_X3_flightSum ci_X3_flightSum cs_X3_flightSum rfl ln_L_128 (ci := 3) rfl dL_law_150 (d' := 8) (by decide) (by omega) C.1 rfl rfl (Nat.le_of_ble_eq_true rfl) (Nat.le_of_ble_eq_true rfl) (s_X3_flightSum C k hk) ?_
    refine j_ladd dL_law_153 ?_
    refine j_lstore (L' := [some (.ref g.1.2.1), some (.ref (ad 0)), some (.ref (ad 63)), some (.int (nI tm)), some (.int x), some (.long (dgAll hrs su gone lv ed F S cnt mc mr)), none, some (.int (nI F)), some (.int (nI S)), some (.int (nI (F * S))), some (.int (nI f)), some (.int (nI s)), some (.long (y.1 + (sumP lv S k 0 k (S - 1)))), none, some (.long 0), none, some (.int y.2), some (.int (nI k)), none, none, none, none, none, none, none, none, none, none, none, none, none, none, none, none, none, none, none, none, none, none, none, none]) dL_law_154 (by decide) rfl rfl ?_
    refine j_aload_n dL_law_156 rfl ?_
    refine j_iload dL_law_157 rfl ?_
    refine j_iconst (v := nI 0) dL_law_159 (by decide) ?_
    refine j_iload dL_law_160 rfl ?_
    refine j_iload dL_law_162 rfl ?_
    refine j_iconst (v := nI 1) dL_law_164 (by decide) ?_
    refine j_isub dL_law_165 ?_
    refine j_topi (y := nI (S - 1)) (pk_sub (by omega)) ?_
    refine j_cV (As := [.int (nI k), .int (nI 0), .int (nI k), .int (nI (S - 1))]) (rest := []) cm_X3_dryIn ci_X3_dryIn cs_X3_dryIn rfl ln_L_132 (ci := 3) rfl dL_law_166 (d' := 10) (by decide) (by omega) C.1 rfl rfl (Nat.le_of_ble_eq_true rfl) (Nat.le_of_ble_eq_true rfl) (s_X3_dryIn C k 0 k (S - 1) hk (by omega) hk (by omega) (Nat.le_refl _) (by omega)) ?_
    refine j_istore (L' := [some (.ref g.1.2.1), some (.ref (ad 0)), some (.ref (ad 63)), some (.int (nI tm)), some (.int x), some (.long (dgAll hrs su gone lv ed F S cnt mc mr)), none, some (.int (nI F)), some (.int (nI S)), some (.int (nI (F * S))), some (.int (nI f)), some (.int (nI s)), some (.long (y.1 + (sumP lv S k 0 k (S - 1)))), none, some (.long 0), none, some (.int y.2), some (.int (nI k)), some (.int (dryP lv S k 0 k (S - 1))), none, none, none, none, none, none, none, none, none, none, none, none, none, none, none, none, none, none, none, none, none, none, none]) dL_law_169 (by decide) rfl rfl ?_
    refine j_iload dL_law_171 rfl ?_
    refine j_iload dL_law_173 rfl ?_
    refine j_iadd dL_law_175 ?_
    refine j_istore (L' := [some (.ref g.1.2.1), some (.ref (ad 0)), some (.ref (ad 63)), some (.int (nI tm)), some (.int x), some (.long (dgAll hrs su gone lv ed F S cnt mc mr)), none, some (.int (nI F)), some (.int (nI S)), some (.int (nI (F * S))), some (.int (nI f)), some (.int (nI s)), some (.long (y.1 + (sumP lv S k 0 k (S - 1)))), none, some (.long 0), none, some (.int (y.2 + (dryP lv S k 0 k (S - 1)))), some (.int (nI k)), some (.int (dryP lv S k 0 k (S - 1))), none, none, none, none, none, none, none, none, none, none, none, none, none, none, none, none, none, none, none, none, none, none, none]) dL_law_176 (by decide) rfl rfl ?_
    refine j_aload_n dL_law_178 rfl ?_
    refine j_iload dL_law_179 rfl ?_
    refine j_cV (As := [.int (nI k)]) (rest := []) cm_X3_longestDry ci_X3_longestDry cs_X3_longestDry rfl ln_L_136 (ci := 3) rfl dL_law_181 (d' := 8) (by decide) (by omega) C.1 rfl rfl (Nat.le_of_ble_eq_true rfl) (Nat.le_of_ble_eq_true rfl) (s_X3_longestDry C k hk) ?_
    refine j_iload dL_law_184 rfl ?_
    refine j_icmp_gt_f (tgt := 259) dL_law_186 (by decide) hG.1 ?_
    refine j_aload_n dL_law_189 rfl ?_
    refine j_iload dL_law_190 rfl ?_
    refine j_cV (As := [.int (nI k)]) (rest := []) cm_X3_longestDry ci_X3_longestDry cs_X3_longestDry rfl ln_L_136 (ci := 3) rfl dL_law_192 (d' := 8) (by decide) (by omega) C.1 rfl rfl (Nat.le_of_ble_eq_true rfl) (Nat.le_of_ble_eq_true rfl) (s_X3_longestDry C k hk) ?_
    refine j_if_lt_f (tgt := 259) dL_law_195 (by decide) hG.2 ?_
    refine j_iload dL_law_198 rfl ?_
    refine j_aload_n dL_law_200 rfl ?_
    refine j_aload_n dL_law_201 rfl ?_
    refine j_cV (As := []) (rest := [.ref (ad 0), .int (dryP lv S k 0 k (S - 1))]) cm_X3_driestFlight ci_X3_driestFlight cs_X3_driestFlight rfl ln_L_139 (ci := 3) rfl dL_law_202 (d' := 3) (by decide) (by omega) C.1 rfl rfl (Nat.le_of_ble_eq_true rfl) (Nat.le_of_ble_eq_true rfl) (s_X3_driestFlight C) ?_
    refine j_iconst (v := nI 0) dL_law_205 (by decide) ?_
    refine j_aload_n dL_law_206 rfl ?_
    refine j_cV (As := []) (rest := [.int (nI 0), .int (nI ((driestR lv F S).1)), .ref (ad 0), .int (dryP lv S k 0 k (S - 1))]) cm_X3_driestFlight ci_X3_driestFlight cs_X3_driestFlight rfl ln_L_139 (ci := 3) rfl dL_law_207 (d' := 3) (by decide) (by omega) C.1 rfl rfl (Nat.le_of_ble_eq_true rfl) (Nat.le_of_ble_eq_true rfl) (s_X3_driestFlight C) ?_
    refine j_iload dL_law_210 rfl ?_
    refine j_iconst (v := nI 1) dL_law_212 (by decide) ?_
    refine j_isub dL_law_213 ?_
    refine j_topi (y := nI (S - 1)) (pk_sub (by omega)) ?_
    refine j_cV (As := [.int (nI ((driestR lv F S).1)), .int (nI 0), .int (nI ((driestR lv F S).1)), .int (nI (S - 1))]) (rest := [.int (dryP lv S k 0 k (S - 1))]) cm_X3_dryIn ci_X3_dryIn cs_X3_dryIn rfl ln_L_132 (ci := 3) rfl dL_law_214 (d' := 10) (by decide) (by omega) C.1 rfl rfl (Nat.le_of_ble_eq_true rfl) (Nat.le_of_ble_eq_true rfl) (s_X3_dryIn C (driestR lv F S).1 0 (driestR lv F S).1 (S - 1) hD.1 (by omega) hD.1 (by omega) (Nat.le_refl _) (by omega)) ?_
    refine j_icmp_gt_f (tgt := 259) dL_law_217 (by decide) (hD.2 k hk) ?_
    refine j_aload_n dL_law_220 rfl ?_
    refine j_iload dL_law_221 rfl ?_
    refine j_cV (As := [.int (nI k)]) (rest := []) cm_X3_bestRun ci_X3_bestRun cs_X3_bestRun rfl ln_L_142 (ci := 3) rfl dL_law_223 (d' := 8) (by decide) (by omega) C.1 rfl rfl (Nat.le_of_ble_eq_true rfl) (Nat.le_of_ble_eq_true rfl) (s_X3_bestRun C k hk) ?_
    refine j_aload_n dL_law_226 rfl ?_
    refine j_iload dL_law_227 rfl ?_
    refine j_cV (As := [.int (nI k)]) (rest := [.long ((bestRunR lv S k).1)]) cm_X3_flightSum ci_X3_flightSum cs_X3_flightSum rfl ln_L_128 (ci := 3) rfl dL_law_229 (d' := 8) (by decide) (by omega) C.1 rfl rfl (Nat.le_of_ble_eq_true rfl) (Nat.le_of_ble_eq_true rfl) (s_X3_flightSum C k hk) ?_
    refine j_lcmp dL_law_232 ?_
    refine j_if_lt_f (tgt := 259) dL_law_233 (by decide) (fun z => absurd ((lg_cmp_lt _ _).mp z) (Int64.not_lt.mpr hR.1)) ?_
    refine j_aload_n dL_law_236 rfl ?_
    refine j_iload dL_law_237 rfl ?_
    refine j_cV (As := [.int (nI k)]) (rest := []) cm_X3_bestRun ci_X3_bestRun cs_X3_bestRun rfl ln_L_142 (ci := 3) rfl dL_law_239 (d' := 8) (by decide) (by omega) C.1 rfl rfl (Nat.le_of_ble_eq_true rfl) (Nat.le_of_ble_eq_true rfl) (s_X3_bestRun C k hk) ?_
    refine j_aload_n dL_law_242 rfl ?_
    refine j_iload dL_law_243 rfl ?_
    refine j_aload_n dL_law_245 rfl ?_
    refine j_iload dL_law_246 rfl ?_
    refine j_cV (As := [.int (nI k)]) (rest := [.int (nI k), .ref (ad 0), .long ((bestRunR lv S k).1)]) cm_X3_highestAt ci_X3_highestAt cs_X3_highestAt rfl ln_L_145 (ci := 3) rfl dL_law_248 (d' := 8) (by decide) (by omega) C.1 rfl rfl (Nat.le_of_ble_eq_true rfl) (Nat.le_of_ble_eq_true rfl) (s_X3_highestAt C k hk) ?_
    refine j_cV (As := [.int (nI k), .int (nI (highR lv S k))]) (rest := [.long ((bestRunR lv S k).1)]) cm_X3_levelAt ci_X3_levelAt cs_X3_levelAt rfl ln_L_148 (ci := 3) rfl dL_law_251 (d' := 9) (by decide) (by omega) C.1 rfl rfl (Nat.le_of_ble_eq_true rfl) (Nat.le_of_ble_eq_true rfl) (s_X3_levelAt C k (highR lv S k) hk hH.1) ?_
    refine j_i2l dL_law_254 ?_
    refine j_lcmp dL_law_255 ?_
    refine j_if_ge_t (tgt := 261) dL_law_256 (by decide) ((lg_cmp_ge _ _).mpr (hR.2 _ hH.1)) ?_
    refine j_iconst (v := nI 0) dL_law_261 (by decide) ?_
    refine j_istore (L' := [some (.ref g.1.2.1), some (.ref (ad 0)), some (.ref (ad 63)), some (.int (nI tm)), some (.int x), some (.long (dgAll hrs su gone lv ed F S cnt mc mr)), none, some (.int (nI F)), some (.int (nI S)), some (.int (nI (F * S))), some (.int (nI f)), some (.int (nI s)), some (.long (y.1 + (sumP lv S k 0 k (S - 1)))), none, some (.long 0), none, some (.int (y.2 + (dryP lv S k 0 k (S - 1)))), some (.int (nI k)), some (.int (dryP lv S k 0 k (S - 1))), some (.int (nI 0)), none, none, none, none, none, none, none, none, none, none, none, none, none, none, none, none, none, none, none, none, none, none]) dL_law_262 (by decide) rfl rfl ?_
    have ih0 := ih
    clear ih
    refine up_ind (P := fun (o : Nat) => J g mL_law 13 bc bs 264 [some (.ref g.1.2.1), some (.ref (ad 0)), some (.ref (ad 63)), some (.int (nI tm)), some (.int x), some (.long (dgAll hrs su gone lv ed F S cnt mc mr)), none, some (.int (nI F)), some (.int (nI S)), some (.int (nI (F * S))), some (.int (nI f)), some (.int (nI s)), some (.long (y.1 + (sumP lv S k 0 k (S - 1)))), none, some (.long 0), none, some (.int (y.2 + (dryP lv S k 0 k (S - 1)))), some (.int (nI k)), some (.int (dryP lv S k 0 k (S - 1))), some (.int (nI o)), none, none, none, none, none, none, none, none, none, none, none, none, none, none, none, none, none, none, none, none, none, none] [] n ad E Φ Ψ) (N := S) 0 ?_ S (by omega) ?_
    · intro o ho0 ho ih2
      show J g mL_law 13 bc bs 264 [some (.ref g.1.2.1), some (.ref (ad 0)), some (.ref (ad 63)), some (.int (nI tm)), some (.int x), some (.long (dgAll hrs su gone lv ed F S cnt mc mr)), none, some (.int (nI F)), some (.int (nI S)), some (.int (nI (F * S))), some (.int (nI f)), some (.int (nI s)), some (.long (y.1 + (sumP lv S k 0 k (S - 1)))), none, some (.long 0), none, some (.int (y.2 + (dryP lv S k 0 k (S - 1)))), some (.int (nI k)), some (.int (dryP lv S k 0 k (S - 1))), some (.int (nI o)), none, none, none, none, none, none, none, none, none, none, none, none, none, none, none, none, none, none, none, none, none, none] [] n ad E Φ Ψ
      by_cases hlt : o < highR lv S k
      · skip
        refine j_iload dL_law_264 rfl ?_
        refine j_iload dL_law_266 rfl ?_
        refine j_icmp_ge_f (tgt := 336) dL_law_268 (by decide) (nI_nle' (by omega) (by omega) (by omega)) ?_
        refine j_aload_n dL_law_271 rfl ?_
        refine j_iload dL_law_272 rfl ?_
        refine j_iload dL_law_274 rfl ?_
        refine j_cV (As := [.int (nI k), .int (nI o)]) (rest := []) cm_X3_levelAt ci_X3_levelAt cs_X3_levelAt rfl ln_L_148 (ci := 3) rfl dL_law_276 (d' := 9) (by decide) (by omega) C.1 rfl rfl (Nat.le_of_ble_eq_true rfl) (Nat.le_of_ble_eq_true rfl) (s_X3_levelAt C k o hk ho) ?_
        refine j_aload_n dL_law_279 rfl ?_
        refine j_iload dL_law_280 rfl ?_
        refine j_aload_n dL_law_282 rfl ?_
        refine j_iload dL_law_283 rfl ?_
        refine j_cV (As := [.int (nI k)]) (rest := [.int (nI k), .ref (ad 0), .int (lv (k * S + o))]) cm_X3_highestAt ci_X3_highestAt cs_X3_highestAt rfl ln_L_145 (ci := 3) rfl dL_law_285 (d' := 8) (by decide) (by omega) C.1 rfl rfl (Nat.le_of_ble_eq_true rfl) (Nat.le_of_ble_eq_true rfl) (s_X3_highestAt C k hk) ?_
        refine j_cV (As := [.int (nI k), .int (nI (highR lv S k))]) (rest := [.int (lv (k * S + o))]) cm_X3_levelAt ci_X3_levelAt cs_X3_levelAt rfl ln_L_148 (ci := 3) rfl dL_law_288 (d' := 9) (by decide) (by omega) C.1 rfl rfl (Nat.le_of_ble_eq_true rfl) (Nat.le_of_ble_eq_true rfl) (s_X3_levelAt C k (highR lv S k) hk hH.1) ?_
        refine j_icmp_gt_f (tgt := 328) dL_law_291 (by decide) (hH.2 o ho).1 ?_
        refine j_iload dL_law_294 rfl ?_
        refine j_aload_n dL_law_296 rfl ?_
        refine j_iload dL_law_297 rfl ?_
        refine j_cV (As := [.int (nI k)]) (rest := [.int (nI o)]) cm_X3_highestAt ci_X3_highestAt cs_X3_highestAt rfl ln_L_145 (ci := 3) rfl dL_law_299 (d' := 8) (by decide) (by omega) C.1 rfl rfl (Nat.le_of_ble_eq_true rfl) (Nat.le_of_ble_eq_true rfl) (s_X3_highestAt C k hk) ?_
        refine j_icmp_ge_f (tgt := 330) dL_law_302 (by decide) (nI_nle' (by omega) (by omega) (by omega)) ?_
        refine j_aload_n dL_law_305 rfl ?_
        refine j_iload dL_law_306 rfl ?_
        refine j_iload dL_law_308 rfl ?_
        refine j_cV (As := [.int (nI k), .int (nI o)]) (rest := []) cm_X3_levelAt ci_X3_levelAt cs_X3_levelAt rfl ln_L_148 (ci := 3) rfl dL_law_310 (d' := 9) (by decide) (by omega) C.1 rfl rfl (Nat.le_of_ble_eq_true rfl) (Nat.le_of_ble_eq_true rfl) (s_X3_levelAt C k o hk ho) ?_
        refine j_aload_n dL_law_313 rfl ?_
        refine j_iload dL_law_314 rfl ?_
        refine j_aload_n dL_law_316 rfl ?_
        refine j_iload dL_law_317 rfl ?_
        refine j_cV (As := [.int (nI k)]) (rest := [.int (nI k), .ref (ad 0), .int (lv (k * S + o))]) cm_X3_highestAt ci_X3_highestAt cs_X3_highestAt rfl ln_L_145 (ci := 3) rfl dL_law_319 (d' := 8) (by decide) (by omega) C.1 rfl rfl (Nat.le_of_ble_eq_true rfl) (Nat.le_of_ble_eq_true rfl) (s_X3_highestAt C k hk) ?_
        refine j_cV (As := [.int (nI k), .int (nI (highR lv S k))]) (rest := [.int (lv (k * S + o))]) cm_X3_levelAt ci_X3_levelAt cs_X3_levelAt rfl ln_L_148 (ci := 3) rfl dL_law_322 (d' := 9) (by decide) (by omega) C.1 rfl rfl (Nat.le_of_ble_eq_true rfl) (Nat.le_of_ble_eq_true rfl) (s_X3_levelAt C k (highR lv S k) hk hH.1) ?_
        refine j_icmp_ne_t (tgt := 330) dL_law_325 (by decide) ((hH.2 o ho).2 hlt) ?_
        refine j_iinc (v := nI (o + 1)) (L' := [some (.ref g.1.2.1), some (.ref (ad 0)), some (.ref (ad 63)), some (.int (nI tm)), some (.int x), some (.long (dgAll hrs su gone lv ed F S cnt mc mr)), none, some (.int (nI F)), some (.int (nI S)), some (.int (nI (F * S))), some (.int (nI f)), some (.int (nI s)), some (.long (y.1 + (sumP lv S k 0 k (S - 1)))), none, some (.long 0), none, some (.int (y.2 + (dryP lv S k 0 k (S - 1)))), some (.int (nI k)), some (.int (dryP lv S k 0 k (S - 1))), some (.int (nI (o + 1))), none, none, none, none, none, none, none, none, none, none, none, none, none, none, none, none, none, none, none, none, none, none]) dL_law_330 (by decide) rfl (nI_1 _) rfl rfl ?_
        refine j_goto (tgt := 264) dL_law_333 (by decide) ?_
        exact ih2
      · skip
        refine j_iload dL_law_264 rfl ?_
        refine j_iload dL_law_266 rfl ?_
        refine j_icmp_ge_f (tgt := 336) dL_law_268 (by decide) (nI_nle' (by omega) (by omega) (by omega)) ?_
        refine j_aload_n dL_law_271 rfl ?_
        refine j_iload dL_law_272 rfl ?_
        refine j_iload dL_law_274 rfl ?_
        refine j_cV (As := [.int (nI k), .int (nI o)]) (rest := []) cm_X3_levelAt ci_X3_levelAt cs_X3_levelAt rfl ln_L_148 (ci := 3) rfl dL_law_276 (d' := 9) (by decide) (by omega) C.1 rfl rfl (Nat.le_of_ble_eq_true rfl) (Nat.le_of_ble_eq_true rfl) (s_X3_levelAt C k o hk ho) ?_
        refine j_aload_n dL_law_279 rfl ?_
        refine j_iload dL_law_280 rfl ?_
        refine j_aload_n dL_law_282 rfl ?_
        refine j_iload dL_law_283 rfl ?_
        refine j_cV (As := [.int (nI k)]) (rest := [.int (nI k), .ref (ad 0), .int (lv (k * S + o))]) cm_X3_highestAt ci_X3_highestAt cs_X3_highestAt rfl ln_L_145 (ci := 3) rfl dL_law_285 (d' := 8) (by decide) (by omega) C.1 rfl rfl (Nat.le_of_ble_eq_true rfl) (Nat.le_of_ble_eq_true rfl) (s_X3_highestAt C k hk) ?_
        refine j_cV (As := [.int (nI k), .int (nI (highR lv S k))]) (rest := [.int (lv (k * S + o))]) cm_X3_levelAt ci_X3_levelAt cs_X3_levelAt rfl ln_L_148 (ci := 3) rfl dL_law_288 (d' := 9) (by decide) (by omega) C.1 rfl rfl (Nat.le_of_ble_eq_true rfl) (Nat.le_of_ble_eq_true rfl) (s_X3_levelAt C k (highR lv S k) hk hH.1) ?_
        refine j_icmp_gt_f (tgt := 328) dL_law_291 (by decide) (hH.2 o ho).1 ?_
        refine j_iload dL_law_294 rfl ?_
        refine j_aload_n dL_law_296 rfl ?_
        refine j_iload dL_law_297 rfl ?_
        refine j_cV (As := [.int (nI k)]) (rest := [.int (nI o)]) cm_X3_highestAt ci_X3_highestAt cs_X3_highestAt rfl ln_L_145 (ci := 3) rfl dL_law_299 (d' := 8) (by decide) (by omega) C.1 rfl rfl (Nat.le_of_ble_eq_true rfl) (Nat.le_of_ble_eq_true rfl) (s_X3_highestAt C k hk) ?_
        refine j_icmp_ge_t (tgt := 330) dL_law_302 (by decide) (nI_le' (by omega) (by omega) (by omega)) ?_
        refine j_iinc (v := nI (o + 1)) (L' := [some (.ref g.1.2.1), some (.ref (ad 0)), some (.ref (ad 63)), some (.int (nI tm)), some (.int x), some (.long (dgAll hrs su gone lv ed F S cnt mc mr)), none, some (.int (nI F)), some (.int (nI S)), some (.int (nI (F * S))), some (.int (nI f)), some (.int (nI s)), some (.long (y.1 + (sumP lv S k 0 k (S - 1)))), none, some (.long 0), none, some (.int (y.2 + (dryP lv S k 0 k (S - 1)))), some (.int (nI k)), some (.int (dryP lv S k 0 k (S - 1))), some (.int (nI (o + 1))), none, none, none, none, none, none, none, none, none, none, none, none, none, none, none, none, none, none, none, none, none, none]) dL_law_330 (by decide) rfl (nI_1 _) rfl rfl ?_
        refine j_goto (tgt := 264) dL_law_333 (by decide) ?_
        exact ih2
    · skip
      show J g mL_law 13 bc bs 264 [some (.ref g.1.2.1), some (.ref (ad 0)), some (.ref (ad 63)), some (.int (nI tm)), some (.int x), some (.long (dgAll hrs su gone lv ed F S cnt mc mr)), none, some (.int (nI F)), some (.int (nI S)), some (.int (nI (F * S))), some (.int (nI f)), some (.int (nI s)), some (.long (y.1 + (sumP lv S k 0 k (S - 1)))), none, some (.long 0), none, some (.int (y.2 + (dryP lv S k 0 k (S - 1)))), some (.int (nI k)), some (.int (dryP lv S k 0 k (S - 1))), some (.int (nI S)), none, none, none, none, none, none, none, none, none, none, none, none, none, none, none, none, none, none, none, none, none, none] [] n ad E Φ Ψ
      refine j_iload dL_law_264 rfl ?_
      refine j_iload dL_law_266 rfl ?_
      refine j_icmp_ge_t (tgt := 336) dL_law_268 (by decide) (nI_le' (by omega) (by omega) (by omega)) ?_
      refine j_iinc (v := nI (k + 1)) (L' := [some (.ref g.1.2.1), some (.ref (ad 0)), some (.ref (ad 63)), some (.int (nI tm)), some (.int x), some (.long (dgAll hrs su gone lv ed F S cnt mc mr)), none, some (.int (nI F)), some (.int (nI S)), some (.int (nI (F * S))), some (.int (nI f)), some (.int (nI s)), some (.long (y.1 + (sumP lv S k 0 k (S - 1)))), none, some (.long 0), none, some (.int (y.2 + (dryP lv S k 0 k (S - 1)))), some (.int (nI (k + 1))), some (.int (dryP lv S k 0 k (S - 1))), some (.int (nI S)), none, none, none, none, none, none, none, none, none, none, none, none, none, none, none, none, none, none, none, none, none, none]) dL_law_336 (by decide) rfl (nI_1 _) rfl rfl ?_
      refine j_goto (tgt := 138) dL_law_339 (by decide) ?_
      refine j_clr 19 ?_
      refine j_clr 18 ?_
      exact ih0 _ rfl
  · skip
    show J g mL_law 13 bc bs 138 [some (.ref g.1.2.1), some (.ref (ad 0)), some (.ref (ad 63)), some (.int (nI tm)), some (.int x), some (.long (dgAll hrs su gone lv ed F S cnt mc mr)), none, some (.int (nI F)), some (.int (nI S)), some (.int (nI (F * S))), some (.int (nI f)), some (.int (nI s)), some (.long ((lpf (fun k (y : Int64 × Int32) => (y.1 + sumP lv S k 0 k (S - 1), y.2 + dryP lv S k 0 k (S - 1))) 0 F (0, 0)).1)), none, some (.long 0), none, some (.int ((lpf (fun k (y : Int64 × Int32) => (y.1 + sumP lv S k 0 k (S - 1), y.2 + dryP lv S k 0 k (S - 1))) 0 F (0, 0)).2)), some (.int (nI F)), none, none, none, none, none, none, none, none, none, none, none, none, none, none, none, none, none, none, none, none, none, none, none, none] [] n ad E Φ Ψ
    refine j_iload dL_law_138 rfl ?_
    refine j_iload dL_law_140 rfl ?_
    refine j_icmp_ge_t (tgt := 342) dL_law_142 (by decide) (nI_le' (by omega) (by omega) (by omega)) ?_
    have e1 : (lpf (fun k (y : Int64 × Int32) => (y.1 + sumP lv S k 0 k (S - 1), y.2 + dryP lv S k 0 k (S - 1))) 0 F (0, 0)).1 = sumP lv S 0 0 (F - 1) (S - 1) := (lpf_fst (p := fun k (x : Int64) => x + sumP lv S k 0 k (S - 1)) (q := fun k (c : Int32) => c + dryP lv S k 0 k (S - 1)) F 0 (0, 0)).trans (sum_flights lv hF1 hS1)
    have e2 : (lpf (fun k (y : Int64 × Int32) => (y.1 + sumP lv S k 0 k (S - 1), y.2 + dryP lv S k 0 k (S - 1))) 0 F (0, 0)).2 = uptC lv (F * S) 0 := (lpf_snd (p := fun k (x : Int64) => x + sumP lv S k 0 k (S - 1)) (q := fun k (c : Int32) => c + dryP lv S k 0 k (S - 1)) F 0 (0, 0)).trans (dry_flights lv hS1)
    rw [e1, e2]
    refine j_clr 17 ?_
    exact K
set_option maxRecDepth 100000 in
set_option maxHeartbeats 4000000 in
theorem lw_s3 {g : jG} {n : Nat} {ad : Nat → Nat} {E : Nat → va_E} {i F S : Nat} {hrs su : Int32} {gone : Int64} {lv ed : Nat → Int32} {old cnt : Nat} {dr : Nat → Nat → Int32} {mc : Nat} {mr : Nat → Nat → Int32} {m : Nat → Nat → Int32} {e : Nat → Int32} {A B : Nat → Nat → Nat → Int32} (C : CR g n ad E F S hrs su gone lv ed old cnt dr mc mr) {tm : Nat} {x : Int32} {f s : Nat} (hf : f < F) (hs : s < S) {bc bs : Nat} {Φ : Option Value → jR} {Ψ : String → jR} (K : J g mL_law 13 bc bs 369 [some (.ref g.1.2.1), some (.ref (ad 0)), some (.ref (ad 63)), some (.int (nI tm)), some (.int x), some (.long (dgAll hrs su gone lv ed F S cnt mc mr)), none, some (.int (nI F)), some (.int (nI S)), some (.int (nI (F * S))), some (.int (nI f)), some (.int (nI s)), some (.long (sumP lv S 0 0 (F - 1) (S - 1))), none, some (.long (sumP lv S 0 0 (F - 1) (S - 1))), none, some (.int (uptC lv (F * S) 0)), none, none, none, none, none, none, none, none, none, none, none, none, none, none, none, none, none, none, none, none, none, none, none, none, none] [] n ad E Φ Ψ) : J g mL_law 13 bc bs 342 [some (.ref g.1.2.1), some (.ref (ad 0)), some (.ref (ad 63)), some (.int (nI tm)), some (.int x), some (.long (dgAll hrs su gone lv ed F S cnt mc mr)), none, some (.int (nI F)), some (.int (nI S)), some (.int (nI (F * S))), some (.int (nI f)), some (.int (nI s)), some (.long (sumP lv S 0 0 (F - 1) (S - 1))), none, some (.long 0), none, some (.int (uptC lv (F * S) 0)), none, none, none, none, none, none, none, none, none, none, none, none, none, none, none, none, none, none, none, none, none, none, none, none, none] [] n ad E Φ Ψ := by
  obtain ⟨hF8, hS16, hF1, hS1, hold, hcn, hmc, hN, hn63⟩ := C.bd
  have hN1 := fs1 hF1 hS1
  refine j_iconst (v := nI 0) dL_law_342 (by decide) ?_
  refine j_istore (L' := [some (.ref g.1.2.1), some (.ref (ad 0)), some (.ref (ad 63)), some (.int (nI tm)), some (.int x), some (.long (dgAll hrs su gone lv ed F S cnt mc mr)), none, some (.int (nI F)), some (.int (nI S)), some (.int (nI (F * S))), some (.int (nI f)), some (.int (nI s)), some (.long (sumP lv S 0 0 (F - 1) (S - 1))), none, some (.long 0), none, some (.int (uptC lv (F * S) 0)), some (.int (nI 0)), none, none, none, none, none, none, none, none, none, none, none, none, none, none, none, none, none, none, none, none, none, none, none, none]) dL_law_343 (by decide) rfl rfl ?_
  refine lpf_ind (b := fun k (y : Int64) => y + sumP lv S 0 k (F - 1) k) (P := fun (k : Nat) (y : Int64) => J g mL_law 13 bc bs 345 [some (.ref g.1.2.1), some (.ref (ad 0)), some (.ref (ad 63)), some (.int (nI tm)), some (.int x), some (.long (dgAll hrs su gone lv ed F S cnt mc mr)), none, some (.int (nI F)), some (.int (nI S)), some (.int (nI (F * S))), some (.int (nI f)), some (.int (nI s)), some (.long (sumP lv S 0 0 (F - 1) (S - 1))), none, some (.long y), none, some (.int (uptC lv (F * S) 0)), some (.int (nI k)), none, none, none, none, none, none, none, none, none, none, none, none, none, none, none, none, none, none, none, none, none, none, none, none] [] n ad E Φ Ψ) (N := S) 0 ?_ S 0 (by omega) ?_
  · intro k y hk0 hk ih
    show J g mL_law 13 bc bs 345 [some (.ref g.1.2.1), some (.ref (ad 0)), some (.ref (ad 63)), some (.int (nI tm)), some (.int x), some (.long (dgAll hrs su gone lv ed F S cnt mc mr)), none, some (.int (nI F)), some (.int (nI S)), some (.int (nI (F * S))), some (.int (nI f)), some (.int (nI s)), some (.long (sumP lv S 0 0 (F - 1) (S - 1))), none, some (.long y), none, some (.int (uptC lv (F * S) 0)), some (.int (nI k)), none, none, none, none, none, none, none, none, none, none, none, none, none, none, none, none, none, none, none, none, none, none, none, none] [] n ad E Φ Ψ
    refine j_iload dL_law_345 rfl ?_
    refine j_iload dL_law_347 rfl ?_
    refine j_icmp_ge_f (tgt := 369) dL_law_349 (by decide) (nI_nle' (by omega) (by omega) (by omega)) ?_
    refine j_lload dL_law_352 rfl ?_
    refine j_aload_n dL_law_354 rfl ?_
    refine j_iload dL_law_355 rfl ?_
    refine j_cV (As := [.int (nI k)]) (rest := [.long y]) cm_X3_stepSum ci_X3_stepSum cs_X3_stepSum rfl ln_L_151 (ci := 3) rfl dL_law_357 (d' := 8) (by decide) (by omega) C.1 rfl rfl (Nat.le_of_ble_eq_true rfl) (Nat.le_of_ble_eq_true rfl) (s_X3_stepSum C k hk) ?_
    refine j_ladd dL_law_360 ?_
    refine j_lstore (L' := [some (.ref g.1.2.1), some (.ref (ad 0)), some (.ref (ad 63)), some (.int (nI tm)), some (.int x), some (.long (dgAll hrs su gone lv ed F S cnt mc mr)), none, some (.int (nI F)), some (.int (nI S)), some (.int (nI (F * S))), some (.int (nI f)), some (.int (nI s)), some (.long (sumP lv S 0 0 (F - 1) (S - 1))), none, some (.long (y + (sumP lv S 0 k (F - 1) k))), none, some (.int (uptC lv (F * S) 0)), some (.int (nI k)), none, none, none, none, none, none, none, none, none, none, none, none, none, none, none, none, none, none, none, none, none, none, none, none]) dL_law_361 (by decide) rfl rfl ?_
    refine j_iinc (v := nI (k + 1)) (L' := [some (.ref g.1.2.1), some (.ref (ad 0)), some (.ref (ad 63)), some (.int (nI tm)), some (.int x), some (.long (dgAll hrs su gone lv ed F S cnt mc mr)), none, some (.int (nI F)), some (.int (nI S)), some (.int (nI (F * S))), some (.int (nI f)), some (.int (nI s)), some (.long (sumP lv S 0 0 (F - 1) (S - 1))), none, some (.long (y + (sumP lv S 0 k (F - 1) k))), none, some (.int (uptC lv (F * S) 0)), some (.int (nI (k + 1))), none, none, none, none, none, none, none, none, none, none, none, none, none, none, none, none, none, none, none, none, none, none, none, none]) dL_law_363 (by decide) rfl (nI_1 _) rfl rfl ?_
    refine j_goto (tgt := 345) dL_law_366 (by decide) ?_
    exact ih _ rfl
  · skip
    show J g mL_law 13 bc bs 345 [some (.ref g.1.2.1), some (.ref (ad 0)), some (.ref (ad 63)), some (.int (nI tm)), some (.int x), some (.long (dgAll hrs su gone lv ed F S cnt mc mr)), none, some (.int (nI F)), some (.int (nI S)), some (.int (nI (F * S))), some (.int (nI f)), some (.int (nI s)), some (.long (sumP lv S 0 0 (F - 1) (S - 1))), none, some (.long (lpf (fun k (y : Int64) => y + sumP lv S 0 k (F - 1) k) 0 S 0)), none, some (.int (uptC lv (F * S) 0)), some (.int (nI S)), none, none, none, none, none, none, none, none, none, none, none, none, none, none, none, none, none, none, none, none, none, none, none, none] [] n ad E Φ Ψ
    refine j_iload dL_law_345 rfl ?_
    refine j_iload dL_law_347 rfl ?_
    refine j_icmp_ge_t (tgt := 369) dL_law_349 (by decide) (nI_le' (by omega) (by omega) (by omega)) ?_
    rw [sum_steps lv hF1 hS1]
    refine j_clr 17 ?_
    exact K
set_option maxRecDepth 100000 in
set_option maxHeartbeats 4000000 in
theorem lw_s4 {g : jG} {n : Nat} {ad : Nat → Nat} {E : Nat → va_E} {i F S : Nat} {hrs su : Int32} {gone : Int64} {lv ed : Nat → Int32} {old cnt : Nat} {dr : Nat → Nat → Int32} {mc : Nat} {mr : Nat → Nat → Int32} {m : Nat → Nat → Int32} {e : Nat → Int32} {A B : Nat → Nat → Nat → Int32} (C : CR g n ad E F S hrs su gone lv ed old cnt dr mc mr) {tm : Nat} {x : Int32} {f s : Nat} (hf : f < F) (hs : s < S) {bc bs : Nat} {Φ : Option Value → jR} {Ψ : String → jR} (K : J g mL_law 13 bc bs 517 [some (.ref g.1.2.1), some (.ref (ad 0)), some (.ref (ad 63)), some (.int (nI tm)), some (.int x), some (.long (dgAll hrs su gone lv ed F S cnt mc mr)), none, some (.int (nI F)), some (.int (nI S)), some (.int (nI (F * S))), some (.int (nI f)), some (.int (nI s)), none, none, none, none, some (.int (nI (dcnt lv (F * S)))), none, none, none, none, none, none, none, none, none, none, none, none, none, none, none, none, none, none, none, none, none, none, none, none, none] [] n ad E Φ Ψ) : J g mL_law 13 bc bs 369 [some (.ref g.1.2.1), some (.ref (ad 0)), some (.ref (ad 63)), some (.int (nI tm)), some (.int x), some (.long (dgAll hrs su gone lv ed F S cnt mc mr)), none, some (.int (nI F)), some (.int (nI S)), some (.int (nI (F * S))), some (.int (nI f)), some (.int (nI s)), some (.long (sumP lv S 0 0 (F - 1) (S - 1))), none, some (.long (sumP lv S 0 0 (F - 1) (S - 1))), none, some (.int (uptC lv (F * S) 0)), none, none, none, none, none, none, none, none, none, none, none, none, none, none, none, none, none, none, none, none, none, none, none, none, none] [] n ad E Φ Ψ := by
  obtain ⟨hF8, hS16, hF1, hS1, hold, hcn, hmc, hN, hn63⟩ := C.bd
  have hN1 := fs1 hF1 hS1
  have h4 := sum_four lv hf hs
  have fin : J g mL_law 13 bc bs 480 [some (.ref g.1.2.1), some (.ref (ad 0)), some (.ref (ad 63)), some (.int (nI tm)), some (.int x), some (.long (dgAll hrs su gone lv ed F S cnt mc mr)), none, some (.int (nI F)), some (.int (nI S)), some (.int (nI (F * S))), some (.int (nI f)), some (.int (nI s)), some (.long (sumP lv S 0 0 (F - 1) (S - 1))), none, some (.long (sumP lv S 0 0 (F - 1) (S - 1))), none, some (.int (uptC lv (F * S) 0)), some (.long (sumP lv S 0 0 (F - 1) (S - 1))), none, none, none, none, none, none, none, none, none, none, none, none, none, none, none, none, none, none, none, none, none, none, none, none] [] n ad E Φ Ψ := by
    refine j_lload dL_law_480 rfl ?_
    refine j_aload_n dL_law_482 rfl ?_
    refine j_cV (As := []) (rest := [.long (sumP lv S 0 0 (F - 1) (S - 1))]) cm_X3_total ci_X3_total cs_X3_total rfl ln_L_162 (ci := 3) rfl dL_law_483 (d' := 4) (by decide) (by omega) C.1 rfl rfl (Nat.le_of_ble_eq_true rfl) (Nat.le_of_ble_eq_true rfl) (s_X3_total C) ?_
    refine j_lcmp dL_law_486 ?_
    refine j_if_ne_f (tgt := 515) dL_law_487 (by decide) (lg_same _) ?_
    refine j_lload dL_law_490 rfl ?_
    refine j_lload dL_law_492 rfl ?_
    refine j_lcmp dL_law_494 ?_
    refine j_if_ne_f (tgt := 515) dL_law_495 (by decide) (lg_same _) ?_
    refine j_lload dL_law_498 rfl ?_
    refine j_lload dL_law_500 rfl ?_
    refine j_lcmp dL_law_502 ?_
    refine j_if_ne_f (tgt := 515) dL_law_503 (by decide) (lg_same _) ?_
    refine j_iload dL_law_506 rfl ?_
    refine j_aload_n dL_law_508 rfl ?_
    refine j_cV (As := []) (rest := [.int (uptC lv (F * S) 0)]) cm_X3_dry ci_X3_dry cs_X3_dry rfl ln_L_165 (ci := 3) rfl dL_law_509 (d' := 2) (by decide) (by omega) C.1 rfl rfl (Nat.le_of_ble_eq_true rfl) (Nat.le_of_ble_eq_true rfl) (s_X3_dry C) ?_
    refine j_icmp_eq_t (tgt := 517) dL_law_512 (by decide) rfl ?_
    refine j_clr 17 ?_
    refine j_clr 14 ?_
    refine j_clr 12 ?_
    rw [uptC_dcnt lv (F * S)]
    exact K
  refine j_aload_n dL_law_369 rfl ?_
  refine j_iload dL_law_370 rfl ?_
  refine j_iload dL_law_372 rfl ?_
  refine j_cV (As := [.int (nI f), .int (nI s)]) (rest := []) cm_X3_sumTo ci_X3_sumTo cs_X3_sumTo rfl ln_L_154 (ci := 3) rfl dL_law_374 (d' := 9) (by decide) (by omega) C.1 rfl rfl (Nat.le_of_ble_eq_true rfl) (Nat.le_of_ble_eq_true rfl) (s_X3_sumTo C f s hf hs) ?_
  refine j_lstore (L' := [some (.ref g.1.2.1), some (.ref (ad 0)), some (.ref (ad 63)), some (.int (nI tm)), some (.int x), some (.long (dgAll hrs su gone lv ed F S cnt mc mr)), none, some (.int (nI F)), some (.int (nI S)), some (.int (nI (F * S))), some (.int (nI f)), some (.int (nI s)), some (.long (sumP lv S 0 0 (F - 1) (S - 1))), none, some (.long (sumP lv S 0 0 (F - 1) (S - 1))), none, some (.int (uptC lv (F * S) 0)), some (.long (sumP lv S 0 0 f s)), none, none, none, none, none, none, none, none, none, none, none, none, none, none, none, none, none, none, none, none, none, none, none, none]) dL_law_377 (by decide) rfl rfl ?_
  by_cases hc : s + 1 < S
  · skip
    refine j_iload dL_law_379 rfl ?_
    refine j_iconst (v := nI 1) dL_law_381 (by decide) ?_
    refine j_iadd dL_law_382 ?_
    refine j_topi (y := nI (s + 1)) (nI_add _ _) ?_
    refine j_iload dL_law_383 rfl ?_
    refine j_icmp_ge_f (tgt := 408) dL_law_385 (by decide) (nI_nle' (by omega) (by omega) (by omega)) ?_
    refine j_lload dL_law_388 rfl ?_
    refine j_aload_n dL_law_390 rfl ?_
    refine j_iconst (v := nI 0) dL_law_391 (by decide) ?_
    refine j_iload dL_law_392 rfl ?_
    refine j_iconst (v := nI 1) dL_law_394 (by decide) ?_
    refine j_iadd dL_law_395 ?_
    refine j_topi (y := nI (s + 1)) (nI_add _ _) ?_
    refine j_iload dL_law_396 rfl ?_
    refine j_iload dL_law_398 rfl ?_
    refine j_iconst (v := nI 1) dL_law_400 (by decide) ?_
    refine j_isub dL_law_401 ?_
    refine j_topi (y := nI (S - 1)) (pk_sub (by omega)) ?_
    refine j_cV (As := [.int (nI 0), .int (nI (s + 1)), .int (nI f), .int (nI (S - 1))]) (rest := [.long (sumP lv S 0 0 f s)]) cm_X3_sumOf ci_X3_sumOf cs_X3_sumOf rfl ln_L_158 (ci := 3) rfl dL_law_402 (d' := 10) (by decide) (by omega) C.1 rfl rfl (Nat.le_of_ble_eq_true rfl) (Nat.le_of_ble_eq_true rfl) (s_X3_sumOf C 0 (s + 1) f (S - 1) (by omega) (by omega) (by omega) (by omega) (by omega) (by omega)) ?_
    refine j_topl (y := rc lv S 0 (s + 1) (f + 1) (S - (s + 1))) (rc_of lv S (by omega) (by omega)) ?_
    refine j_ladd dL_law_405 ?_
    refine j_lstore (L' := [some (.ref g.1.2.1), some (.ref (ad 0)), some (.ref (ad 63)), some (.int (nI tm)), some (.int x), some (.long (dgAll hrs su gone lv ed F S cnt mc mr)), none, some (.int (nI F)), some (.int (nI S)), some (.int (nI (F * S))), some (.int (nI f)), some (.int (nI s)), some (.long (sumP lv S 0 0 (F - 1) (S - 1))), none, some (.long (sumP lv S 0 0 (F - 1) (S - 1))), none, some (.int (uptC lv (F * S) 0)), some (.long ((sumP lv S 0 0 f s) + (rc lv S 0 (s + 1) (f + 1) (S - (s + 1))))), none, none, none, none, none, none, none, none, none, none, none, none, none, none, none, none, none, none, none, none, none, none, none, none]) dL_law_406 (by decide) rfl rfl ?_
    by_cases hr : f + 1 < F
    · skip
      refine j_iload dL_law_408 rfl ?_
      refine j_iconst (v := nI 1) dL_law_410 (by decide) ?_
      refine j_iadd dL_law_411 ?_
      refine j_topi (y := nI (f + 1)) (nI_add _ _) ?_
      refine j_iload dL_law_412 rfl ?_
      refine j_icmp_ge_f (tgt := 437) dL_law_414 (by decide) (nI_nle' (by omega) (by omega) (by omega)) ?_
      refine j_lload dL_law_417 rfl ?_
      refine j_aload_n dL_law_419 rfl ?_
      refine j_iload dL_law_420 rfl ?_
      refine j_iconst (v := nI 1) dL_law_422 (by decide) ?_
      refine j_iadd dL_law_423 ?_
      refine j_topi (y := nI (f + 1)) (nI_add _ _) ?_
      refine j_iconst (v := nI 0) dL_law_424 (by decide) ?_
      refine j_iload dL_law_425 rfl ?_
      refine j_iconst (v := nI 1) dL_law_427 (by decide) ?_
      refine j_isub dL_law_428 ?_
      refine j_topi (y := nI (F - 1)) (pk_sub (by omega)) ?_
      refine j_iload dL_law_429 rfl ?_
      refine j_cV (As := [.int (nI (f + 1)), .int (nI 0), .int (nI (F - 1)), .int (nI s)]) (rest := [.long ((sumP lv S 0 0 f s) + (rc lv S 0 (s + 1) (f + 1) (S - (s + 1))))]) cm_X3_sumOf ci_X3_sumOf cs_X3_sumOf rfl ln_L_158 (ci := 3) rfl dL_law_431 (d' := 10) (by decide) (by omega) C.1 rfl rfl (Nat.le_of_ble_eq_true rfl) (Nat.le_of_ble_eq_true rfl) (s_X3_sumOf C (f + 1) 0 (F - 1) s (by omega) (by omega) (by omega) (by omega) (by omega) (by omega)) ?_
      refine j_topl (y := rc lv S (f + 1) 0 (F - (f + 1)) (s + 1)) (rc_of lv S (by omega) (by omega)) ?_
      refine j_ladd dL_law_434 ?_
      refine j_lstore (L' := [some (.ref g.1.2.1), some (.ref (ad 0)), some (.ref (ad 63)), some (.int (nI tm)), some (.int x), some (.long (dgAll hrs su gone lv ed F S cnt mc mr)), none, some (.int (nI F)), some (.int (nI S)), some (.int (nI (F * S))), some (.int (nI f)), some (.int (nI s)), some (.long (sumP lv S 0 0 (F - 1) (S - 1))), none, some (.long (sumP lv S 0 0 (F - 1) (S - 1))), none, some (.int (uptC lv (F * S) 0)), some (.long (((sumP lv S 0 0 f s) + (rc lv S 0 (s + 1) (f + 1) (S - (s + 1)))) + (rc lv S (f + 1) 0 (F - (f + 1)) (s + 1)))), none, none, none, none, none, none, none, none, none, none, none, none, none, none, none, none, none, none, none, none, none, none, none, none]) dL_law_435 (by decide) rfl rfl ?_
      refine j_iload dL_law_437 rfl ?_
      refine j_iconst (v := nI 1) dL_law_439 (by decide) ?_
      refine j_iadd dL_law_440 ?_
      refine j_topi (y := nI (f + 1)) (nI_add _ _) ?_
      refine j_iload dL_law_441 rfl ?_
      refine j_icmp_ge_f (tgt := 480) dL_law_443 (by decide) (nI_nle' (by omega) (by omega) (by omega)) ?_
      refine j_iload dL_law_446 rfl ?_
      refine j_iconst (v := nI 1) dL_law_448 (by decide) ?_
      refine j_iadd dL_law_449 ?_
      refine j_topi (y := nI (s + 1)) (nI_add _ _) ?_
      refine j_iload dL_law_450 rfl ?_
      refine j_icmp_ge_f (tgt := 480) dL_law_452 (by decide) (nI_nle' (by omega) (by omega) (by omega)) ?_
      refine j_lload dL_law_455 rfl ?_
      refine j_aload_n dL_law_457 rfl ?_
      refine j_iload dL_law_458 rfl ?_
      refine j_iconst (v := nI 1) dL_law_460 (by decide) ?_
      refine j_iadd dL_law_461 ?_
      refine j_topi (y := nI (f + 1)) (nI_add _ _) ?_
      refine j_iload dL_law_462 rfl ?_
      refine j_iconst (v := nI 1) dL_law_464 (by decide) ?_
      refine j_iadd dL_law_465 ?_
      refine j_topi (y := nI (s + 1)) (nI_add _ _) ?_
      refine j_iload dL_law_466 rfl ?_
      refine j_iconst (v := nI 1) dL_law_468 (by decide) ?_
      refine j_isub dL_law_469 ?_
      refine j_topi (y := nI (F - 1)) (pk_sub (by omega)) ?_
      refine j_iload dL_law_470 rfl ?_
      refine j_iconst (v := nI 1) dL_law_472 (by decide) ?_
      refine j_isub dL_law_473 ?_
      refine j_topi (y := nI (S - 1)) (pk_sub (by omega)) ?_
      refine j_cV (As := [.int (nI (f + 1)), .int (nI (s + 1)), .int (nI (F - 1)), .int (nI (S - 1))]) (rest := [.long (((sumP lv S 0 0 f s) + (rc lv S 0 (s + 1) (f + 1) (S - (s + 1)))) + (rc lv S (f + 1) 0 (F - (f + 1)) (s + 1)))]) cm_X3_sumOf ci_X3_sumOf cs_X3_sumOf rfl ln_L_158 (ci := 3) rfl dL_law_474 (d' := 10) (by decide) (by omega) C.1 rfl rfl (Nat.le_of_ble_eq_true rfl) (Nat.le_of_ble_eq_true rfl) (s_X3_sumOf C (f + 1) (s + 1) (F - 1) (S - 1) (by omega) (by omega) (by omega) (by omega) (by omega) (by omega)) ?_
      refine j_topl (y := rc lv S (f + 1) (s + 1) (F - (f + 1)) (S - (s + 1))) (rc_of lv S (by omega) (by omega)) ?_
      refine j_ladd dL_law_477 ?_
      refine j_lstore (L' := [some (.ref g.1.2.1), some (.ref (ad 0)), some (.ref (ad 63)), some (.int (nI tm)), some (.int x), some (.long (dgAll hrs su gone lv ed F S cnt mc mr)), none, some (.int (nI F)), some (.int (nI S)), some (.int (nI (F * S))), some (.int (nI f)), some (.int (nI s)), some (.long (sumP lv S 0 0 (F - 1) (S - 1))), none, some (.long (sumP lv S 0 0 (F - 1) (S - 1))), none, some (.int (uptC lv (F * S) 0)), some (.long ((((sumP lv S 0 0 f s) + (rc lv S 0 (s + 1) (f + 1) (S - (s + 1)))) + (rc lv S (f + 1) 0 (F - (f + 1)) (s + 1))) + (rc lv S (f + 1) (s + 1) (F - (f + 1)) (S - (s + 1))))), none, none, none, none, none, none, none, none, none, none, none, none, none, none, none, none, none, none, none, none, none, none, none, none]) dL_law_478 (by decide) rfl rfl ?_
      rw [h4]
      exact fin
    · skip
      refine j_iload dL_law_408 rfl ?_
      refine j_iconst (v := nI 1) dL_law_410 (by decide) ?_
      refine j_iadd dL_law_411 ?_
      refine j_topi (y := nI (f + 1)) (nI_add _ _) ?_
      refine j_iload dL_law_412 rfl ?_
      refine j_icmp_ge_t (tgt := 437) dL_law_414 (by decide) (nI_le' (by omega) (by omega) (by omega)) ?_
      refine j_iload dL_law_437 rfl ?_
      refine j_iconst (v := nI 1) dL_law_439 (by decide) ?_
      refine j_iadd dL_law_440 ?_
      refine j_topi (y := nI (f + 1)) (nI_add _ _) ?_
      refine j_iload dL_law_441 rfl ?_
      refine j_icmp_ge_t (tgt := 480) dL_law_443 (by decide) (nI_le' (by omega) (by omega) (by omega)) ?_
      have z2 : F - (f + 1) = 0 := by omega
      rw [z2] at h4
      have q1 : rc lv S (f + 1) 0 0 (s + 1) = 0 := rfl
      have q2 : rc lv S (f + 1) (s + 1) 0 (S - (s + 1)) = 0 := rfl
      rw [q1, q2, Int64.add_zero, Int64.add_zero] at h4
      rw [h4]
      exact fin
  · skip
    refine j_iload dL_law_379 rfl ?_
    refine j_iconst (v := nI 1) dL_law_381 (by decide) ?_
    refine j_iadd dL_law_382 ?_
    refine j_topi (y := nI (s + 1)) (nI_add _ _) ?_
    refine j_iload dL_law_383 rfl ?_
    refine j_icmp_ge_t (tgt := 408) dL_law_385 (by decide) (nI_le' (by omega) (by omega) (by omega)) ?_
    have z1 : S - (s + 1) = 0 := by omega
    rw [z1, rc_0c, rc_0c, Int64.add_zero, Int64.add_zero] at h4
    by_cases hr : f + 1 < F
    · skip
      refine j_iload dL_law_408 rfl ?_
      refine j_iconst (v := nI 1) dL_law_410 (by decide) ?_
      refine j_iadd dL_law_411 ?_
      refine j_topi (y := nI (f + 1)) (nI_add _ _) ?_
      refine j_iload dL_law_412 rfl ?_
      refine j_icmp_ge_f (tgt := 437) dL_law_414 (by decide) (nI_nle' (by omega) (by omega) (by omega)) ?_
      refine j_lload dL_law_417 rfl ?_
      refine j_aload_n dL_law_419 rfl ?_
      refine j_iload dL_law_420 rfl ?_
      refine j_iconst (v := nI 1) dL_law_422 (by decide) ?_
      refine j_iadd dL_law_423 ?_
      refine j_topi (y := nI (f + 1)) (nI_add _ _) ?_
      refine j_iconst (v := nI 0) dL_law_424 (by decide) ?_
      refine j_iload dL_law_425 rfl ?_
      refine j_iconst (v := nI 1) dL_law_427 (by decide) ?_
      refine j_isub dL_law_428 ?_
      refine j_topi (y := nI (F - 1)) (pk_sub (by omega)) ?_
      refine j_iload dL_law_429 rfl ?_
      refine j_cV (As := [.int (nI (f + 1)), .int (nI 0), .int (nI (F - 1)), .int (nI s)]) (rest := [.long (sumP lv S 0 0 f s)]) cm_X3_sumOf ci_X3_sumOf cs_X3_sumOf rfl ln_L_158 (ci := 3) rfl dL_law_431 (d' := 10) (by decide) (by omega) C.1 rfl rfl (Nat.le_of_ble_eq_true rfl) (Nat.le_of_ble_eq_true rfl) (s_X3_sumOf C (f + 1) 0 (F - 1) s (by omega) (by omega) (by omega) (by omega) (by omega) (by omega)) ?_
      refine j_topl (y := rc lv S (f + 1) 0 (F - (f + 1)) (s + 1)) (rc_of lv S (by omega) (by omega)) ?_
      refine j_ladd dL_law_434 ?_
      refine j_lstore (L' := [some (.ref g.1.2.1), some (.ref (ad 0)), some (.ref (ad 63)), some (.int (nI tm)), some (.int x), some (.long (dgAll hrs su gone lv ed F S cnt mc mr)), none, some (.int (nI F)), some (.int (nI S)), some (.int (nI (F * S))), some (.int (nI f)), some (.int (nI s)), some (.long (sumP lv S 0 0 (F - 1) (S - 1))), none, some (.long (sumP lv S 0 0 (F - 1) (S - 1))), none, some (.int (uptC lv (F * S) 0)), some (.long ((sumP lv S 0 0 f s) + (rc lv S (f + 1) 0 (F - (f + 1)) (s + 1)))), none, none, none, none, none, none, none, none, none, none, none, none, none, none, none, none, none, none, none, none, none, none, none, none]) dL_law_435 (by decide) rfl rfl ?_
      refine j_iload dL_law_437 rfl ?_
      refine j_iconst (v := nI 1) dL_law_439 (by decide) ?_
      refine j_iadd dL_law_440 ?_
      refine j_topi (y := nI (f + 1)) (nI_add _ _) ?_
      refine j_iload dL_law_441 rfl ?_
      refine j_icmp_ge_f (tgt := 480) dL_law_443 (by decide) (nI_nle' (by omega) (by omega) (by omega)) ?_
      refine j_iload dL_law_446 rfl ?_
      refine j_iconst (v := nI 1) dL_law_448 (by decide) ?_
      refine j_iadd dL_law_449 ?_
      refine j_topi (y := nI (s + 1)) (nI_add _ _) ?_
      refine j_iload dL_law_450 rfl ?_
      refine j_icmp_ge_t (tgt := 480) dL_law_452 (by decide) (nI_le' (by omega) (by omega) (by omega)) ?_
      rw [h4]
      exact fin
    · skip
      refine j_iload dL_law_408 rfl ?_
      refine j_iconst (v := nI 1) dL_law_410 (by decide) ?_
      refine j_iadd dL_law_411 ?_
      refine j_topi (y := nI (f + 1)) (nI_add _ _) ?_
      refine j_iload dL_law_412 rfl ?_
      refine j_icmp_ge_t (tgt := 437) dL_law_414 (by decide) (nI_le' (by omega) (by omega) (by omega)) ?_
      refine j_iload dL_law_437 rfl ?_
      refine j_iconst (v := nI 1) dL_law_439 (by decide) ?_
      refine j_iadd dL_law_440 ?_
      refine j_topi (y := nI (f + 1)) (nI_add _ _) ?_
      refine j_iload dL_law_441 rfl ?_
      refine j_icmp_ge_t (tgt := 480) dL_law_443 (by decide) (nI_le' (by omega) (by omega) (by omega)) ?_
      have z2 : F - (f + 1) = 0 := by omega
      rw [z2] at h4
      have q1 : rc lv S (f + 1) 0 0 (s + 1) = 0 := rfl
      rw [q1, Int64.add_zero] at h4
      rw [h4]
      exact fin
