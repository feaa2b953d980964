/-! The law's cases. -/
theorem s_thrown' {g : jG} {n : Nat} {ad : Nat → Nat} {E : Nat → va_E} {th : Int32} {fs : List Value} (hn : 70 ≤ n) (h63 : E 63 = .inr (4, .int th :: fs)) : Ret g mX4_thrown 0 [.ref (ad 63)] n ad E (some (.int th)) E := by
  intro Φ Ψ h
  show J g mX4_thrown 0 0 0 0 [some (.ref (ad 63))] [] n ad E Φ Ψ
  refine j_aload_n dX4_thrown_0 rfl ?_
  refine j_get fl_X4_38 dX4_thrown_1 (by omega) h63 rfl ?_
  exact j_iret dX4_thrown_4 rfl h
theorem lg_self (x : Int64) : lg_cmp x x = 0 := by
  unfold lg_cmp
  rw [if_neg (fun h => by have := Int64.lt_iff_toInt_lt.mp h; omega), if_pos rfl]
theorem j_cSH {g : jG} {M M' : jM} {d d' bc bs pc nA idx n : Nat} {ad : Nat → Nat} {E : Nat → va_E} {L : List (Option Value)} {st As rest : List Value} {Φ : Option Value → jR} {Ψ : String → jR} {v : Int64} {P : (Nat → va_E) → Prop} (f : jYm M' nA) (fi : Cond.static M'.1 ∈ TT) (hl : Cond.methodLink M.1.cls idx M'.1 ∈ TT) (hd : decode M.2.1 pc = .ok (.invokestatic idx, 3)) (hdep : d' + 1 ≤ d) (hA : As.length = nA) (hst : As.reverse ++ rest = st) (hcat : (rest.map fun v => v.category).sum ≤ 8) (hnL : (lg_sl As).length ≤ M'.2.2.1)
    (hJ : HOk g M' d' As n ad E v P) (kk : ∀ E1 o, P E1 → E1 69 = aL g 1 o → J g M d bc bs (pc + 3) L (.int 0 :: rest) n ad (va_up E1 69 (aL g 1 (vp_updL o 0 v))) Φ Ψ) : J g M d bc bs pc L st n ad E Φ Ψ := by
  have h := j_callS (bc := bc) (bs := bs) (L := L) (Φ := Φ) (Ψ := Ψ) (Φ' := fun v' n' ad' E' => v' = some (.int 0) ∧ n' = n ∧ ad' = ad ∧ ∃ E1 o, P E1 ∧ E1 69 = aL g 1 o ∧ E' = va_up E1 69 (aL g 1 (vp_updL o 0 v))) (Ψ' := fun _ _ _ _ => False) f fi hl hd hdep hA hst hcat hnL (hJ _ _ (fun E1 o p q => ⟨rfl, rfl, rfl, E1, o, p, q, rfl⟩)) (fun v' n' ad' E' q => by obtain ⟨rfl, rfl, rfl, E1, o, p, q, rfl⟩ := q; exact kk E1 o p q) (fun _ _ _ _ q => q.elim)
  rwa [Nat.zero_add, Nat.zero_add] at h
theorem j_cSB {g : jG} {M M' : jM} {d d' bc bs pc nA idx n : Nat} {ad : Nat → Nat} {E : Nat → va_E} {L : List (Option Value)} {st As rest : List Value} {Φ : Option Value → jR} {Ψ : String → jR} {k : Int32} (f : jYm M' nA) (fi : Cond.static M'.1 ∈ TT) (hl : Cond.methodLink M.1.cls idx M'.1 ∈ TT) (hd : decode M.2.1 pc = .ok (.invokestatic idx, 3)) (hdep : d' + 1 ≤ d) (hA : As.length = nA) (hst : As.reverse ++ rest = st) (hcat : (rest.map fun v => v.category).sum ≤ 8) (hnL : (lg_sl As).length ≤ M'.2.2.1)
    (hJ : HBad g M' d' As n ad E k) (kk : J g M d bc bs (pc + 3) L (.int k :: rest) n ad E Φ Ψ) : J g M d (1 + bc) (6 + bs) pc L st n ad E Φ Ψ :=
  j_callS (bc := bc) (bs := bs) (L := L) (Φ := Φ) (Ψ := Ψ) (Φ' := eqP (some (.int k)) n ad E) (Ψ' := fun _ _ _ _ => False) f fi hl hd hdep hA hst hcat hnL (hJ _ _ ⟨rfl, rfl, rfl, rfl⟩) (fun v' n' ad' E' q => by obtain ⟨rfl, rfl, rfl, rfl⟩ := q; exact kk) (fun _ _ _ _ q => q.elim)
set_option maxRecDepth 100000 in
set_option maxHeartbeats 4000000 in
theorem lc_lay_ok {g : jG} {n : Nat} {ad : Nat → Nat} {E : Nat → va_E} {i6 bc bs : Nat} {Φ : Option Value → jR} {Ψ : String → jR} {fs fm : List Value} (hi : i6 + 6 ≤ g.1.2.2.1) (hL : g.1.2.2.1 ≤ 3072) (hn : 70 ≤ n) (h0 : E 0 = .inr (3, fs)) (h63 : E 63 = .inr (4, fm)) {x1 : Int32} (e1 : g.1.2.2.2 (i6 + 1) = x1) {x2 : Int32} (e2 : g.1.2.2.2 (i6 + 2) = x2) {v : Int32} {PC : (Nat → va_E) → Prop} {PM : (Nat → va_E) → (Nat → va_E) → Prop} (HH : HOk g mL_lay 11 [.ref (ad 0), .int x1, .int x2, .ref (ad 69)] n ad E v.toInt64 PC) (h69 : ∀ E1, PC E1 → E1 63 = E 63) (HM : ∀ E1 o, PC E1 → RetP g mX4_lay 6 [.ref (ad 63), .int x1, .int x2] n ad (va_up E1 69 (aL g 1 (vp_updL o 0 v.toInt64))) (some (.int v)) (PM (va_up E1 69 (aL g 1 (vp_updL o 0 v.toInt64))))) (hM : ∀ E1 E2, PM E1 E2 → (∃ f9, E2 63 = .inr (4, .int 0 :: f9)) ∧ E2 69 = E1 69) (K : ∀ E1 o E2, PC E1 → E1 69 = aL g 1 o → PM (va_up E1 69 (aL g 1 (vp_updL o 0 v.toInt64))) E2 → J g mL_law 12 bc bs 2592 [some (.ref g.1.2.1), some (.ref (ad 0)), some (.ref (ad 63)), some (.ref (ad 69)), some (.int (nI i6)), none, none, none, none] [] n ad E2 Φ Ψ) : J g mL_law 12 bc bs 248 [some (.ref g.1.2.1), some (.ref (ad 0)), some (.ref (ad 63)), some (.ref (ad 69)), some (.int (nI i6)), none, none, none, none] [] n ad E Φ Ψ := by
  refine j_aload_n dL_law_248 rfl ?_
  refine j_aload_n dL_law_249 rfl ?_
  refine j_iload dL_law_250 rfl ?_
  refine j_iconst (v := nI 1) dL_law_252 (by decide) ?_
  refine j_iadd dL_law_253 ?_
  refine j_topi (y := nI (i6 + 1)) (nI_add _ _) ?_
  refine j_sald dL_law_254 (by omega) (by omega) ?_
  refine j_topi (y := x1) e1 ?_
  refine j_aload_n dL_law_255 rfl ?_
  refine j_iload dL_law_256 rfl ?_
  refine j_iconst (v := nI 2) dL_law_258 (by decide) ?_
  refine j_iadd dL_law_259 ?_
  refine j_topi (y := nI (i6 + 2)) (nI_add _ _) ?_
  refine j_sald dL_law_260 (by omega) (by omega) ?_
  refine j_topi (y := x2) e2 ?_
  refine j_aload_n dL_law_261 rfl ?_
  refine j_cSH (As := [.ref (ad 0), .int x1, .int x2, .ref (ad 69)]) (rest := []) cm_L_lay ct_L_lay ln_L_127 dL_law_262 (d' := 11) (by decide) rfl rfl (Nat.le_of_ble_eq_true rfl) (Nat.le_of_ble_eq_true rfl) HH (fun E1 o p1 ho => ?_)
  obtain h63a := h69 E1 p1
  show J g mL_law 12 bc bs 265 [some (.ref g.1.2.1), some (.ref (ad 0)), some (.ref (ad 63)), some (.ref (ad 69)), some (.int (nI i6)), none, none, none, none] [.int 0] n ad (va_up E1 69 (aL g 1 (vp_updL o 0 v.toInt64))) Φ Ψ
  refine j_istore (L' := [some (.ref g.1.2.1), some (.ref (ad 0)), some (.ref (ad 63)), some (.ref (ad 69)), some (.int (nI i6)), some (.int 0), none, none, none]) dL_law_265 (by decide) rfl rfl ?_
  refine j_aload_n dL_law_267 rfl ?_
  refine j_aload_n dL_law_268 rfl ?_
  refine j_iload dL_law_269 rfl ?_
  refine j_iconst (v := nI 1) dL_law_271 (by decide) ?_
  refine j_iadd dL_law_272 ?_
  refine j_topi (y := nI (i6 + 1)) (nI_add _ _) ?_
  refine j_sald dL_law_273 (by omega) (by omega) ?_
  refine j_topi (y := x1) e1 ?_
  refine j_aload_n dL_law_274 rfl ?_
  refine j_iload dL_law_275 rfl ?_
  refine j_iconst (v := nI 2) dL_law_277 (by decide) ?_
  refine j_iadd dL_law_278 ?_
  refine j_topi (y := nI (i6 + 2)) (nI_add _ _) ?_
  refine j_sald dL_law_279 (by omega) (by omega) ?_
  refine j_topi (y := x2) e2 ?_
  refine j_cVp (As := [.int x1, .int x2]) (rest := []) cm_X4_lay ci_X4_lay cs_X4_lay rfl ln_L_132 (ci := 4) rfl dL_law_280 (d' := 6) (by decide) (by omega) ((up_ne (by decide)).trans (h63a.trans h63)) rfl rfl (Nat.le_of_ble_eq_true rfl) (Nat.le_of_ble_eq_true rfl) (HM E1 _ p1) (fun E2 q2 => ?_)
  obtain ⟨⟨fm2, h63b⟩, h69b⟩ := hM _ _ q2
  show J g mL_law 12 bc bs 283 [some (.ref g.1.2.1), some (.ref (ad 0)), some (.ref (ad 63)), some (.ref (ad 69)), some (.int (nI i6)), some (.int 0), none, none, none] [.int v] n ad E2 Φ Ψ
  refine j_istore (L' := [some (.ref g.1.2.1), some (.ref (ad 0)), some (.ref (ad 63)), some (.ref (ad 69)), some (.int (nI i6)), some (.int 0), some (.int v), none, none]) dL_law_283 (by decide) rfl rfl ?_
  refine j_aload_n dL_law_285 rfl ?_
  refine j_cV (As := []) (rest := []) cm_X4_thrown ci_X4_thrown cs_X4_thrown rfl ln_L_133 (ci := 4) rfl dL_law_286 (d' := 0) (by decide) (by omega) h63b rfl rfl (Nat.le_of_ble_eq_true rfl) (Nat.le_of_ble_eq_true rfl) (s_thrown' hn h63b) ?_
  refine j_iload dL_law_289 rfl ?_
  refine j_icmp_eq_t (tgt := 296) dL_law_291 (by decide) (by decide) ?_
  refine j_iload dL_law_296 rfl ?_
  refine j_if_ne_f (tgt := 313) dL_law_298 (by decide) (by decide) ?_
  refine j_aload_n dL_law_301 rfl ?_
  refine j_iconst (v := nI 0) dL_law_302 (by decide) ?_
  refine j_lald dL_law_303 (by omega) (h69b.trans up_eq) (by decide) (by omega) rfl ?_
  refine j_topl (y := v.toInt64) (if_pos rfl) ?_
  refine j_iload dL_law_304 rfl ?_
  refine j_i2l dL_law_306 ?_
  refine j_lcmp dL_law_307 ?_
  refine j_topi (y := 0) (lg_self _) ?_
  refine j_if_eq_t (tgt := 313) dL_law_308 (by decide) (by decide) ?_
  refine j_goto (tgt := 2592) dL_law_313 (by decide) ?_
  refine j_clr 5 ?_
  refine j_clr 6 ?_
  exact K E1 o E2 p1 ho q2
set_option maxRecDepth 100000 in
set_option maxHeartbeats 4000000 in
theorem lc_lay_bad {g : jG} {n : Nat} {ad : Nat → Nat} {E : Nat → va_E} {i6 bc bs : Nat} {Φ : Option Value → jR} {Ψ : String → jR} {fs fm : List Value} (hi : i6 + 6 ≤ g.1.2.2.1) (hL : g.1.2.2.1 ≤ 3072) (hn : 70 ≤ n) (h0 : E 0 = .inr (3, fs)) (h63 : E 63 = .inr (4, fm)) {x1 : Int32} (e1 : g.1.2.2.2 (i6 + 1) = x1) {x2 : Int32} (e2 : g.1.2.2.2 (i6 + 2) = x2) {k : Int32} (hk : ¬ k = 0) {b : Int32} {PM : (Nat → va_E) → Prop} (HH : HBad g mL_lay 11 [.ref (ad 0), .int x1, .int x2, .ref (ad 69)] n ad E k) (HM : RetP g mX4_lay 6 [.ref (ad 63), .int x1, .int x2] n ad E (some (.int b)) PM) (hM : ∀ E2, PM E2 → ∃ f9, E2 63 = .inr (4, .int k :: f9)) (K : ∀ E2, PM E2 → J g mL_law 12 bc bs 2592 [some (.ref g.1.2.1), some (.ref (ad 0)), some (.ref (ad 63)), some (.ref (ad 69)), some (.int (nI i6)), none, none, none, none] [] n ad E2 Φ Ψ) : J g mL_law 12 (1 + bc) (6 + bs) 248 [some (.ref g.1.2.1), some (.ref (ad 0)), some (.ref (ad 63)), some (.ref (ad 69)), some (.int (nI i6)), none, none, none, none] [] n ad E Φ Ψ := by
  refine j_aload_n dL_law_248 rfl ?_
  refine j_aload_n dL_law_249 rfl ?_
  refine j_iload dL_law_250 rfl ?_
  refine j_iconst (v := nI 1) dL_law_252 (by decide) ?_
  refine j_iadd dL_law_253 ?_
  refine j_topi (y := nI (i6 + 1)) (nI_add _ _) ?_
  refine j_sald dL_law_254 (by omega) (by omega) ?_
  refine j_topi (y := x1) e1 ?_
  refine j_aload_n dL_law_255 rfl ?_
  refine j_iload dL_law_256 rfl ?_
  refine j_iconst (v := nI 2) dL_law_258 (by decide) ?_
  refine j_iadd dL_law_259 ?_
  refine j_topi (y := nI (i6 + 2)) (nI_add _ _) ?_
  refine j_sald dL_law_260 (by omega) (by omega) ?_
  refine j_topi (y := x2) e2 ?_
  refine j_aload_n dL_law_261 rfl ?_
  refine j_cSB (As := [.ref (ad 0), .int x1, .int x2, .ref (ad 69)]) (rest := []) cm_L_lay ct_L_lay ln_L_127 dL_law_262 (d' := 11) (by decide) rfl rfl (Nat.le_of_ble_eq_true rfl) (Nat.le_of_ble_eq_true rfl) HH ?_
  show J g mL_law 12 bc bs 265 [some (.ref g.1.2.1), some (.ref (ad 0)), some (.ref (ad 63)), some (.ref (ad 69)), some (.int (nI i6)), none, none, none, none] [.int k] n ad E Φ Ψ
  refine j_istore (L' := [some (.ref g.1.2.1), some (.ref (ad 0)), some (.ref (ad 63)), some (.ref (ad 69)), some (.int (nI i6)), some (.int k), none, none, none]) dL_law_265 (by decide) rfl rfl ?_
  refine j_aload_n dL_law_267 rfl ?_
  refine j_aload_n dL_law_268 rfl ?_
  refine j_iload dL_law_269 rfl ?_
  refine j_iconst (v := nI 1) dL_law_271 (by decide) ?_
  refine j_iadd dL_law_272 ?_
  refine j_topi (y := nI (i6 + 1)) (nI_add _ _) ?_
  refine j_sald dL_law_273 (by omega) (by omega) ?_
  refine j_topi (y := x1) e1 ?_
  refine j_aload_n dL_law_274 rfl ?_
  refine j_iload dL_law_275 rfl ?_
  refine j_iconst (v := nI 2) dL_law_277 (by decide) ?_
  refine j_iadd dL_law_278 ?_
  refine j_topi (y := nI (i6 + 2)) (nI_add _ _) ?_
  refine j_sald dL_law_279 (by omega) (by omega) ?_
  refine j_topi (y := x2) e2 ?_
  refine j_cVp (As := [.int x1, .int x2]) (rest := []) cm_X4_lay ci_X4_lay cs_X4_lay rfl ln_L_132 (ci := 4) rfl dL_law_280 (d' := 6) (by decide) (by omega) h63 rfl rfl (Nat.le_of_ble_eq_true rfl) (Nat.le_of_ble_eq_true rfl) HM (fun E2 q2 => ?_)
  obtain ⟨fm2, h63b⟩ := hM _ q2
  show J g mL_law 12 bc bs 283 [some (.ref g.1.2.1), some (.ref (ad 0)), some (.ref (ad 63)), some (.ref (ad 69)), some (.int (nI i6)), some (.int k), none, none, none] [.int b] n ad E2 Φ Ψ
  refine j_istore (L' := [some (.ref g.1.2.1), some (.ref (ad 0)), some (.ref (ad 63)), some (.ref (ad 69)), some (.int (nI i6)), some (.int k), some (.int b), none, none]) dL_law_283 (by decide) rfl rfl ?_
  refine j_aload_n dL_law_285 rfl ?_
  refine j_cV (As := []) (rest := []) cm_X4_thrown ci_X4_thrown cs_X4_thrown rfl ln_L_133 (ci := 4) rfl dL_law_286 (d' := 0) (by decide) (by omega) h63b rfl rfl (Nat.le_of_ble_eq_true rfl) (Nat.le_of_ble_eq_true rfl) (s_thrown' hn h63b) ?_
  refine j_iload dL_law_289 rfl ?_
  refine j_icmp_eq_t (tgt := 296) dL_law_291 (by decide) rfl ?_
  refine j_iload dL_law_296 rfl ?_
  refine j_if_ne_t (tgt := 313) dL_law_298 (by decide) hk ?_
  refine j_goto (tgt := 2592) dL_law_313 (by decide) ?_
  refine j_clr 5 ?_
  refine j_clr 6 ?_
  exact K E2 q2
set_option maxRecDepth 100000 in
set_option maxHeartbeats 4000000 in
theorem lc_rain_ok {g : jG} {n : Nat} {ad : Nat → Nat} {E : Nat → va_E} {i6 bc bs : Nat} {Φ : Option Value → jR} {Ψ : String → jR} {fs fm : List Value} (hi : i6 + 6 ≤ g.1.2.2.1) (hL : g.1.2.2.1 ≤ 3072) (hn : 70 ≤ n) (h0 : E 0 = .inr (3, fs)) (h63 : E 63 = .inr (4, fm)) {x1 : Int32} (e1 : g.1.2.2.2 (i6 + 1) = x1) {x2 : Int32} (e2 : g.1.2.2.2 (i6 + 2) = x2) {x3 : Int32} (e3 : g.1.2.2.2 (i6 + 3) = x3) {v : Int32} {PC : (Nat → va_E) → Prop} {PM : (Nat → va_E) → (Nat → va_E) → Prop} (HH : HOk g mL_rain 11 [.ref (ad 0), .int x1, .int x2, .int x3, .ref (ad 69)] n ad E v.toInt64 PC) (h69 : ∀ E1, PC E1 → E1 63 = E 63) (HM : ∀ E1 o, PC E1 → RetP g mX4_rain 6 [.ref (ad 63), .int x1, .int x2, .int x3] n ad (va_up E1 69 (aL g 1 (vp_updL o 0 v.toInt64))) (some (.int v)) (PM (va_up E1 69 (aL g 1 (vp_updL o 0 v.toInt64))))) (hM : ∀ E1 E2, PM E1 E2 → (∃ f9, E2 63 = .inr (4, .int 0 :: f9)) ∧ E2 69 = E1 69) (K : ∀ E1 o E2, PC E1 → E1 69 = aL g 1 o → PM (va_up E1 69 (aL g 1 (vp_updL o 0 v.toInt64))) E2 → J g mL_law 12 bc bs 2592 [some (.ref g.1.2.1), some (.ref (ad 0)), some (.ref (ad 63)), some (.ref (ad 69)), some (.int (nI i6)), none, none, none, none] [] n ad E2 Φ Ψ) : J g mL_law 12 bc bs 316 [some (.ref g.1.2.1), some (.ref (ad 0)), some (.ref (ad 63)), some (.ref (ad 69)), some (.int (nI i6)), none, none, none, none] [] n ad E Φ Ψ := by
  refine j_aload_n dL_law_316 rfl ?_
  refine j_aload_n dL_law_317 rfl ?_
  refine j_iload dL_law_318 rfl ?_
  refine j_iconst (v := nI 1) dL_law_320 (by decide) ?_
  refine j_iadd dL_law_321 ?_
  refine j_topi (y := nI (i6 + 1)) (nI_add _ _) ?_
  refine j_sald dL_law_322 (by omega) (by omega) ?_
  refine j_topi (y := x1) e1 ?_
  refine j_aload_n dL_law_323 rfl ?_
  refine j_iload dL_law_324 rfl ?_
  refine j_iconst (v := nI 2) dL_law_326 (by decide) ?_
  refine j_iadd dL_law_327 ?_
  refine j_topi (y := nI (i6 + 2)) (nI_add _ _) ?_
  refine j_sald dL_law_328 (by omega) (by omega) ?_
  refine j_topi (y := x2) e2 ?_
  refine j_aload_n dL_law_329 rfl ?_
  refine j_iload dL_law_330 rfl ?_
  refine j_iconst (v := nI 3) dL_law_332 (by decide) ?_
  refine j_iadd dL_law_333 ?_
  refine j_topi (y := nI (i6 + 3)) (nI_add _ _) ?_
  refine j_sald dL_law_334 (by omega) (by omega) ?_
  refine j_topi (y := x3) e3 ?_
  refine j_aload_n dL_law_335 rfl ?_
  refine j_cSH (As := [.ref (ad 0), .int x1, .int x2, .int x3, .ref (ad 69)]) (rest := []) cm_L_rain ct_L_rain ln_L_136 dL_law_336 (d' := 11) (by decide) rfl rfl (Nat.le_of_ble_eq_true rfl) (Nat.le_of_ble_eq_true rfl) HH (fun E1 o p1 ho => ?_)
  obtain h63a := h69 E1 p1
  show J g mL_law 12 bc bs 339 [some (.ref g.1.2.1), some (.ref (ad 0)), some (.ref (ad 63)), some (.ref (ad 69)), some (.int (nI i6)), none, none, none, none] [.int 0] n ad (va_up E1 69 (aL g 1 (vp_updL o 0 v.toInt64))) Φ Ψ
  refine j_istore (L' := [some (.ref g.1.2.1), some (.ref (ad 0)), some (.ref (ad 63)), some (.ref (ad 69)), some (.int (nI i6)), some (.int 0), none, none, none]) dL_law_339 (by decide) rfl rfl ?_
  refine j_aload_n dL_law_341 rfl ?_
  refine j_aload_n dL_law_342 rfl ?_
  refine j_iload dL_law_343 rfl ?_
  refine j_iconst (v := nI 1) dL_law_345 (by decide) ?_
  refine j_iadd dL_law_346 ?_
  refine j_topi (y := nI (i6 + 1)) (nI_add _ _) ?_
  refine j_sald dL_law_347 (by omega) (by omega) ?_
  refine j_topi (y := x1) e1 ?_
  refine j_aload_n dL_law_348 rfl ?_
  refine j_iload dL_law_349 rfl ?_
  refine j_iconst (v := nI 2) dL_law_351 (by decide) ?_
  refine j_iadd dL_law_352 ?_
  refine j_topi (y := nI (i6 + 2)) (nI_add _ _) ?_
  refine j_sald dL_law_353 (by omega) (by omega) ?_
  refine j_topi (y := x2) e2 ?_
  refine j_aload_n dL_law_354 rfl ?_
  refine j_iload dL_law_355 rfl ?_
  refine j_iconst (v := nI 3) dL_law_357 (by decide) ?_
  refine j_iadd dL_law_358 ?_
  refine j_topi (y := nI (i6 + 3)) (nI_add _ _) ?_
  refine j_sald dL_law_359 (by omega) (by omega) ?_
  refine j_topi (y := x3) e3 ?_
  refine j_cVp (As := [.int x1, .int x2, .int x3]) (rest := []) cm_X4_rain ci_X4_rain cs_X4_rain rfl ln_L_139 (ci := 4) rfl dL_law_360 (d' := 6) (by decide) (by omega) ((up_ne (by decide)).trans (h63a.trans h63)) rfl rfl (Nat.le_of_ble_eq_true rfl) (Nat.le_of_ble_eq_true rfl) (HM E1 _ p1) (fun E2 q2 => ?_)
  obtain ⟨⟨fm2, h63b⟩, h69b⟩ := hM _ _ q2
  show J g mL_law 12 bc bs 363 [some (.ref g.1.2.1), some (.ref (ad 0)), some (.ref (ad 63)), some (.ref (ad 69)), some (.int (nI i6)), some (.int 0), none, none, none] [.int v] n ad E2 Φ Ψ
  refine j_istore (L' := [some (.ref g.1.2.1), some (.ref (ad 0)), some (.ref (ad 63)), some (.ref (ad 69)), some (.int (nI i6)), some (.int 0), some (.int v), none, none]) dL_law_363 (by decide) rfl rfl ?_
  refine j_aload_n dL_law_365 rfl ?_
  refine j_cV (As := []) (rest := []) cm_X4_thrown ci_X4_thrown cs_X4_thrown rfl ln_L_133 (ci := 4) rfl dL_law_366 (d' := 0) (by decide) (by omega) h63b rfl rfl (Nat.le_of_ble_eq_true rfl) (Nat.le_of_ble_eq_true rfl) (s_thrown' hn h63b) ?_
  refine j_iload dL_law_369 rfl ?_
  refine j_icmp_eq_t (tgt := 376) dL_law_371 (by decide) (by decide) ?_
  refine j_iload dL_law_376 rfl ?_
  refine j_if_ne_f (tgt := 393) dL_law_378 (by decide) (by decide) ?_
  refine j_aload_n dL_law_381 rfl ?_
  refine j_iconst (v := nI 0) dL_law_382 (by decide) ?_
  refine j_lald dL_law_383 (by omega) (h69b.trans up_eq) (by decide) (by omega) rfl ?_
  refine j_topl (y := v.toInt64) (if_pos rfl) ?_
  refine j_iload dL_law_384 rfl ?_
  refine j_i2l dL_law_386 ?_
  refine j_lcmp dL_law_387 ?_
  refine j_topi (y := 0) (lg_self _) ?_
  refine j_if_eq_t (tgt := 393) dL_law_388 (by decide) (by decide) ?_
  refine j_goto (tgt := 2592) dL_law_393 (by decide) ?_
  refine j_clr 5 ?_
  refine j_clr 6 ?_
  exact K E1 o E2 p1 ho q2
set_option maxRecDepth 100000 in
set_option maxHeartbeats 4000000 in
theorem lc_rain_bad {g : jG} {n : Nat} {ad : Nat → Nat} {E : Nat → va_E} {i6 bc bs : Nat} {Φ : Option Value → jR} {Ψ : String → jR} {fs fm : List Value} (hi : i6 + 6 ≤ g.1.2.2.1) (hL : g.1.2.2.1 ≤ 3072) (hn : 70 ≤ n) (h0 : E 0 = .inr (3, fs)) (h63 : E 63 = .inr (4, fm)) {x1 : Int32} (e1 : g.1.2.2.2 (i6 + 1) = x1) {x2 : Int32} (e2 : g.1.2.2.2 (i6 + 2) = x2) {x3 : Int32} (e3 : g.1.2.2.2 (i6 + 3) = x3) {k : Int32} (hk : ¬ k = 0) {b : Int32} {PM : (Nat → va_E) → Prop} (HH : HBad g mL_rain 11 [.ref (ad 0), .int x1, .int x2, .int x3, .ref (ad 69)] n ad E k) (HM : RetP g mX4_rain 6 [.ref (ad 63), .int x1, .int x2, .int x3] n ad E (some (.int b)) PM) (hM : ∀ E2, PM E2 → ∃ f9, E2 63 = .inr (4, .int k :: f9)) (K : ∀ E2, PM E2 → J g mL_law 12 bc bs 2592 [some (.ref g.1.2.1), some (.ref (ad 0)), some (.ref (ad 63)), some (.ref (ad 69)), some (.int (nI i6)), none, none, none, none] [] n ad E2 Φ Ψ) : J g mL_law 12 (1 + bc) (6 + bs) 316 [some (.ref g.1.2.1), some (.ref (ad 0)), some (.ref (ad 63)), some (.ref (ad 69)), some (.int (nI i6)), none, none, none, none] [] n ad E Φ Ψ := by
  refine j_aload_n dL_law_316 rfl ?_
  refine j_aload_n dL_law_317 rfl ?_
  refine j_iload dL_law_318 rfl ?_
  refine j_iconst (v := nI 1) dL_law_320 (by decide) ?_
  refine j_iadd dL_law_321 ?_
  refine j_topi (y := nI (i6 + 1)) (nI_add _ _) ?_
  refine j_sald dL_law_322 (by omega) (by omega) ?_
  refine j_topi (y := x1) e1 ?_
  refine j_aload_n dL_law_323 rfl ?_
  refine j_iload dL_law_324 rfl ?_
  refine j_iconst (v := nI 2) dL_law_326 (by decide) ?_
  refine j_iadd dL_law_327 ?_
  refine j_topi (y := nI (i6 + 2)) (nI_add _ _) ?_
  refine j_sald dL_law_328 (by omega) (by omega) ?_
  refine j_topi (y := x2) e2 ?_
  refine j_aload_n dL_law_329 rfl ?_
  refine j_iload dL_law_330 rfl ?_
  refine j_iconst (v := nI 3) dL_law_332 (by decide) ?_
  refine j_iadd dL_law_333 ?_
  refine j_topi (y := nI (i6 + 3)) (nI_add _ _) ?_
  refine j_sald dL_law_334 (by omega) (by omega) ?_
  refine j_topi (y := x3) e3 ?_
  refine j_aload_n dL_law_335 rfl ?_
  refine j_cSB (As := [.ref (ad 0), .int x1, .int x2, .int x3, .ref (ad 69)]) (rest := []) cm_L_rain ct_L_rain ln_L_136 dL_law_336 (d' := 11) (by decide) rfl rfl (Nat.le_of_ble_eq_true rfl) (Nat.le_of_ble_eq_true rfl) HH ?_
  show J g mL_law 12 bc bs 339 [some (.ref g.1.2.1), some (.ref (ad 0)), some (.ref (ad 63)), some (.ref (ad 69)), some (.int (nI i6)), none, none, none, none] [.int k] n ad E Φ Ψ
  refine j_istore (L' := [some (.ref g.1.2.1), some (.ref (ad 0)), some (.ref (ad 63)), some (.ref (ad 69)), some (.int (nI i6)), some (.int k), none, none, none]) dL_law_339 (by decide) rfl rfl ?_
  refine j_aload_n dL_law_341 rfl ?_
  refine j_aload_n dL_law_342 rfl ?_
  refine j_iload dL_law_343 rfl ?_
  refine j_iconst (v := nI 1) dL_law_345 (by decide) ?_
  refine j_iadd dL_law_346 ?_
  refine j_topi (y := nI (i6 + 1)) (nI_add _ _) ?_
  refine j_sald dL_law_347 (by omega) (by omega) ?_
  refine j_topi (y := x1) e1 ?_
  refine j_aload_n dL_law_348 rfl ?_
  refine j_iload dL_law_349 rfl ?_
  refine j_iconst (v := nI 2) dL_law_351 (by decide) ?_
  refine j_iadd dL_law_352 ?_
  refine j_topi (y := nI (i6 + 2)) (nI_add _ _) ?_
  refine j_sald dL_law_353 (by omega) (by omega) ?_
  refine j_topi (y := x2) e2 ?_
  refine j_aload_n dL_law_354 rfl ?_
  refine j_iload dL_law_355 rfl ?_
  refine j_iconst (v := nI 3) dL_law_357 (by decide) ?_
  refine j_iadd dL_law_358 ?_
  refine j_topi (y := nI (i6 + 3)) (nI_add _ _) ?_
  refine j_sald dL_law_359 (by omega) (by omega) ?_
  refine j_topi (y := x3) e3 ?_
  refine j_cVp (As := [.int x1, .int x2, .int x3]) (rest := []) cm_X4_rain ci_X4_rain cs_X4_rain rfl ln_L_139 (ci := 4) rfl dL_law_360 (d' := 6) (by decide) (by omega) h63 rfl rfl (Nat.le_of_ble_eq_true rfl) (Nat.le_of_ble_eq_true rfl) HM (fun E2 q2 => ?_)
  obtain ⟨fm2, h63b⟩ := hM _ q2
  show J g mL_law 12 bc bs 363 [some (.ref g.1.2.1), some (.ref (ad 0)), some (.ref (ad 63)), some (.ref (ad 69)), some (.int (nI i6)), some (.int k), none, none, none] [.int b] n ad E2 Φ Ψ
  refine j_istore (L' := [some (.ref g.1.2.1), some (.ref (ad 0)), some (.ref (ad 63)), some (.ref (ad 69)), some (.int (nI i6)), some (.int k), some (.int b), none, none]) dL_law_363 (by decide) rfl rfl ?_
  refine j_aload_n dL_law_365 rfl ?_
  refine j_cV (As := []) (rest := []) cm_X4_thrown ci_X4_thrown cs_X4_thrown rfl ln_L_133 (ci := 4) rfl dL_law_366 (d' := 0) (by decide) (by omega) h63b rfl rfl (Nat.le_of_ble_eq_true rfl) (Nat.le_of_ble_eq_true rfl) (s_thrown' hn h63b) ?_
  refine j_iload dL_law_369 rfl ?_
  refine j_icmp_eq_t (tgt := 376) dL_law_371 (by decide) rfl ?_
  refine j_iload dL_law_376 rfl ?_
  refine j_if_ne_t (tgt := 393) dL_law_378 (by decide) hk ?_
  refine j_goto (tgt := 2592) dL_law_393 (by decide) ?_
  refine j_clr 5 ?_
  refine j_clr 6 ?_
  exact K E2 q2
set_option maxRecDepth 100000 in
set_option maxHeartbeats 4000000 in
theorem lc_splash_ok {g : jG} {n : Nat} {ad : Nat → Nat} {E : Nat → va_E} {i6 bc bs : Nat} {Φ : Option Value → jR} {Ψ : String → jR} {fs fm : List Value} (hi : i6 + 6 ≤ g.1.2.2.1) (hL : g.1.2.2.1 ≤ 3072) (hn : 70 ≤ n) (h0 : E 0 = .inr (3, fs)) (h63 : E 63 = .inr (4, fm)) {x1 : Int32} (e1 : g.1.2.2.2 (i6 + 1) = x1) {x2 : Int32} (e2 : g.1.2.2.2 (i6 + 2) = x2) {x3 : Int32} (e3 : g.1.2.2.2 (i6 + 3) = x3) {x4 : Int32} (e4 : g.1.2.2.2 (i6 + 4) = x4) {x5 : Int32} (e5 : g.1.2.2.2 (i6 + 5) = x5) {v : Int32} {PC : (Nat → va_E) → Prop} {PM : (Nat → va_E) → (Nat → va_E) → Prop} (HH : HOk g mL_splash 11 [.ref (ad 0), .int x1, .int x2, .int x3, .int x4, .int x5, .ref (ad 69)] n ad E v.toInt64 PC) (h69 : ∀ E1, PC E1 → E1 63 = E 63) (HM : ∀ E1 o, PC E1 → RetP g mX4_splash 6 [.ref (ad 63), .int x1, .int x2, .int x3, .int x4, .int x5] n ad (va_up E1 69 (aL g 1 (vp_updL o 0 v.toInt64))) (some (.int v)) (PM (va_up E1 69 (aL g 1 (vp_updL o 0 v.toInt64))))) (hM : ∀ E1 E2, PM E1 E2 → (∃ f9, E2 63 = .inr (4, .int 0 :: f9)) ∧ E2 69 = E1 69) (K : ∀ E1 o E2, PC E1 → E1 69 = aL g 1 o → PM (va_up E1 69 (aL g 1 (vp_updL o 0 v.toInt64))) E2 → J g mL_law 12 bc bs 2592 [some (.ref g.1.2.1), some (.ref (ad 0)), some (.ref (ad 63)), some (.ref (ad 69)), some (.int (nI i6)), none, none, none, none] [] n ad E2 Φ Ψ) : J g mL_law 12 bc bs 396 [some (.ref g.1.2.1), some (.ref (ad 0)), some (.ref (ad 63)), some (.ref (ad 69)), some (.int (nI i6)), none, none, none, none] [] n ad E Φ Ψ := by
  refine j_aload_n dL_law_396 rfl ?_
  refine j_aload_n dL_law_397 rfl ?_
  refine j_iload dL_law_398 rfl ?_
  refine j_iconst (v := nI 1) dL_law_400 (by decide) ?_
  refine j_iadd dL_law_401 ?_
  refine j_topi (y := nI (i6 + 1)) (nI_add _ _) ?_
  refine j_sald dL_law_402 (by omega) (by omega) ?_
  refine j_topi (y := x1) e1 ?_
  refine j_aload_n dL_law_403 rfl ?_
  refine j_iload dL_law_404 rfl ?_
  refine j_iconst (v := nI 2) dL_law_406 (by decide) ?_
  refine j_iadd dL_law_407 ?_
  refine j_topi (y := nI (i6 + 2)) (nI_add _ _) ?_
  refine j_sald dL_law_408 (by omega) (by omega) ?_
  refine j_topi (y := x2) e2 ?_
  refine j_aload_n dL_law_409 rfl ?_
  refine j_iload dL_law_410 rfl ?_
  refine j_iconst (v := nI 3) dL_law_412 (by decide) ?_
  refine j_iadd dL_law_413 ?_
  refine j_topi (y := nI (i6 + 3)) (nI_add _ _) ?_
  refine j_sald dL_law_414 (by omega) (by omega) ?_
  refine j_topi (y := x3) e3 ?_
  refine j_aload_n dL_law_415 rfl ?_
  refine j_iload dL_law_416 rfl ?_
  refine j_iconst (v := nI 4) dL_law_418 (by decide) ?_
  refine j_iadd dL_law_419 ?_
  refine j_topi (y := nI (i6 + 4)) (nI_add _ _) ?_
  refine j_sald dL_law_420 (by omega) (by omega) ?_
  refine j_topi (y := x4) e4 ?_
  refine j_aload_n dL_law_421 rfl ?_
  refine j_iload dL_law_422 rfl ?_
  refine j_iconst (v := nI 5) dL_law_424 (by decide) ?_
  refine j_iadd dL_law_425 ?_
  refine j_topi (y := nI (i6 + 5)) (nI_add _ _) ?_
  refine j_sald dL_law_426 (by omega) (by omega) ?_
  refine j_topi (y := x5) e5 ?_
  refine j_aload_n dL_law_427 rfl ?_
  refine j_cSH (As := [.ref (ad 0), .int x1, .int x2, .int x3, .int x4, .int x5, .ref (ad 69)]) (rest := []) cm_L_splash ct_L_splash ln_L_140 dL_law_428 (d' := 11) (by decide) rfl rfl (Nat.le_of_ble_eq_true rfl) (Nat.le_of_ble_eq_true rfl) HH (fun E1 o p1 ho => ?_)
  obtain h63a := h69 E1 p1
  show J g mL_law 12 bc bs 431 [some (.ref g.1.2.1), some (.ref (ad 0)), some (.ref (ad 63)), some (.ref (ad 69)), some (.int (nI i6)), none, none, none, none] [.int 0] n ad (va_up E1 69 (aL g 1 (vp_updL o 0 v.toInt64))) Φ Ψ
  refine j_istore (L' := [some (.ref g.1.2.1), some (.ref (ad 0)), some (.ref (ad 63)), some (.ref (ad 69)), some (.int (nI i6)), some (.int 0), none, none, none]) dL_law_431 (by decide) rfl rfl ?_
  refine j_aload_n dL_law_433 rfl ?_
  refine j_aload_n dL_law_434 rfl ?_
  refine j_iload dL_law_435 rfl ?_
  refine j_iconst (v := nI 1) dL_law_437 (by decide) ?_
  refine j_iadd dL_law_438 ?_
  refine j_topi (y := nI (i6 + 1)) (nI_add _ _) ?_
  refine j_sald dL_law_439 (by omega) (by omega) ?_
  refine j_topi (y := x1) e1 ?_
  refine j_aload_n dL_law_440 rfl ?_
  refine j_iload dL_law_441 rfl ?_
  refine j_iconst (v := nI 2) dL_law_443 (by decide) ?_
  refine j_iadd dL_law_444 ?_
  refine j_topi (y := nI (i6 + 2)) (nI_add _ _) ?_
  refine j_sald dL_law_445 (by omega) (by omega) ?_
  refine j_topi (y := x2) e2 ?_
  refine j_aload_n dL_law_446 rfl ?_
  refine j_iload dL_law_447 rfl ?_
  refine j_iconst (v := nI 3) dL_law_449 (by decide) ?_
  refine j_iadd dL_law_450 ?_
  refine j_topi (y := nI (i6 + 3)) (nI_add _ _) ?_
  refine j_sald dL_law_451 (by omega) (by omega) ?_
  refine j_topi (y := x3) e3 ?_
  refine j_aload_n dL_law_452 rfl ?_
  refine j_iload dL_law_453 rfl ?_
  refine j_iconst (v := nI 4) dL_law_455 (by decide) ?_
  refine j_iadd dL_law_456 ?_
  refine j_topi (y := nI (i6 + 4)) (nI_add _ _) ?_
  refine j_sald dL_law_457 (by omega) (by omega) ?_
  refine j_topi (y := x4) e4 ?_
  refine j_aload_n dL_law_458 rfl ?_
  refine j_iload dL_law_459 rfl ?_
  refine j_iconst (v := nI 5) dL_law_461 (by decide) ?_
  refine j_iadd dL_law_462 ?_
  refine j_topi (y := nI (i6 + 5)) (nI_add _ _) ?_
  refine j_sald dL_law_463 (by omega) (by omega) ?_
  refine j_topi (y := x5) e5 ?_
  refine j_cVp (As := [.int x1, .int x2, .int x3, .int x4, .int x5]) (rest := []) cm_X4_splash ci_X4_splash cs_X4_splash rfl ln_L_143 (ci := 4) rfl dL_law_464 (d' := 6) (by decide) (by omega) ((up_ne (by decide)).trans (h63a.trans h63)) rfl rfl (Nat.le_of_ble_eq_true rfl) (Nat.le_of_ble_eq_true rfl) (HM E1 _ p1) (fun E2 q2 => ?_)
  obtain ⟨⟨fm2, h63b⟩, h69b⟩ := hM _ _ q2
  show J g mL_law 12 bc bs 467 [some (.ref g.1.2.1), some (.ref (ad 0)), some (.ref (ad 63)), some (.ref (ad 69)), some (.int (nI i6)), some (.int 0), none, none, none] [.int v] n ad E2 Φ Ψ
  refine j_istore (L' := [some (.ref g.1.2.1), some (.ref (ad 0)), some (.ref (ad 63)), some (.ref (ad 69)), some (.int (nI i6)), some (.int 0), some (.int v), none, none]) dL_law_467 (by decide) rfl rfl ?_
  refine j_aload_n dL_law_469 rfl ?_
  refine j_cV (As := []) (rest := []) cm_X4_thrown ci_X4_thrown cs_X4_thrown rfl ln_L_133 (ci := 4) rfl dL_law_470 (d' := 0) (by decide) (by omega) h63b rfl rfl (Nat.le_of_ble_eq_true rfl) (Nat.le_of_ble_eq_true rfl) (s_thrown' hn h63b) ?_
  refine j_iload dL_law_473 rfl ?_
  refine j_icmp_eq_t (tgt := 480) dL_law_475 (by decide) (by decide) ?_
  refine j_iload dL_law_480 rfl ?_
  refine j_if_ne_f (tgt := 497) dL_law_482 (by decide) (by decide) ?_
  refine j_aload_n dL_law_485 rfl ?_
  refine j_iconst (v := nI 0) dL_law_486 (by decide) ?_
  refine j_lald dL_law_487 (by omega) (h69b.trans up_eq) (by decide) (by omega) rfl ?_
  refine j_topl (y := v.toInt64) (if_pos rfl) ?_
  refine j_iload dL_law_488 rfl ?_
  refine j_i2l dL_law_490 ?_
  refine j_lcmp dL_law_491 ?_
  refine j_topi (y := 0) (lg_self _) ?_
  refine j_if_eq_t (tgt := 497) dL_law_492 (by decide) (by decide) ?_
  refine j_goto (tgt := 2592) dL_law_497 (by decide) ?_
  refine j_clr 5 ?_
  refine j_clr 6 ?_
  exact K E1 o E2 p1 ho q2
set_option maxRecDepth 100000 in
set_option maxHeartbeats 4000000 in
theorem lc_splash_bad {g : jG} {n : Nat} {ad : Nat → Nat} {E : Nat → va_E} {i6 bc bs : Nat} {Φ : Option Value → jR} {Ψ : String → jR} {fs fm : List Value} (hi : i6 + 6 ≤ g.1.2.2.1) (hL : g.1.2.2.1 ≤ 3072) (hn : 70 ≤ n) (h0 : E 0 = .inr (3, fs)) (h63 : E 63 = .inr (4, fm)) {x1 : Int32} (e1 : g.1.2.2.2 (i6 + 1) = x1) {x2 : Int32} (e2 : g.1.2.2.2 (i6 + 2) = x2) {x3 : Int32} (e3 : g.1.2.2.2 (i6 + 3) = x3) {x4 : Int32} (e4 : g.1.2.2.2 (i6 + 4) = x4) {x5 : Int32} (e5 : g.1.2.2.2 (i6 + 5) = x5) {k : Int32} (hk : ¬ k = 0) {b : Int32} {PM : (Nat → va_E) → Prop} (HH : HBad g mL_splash 11 [.ref (ad 0), .int x1, .int x2, .int x3, .int x4, .int x5, .ref (ad 69)] n ad E k) (HM : RetP g mX4_splash 6 [.ref (ad 63), .int x1, .int x2, .int x3, .int x4, .int x5] n ad E (some (.int b)) PM) (hM : ∀ E2, PM E2 → ∃ f9, E2 63 = .inr (4, .int k :: f9)) (K : ∀ E2, PM E2 → J g mL_law 12 bc bs 2592 [some (.ref g.1.2.1), some (.ref (ad 0)), some (.ref (ad 63)), some (.ref (ad 69)), some (.int (nI i6)), none, none, none, none] [] n ad E2 Φ Ψ) : J g mL_law 12 (1 + bc) (6 + bs) 396 [some (.ref g.1.2.1), some (.ref (ad 0)), some (.ref (ad 63)), some (.ref (ad 69)), some (.int (nI i6)), none, none, none, none] [] n ad E Φ Ψ := by
  refine j_aload_n dL_law_396 rfl ?_
  refine j_aload_n dL_law_397 rfl ?_
  refine j_iload dL_law_398 rfl ?_
  refine j_iconst (v := nI 1) dL_law_400 (by decide) ?_
  refine j_iadd dL_law_401 ?_
  refine j_topi (y := nI (i6 + 1)) (nI_add _ _) ?_
  refine j_sald dL_law_402 (by omega) (by omega) ?_
  refine j_topi (y := x1) e1 ?_
  refine j_aload_n dL_law_403 rfl ?_
  refine j_iload dL_law_404 rfl ?_
  refine j_iconst (v := nI 2) dL_law_406 (by decide) ?_
  refine j_iadd dL_law_407 ?_
  refine j_topi (y := nI (i6 + 2)) (nI_add _ _) ?_
  refine j_sald dL_law_408 (by omega) (by omega) ?_
  refine j_topi (y := x2) e2 ?_
  refine j_aload_n dL_law_409 rfl ?_
  refine j_iload dL_law_410 rfl ?_
  refine j_iconst (v := nI 3) dL_law_412 (by decide) ?_
  refine j_iadd dL_law_413 ?_
  refine j_topi (y := nI (i6 + 3)) (nI_add _ _) ?_
  refine j_sald dL_law_414 (by omega) (by omega) ?_
  refine j_topi (y := x3) e3 ?_
  refine j_aload_n dL_law_415 rfl ?_
  refine j_iload dL_law_416 rfl ?_
  refine j_iconst (v := nI 4) dL_law_418 (by decide) ?_
  refine j_iadd dL_law_419 ?_
  refine j_topi (y := nI (i6 + 4)) (nI_add _ _) ?_
  refine j_sald dL_law_420 (by omega) (by omega) ?_
  refine j_topi (y := x4) e4 ?_
  refine j_aload_n dL_law_421 rfl ?_
  refine j_iload dL_law_422 rfl ?_
  refine j_iconst (v := nI 5) dL_law_424 (by decide) ?_
  refine j_iadd dL_law_425 ?_
  refine j_topi (y := nI (i6 + 5)) (nI_add _ _) ?_
  refine j_sald dL_law_426 (by omega) (by omega) ?_
  refine j_topi (y := x5) e5 ?_
  refine j_aload_n dL_law_427 rfl ?_
  refine j_cSB (As := [.ref (ad 0), .int x1, .int x2, .int x3, .int x4, .int x5, .ref (ad 69)]) (rest := []) cm_L_splash ct_L_splash ln_L_140 dL_law_428 (d' := 11) (by decide) rfl rfl (Nat.le_of_ble_eq_true rfl) (Nat.le_of_ble_eq_true rfl) HH ?_
  show J g mL_law 12 bc bs 431 [some (.ref g.1.2.1), some (.ref (ad 0)), some (.ref (ad 63)), some (.ref (ad 69)), some (.int (nI i6)), none, none, none, none] [.int k] n ad E Φ Ψ
  refine j_istore (L' := [some (.ref g.1.2.1), some (.ref (ad 0)), some (.ref (ad 63)), some (.ref (ad 69)), some (.int (nI i6)), some (.int k), none, none, none]) dL_law_431 (by decide) rfl rfl ?_
  refine j_aload_n dL_law_433 rfl ?_
  refine j_aload_n dL_law_434 rfl ?_
  refine j_iload dL_law_435 rfl ?_
  refine j_iconst (v := nI 1) dL_law_437 (by decide) ?_
  refine j_iadd dL_law_438 ?_
  refine j_topi (y := nI (i6 + 1)) (nI_add _ _) ?_
  refine j_sald dL_law_439 (by omega) (by omega) ?_
  refine j_topi (y := x1) e1 ?_
  refine j_aload_n dL_law_440 rfl ?_
  refine j_iload dL_law_441 rfl ?_
  refine j_iconst (v := nI 2) dL_law_443 (by decide) ?_
  refine j_iadd dL_law_444 ?_
  refine j_topi (y := nI (i6 + 2)) (nI_add _ _) ?_
  refine j_sald dL_law_445 (by omega) (by omega) ?_
  refine j_topi (y := x2) e2 ?_
  refine j_aload_n dL_law_446 rfl ?_
  refine j_iload dL_law_447 rfl ?_
  refine j_iconst (v := nI 3) dL_law_449 (by decide) ?_
  refine j_iadd dL_law_450 ?_
  refine j_topi (y := nI (i6 + 3)) (nI_add _ _) ?_
  refine j_sald dL_law_451 (by omega) (by omega) ?_
  refine j_topi (y := x3) e3 ?_
  refine j_aload_n dL_law_452 rfl ?_
  refine j_iload dL_law_453 rfl ?_
  refine j_iconst (v := nI 4) dL_law_455 (by decide) ?_
  refine j_iadd dL_law_456 ?_
  refine j_topi (y := nI (i6 + 4)) (nI_add _ _) ?_
  refine j_sald dL_law_457 (by omega) (by omega) ?_
  refine j_topi (y := x4) e4 ?_
  refine j_aload_n dL_law_458 rfl ?_
  refine j_iload dL_law_459 rfl ?_
  refine j_iconst (v := nI 5) dL_law_461 (by decide) ?_
  refine j_iadd dL_law_462 ?_
  refine j_topi (y := nI (i6 + 5)) (nI_add _ _) ?_
  refine j_sald dL_law_463 (by omega) (by omega) ?_
  refine j_topi (y := x5) e5 ?_
  refine j_cVp (As := [.int x1, .int x2, .int x3, .int x4, .int x5]) (rest := []) cm_X4_splash ci_X4_splash cs_X4_splash rfl ln_L_143 (ci := 4) rfl dL_law_464 (d' := 6) (by decide) (by omega) h63 rfl rfl (Nat.le_of_ble_eq_true rfl) (Nat.le_of_ble_eq_true rfl) HM (fun E2 q2 => ?_)
  obtain ⟨fm2, h63b⟩ := hM _ q2
  show J g mL_law 12 bc bs 467 [some (.ref g.1.2.1), some (.ref (ad 0)), some (.ref (ad 63)), some (.ref (ad 69)), some (.int (nI i6)), some (.int k), none, none, none] [.int b] n ad E2 Φ Ψ
  refine j_istore (L' := [some (.ref g.1.2.1), some (.ref (ad 0)), some (.ref (ad 63)), some (.ref (ad 69)), some (.int (nI i6)), some (.int k), some (.int b), none, none]) dL_law_467 (by decide) rfl rfl ?_
  refine j_aload_n dL_law_469 rfl ?_
  refine j_cV (As := []) (rest := []) cm_X4_thrown ci_X4_thrown cs_X4_thrown rfl ln_L_133 (ci := 4) rfl dL_law_470 (d' := 0) (by decide) (by omega) h63b rfl rfl (Nat.le_of_ble_eq_true rfl) (Nat.le_of_ble_eq_true rfl) (s_thrown' hn h63b) ?_
  refine j_iload dL_law_473 rfl ?_
  refine j_icmp_eq_t (tgt := 480) dL_law_475 (by decide) rfl ?_
  refine j_iload dL_law_480 rfl ?_
  refine j_if_ne_t (tgt := 497) dL_law_482 (by decide) hk ?_
  refine j_goto (tgt := 2592) dL_law_497 (by decide) ?_
  refine j_clr 5 ?_
  refine j_clr 6 ?_
  exact K E2 q2
set_option maxRecDepth 100000 in
set_option maxHeartbeats 4000000 in
theorem lc_swap_ok {g : jG} {n : Nat} {ad : Nat → Nat} {E : Nat → va_E} {i6 bc bs : Nat} {Φ : Option Value → jR} {Ψ : String → jR} {fs fm : List Value} (hi : i6 + 6 ≤ g.1.2.2.1) (hL : g.1.2.2.1 ≤ 3072) (hn : 70 ≤ n) (h0 : E 0 = .inr (3, fs)) (h63 : E 63 = .inr (4, fm)) {x1 : Int32} (e1 : g.1.2.2.2 (i6 + 1) = x1) {x2 : Int32} (e2 : g.1.2.2.2 (i6 + 2) = x2) {v : Int32} {PC : (Nat → va_E) → Prop} {PM : (Nat → va_E) → (Nat → va_E) → Prop} (HH : HOk g mL_swap 11 [.ref (ad 0), .int x1, .int x2, .ref (ad 69)] n ad E v.toInt64 PC) (h69 : ∀ E1, PC E1 → E1 63 = E 63) (HM : ∀ E1 o, PC E1 → RetP g mX4_swap 6 [.ref (ad 63), .int x1, .int x2] n ad (va_up E1 69 (aL g 1 (vp_updL o 0 v.toInt64))) (some (.int v)) (PM (va_up E1 69 (aL g 1 (vp_updL o 0 v.toInt64))))) (hM : ∀ E1 E2, PM E1 E2 → (∃ f9, E2 63 = .inr (4, .int 0 :: f9)) ∧ E2 69 = E1 69) (K : ∀ E1 o E2, PC E1 → E1 69 = aL g 1 o → PM (va_up E1 69 (aL g 1 (vp_updL o 0 v.toInt64))) E2 → J g mL_law 12 bc bs 2592 [some (.ref g.1.2.1), some (.ref (ad 0)), some (.ref (ad 63)), some (.ref (ad 69)), some (.int (nI i6)), none, none, none, none] [] n ad E2 Φ Ψ) : J g mL_law 12 bc bs 500 [some (.ref g.1.2.1), some (.ref (ad 0)), some (.ref (ad 63)), some (.ref (ad 69)), some (.int (nI i6)), none, none, none, none] [] n ad E Φ Ψ := by
  refine j_aload_n dL_law_500 rfl ?_
  refine j_aload_n dL_law_501 rfl ?_
  refine j_iload dL_law_502 rfl ?_
  refine j_iconst (v := nI 1) dL_law_504 (by decide) ?_
  refine j_iadd dL_law_505 ?_
  refine j_topi (y := nI (i6 + 1)) (nI_add _ _) ?_
  refine j_sald dL_law_506 (by omega) (by omega) ?_
  refine j_topi (y := x1) e1 ?_
  refine j_aload_n dL_law_507 rfl ?_
  refine j_iload dL_law_508 rfl ?_
  refine j_iconst (v := nI 2) dL_law_510 (by decide) ?_
  refine j_iadd dL_law_511 ?_
  refine j_topi (y := nI (i6 + 2)) (nI_add _ _) ?_
  refine j_sald dL_law_512 (by omega) (by omega) ?_
  refine j_topi (y := x2) e2 ?_
  refine j_aload_n dL_law_513 rfl ?_
  refine j_cSH (As := [.ref (ad 0), .int x1, .int x2, .ref (ad 69)]) (rest := []) cm_L_swap ct_L_swap ln_L_144 dL_law_514 (d' := 11) (by decide) rfl rfl (Nat.le_of_ble_eq_true rfl) (Nat.le_of_ble_eq_true rfl) HH (fun E1 o p1 ho => ?_)
  obtain h63a := h69 E1 p1
  show J g mL_law 12 bc bs 517 [some (.ref g.1.2.1), some (.ref (ad 0)), some (.ref (ad 63)), some (.ref (ad 69)), some (.int (nI i6)), none, none, none, none] [.int 0] n ad (va_up E1 69 (aL g 1 (vp_updL o 0 v.toInt64))) Φ Ψ
  refine j_istore (L' := [some (.ref g.1.2.1), some (.ref (ad 0)), some (.ref (ad 63)), some (.ref (ad 69)), some (.int (nI i6)), some (.int 0), none, none, none]) dL_law_517 (by decide) rfl rfl ?_
  refine j_aload_n dL_law_519 rfl ?_
  refine j_aload_n dL_law_520 rfl ?_
  refine j_iload dL_law_521 rfl ?_
  refine j_iconst (v := nI 1) dL_law_523 (by decide) ?_
  refine j_iadd dL_law_524 ?_
  refine j_topi (y := nI (i6 + 1)) (nI_add _ _) ?_
  refine j_sald dL_law_525 (by omega) (by omega) ?_
  refine j_topi (y := x1) e1 ?_
  refine j_aload_n dL_law_526 rfl ?_
  refine j_iload dL_law_527 rfl ?_
  refine j_iconst (v := nI 2) dL_law_529 (by decide) ?_
  refine j_iadd dL_law_530 ?_
  refine j_topi (y := nI (i6 + 2)) (nI_add _ _) ?_
  refine j_sald dL_law_531 (by omega) (by omega) ?_
  refine j_topi (y := x2) e2 ?_
  refine j_cVp (As := [.int x1, .int x2]) (rest := []) cm_X4_swap ci_X4_swap cs_X4_swap rfl ln_L_146 (ci := 4) rfl dL_law_532 (d' := 6) (by decide) (by omega) ((up_ne (by decide)).trans (h63a.trans h63)) rfl rfl (Nat.le_of_ble_eq_true rfl) (Nat.le_of_ble_eq_true rfl) (HM E1 _ p1) (fun E2 q2 => ?_)
  obtain ⟨⟨fm2, h63b⟩, h69b⟩ := hM _ _ q2
  show J g mL_law 12 bc bs 535 [some (.ref g.1.2.1), some (.ref (ad 0)), some (.ref (ad 63)), some (.ref (ad 69)), some (.int (nI i6)), some (.int 0), none, none, none] [.int v] n ad E2 Φ Ψ
  refine j_istore (L' := [some (.ref g.1.2.1), some (.ref (ad 0)), some (.ref (ad 63)), some (.ref (ad 69)), some (.int (nI i6)), some (.int 0), some (.int v), none, none]) dL_law_535 (by decide) rfl rfl ?_
  refine j_aload_n dL_law_537 rfl ?_
  refine j_cV (As := []) (rest := []) cm_X4_thrown ci_X4_thrown cs_X4_thrown rfl ln_L_133 (ci := 4) rfl dL_law_538 (d' := 0) (by decide) (by omega) h63b rfl rfl (Nat.le_of_ble_eq_true rfl) (Nat.le_of_ble_eq_true rfl) (s_thrown' hn h63b) ?_
  refine j_iload dL_law_541 rfl ?_
  refine j_icmp_eq_t (tgt := 548) dL_law_543 (by decide) (by decide) ?_
  refine j_iload dL_law_548 rfl ?_
  refine j_if_ne_f (tgt := 565) dL_law_550 (by decide) (by decide) ?_
  refine j_aload_n dL_law_553 rfl ?_
  refine j_iconst (v := nI 0) dL_law_554 (by decide) ?_
  refine j_lald dL_law_555 (by omega) (h69b.trans up_eq) (by decide) (by omega) rfl ?_
  refine j_topl (y := v.toInt64) (if_pos rfl) ?_
  refine j_iload dL_law_556 rfl ?_
  refine j_i2l dL_law_558 ?_
  refine j_lcmp dL_law_559 ?_
  refine j_topi (y := 0) (lg_self _) ?_
  refine j_if_eq_t (tgt := 565) dL_law_560 (by decide) (by decide) ?_
  refine j_goto (tgt := 2592) dL_law_565 (by decide) ?_
  refine j_clr 5 ?_
  refine j_clr 6 ?_
  exact K E1 o E2 p1 ho q2
set_option maxRecDepth 100000 in
set_option maxHeartbeats 4000000 in
theorem lc_swap_bad {g : jG} {n : Nat} {ad : Nat → Nat} {E : Nat → va_E} {i6 bc bs : Nat} {Φ : Option Value → jR} {Ψ : String → jR} {fs fm : List Value} (hi : i6 + 6 ≤ g.1.2.2.1) (hL : g.1.2.2.1 ≤ 3072) (hn : 70 ≤ n) (h0 : E 0 = .inr (3, fs)) (h63 : E 63 = .inr (4, fm)) {x1 : Int32} (e1 : g.1.2.2.2 (i6 + 1) = x1) {x2 : Int32} (e2 : g.1.2.2.2 (i6 + 2) = x2) {k : Int32} (hk : ¬ k = 0) {b : Int32} {PM : (Nat → va_E) → Prop} (HH : HBad g mL_swap 11 [.ref (ad 0), .int x1, .int x2, .ref (ad 69)] n ad E k) (HM : RetP g mX4_swap 6 [.ref (ad 63), .int x1, .int x2] n ad E (some (.int b)) PM) (hM : ∀ E2, PM E2 → ∃ f9, E2 63 = .inr (4, .int k :: f9)) (K : ∀ E2, PM E2 → J g mL_law 12 bc bs 2592 [some (.ref g.1.2.1), some (.ref (ad 0)), some (.ref (ad 63)), some (.ref (ad 69)), some (.int (nI i6)), none, none, none, none] [] n ad E2 Φ Ψ) : J g mL_law 12 (1 + bc) (6 + bs) 500 [some (.ref g.1.2.1), some (.ref (ad 0)), some (.ref (ad 63)), some (.ref (ad 69)), some (.int (nI i6)), none, none, none, none] [] n ad E Φ Ψ := by
  refine j_aload_n dL_law_500 rfl ?_
  refine j_aload_n dL_law_501 rfl ?_
  refine j_iload dL_law_502 rfl ?_
  refine j_iconst (v := nI 1) dL_law_504 (by decide) ?_
  refine j_iadd dL_law_505 ?_
  refine j_topi (y := nI (i6 + 1)) (nI_add _ _) ?_
  refine j_sald dL_law_506 (by omega) (by omega) ?_
  refine j_topi (y := x1) e1 ?_
  refine j_aload_n dL_law_507 rfl ?_
  refine j_iload dL_law_508 rfl ?_
  refine j_iconst (v := nI 2) dL_law_510 (by decide) ?_
  refine j_iadd dL_law_511 ?_
  refine j_topi (y := nI (i6 + 2)) (nI_add _ _) ?_
  refine j_sald dL_law_512 (by omega) (by omega) ?_
  refine j_topi (y := x2) e2 ?_
  refine j_aload_n dL_law_513 rfl ?_
  refine j_cSB (As := [.ref (ad 0), .int x1, .int x2, .ref (ad 69)]) (rest := []) cm_L_swap ct_L_swap ln_L_144 dL_law_514 (d' := 11) (by decide) rfl rfl (Nat.le_of_ble_eq_true rfl) (Nat.le_of_ble_eq_true rfl) HH ?_
  show J g mL_law 12 bc bs 517 [some (.ref g.1.2.1), some (.ref (ad 0)), some (.ref (ad 63)), some (.ref (ad 69)), some (.int (nI i6)), none, none, none, none] [.int k] n ad E Φ Ψ
  refine j_istore (L' := [some (.ref g.1.2.1), some (.ref (ad 0)), some (.ref (ad 63)), some (.ref (ad 69)), some (.int (nI i6)), some (.int k), none, none, none]) dL_law_517 (by decide) rfl rfl ?_
  refine j_aload_n dL_law_519 rfl ?_
  refine j_aload_n dL_law_520 rfl ?_
  refine j_iload dL_law_521 rfl ?_
  refine j_iconst (v := nI 1) dL_law_523 (by decide) ?_
  refine j_iadd dL_law_524 ?_
  refine j_topi (y := nI (i6 + 1)) (nI_add _ _) ?_
  refine j_sald dL_law_525 (by omega) (by omega) ?_
  refine j_topi (y := x1) e1 ?_
  refine j_aload_n dL_law_526 rfl ?_
  refine j_iload dL_law_527 rfl ?_
  refine j_iconst (v := nI 2) dL_law_529 (by decide) ?_
  refine j_iadd dL_law_530 ?_
  refine j_topi (y := nI (i6 + 2)) (nI_add _ _) ?_
  refine j_sald dL_law_531 (by omega) (by omega) ?_
  refine j_topi (y := x2) e2 ?_
  refine j_cVp (As := [.int x1, .int x2]) (rest := []) cm_X4_swap ci_X4_swap cs_X4_swap rfl ln_L_146 (ci := 4) rfl dL_law_532 (d' := 6) (by decide) (by omega) h63 rfl rfl (Nat.le_of_ble_eq_true rfl) (Nat.le_of_ble_eq_true rfl) HM (fun E2 q2 => ?_)
  obtain ⟨fm2, h63b⟩ := hM _ q2
  show J g mL_law 12 bc bs 535 [some (.ref g.1.2.1), some (.ref (ad 0)), some (.ref (ad 63)), some (.ref (ad 69)), some (.int (nI i6)), some (.int k), none, none, none] [.int b] n ad E2 Φ Ψ
  refine j_istore (L' := [some (.ref g.1.2.1), some (.ref (ad 0)), some (.ref (ad 63)), some (.ref (ad 69)), some (.int (nI i6)), some (.int k), some (.int b), none, none]) dL_law_535 (by decide) rfl rfl ?_
  refine j_aload_n dL_law_537 rfl ?_
  refine j_cV (As := []) (rest := []) cm_X4_thrown ci_X4_thrown cs_X4_thrown rfl ln_L_133 (ci := 4) rfl dL_law_538 (d' := 0) (by decide) (by omega) h63b rfl rfl (Nat.le_of_ble_eq_true rfl) (Nat.le_of_ble_eq_true rfl) (s_thrown' hn h63b) ?_
  refine j_iload dL_law_541 rfl ?_
  refine j_icmp_eq_t (tgt := 548) dL_law_543 (by decide) rfl ?_
  refine j_iload dL_law_548 rfl ?_
  refine j_if_ne_t (tgt := 565) dL_law_550 (by decide) hk ?_
  refine j_goto (tgt := 2592) dL_law_565 (by decide) ?_
  refine j_clr 5 ?_
  refine j_clr 6 ?_
  exact K E2 q2
set_option maxRecDepth 100000 in
set_option maxHeartbeats 4000000 in
theorem lc_turn_ok {g : jG} {n : Nat} {ad : Nat → Nat} {E : Nat → va_E} {i6 bc bs : Nat} {Φ : Option Value → jR} {Ψ : String → jR} {fs fm : List Value} (hi : i6 + 6 ≤ g.1.2.2.1) (hL : g.1.2.2.1 ≤ 3072) (hn : 70 ≤ n) (h0 : E 0 = .inr (3, fs)) (h63 : E 63 = .inr (4, fm)) {x1 : Int32} (e1 : g.1.2.2.2 (i6 + 1) = x1) {v : Int32} {PC : (Nat → va_E) → Prop} {PM : (Nat → va_E) → (Nat → va_E) → Prop} (HH : HOk g mL_turn 11 [.ref (ad 0), .int x1, .ref (ad 69)] n ad E v.toInt64 PC) (h69 : ∀ E1, PC E1 → E1 63 = E 63) (HM : ∀ E1 o, PC E1 → RetP g mX4_turn 6 [.ref (ad 63), .int x1] n ad (va_up E1 69 (aL g 1 (vp_updL o 0 v.toInt64))) (some (.int v)) (PM (va_up E1 69 (aL g 1 (vp_updL o 0 v.toInt64))))) (hM : ∀ E1 E2, PM E1 E2 → (∃ f9, E2 63 = .inr (4, .int 0 :: f9)) ∧ E2 69 = E1 69) (K : ∀ E1 o E2, PC E1 → E1 69 = aL g 1 o → PM (va_up E1 69 (aL g 1 (vp_updL o 0 v.toInt64))) E2 → J g mL_law 12 bc bs 2592 [some (.ref g.1.2.1), some (.ref (ad 0)), some (.ref (ad 63)), some (.ref (ad 69)), some (.int (nI i6)), none, none, none, none] [] n ad E2 Φ Ψ) : J g mL_law 12 bc bs 568 [some (.ref g.1.2.1), some (.ref (ad 0)), some (.ref (ad 63)), some (.ref (ad 69)), some (.int (nI i6)), none, none, none, none] [] n ad E Φ Ψ := by
  refine j_aload_n dL_law_568 rfl ?_
  refine j_aload_n dL_law_569 rfl ?_
  refine j_iload dL_law_570 rfl ?_
  refine j_iconst (v := nI 1) dL_law_572 (by decide) ?_
  refine j_iadd dL_law_573 ?_
  refine j_topi (y := nI (i6 + 1)) (nI_add _ _) ?_
  refine j_sald dL_law_574 (by omega) (by omega) ?_
  refine j_topi (y := x1) e1 ?_
  refine j_aload_n dL_law_575 rfl ?_
  refine j_cSH (As := [.ref (ad 0), .int x1, .ref (ad 69)]) (rest := []) cm_L_turn ct_L_turn ln_L_147 dL_law_576 (d' := 11) (by decide) rfl rfl (Nat.le_of_ble_eq_true rfl) (Nat.le_of_ble_eq_true rfl) HH (fun E1 o p1 ho => ?_)
  obtain h63a := h69 E1 p1
  show J g mL_law 12 bc bs 579 [some (.ref g.1.2.1), some (.ref (ad 0)), some (.ref (ad 63)), some (.ref (ad 69)), some (.int (nI i6)), none, none, none, none] [.int 0] n ad (va_up E1 69 (aL g 1 (vp_updL o 0 v.toInt64))) Φ Ψ
  refine j_istore (L' := [some (.ref g.1.2.1), some (.ref (ad 0)), some (.ref (ad 63)), some (.ref (ad 69)), some (.int (nI i6)), some (.int 0), none, none, none]) dL_law_579 (by decide) rfl rfl ?_
  refine j_aload_n dL_law_581 rfl ?_
  refine j_aload_n dL_law_582 rfl ?_
  refine j_iload dL_law_583 rfl ?_
  refine j_iconst (v := nI 1) dL_law_585 (by decide) ?_
  refine j_iadd dL_law_586 ?_
  refine j_topi (y := nI (i6 + 1)) (nI_add _ _) ?_
  refine j_sald dL_law_587 (by omega) (by omega) ?_
  refine j_topi (y := x1) e1 ?_
  refine j_cVp (As := [.int x1]) (rest := []) cm_X4_turn ci_X4_turn cs_X4_turn rfl ln_L_150 (ci := 4) rfl dL_law_588 (d' := 6) (by decide) (by omega) ((up_ne (by decide)).trans (h63a.trans h63)) rfl rfl (Nat.le_of_ble_eq_true rfl) (Nat.le_of_ble_eq_true rfl) (HM E1 _ p1) (fun E2 q2 => ?_)
  obtain ⟨⟨fm2, h63b⟩, h69b⟩ := hM _ _ q2
  show J g mL_law 12 bc bs 591 [some (.ref g.1.2.1), some (.ref (ad 0)), some (.ref (ad 63)), some (.ref (ad 69)), some (.int (nI i6)), some (.int 0), none, none, none] [.int v] n ad E2 Φ Ψ
  refine j_istore (L' := [some (.ref g.1.2.1), some (.ref (ad 0)), some (.ref (ad 63)), some (.ref (ad 69)), some (.int (nI i6)), some (.int 0), some (.int v), none, none]) dL_law_591 (by decide) rfl rfl ?_
  refine j_aload_n dL_law_593 rfl ?_
  refine j_cV (As := []) (rest := []) cm_X4_thrown ci_X4_thrown cs_X4_thrown rfl ln_L_133 (ci := 4) rfl dL_law_594 (d' := 0) (by decide) (by omega) h63b rfl rfl (Nat.le_of_ble_eq_true rfl) (Nat.le_of_ble_eq_true rfl) (s_thrown' hn h63b) ?_
  refine j_iload dL_law_597 rfl ?_
  refine j_icmp_eq_t (tgt := 604) dL_law_599 (by decide) (by decide) ?_
  refine j_iload dL_law_604 rfl ?_
  refine j_if_ne_f (tgt := 621) dL_law_606 (by decide) (by decide) ?_
  refine j_aload_n dL_law_609 rfl ?_
  refine j_iconst (v := nI 0) dL_law_610 (by decide) ?_
  refine j_lald dL_law_611 (by omega) (h69b.trans up_eq) (by decide) (by omega) rfl ?_
  refine j_topl (y := v.toInt64) (if_pos rfl) ?_
  refine j_iload dL_law_612 rfl ?_
  refine j_i2l dL_law_614 ?_
  refine j_lcmp dL_law_615 ?_
  refine j_topi (y := 0) (lg_self _) ?_
  refine j_if_eq_t (tgt := 621) dL_law_616 (by decide) (by decide) ?_
  refine j_goto (tgt := 2592) dL_law_621 (by decide) ?_
  refine j_clr 5 ?_
  refine j_clr 6 ?_
  exact K E1 o E2 p1 ho q2
set_option maxRecDepth 100000 in
set_option maxHeartbeats 4000000 in
theorem lc_turn_bad {g : jG} {n : Nat} {ad : Nat → Nat} {E : Nat → va_E} {i6 bc bs : Nat} {Φ : Option Value → jR} {Ψ : String → jR} {fs fm : List Value} (hi : i6 + 6 ≤ g.1.2.2.1) (hL : g.1.2.2.1 ≤ 3072) (hn : 70 ≤ n) (h0 : E 0 = .inr (3, fs)) (h63 : E 63 = .inr (4, fm)) {x1 : Int32} (e1 : g.1.2.2.2 (i6 + 1) = x1) {k : Int32} (hk : ¬ k = 0) {b : Int32} {PM : (Nat → va_E) → Prop} (HH : HBad g mL_turn 11 [.ref (ad 0), .int x1, .ref (ad 69)] n ad E k) (HM : RetP g mX4_turn 6 [.ref (ad 63), .int x1] n ad E (some (.int b)) PM) (hM : ∀ E2, PM E2 → ∃ f9, E2 63 = .inr (4, .int k :: f9)) (K : ∀ E2, PM E2 → J g mL_law 12 bc bs 2592 [some (.ref g.1.2.1), some (.ref (ad 0)), some (.ref (ad 63)), some (.ref (ad 69)), some (.int (nI i6)), none, none, none, none] [] n ad E2 Φ Ψ) : J g mL_law 12 (1 + bc) (6 + bs) 568 [some (.ref g.1.2.1), some (.ref (ad 0)), some (.ref (ad 63)), some (.ref (ad 69)), some (.int (nI i6)), none, none, none, none] [] n ad E Φ Ψ := by
  refine j_aload_n dL_law_568 rfl ?_
  refine j_aload_n dL_law_569 rfl ?_
  refine j_iload dL_law_570 rfl ?_
  refine j_iconst (v := nI 1) dL_law_572 (by decide) ?_
  refine j_iadd dL_law_573 ?_
  refine j_topi (y := nI (i6 + 1)) (nI_add _ _) ?_
  refine j_sald dL_law_574 (by omega) (by omega) ?_
  refine j_topi (y := x1) e1 ?_
  refine j_aload_n dL_law_575 rfl ?_
  refine j_cSB (As := [.ref (ad 0), .int x1, .ref (ad 69)]) (rest := []) cm_L_turn ct_L_turn ln_L_147 dL_law_576 (d' := 11) (by decide) rfl rfl (Nat.le_of_ble_eq_true rfl) (Nat.le_of_ble_eq_true rfl) HH ?_
  show J g mL_law 12 bc bs 579 [some (.ref g.1.2.1), some (.ref (ad 0)), some (.ref (ad 63)), some (.ref (ad 69)), some (.int (nI i6)), none, none, none, none] [.int k] n ad E Φ Ψ
  refine j_istore (L' := [some (.ref g.1.2.1), some (.ref (ad 0)), some (.ref (ad 63)), some (.ref (ad 69)), some (.int (nI i6)), some (.int k), none, none, none]) dL_law_579 (by decide) rfl rfl ?_
  refine j_aload_n dL_law_581 rfl ?_
  refine j_aload_n dL_law_582 rfl ?_
  refine j_iload dL_law_583 rfl ?_
  refine j_iconst (v := nI 1) dL_law_585 (by decide) ?_
  refine j_iadd dL_law_586 ?_
  refine j_topi (y := nI (i6 + 1)) (nI_add _ _) ?_
  refine j_sald dL_law_587 (by omega) (by omega) ?_
  refine j_topi (y := x1) e1 ?_
  refine j_cVp (As := [.int x1]) (rest := []) cm_X4_turn ci_X4_turn cs_X4_turn rfl ln_L_150 (ci := 4) rfl dL_law_588 (d' := 6) (by decide) (by omega) h63 rfl rfl (Nat.le_of_ble_eq_true rfl) (Nat.le_of_ble_eq_true rfl) HM (fun E2 q2 => ?_)
  obtain ⟨fm2, h63b⟩ := hM _ q2
  show J g mL_law 12 bc bs 591 [some (.ref g.1.2.1), some (.ref (ad 0)), some (.ref (ad 63)), some (.ref (ad 69)), some (.int (nI i6)), some (.int k), none, none, none] [.int b] n ad E2 Φ Ψ
  refine j_istore (L' := [some (.ref g.1.2.1), some (.ref (ad 0)), some (.ref (ad 63)), some (.ref (ad 69)), some (.int (nI i6)), some (.int k), some (.int b), none, none]) dL_law_591 (by decide) rfl rfl ?_
  refine j_aload_n dL_law_593 rfl ?_
  refine j_cV (As := []) (rest := []) cm_X4_thrown ci_X4_thrown cs_X4_thrown rfl ln_L_133 (ci := 4) rfl dL_law_594 (d' := 0) (by decide) (by omega) h63b rfl rfl (Nat.le_of_ble_eq_true rfl) (Nat.le_of_ble_eq_true rfl) (s_thrown' hn h63b) ?_
  refine j_iload dL_law_597 rfl ?_
  refine j_icmp_eq_t (tgt := 604) dL_law_599 (by decide) rfl ?_
  refine j_iload dL_law_604 rfl ?_
  refine j_if_ne_t (tgt := 621) dL_law_606 (by decide) hk ?_
  refine j_goto (tgt := 2592) dL_law_621 (by decide) ?_
  refine j_clr 5 ?_
  refine j_clr 6 ?_
  exact K E2 q2
set_option maxRecDepth 100000 in
set_option maxHeartbeats 4000000 in
theorem lc_bail_ok {g : jG} {n : Nat} {ad : Nat → Nat} {E : Nat → va_E} {i6 bc bs : Nat} {Φ : Option Value → jR} {Ψ : String → jR} {fs fm : List Value} (hi : i6 + 6 ≤ g.1.2.2.1) (hL : g.1.2.2.1 ≤ 3072) (hn : 70 ≤ n) (h0 : E 0 = .inr (3, fs)) (h63 : E 63 = .inr (4, fm)) {x1 : Int32} (e1 : g.1.2.2.2 (i6 + 1) = x1) {x2 : Int32} (e2 : g.1.2.2.2 (i6 + 2) = x2) {v : Int32} {PC : (Nat → va_E) → Prop} {PM : (Nat → va_E) → (Nat → va_E) → Prop} (HH : HOk g mL_bail 11 [.ref (ad 0), .int x1, .int x2, .ref (ad 69)] n ad E v.toInt64 PC) (h69 : ∀ E1, PC E1 → E1 63 = E 63) (HM : ∀ E1 o, PC E1 → RetP g mX4_bail 6 [.ref (ad 63), .int x1, .int x2] n ad (va_up E1 69 (aL g 1 (vp_updL o 0 v.toInt64))) (some (.int v)) (PM (va_up E1 69 (aL g 1 (vp_updL o 0 v.toInt64))))) (hM : ∀ E1 E2, PM E1 E2 → (∃ f9, E2 63 = .inr (4, .int 0 :: f9)) ∧ E2 69 = E1 69) (K : ∀ E1 o E2, PC E1 → E1 69 = aL g 1 o → PM (va_up E1 69 (aL g 1 (vp_updL o 0 v.toInt64))) E2 → J g mL_law 12 bc bs 2592 [some (.ref g.1.2.1), some (.ref (ad 0)), some (.ref (ad 63)), some (.ref (ad 69)), some (.int (nI i6)), none, none, none, none] [] n ad E2 Φ Ψ) : J g mL_law 12 bc bs 624 [some (.ref g.1.2.1), some (.ref (ad 0)), some (.ref (ad 63)), some (.ref (ad 69)), some (.int (nI i6)), none, none, none, none] [] n ad E Φ Ψ := by
  refine j_aload_n dL_law_624 rfl ?_
  refine j_aload_n dL_law_625 rfl ?_
  refine j_iload dL_law_626 rfl ?_
  refine j_iconst (v := nI 1) dL_law_628 (by decide) ?_
  refine j_iadd dL_law_629 ?_
  refine j_topi (y := nI (i6 + 1)) (nI_add _ _) ?_
  refine j_sald dL_law_630 (by omega) (by omega) ?_
  refine j_topi (y := x1) e1 ?_
  refine j_aload_n dL_law_631 rfl ?_
  refine j_iload dL_law_632 rfl ?_
  refine j_iconst (v := nI 2) dL_law_634 (by decide) ?_
  refine j_iadd dL_law_635 ?_
  refine j_topi (y := nI (i6 + 2)) (nI_add _ _) ?_
  refine j_sald dL_law_636 (by omega) (by omega) ?_
  refine j_topi (y := x2) e2 ?_
  refine j_aload_n dL_law_637 rfl ?_
  refine j_cSH (As := [.ref (ad 0), .int x1, .int x2, .ref (ad 69)]) (rest := []) cm_L_bail ct_L_bail ln_L_151 dL_law_638 (d' := 11) (by decide) rfl rfl (Nat.le_of_ble_eq_true rfl) (Nat.le_of_ble_eq_true rfl) HH (fun E1 o p1 ho => ?_)
  obtain h63a := h69 E1 p1
  show J g mL_law 12 bc bs 641 [some (.ref g.1.2.1), some (.ref (ad 0)), some (.ref (ad 63)), some (.ref (ad 69)), some (.int (nI i6)), none, none, none, none] [.int 0] n ad (va_up E1 69 (aL g 1 (vp_updL o 0 v.toInt64))) Φ Ψ
  refine j_istore (L' := [some (.ref g.1.2.1), some (.ref (ad 0)), some (.ref (ad 63)), some (.ref (ad 69)), some (.int (nI i6)), some (.int 0), none, none, none]) dL_law_641 (by decide) rfl rfl ?_
  refine j_aload_n dL_law_643 rfl ?_
  refine j_aload_n dL_law_644 rfl ?_
  refine j_iload dL_law_645 rfl ?_
  refine j_iconst (v := nI 1) dL_law_647 (by decide) ?_
  refine j_iadd dL_law_648 ?_
  refine j_topi (y := nI (i6 + 1)) (nI_add _ _) ?_
  refine j_sald dL_law_649 (by omega) (by omega) ?_
  refine j_topi (y := x1) e1 ?_
  refine j_aload_n dL_law_650 rfl ?_
  refine j_iload dL_law_651 rfl ?_
  refine j_iconst (v := nI 2) dL_law_653 (by decide) ?_
  refine j_iadd dL_law_654 ?_
  refine j_topi (y := nI (i6 + 2)) (nI_add _ _) ?_
  refine j_sald dL_law_655 (by omega) (by omega) ?_
  refine j_topi (y := x2) e2 ?_
  refine j_cVp (As := [.int x1, .int x2]) (rest := []) cm_X4_bail ci_X4_bail cs_X4_bail rfl ln_L_153 (ci := 4) rfl dL_law_656 (d' := 6) (by decide) (by omega) ((up_ne (by decide)).trans (h63a.trans h63)) rfl rfl (Nat.le_of_ble_eq_true rfl) (Nat.le_of_ble_eq_true rfl) (HM E1 _ p1) (fun E2 q2 => ?_)
  obtain ⟨⟨fm2, h63b⟩, h69b⟩ := hM _ _ q2
  show J g mL_law 12 bc bs 659 [some (.ref g.1.2.1), some (.ref (ad 0)), some (.ref (ad 63)), some (.ref (ad 69)), some (.int (nI i6)), some (.int 0), none, none, none] [.int v] n ad E2 Φ Ψ
  refine j_istore (L' := [some (.ref g.1.2.1), some (.ref (ad 0)), some (.ref (ad 63)), some (.ref (ad 69)), some (.int (nI i6)), some (.int 0), some (.int v), none, none]) dL_law_659 (by decide) rfl rfl ?_
  refine j_aload_n dL_law_661 rfl ?_
  refine j_cV (As := []) (rest := []) cm_X4_thrown ci_X4_thrown cs_X4_thrown rfl ln_L_133 (ci := 4) rfl dL_law_662 (d' := 0) (by decide) (by omega) h63b rfl rfl (Nat.le_of_ble_eq_true rfl) (Nat.le_of_ble_eq_true rfl) (s_thrown' hn h63b) ?_
  refine j_iload dL_law_665 rfl ?_
  refine j_icmp_eq_t (tgt := 672) dL_law_667 (by decide) (by decide) ?_
  refine j_iload dL_law_672 rfl ?_
  refine j_if_ne_f (tgt := 689) dL_law_674 (by decide) (by decide) ?_
  refine j_aload_n dL_law_677 rfl ?_
  refine j_iconst (v := nI 0) dL_law_678 (by decide) ?_
  refine j_lald dL_law_679 (by omega) (h69b.trans up_eq) (by decide) (by omega) rfl ?_
  refine j_topl (y := v.toInt64) (if_pos rfl) ?_
  refine j_iload dL_law_680 rfl ?_
  refine j_i2l dL_law_682 ?_
  refine j_lcmp dL_law_683 ?_
  refine j_topi (y := 0) (lg_self _) ?_
  refine j_if_eq_t (tgt := 689) dL_law_684 (by decide) (by decide) ?_
  refine j_goto (tgt := 2592) dL_law_689 (by decide) ?_
  refine j_clr 5 ?_
  refine j_clr 6 ?_
  exact K E1 o E2 p1 ho q2
set_option maxRecDepth 100000 in
set_option maxHeartbeats 4000000 in
theorem lc_bail_bad {g : jG} {n : Nat} {ad : Nat → Nat} {E : Nat → va_E} {i6 bc bs : Nat} {Φ : Option Value → jR} {Ψ : String → jR} {fs fm : List Value} (hi : i6 + 6 ≤ g.1.2.2.1) (hL : g.1.2.2.1 ≤ 3072) (hn : 70 ≤ n) (h0 : E 0 = .inr (3, fs)) (h63 : E 63 = .inr (4, fm)) {x1 : Int32} (e1 : g.1.2.2.2 (i6 + 1) = x1) {x2 : Int32} (e2 : g.1.2.2.2 (i6 + 2) = x2) {k : Int32} (hk : ¬ k = 0) {b : Int32} {PM : (Nat → va_E) → Prop} (HH : HBad g mL_bail 11 [.ref (ad 0), .int x1, .int x2, .ref (ad 69)] n ad E k) (HM : RetP g mX4_bail 6 [.ref (ad 63), .int x1, .int x2] n ad E (some (.int b)) PM) (hM : ∀ E2, PM E2 → ∃ f9, E2 63 = .inr (4, .int k :: f9)) (K : ∀ E2, PM E2 → J g mL_law 12 bc bs 2592 [some (.ref g.1.2.1), some (.ref (ad 0)), some (.ref (ad 63)), some (.ref (ad 69)), some (.int (nI i6)), none, none, none, none] [] n ad E2 Φ Ψ) : J g mL_law 12 (1 + bc) (6 + bs) 624 [some (.ref g.1.2.1), some (.ref (ad 0)), some (.ref (ad 63)), some (.ref (ad 69)), some (.int (nI i6)), none, none, none, none] [] n ad E Φ Ψ := by
  refine j_aload_n dL_law_624 rfl ?_
  refine j_aload_n dL_law_625 rfl ?_
  refine j_iload dL_law_626 rfl ?_
  refine j_iconst (v := nI 1) dL_law_628 (by decide) ?_
  refine j_iadd dL_law_629 ?_
  refine j_topi (y := nI (i6 + 1)) (nI_add _ _) ?_
  refine j_sald dL_law_630 (by omega) (by omega) ?_
  refine j_topi (y := x1) e1 ?_
  refine j_aload_n dL_law_631 rfl ?_
  refine j_iload dL_law_632 rfl ?_
  refine j_iconst (v := nI 2) dL_law_634 (by decide) ?_
  refine j_iadd dL_law_635 ?_
  refine j_topi (y := nI (i6 + 2)) (nI_add _ _) ?_
  refine j_sald dL_law_636 (by omega) (by omega) ?_
  refine j_topi (y := x2) e2 ?_
  refine j_aload_n dL_law_637 rfl ?_
  refine j_cSB (As := [.ref (ad 0), .int x1, .int x2, .ref (ad 69)]) (rest := []) cm_L_bail ct_L_bail ln_L_151 dL_law_638 (d' := 11) (by decide) rfl rfl (Nat.le_of_ble_eq_true rfl) (Nat.le_of_ble_eq_true rfl) HH ?_
  show J g mL_law 12 bc bs 641 [some (.ref g.1.2.1), some (.ref (ad 0)), some (.ref (ad 63)), some (.ref (ad 69)), some (.int (nI i6)), none, none, none, none] [.int k] n ad E Φ Ψ
  refine j_istore (L' := [some (.ref g.1.2.1), some (.ref (ad 0)), some (.ref (ad 63)), some (.ref (ad 69)), some (.int (nI i6)), some (.int k), none, none, none]) dL_law_641 (by decide) rfl rfl ?_
  refine j_aload_n dL_law_643 rfl ?_
  refine j_aload_n dL_law_644 rfl ?_
  refine j_iload dL_law_645 rfl ?_
  refine j_iconst (v := nI 1) dL_law_647 (by decide) ?_
  refine j_iadd dL_law_648 ?_
  refine j_topi (y := nI (i6 + 1)) (nI_add _ _) ?_
  refine j_sald dL_law_649 (by omega) (by omega) ?_
  refine j_topi (y := x1) e1 ?_
  refine j_aload_n dL_law_650 rfl ?_
  refine j_iload dL_law_651 rfl ?_
  refine j_iconst (v := nI 2) dL_law_653 (by decide) ?_
  refine j_iadd dL_law_654 ?_
  refine j_topi (y := nI (i6 + 2)) (nI_add _ _) ?_
  refine j_sald dL_law_655 (by omega) (by omega) ?_
  refine j_topi (y := x2) e2 ?_
  refine j_cVp (As := [.int x1, .int x2]) (rest := []) cm_X4_bail ci_X4_bail cs_X4_bail rfl ln_L_153 (ci := 4) rfl dL_law_656 (d' := 6) (by decide) (by omega) h63 rfl rfl (Nat.le_of_ble_eq_true rfl) (Nat.le_of_ble_eq_true rfl) HM (fun E2 q2 => ?_)
  obtain ⟨fm2, h63b⟩ := hM _ q2
  show J g mL_law 12 bc bs 659 [some (.ref g.1.2.1), some (.ref (ad 0)), some (.ref (ad 63)), some (.ref (ad 69)), some (.int (nI i6)), some (.int k), none, none, none] [.int b] n ad E2 Φ Ψ
  refine j_istore (L' := [some (.ref g.1.2.1), some (.ref (ad 0)), some (.ref (ad 63)), some (.ref (ad 69)), some (.int (nI i6)), some (.int k), some (.int b), none, none]) dL_law_659 (by decide) rfl rfl ?_
  refine j_aload_n dL_law_661 rfl ?_
  refine j_cV (As := []) (rest := []) cm_X4_thrown ci_X4_thrown cs_X4_thrown rfl ln_L_133 (ci := 4) rfl dL_law_662 (d' := 0) (by decide) (by omega) h63b rfl rfl (Nat.le_of_ble_eq_true rfl) (Nat.le_of_ble_eq_true rfl) (s_thrown' hn h63b) ?_
  refine j_iload dL_law_665 rfl ?_
  refine j_icmp_eq_t (tgt := 672) dL_law_667 (by decide) rfl ?_
  refine j_iload dL_law_672 rfl ?_
  refine j_if_ne_t (tgt := 689) dL_law_674 (by decide) hk ?_
  refine j_goto (tgt := 2592) dL_law_689 (by decide) ?_
  refine j_clr 5 ?_
  refine j_clr 6 ?_
  exact K E2 q2
set_option maxRecDepth 100000 in
set_option maxHeartbeats 4000000 in
theorem lc_passHours_ok {g : jG} {n : Nat} {ad : Nat → Nat} {E : Nat → va_E} {i6 bc bs : Nat} {Φ : Option Value → jR} {Ψ : String → jR} {fs fm : List Value} (hi : i6 + 6 ≤ g.1.2.2.1) (hL : g.1.2.2.1 ≤ 3072) (hn : 70 ≤ n) (h0 : E 0 = .inr (3, fs)) (h63 : E 63 = .inr (4, fm)) {x1 : Int32} (e1 : g.1.2.2.2 (i6 + 1) = x1) {v : Int32} {PC : (Nat → va_E) → Prop} {PM : (Nat → va_E) → (Nat → va_E) → Prop} (HH : HOk g mL_passHours 11 [.ref (ad 0), .int x1, .ref (ad 69)] n ad E v.toInt64 PC) (h69 : ∀ E1, PC E1 → E1 63 = E 63) (HM : ∀ E1 o, PC E1 → RetP g mX4_passHours 6 [.ref (ad 63), .int x1] n ad (va_up E1 69 (aL g 1 (vp_updL o 0 v.toInt64))) (some (.int v)) (PM (va_up E1 69 (aL g 1 (vp_updL o 0 v.toInt64))))) (hM : ∀ E1 E2, PM E1 E2 → (∃ f9, E2 63 = .inr (4, .int 0 :: f9)) ∧ E2 69 = E1 69) (K : ∀ E1 o E2, PC E1 → E1 69 = aL g 1 o → PM (va_up E1 69 (aL g 1 (vp_updL o 0 v.toInt64))) E2 → J g mL_law 12 bc bs 2592 [some (.ref g.1.2.1), some (.ref (ad 0)), some (.ref (ad 63)), some (.ref (ad 69)), some (.int (nI i6)), none, none, none, none] [] n ad E2 Φ Ψ) : J g mL_law 12 bc bs 692 [some (.ref g.1.2.1), some (.ref (ad 0)), some (.ref (ad 63)), some (.ref (ad 69)), some (.int (nI i6)), none, none, none, none] [] n ad E Φ Ψ := by
  refine j_aload_n dL_law_692 rfl ?_
  refine j_aload_n dL_law_693 rfl ?_
  refine j_iload dL_law_694 rfl ?_
  refine j_iconst (v := nI 1) dL_law_696 (by decide) ?_
  refine j_iadd dL_law_697 ?_
  refine j_topi (y := nI (i6 + 1)) (nI_add _ _) ?_
  refine j_sald dL_law_698 (by omega) (by omega) ?_
  refine j_topi (y := x1) e1 ?_
  refine j_aload_n dL_law_699 rfl ?_
  refine j_cSH (As := [.ref (ad 0), .int x1, .ref (ad 69)]) (rest := []) cm_L_passHours ct_L_passHours ln_L_154 dL_law_700 (d' := 11) (by decide) rfl rfl (Nat.le_of_ble_eq_true rfl) (Nat.le_of_ble_eq_true rfl) HH (fun E1 o p1 ho => ?_)
  obtain h63a := h69 E1 p1
  show J g mL_law 12 bc bs 703 [some (.ref g.1.2.1), some (.ref (ad 0)), some (.ref (ad 63)), some (.ref (ad 69)), some (.int (nI i6)), none, none, none, none] [.int 0] n ad (va_up E1 69 (aL g 1 (vp_updL o 0 v.toInt64))) Φ Ψ
  refine j_istore (L' := [some (.ref g.1.2.1), some (.ref (ad 0)), some (.ref (ad 63)), some (.ref (ad 69)), some (.int (nI i6)), some (.int 0), none, none, none]) dL_law_703 (by decide) rfl rfl ?_
  refine j_aload_n dL_law_705 rfl ?_
  refine j_aload_n dL_law_706 rfl ?_
  refine j_iload dL_law_707 rfl ?_
  refine j_iconst (v := nI 1) dL_law_709 (by decide) ?_
  refine j_iadd dL_law_710 ?_
  refine j_topi (y := nI (i6 + 1)) (nI_add _ _) ?_
  refine j_sald dL_law_711 (by omega) (by omega) ?_
  refine j_topi (y := x1) e1 ?_
  refine j_cVp (As := [.int x1]) (rest := []) cm_X4_passHours ci_X4_passHours cs_X4_passHours rfl ln_L_156 (ci := 4) rfl dL_law_712 (d' := 6) (by decide) (by omega) ((up_ne (by decide)).trans (h63a.trans h63)) rfl rfl (Nat.le_of_ble_eq_true rfl) (Nat.le_of_ble_eq_true rfl) (HM E1 _ p1) (fun E2 q2 => ?_)
  obtain ⟨⟨fm2, h63b⟩, h69b⟩ := hM _ _ q2
  show J g mL_law 12 bc bs 715 [some (.ref g.1.2.1), some (.ref (ad 0)), some (.ref (ad 63)), some (.ref (ad 69)), some (.int (nI i6)), some (.int 0), none, none, none] [.int v] n ad E2 Φ Ψ
  refine j_istore (L' := [some (.ref g.1.2.1), some (.ref (ad 0)), some (.ref (ad 63)), some (.ref (ad 69)), some (.int (nI i6)), some (.int 0), some (.int v), none, none]) dL_law_715 (by decide) rfl rfl ?_
  refine j_aload_n dL_law_717 rfl ?_
  refine j_cV (As := []) (rest := []) cm_X4_thrown ci_X4_thrown cs_X4_thrown rfl ln_L_133 (ci := 4) rfl dL_law_718 (d' := 0) (by decide) (by omega) h63b rfl rfl (Nat.le_of_ble_eq_true rfl) (Nat.le_of_ble_eq_true rfl) (s_thrown' hn h63b) ?_
  refine j_iload dL_law_721 rfl ?_
  refine j_icmp_eq_t (tgt := 728) dL_law_723 (by decide) (by decide) ?_
  refine j_iload dL_law_728 rfl ?_
  refine j_if_ne_f (tgt := 745) dL_law_730 (by decide) (by decide) ?_
  refine j_aload_n dL_law_733 rfl ?_
  refine j_iconst (v := nI 0) dL_law_734 (by decide) ?_
  refine j_lald dL_law_735 (by omega) (h69b.trans up_eq) (by decide) (by omega) rfl ?_
  refine j_topl (y := v.toInt64) (if_pos rfl) ?_
  refine j_iload dL_law_736 rfl ?_
  refine j_i2l dL_law_738 ?_
  refine j_lcmp dL_law_739 ?_
  refine j_topi (y := 0) (lg_self _) ?_
  refine j_if_eq_t (tgt := 745) dL_law_740 (by decide) (by decide) ?_
  refine j_goto (tgt := 2592) dL_law_745 (by decide) ?_
  refine j_clr 5 ?_
  refine j_clr 6 ?_
  exact K E1 o E2 p1 ho q2
set_option maxRecDepth 100000 in
set_option maxHeartbeats 4000000 in
theorem lc_passHours_bad {g : jG} {n : Nat} {ad : Nat → Nat} {E : Nat → va_E} {i6 bc bs : Nat} {Φ : Option Value → jR} {Ψ : String → jR} {fs fm : List Value} (hi : i6 + 6 ≤ g.1.2.2.1) (hL : g.1.2.2.1 ≤ 3072) (hn : 70 ≤ n) (h0 : E 0 = .inr (3, fs)) (h63 : E 63 = .inr (4, fm)) {x1 : Int32} (e1 : g.1.2.2.2 (i6 + 1) = x1) {k : Int32} (hk : ¬ k = 0) {b : Int32} {PM : (Nat → va_E) → Prop} (HH : HBad g mL_passHours 11 [.ref (ad 0), .int x1, .ref (ad 69)] n ad E k) (HM : RetP g mX4_passHours 6 [.ref (ad 63), .int x1] n ad E (some (.int b)) PM) (hM : ∀ E2, PM E2 → ∃ f9, E2 63 = .inr (4, .int k :: f9)) (K : ∀ E2, PM E2 → J g mL_law 12 bc bs 2592 [some (.ref g.1.2.1), some (.ref (ad 0)), some (.ref (ad 63)), some (.ref (ad 69)), some (.int (nI i6)), none, none, none, none] [] n ad E2 Φ Ψ) : J g mL_law 12 (1 + bc) (6 + bs) 692 [some (.ref g.1.2.1), some (.ref (ad 0)), some (.ref (ad 63)), some (.ref (ad 69)), some (.int (nI i6)), none, none, none, none] [] n ad E Φ Ψ := by
  refine j_aload_n dL_law_692 rfl ?_
  refine j_aload_n dL_law_693 rfl ?_
  refine j_iload dL_law_694 rfl ?_
  refine j_iconst (v := nI 1) dL_law_696 (by decide) ?_
  refine j_iadd dL_law_697 ?_
  refine j_topi (y := nI (i6 + 1)) (nI_add _ _) ?_
  refine j_sald dL_law_698 (by omega) (by omega) ?_
  refine j_topi (y := x1) e1 ?_
  refine j_aload_n dL_law_699 rfl ?_
  refine j_cSB (As := [.ref (ad 0), .int x1, .ref (ad 69)]) (rest := []) cm_L_passHours ct_L_passHours ln_L_154 dL_law_700 (d' := 11) (by decide) rfl rfl (Nat.le_of_ble_eq_true rfl) (Nat.le_of_ble_eq_true rfl) HH ?_
  show J g mL_law 12 bc bs 703 [some (.ref g.1.2.1), some (.ref (ad 0)), some (.ref (ad 63)), some (.ref (ad 69)), some (.int (nI i6)), none, none, none, none] [.int k] n ad E Φ Ψ
  refine j_istore (L' := [some (.ref g.1.2.1), some (.ref (ad 0)), some (.ref (ad 63)), some (.ref (ad 69)), some (.int (nI i6)), some (.int k), none, none, none]) dL_law_703 (by decide) rfl rfl ?_
  refine j_aload_n dL_law_705 rfl ?_
  refine j_aload_n dL_law_706 rfl ?_
  refine j_iload dL_law_707 rfl ?_
  refine j_iconst (v := nI 1) dL_law_709 (by decide) ?_
  refine j_iadd dL_law_710 ?_
  refine j_topi (y := nI (i6 + 1)) (nI_add _ _) ?_
  refine j_sald dL_law_711 (by omega) (by omega) ?_
  refine j_topi (y := x1) e1 ?_
  refine j_cVp (As := [.int x1]) (rest := []) cm_X4_passHours ci_X4_passHours cs_X4_passHours rfl ln_L_156 (ci := 4) rfl dL_law_712 (d' := 6) (by decide) (by omega) h63 rfl rfl (Nat.le_of_ble_eq_true rfl) (Nat.le_of_ble_eq_true rfl) HM (fun E2 q2 => ?_)
  obtain ⟨fm2, h63b⟩ := hM _ q2
  show J g mL_law 12 bc bs 715 [some (.ref g.1.2.1), some (.ref (ad 0)), some (.ref (ad 63)), some (.ref (ad 69)), some (.int (nI i6)), some (.int k), none, none, none] [.int b] n ad E2 Φ Ψ
  refine j_istore (L' := [some (.ref g.1.2.1), some (.ref (ad 0)), some (.ref (ad 63)), some (.ref (ad 69)), some (.int (nI i6)), some (.int k), some (.int b), none, none]) dL_law_715 (by decide) rfl rfl ?_
  refine j_aload_n dL_law_717 rfl ?_
  refine j_cV (As := []) (rest := []) cm_X4_thrown ci_X4_thrown cs_X4_thrown rfl ln_L_133 (ci := 4) rfl dL_law_718 (d' := 0) (by decide) (by omega) h63b rfl rfl (Nat.le_of_ble_eq_true rfl) (Nat.le_of_ble_eq_true rfl) (s_thrown' hn h63b) ?_
  refine j_iload dL_law_721 rfl ?_
  refine j_icmp_eq_t (tgt := 728) dL_law_723 (by decide) rfl ?_
  refine j_iload dL_law_728 rfl ?_
  refine j_if_ne_t (tgt := 745) dL_law_730 (by decide) hk ?_
  refine j_goto (tgt := 2592) dL_law_745 (by decide) ?_
  refine j_clr 5 ?_
  refine j_clr 6 ?_
  exact K E2 q2
set_option maxRecDepth 100000 in
set_option maxHeartbeats 4000000 in
theorem lc_mark_ok {g : jG} {n : Nat} {ad : Nat → Nat} {E : Nat → va_E} {i6 bc bs : Nat} {Φ : Option Value → jR} {Ψ : String → jR} {fs fm : List Value} (hi : i6 + 6 ≤ g.1.2.2.1) (hL : g.1.2.2.1 ≤ 3072) (hn : 70 ≤ n) (h0 : E 0 = .inr (3, fs)) (h63 : E 63 = .inr (4, fm)) {v : Int32} {PC : (Nat → va_E) → Prop} {PM : (Nat → va_E) → (Nat → va_E) → Prop} (HH : HOk g mL_mark 11 [.ref (ad 0), .ref (ad 69)] n ad E v.toInt64 PC) (h69 : ∀ E1, PC E1 → E1 63 = E 63) (HM : ∀ E1 o, PC E1 → RetP g mX4_mark 6 [.ref (ad 63)] n ad (va_up E1 69 (aL g 1 (vp_updL o 0 v.toInt64))) (some (.int v)) (PM (va_up E1 69 (aL g 1 (vp_updL o 0 v.toInt64))))) (hM : ∀ E1 E2, PM E1 E2 → (∃ f9, E2 63 = .inr (4, .int 0 :: f9)) ∧ E2 69 = E1 69) (K : ∀ E1 o E2, PC E1 → E1 69 = aL g 1 o → PM (va_up E1 69 (aL g 1 (vp_updL o 0 v.toInt64))) E2 → J g mL_law 12 bc bs 2592 [some (.ref g.1.2.1), some (.ref (ad 0)), some (.ref (ad 63)), some (.ref (ad 69)), some (.int (nI i6)), none, none, none, none] [] n ad E2 Φ Ψ) : J g mL_law 12 bc bs 748 [some (.ref g.1.2.1), some (.ref (ad 0)), some (.ref (ad 63)), some (.ref (ad 69)), some (.int (nI i6)), none, none, none, none] [] n ad E Φ Ψ := by
  refine j_aload_n dL_law_748 rfl ?_
  refine j_aload_n dL_law_749 rfl ?_
  refine j_cSH (As := [.ref (ad 0), .ref (ad 69)]) (rest := []) cm_L_mark ct_L_mark ln_L_157 dL_law_750 (d' := 11) (by decide) rfl rfl (Nat.le_of_ble_eq_true rfl) (Nat.le_of_ble_eq_true rfl) HH (fun E1 o p1 ho => ?_)
  obtain h63a := h69 E1 p1
  show J g mL_law 12 bc bs 753 [some (.ref g.1.2.1), some (.ref (ad 0)), some (.ref (ad 63)), some (.ref (ad 69)), some (.int (nI i6)), none, none, none, none] [.int 0] n ad (va_up E1 69 (aL g 1 (vp_updL o 0 v.toInt64))) Φ Ψ
  refine j_istore (L' := [some (.ref g.1.2.1), some (.ref (ad 0)), some (.ref (ad 63)), some (.ref (ad 69)), some (.int (nI i6)), some (.int 0), none, none, none]) dL_law_753 (by decide) rfl rfl ?_
  refine j_aload_n dL_law_755 rfl ?_
  refine j_cVp (As := []) (rest := []) cm_X4_mark ci_X4_mark cs_X4_mark rfl ln_L_160 (ci := 4) rfl dL_law_756 (d' := 6) (by decide) (by omega) ((up_ne (by decide)).trans (h63a.trans h63)) rfl rfl (Nat.le_of_ble_eq_true rfl) (Nat.le_of_ble_eq_true rfl) (HM E1 _ p1) (fun E2 q2 => ?_)
  obtain ⟨⟨fm2, h63b⟩, h69b⟩ := hM _ _ q2
  show J g mL_law 12 bc bs 759 [some (.ref g.1.2.1), some (.ref (ad 0)), some (.ref (ad 63)), some (.ref (ad 69)), some (.int (nI i6)), some (.int 0), none, none, none] [.int v] n ad E2 Φ Ψ
  refine j_istore (L' := [some (.ref g.1.2.1), some (.ref (ad 0)), some (.ref (ad 63)), some (.ref (ad 69)), some (.int (nI i6)), some (.int 0), some (.int v), none, none]) dL_law_759 (by decide) rfl rfl ?_
  refine j_aload_n dL_law_761 rfl ?_
  refine j_cV (As := []) (rest := []) cm_X4_thrown ci_X4_thrown cs_X4_thrown rfl ln_L_133 (ci := 4) rfl dL_law_762 (d' := 0) (by decide) (by omega) h63b rfl rfl (Nat.le_of_ble_eq_true rfl) (Nat.le_of_ble_eq_true rfl) (s_thrown' hn h63b) ?_
  refine j_iload dL_law_765 rfl ?_
  refine j_icmp_eq_t (tgt := 772) dL_law_767 (by decide) (by decide) ?_
  refine j_iload dL_law_772 rfl ?_
  refine j_if_ne_f (tgt := 789) dL_law_774 (by decide) (by decide) ?_
  refine j_aload_n dL_law_777 rfl ?_
  refine j_iconst (v := nI 0) dL_law_778 (by decide) ?_
  refine j_lald dL_law_779 (by omega) (h69b.trans up_eq) (by decide) (by omega) rfl ?_
  refine j_topl (y := v.toInt64) (if_pos rfl) ?_
  refine j_iload dL_law_780 rfl ?_
  refine j_i2l dL_law_782 ?_
  refine j_lcmp dL_law_783 ?_
  refine j_topi (y := 0) (lg_self _) ?_
  refine j_if_eq_t (tgt := 789) dL_law_784 (by decide) (by decide) ?_
  refine j_goto (tgt := 2592) dL_law_789 (by decide) ?_
  refine j_clr 5 ?_
  refine j_clr 6 ?_
  exact K E1 o E2 p1 ho q2
set_option maxRecDepth 100000 in
set_option maxHeartbeats 4000000 in
theorem lc_mark_bad {g : jG} {n : Nat} {ad : Nat → Nat} {E : Nat → va_E} {i6 bc bs : Nat} {Φ : Option Value → jR} {Ψ : String → jR} {fs fm : List Value} (hi : i6 + 6 ≤ g.1.2.2.1) (hL : g.1.2.2.1 ≤ 3072) (hn : 70 ≤ n) (h0 : E 0 = .inr (3, fs)) (h63 : E 63 = .inr (4, fm)) {k : Int32} (hk : ¬ k = 0) {b : Int32} {PM : (Nat → va_E) → Prop} (HH : HBad g mL_mark 11 [.ref (ad 0), .ref (ad 69)] n ad E k) (HM : RetP g mX4_mark 6 [.ref (ad 63)] n ad E (some (.int b)) PM) (hM : ∀ E2, PM E2 → ∃ f9, E2 63 = .inr (4, .int k :: f9)) (K : ∀ E2, PM E2 → J g mL_law 12 bc bs 2592 [some (.ref g.1.2.1), some (.ref (ad 0)), some (.ref (ad 63)), some (.ref (ad 69)), some (.int (nI i6)), none, none, none, none] [] n ad E2 Φ Ψ) : J g mL_law 12 (1 + bc) (6 + bs) 748 [some (.ref g.1.2.1), some (.ref (ad 0)), some (.ref (ad 63)), some (.ref (ad 69)), some (.int (nI i6)), none, none, none, none] [] n ad E Φ Ψ := by
  refine j_aload_n dL_law_748 rfl ?_
  refine j_aload_n dL_law_749 rfl ?_
  refine j_cSB (As := [.ref (ad 0), .ref (ad 69)]) (rest := []) cm_L_mark ct_L_mark ln_L_157 dL_law_750 (d' := 11) (by decide) rfl rfl (Nat.le_of_ble_eq_true rfl) (Nat.le_of_ble_eq_true rfl) HH ?_
  show J g mL_law 12 bc bs 753 [some (.ref g.1.2.1), some (.ref (ad 0)), some (.ref (ad 63)), some (.ref (ad 69)), some (.int (nI i6)), none, none, none, none] [.int k] n ad E Φ Ψ
  refine j_istore (L' := [some (.ref g.1.2.1), some (.ref (ad 0)), some (.ref (ad 63)), some (.ref (ad 69)), some (.int (nI i6)), some (.int k), none, none, none]) dL_law_753 (by decide) rfl rfl ?_
  refine j_aload_n dL_law_755 rfl ?_
  refine j_cVp (As := []) (rest := []) cm_X4_mark ci_X4_mark cs_X4_mark rfl ln_L_160 (ci := 4) rfl dL_law_756 (d' := 6) (by decide) (by omega) h63 rfl rfl (Nat.le_of_ble_eq_true rfl) (Nat.le_of_ble_eq_true rfl) HM (fun E2 q2 => ?_)
  obtain ⟨fm2, h63b⟩ := hM _ q2
  show J g mL_law 12 bc bs 759 [some (.ref g.1.2.1), some (.ref (ad 0)), some (.ref (ad 63)), some (.ref (ad 69)), some (.int (nI i6)), some (.int k), none, none, none] [.int b] n ad E2 Φ Ψ
  refine j_istore (L' := [some (.ref g.1.2.1), some (.ref (ad 0)), some (.ref (ad 63)), some (.ref (ad 69)), some (.int (nI i6)), some (.int k), some (.int b), none, none]) dL_law_759 (by decide) rfl rfl ?_
  refine j_aload_n dL_law_761 rfl ?_
  refine j_cV (As := []) (rest := []) cm_X4_thrown ci_X4_thrown cs_X4_thrown rfl ln_L_133 (ci := 4) rfl dL_law_762 (d' := 0) (by decide) (by omega) h63b rfl rfl (Nat.le_of_ble_eq_true rfl) (Nat.le_of_ble_eq_true rfl) (s_thrown' hn h63b) ?_
  refine j_iload dL_law_765 rfl ?_
  refine j_icmp_eq_t (tgt := 772) dL_law_767 (by decide) rfl ?_
  refine j_iload dL_law_772 rfl ?_
  refine j_if_ne_t (tgt := 789) dL_law_774 (by decide) hk ?_
  refine j_goto (tgt := 2592) dL_law_789 (by decide) ?_
  refine j_clr 5 ?_
  refine j_clr 6 ?_
  exact K E2 q2
set_option maxRecDepth 100000 in
set_option maxHeartbeats 4000000 in
theorem lc_back_ok {g : jG} {n : Nat} {ad : Nat → Nat} {E : Nat → va_E} {i6 bc bs : Nat} {Φ : Option Value → jR} {Ψ : String → jR} {fs fm : List Value} (hi : i6 + 6 ≤ g.1.2.2.1) (hL : g.1.2.2.1 ≤ 3072) (hn : 70 ≤ n) (h0 : E 0 = .inr (3, fs)) (h63 : E 63 = .inr (4, fm)) {x1 : Int32} (e1 : g.1.2.2.2 (i6 + 1) = x1) {v : Int32} {PC : (Nat → va_E) → Prop} {PM : (Nat → va_E) → (Nat → va_E) → Prop} (HH : HOk g mL_back 11 [.ref (ad 0), .int x1, .ref (ad 69)] n ad E v.toInt64 PC) (h69 : ∀ E1, PC E1 → E1 63 = E 63) (HM : ∀ E1 o, PC E1 → RetP g mX4_back 6 [.ref (ad 63), .int x1] n ad (va_up E1 69 (aL g 1 (vp_updL o 0 v.toInt64))) (some (.int v)) (PM (va_up E1 69 (aL g 1 (vp_updL o 0 v.toInt64))))) (hM : ∀ E1 E2, PM E1 E2 → (∃ f9, E2 63 = .inr (4, .int 0 :: f9)) ∧ E2 69 = E1 69) (K : ∀ E1 o E2, PC E1 → E1 69 = aL g 1 o → PM (va_up E1 69 (aL g 1 (vp_updL o 0 v.toInt64))) E2 → J g mL_law 12 bc bs 2592 [some (.ref g.1.2.1), some (.ref (ad 0)), some (.ref (ad 63)), some (.ref (ad 69)), some (.int (nI i6)), none, none, none, none] [] n ad E2 Φ Ψ) : J g mL_law 12 bc bs 792 [some (.ref g.1.2.1), some (.ref (ad 0)), some (.ref (ad 63)), some (.ref (ad 69)), some (.int (nI i6)), none, none, none, none] [] n ad E Φ Ψ := by
  refine j_aload_n dL_law_792 rfl ?_
  refine j_aload_n dL_law_793 rfl ?_
  refine j_iload dL_law_794 rfl ?_
  refine j_iconst (v := nI 1) dL_law_796 (by decide) ?_
  refine j_iadd dL_law_797 ?_
  refine j_topi (y := nI (i6 + 1)) (nI_add _ _) ?_
  refine j_sald dL_law_798 (by omega) (by omega) ?_
  refine j_topi (y := x1) e1 ?_
  refine j_aload_n dL_law_799 rfl ?_
  refine j_cSH (As := [.ref (ad 0), .int x1, .ref (ad 69)]) (rest := []) cm_L_back ct_L_back ln_L_161 dL_law_800 (d' := 11) (by decide) rfl rfl (Nat.le_of_ble_eq_true rfl) (Nat.le_of_ble_eq_true rfl) HH (fun E1 o p1 ho => ?_)
  obtain h63a := h69 E1 p1
  show J g mL_law 12 bc bs 803 [some (.ref g.1.2.1), some (.ref (ad 0)), some (.ref (ad 63)), some (.ref (ad 69)), some (.int (nI i6)), none, none, none, none] [.int 0] n ad (va_up E1 69 (aL g 1 (vp_updL o 0 v.toInt64))) Φ Ψ
  refine j_istore (L' := [some (.ref g.1.2.1), some (.ref (ad 0)), some (.ref (ad 63)), some (.ref (ad 69)), some (.int (nI i6)), some (.int 0), none, none, none]) dL_law_803 (by decide) rfl rfl ?_
  refine j_aload_n dL_law_805 rfl ?_
  refine j_aload_n dL_law_806 rfl ?_
  refine j_iload dL_law_807 rfl ?_
  refine j_iconst (v := nI 1) dL_law_809 (by decide) ?_
  refine j_iadd dL_law_810 ?_
  refine j_topi (y := nI (i6 + 1)) (nI_add _ _) ?_
  refine j_sald dL_law_811 (by omega) (by omega) ?_
  refine j_topi (y := x1) e1 ?_
  refine j_cVp (As := [.int x1]) (rest := []) cm_X4_back ci_X4_back cs_X4_back rfl ln_L_163 (ci := 4) rfl dL_law_812 (d' := 6) (by decide) (by omega) ((up_ne (by decide)).trans (h63a.trans h63)) rfl rfl (Nat.le_of_ble_eq_true rfl) (Nat.le_of_ble_eq_true rfl) (HM E1 _ p1) (fun E2 q2 => ?_)
  obtain ⟨⟨fm2, h63b⟩, h69b⟩ := hM _ _ q2
  show J g mL_law 12 bc bs 815 [some (.ref g.1.2.1), some (.ref (ad 0)), some (.ref (ad 63)), some (.ref (ad 69)), some (.int (nI i6)), some (.int 0), none, none, none] [.int v] n ad E2 Φ Ψ
  refine j_istore (L' := [some (.ref g.1.2.1), some (.ref (ad 0)), some (.ref (ad 63)), some (.ref (ad 69)), some (.int (nI i6)), some (.int 0), some (.int v), none, none]) dL_law_815 (by decide) rfl rfl ?_
  refine j_aload_n dL_law_817 rfl ?_
  refine j_cV (As := []) (rest := []) cm_X4_thrown ci_X4_thrown cs_X4_thrown rfl ln_L_133 (ci := 4) rfl dL_law_818 (d' := 0) (by decide) (by omega) h63b rfl rfl (Nat.le_of_ble_eq_true rfl) (Nat.le_of_ble_eq_true rfl) (s_thrown' hn h63b) ?_
  refine j_iload dL_law_821 rfl ?_
  refine j_icmp_eq_t (tgt := 828) dL_law_823 (by decide) (by decide) ?_
  refine j_iload dL_law_828 rfl ?_
  refine j_if_ne_f (tgt := 845) dL_law_830 (by decide) (by decide) ?_
  refine j_aload_n dL_law_833 rfl ?_
  refine j_iconst (v := nI 0) dL_law_834 (by decide) ?_
  refine j_lald dL_law_835 (by omega) (h69b.trans up_eq) (by decide) (by omega) rfl ?_
  refine j_topl (y := v.toInt64) (if_pos rfl) ?_
  refine j_iload dL_law_836 rfl ?_
  refine j_i2l dL_law_838 ?_
  refine j_lcmp dL_law_839 ?_
  refine j_topi (y := 0) (lg_self _) ?_
  refine j_if_eq_t (tgt := 845) dL_law_840 (by decide) (by decide) ?_
  refine j_goto (tgt := 2592) dL_law_845 (by decide) ?_
  refine j_clr 5 ?_
  refine j_clr 6 ?_
  exact K E1 o E2 p1 ho q2
set_option maxRecDepth 100000 in
set_option maxHeartbeats 4000000 in
theorem lc_back_bad {g : jG} {n : Nat} {ad : Nat → Nat} {E : Nat → va_E} {i6 bc bs : Nat} {Φ : Option Value → jR} {Ψ : String → jR} {fs fm : List Value} (hi : i6 + 6 ≤ g.1.2.2.1) (hL : g.1.2.2.1 ≤ 3072) (hn : 70 ≤ n) (h0 : E 0 = .inr (3, fs)) (h63 : E 63 = .inr (4, fm)) {x1 : Int32} (e1 : g.1.2.2.2 (i6 + 1) = x1) {k : Int32} (hk : ¬ k = 0) {b : Int32} {PM : (Nat → va_E) → Prop} (HH : HBad g mL_back 11 [.ref (ad 0), .int x1, .ref (ad 69)] n ad E k) (HM : RetP g mX4_back 6 [.ref (ad 63), .int x1] n ad E (some (.int b)) PM) (hM : ∀ E2, PM E2 → ∃ f9, E2 63 = .inr (4, .int k :: f9)) (K : ∀ E2, PM E2 → J g mL_law 12 bc bs 2592 [some (.ref g.1.2.1), some (.ref (ad 0)), some (.ref (ad 63)), some (.ref (ad 69)), some (.int (nI i6)), none, none, none, none] [] n ad E2 Φ Ψ) : J g mL_law 12 (1 + bc) (6 + bs) 792 [some (.ref g.1.2.1), some (.ref (ad 0)), some (.ref (ad 63)), some (.ref (ad 69)), some (.int (nI i6)), none, none, none, none] [] n ad E Φ Ψ := by
  refine j_aload_n dL_law_792 rfl ?_
  refine j_aload_n dL_law_793 rfl ?_
  refine j_iload dL_law_794 rfl ?_
  refine j_iconst (v := nI 1) dL_law_796 (by decide) ?_
  refine j_iadd dL_law_797 ?_
  refine j_topi (y := nI (i6 + 1)) (nI_add _ _) ?_
  refine j_sald dL_law_798 (by omega) (by omega) ?_
  refine j_topi (y := x1) e1 ?_
  refine j_aload_n dL_law_799 rfl ?_
  refine j_cSB (As := [.ref (ad 0), .int x1, .ref (ad 69)]) (rest := []) cm_L_back ct_L_back ln_L_161 dL_law_800 (d' := 11) (by decide) rfl rfl (Nat.le_of_ble_eq_true rfl) (Nat.le_of_ble_eq_true rfl) HH ?_
  show J g mL_law 12 bc bs 803 [some (.ref g.1.2.1), some (.ref (ad 0)), some (.ref (ad 63)), some (.ref (ad 69)), some (.int (nI i6)), none, none, none, none] [.int k] n ad E Φ Ψ
  refine j_istore (L' := [some (.ref g.1.2.1), some (.ref (ad 0)), some (.ref (ad 63)), some (.ref (ad 69)), some (.int (nI i6)), some (.int k), none, none, none]) dL_law_803 (by decide) rfl rfl ?_
  refine j_aload_n dL_law_805 rfl ?_
  refine j_aload_n dL_law_806 rfl ?_
  refine j_iload dL_law_807 rfl ?_
  refine j_iconst (v := nI 1) dL_law_809 (by decide) ?_
  refine j_iadd dL_law_810 ?_
  refine j_topi (y := nI (i6 + 1)) (nI_add _ _) ?_
  refine j_sald dL_law_811 (by omega) (by omega) ?_
  refine j_topi (y := x1) e1 ?_
  refine j_cVp (As := [.int x1]) (rest := []) cm_X4_back ci_X4_back cs_X4_back rfl ln_L_163 (ci := 4) rfl dL_law_812 (d' := 6) (by decide) (by omega) h63 rfl rfl (Nat.le_of_ble_eq_true rfl) (Nat.le_of_ble_eq_true rfl) HM (fun E2 q2 => ?_)
  obtain ⟨fm2, h63b⟩ := hM _ q2
  show J g mL_law 12 bc bs 815 [some (.ref g.1.2.1), some (.ref (ad 0)), some (.ref (ad 63)), some (.ref (ad 69)), some (.int (nI i6)), some (.int k), none, none, none] [.int b] n ad E2 Φ Ψ
  refine j_istore (L' := [some (.ref g.1.2.1), some (.ref (ad 0)), some (.ref (ad 63)), some (.ref (ad 69)), some (.int (nI i6)), some (.int k), some (.int b), none, none]) dL_law_815 (by decide) rfl rfl ?_
  refine j_aload_n dL_law_817 rfl ?_
  refine j_cV (As := []) (rest := []) cm_X4_thrown ci_X4_thrown cs_X4_thrown rfl ln_L_133 (ci := 4) rfl dL_law_818 (d' := 0) (by decide) (by omega) h63b rfl rfl (Nat.le_of_ble_eq_true rfl) (Nat.le_of_ble_eq_true rfl) (s_thrown' hn h63b) ?_
  refine j_iload dL_law_821 rfl ?_
  refine j_icmp_eq_t (tgt := 828) dL_law_823 (by decide) rfl ?_
  refine j_iload dL_law_828 rfl ?_
  refine j_if_ne_t (tgt := 845) dL_law_830 (by decide) hk ?_
  refine j_goto (tgt := 2592) dL_law_845 (by decide) ?_
  refine j_clr 5 ?_
  refine j_clr 6 ?_
  exact K E2 q2
set_option maxRecDepth 100000 in
set_option maxHeartbeats 4000000 in
theorem lc_undo_ok {g : jG} {n : Nat} {ad : Nat → Nat} {E : Nat → va_E} {i6 bc bs : Nat} {Φ : Option Value → jR} {Ψ : String → jR} {fs fm : List Value} (hi : i6 + 6 ≤ g.1.2.2.1) (hL : g.1.2.2.1 ≤ 3072) (hn : 70 ≤ n) (h0 : E 0 = .inr (3, fs)) (h63 : E 63 = .inr (4, fm)) {v : Int32} {PC : (Nat → va_E) → Prop} {PM : (Nat → va_E) → (Nat → va_E) → Prop} (HH : HOk g mL_undo 11 [.ref (ad 0), .ref (ad 69)] n ad E v.toInt64 PC) (h69 : ∀ E1, PC E1 → E1 63 = E 63) (HM : ∀ E1 o, PC E1 → RetP g mX4_undo 6 [.ref (ad 63)] n ad (va_up E1 69 (aL g 1 (vp_updL o 0 v.toInt64))) (some (.int v)) (PM (va_up E1 69 (aL g 1 (vp_updL o 0 v.toInt64))))) (hM : ∀ E1 E2, PM E1 E2 → (∃ f9, E2 63 = .inr (4, .int 0 :: f9)) ∧ E2 69 = E1 69) (K : ∀ E1 o E2, PC E1 → E1 69 = aL g 1 o → PM (va_up E1 69 (aL g 1 (vp_updL o 0 v.toInt64))) E2 → J g mL_law 12 bc bs 2592 [some (.ref g.1.2.1), some (.ref (ad 0)), some (.ref (ad 63)), some (.ref (ad 69)), some (.int (nI i6)), none, none, none, none] [] n ad E2 Φ Ψ) : J g mL_law 12 bc bs 848 [some (.ref g.1.2.1), some (.ref (ad 0)), some (.ref (ad 63)), some (.ref (ad 69)), some (.int (nI i6)), none, none, none, none] [] n ad E Φ Ψ := by
  refine j_aload_n dL_law_848 rfl ?_
  refine j_aload_n dL_law_849 rfl ?_
  refine j_cSH (As := [.ref (ad 0), .ref (ad 69)]) (rest := []) cm_L_undo ct_L_undo ln_L_164 dL_law_850 (d' := 11) (by decide) rfl rfl (Nat.le_of_ble_eq_true rfl) (Nat.le_of_ble_eq_true rfl) HH (fun E1 o p1 ho => ?_)
  obtain h63a := h69 E1 p1
  show J g mL_law 12 bc bs 853 [some (.ref g.1.2.1), some (.ref (ad 0)), some (.ref (ad 63)), some (.ref (ad 69)), some (.int (nI i6)), none, none, none, none] [.int 0] n ad (va_up E1 69 (aL g 1 (vp_updL o 0 v.toInt64))) Φ Ψ
  refine j_istore (L' := [some (.ref g.1.2.1), some (.ref (ad 0)), some (.ref (ad 63)), some (.ref (ad 69)), some (.int (nI i6)), some (.int 0), none, none, none]) dL_law_853 (by decide) rfl rfl ?_
  refine j_aload_n dL_law_855 rfl ?_
  refine j_cVp (As := []) (rest := []) cm_X4_undo ci_X4_undo cs_X4_undo rfl ln_L_166 (ci := 4) rfl dL_law_856 (d' := 6) (by decide) (by omega) ((up_ne (by decide)).trans (h63a.trans h63)) rfl rfl (Nat.le_of_ble_eq_true rfl) (Nat.le_of_ble_eq_true rfl) (HM E1 _ p1) (fun E2 q2 => ?_)
  obtain ⟨⟨fm2, h63b⟩, h69b⟩ := hM _ _ q2
  show J g mL_law 12 bc bs 859 [some (.ref g.1.2.1), some (.ref (ad 0)), some (.ref (ad 63)), some (.ref (ad 69)), some (.int (nI i6)), some (.int 0), none, none, none] [.int v] n ad E2 Φ Ψ
  refine j_istore (L' := [some (.ref g.1.2.1), some (.ref (ad 0)), some (.ref (ad 63)), some (.ref (ad 69)), some (.int (nI i6)), some (.int 0), some (.int v), none, none]) dL_law_859 (by decide) rfl rfl ?_
  refine j_aload_n dL_law_861 rfl ?_
  refine j_cV (As := []) (rest := []) cm_X4_thrown ci_X4_thrown cs_X4_thrown rfl ln_L_133 (ci := 4) rfl dL_law_862 (d' := 0) (by decide) (by omega) h63b rfl rfl (Nat.le_of_ble_eq_true rfl) (Nat.le_of_ble_eq_true rfl) (s_thrown' hn h63b) ?_
  refine j_iload dL_law_865 rfl ?_
  refine j_icmp_eq_t (tgt := 872) dL_law_867 (by decide) (by decide) ?_
  refine j_iload dL_law_872 rfl ?_
  refine j_if_ne_f (tgt := 889) dL_law_874 (by decide) (by decide) ?_
  refine j_aload_n dL_law_877 rfl ?_
  refine j_iconst (v := nI 0) dL_law_878 (by decide) ?_
  refine j_lald dL_law_879 (by omega) (h69b.trans up_eq) (by decide) (by omega) rfl ?_
  refine j_topl (y := v.toInt64) (if_pos rfl) ?_
  refine j_iload dL_law_880 rfl ?_
  refine j_i2l dL_law_882 ?_
  refine j_lcmp dL_law_883 ?_
  refine j_topi (y := 0) (lg_self _) ?_
  refine j_if_eq_t (tgt := 889) dL_law_884 (by decide) (by decide) ?_
  refine j_goto (tgt := 2592) dL_law_889 (by decide) ?_
  refine j_clr 5 ?_
  refine j_clr 6 ?_
  exact K E1 o E2 p1 ho q2
set_option maxRecDepth 100000 in
set_option maxHeartbeats 4000000 in
theorem lc_undo_bad {g : jG} {n : Nat} {ad : Nat → Nat} {E : Nat → va_E} {i6 bc bs : Nat} {Φ : Option Value → jR} {Ψ : String → jR} {fs fm : List Value} (hi : i6 + 6 ≤ g.1.2.2.1) (hL : g.1.2.2.1 ≤ 3072) (hn : 70 ≤ n) (h0 : E 0 = .inr (3, fs)) (h63 : E 63 = .inr (4, fm)) {k : Int32} (hk : ¬ k = 0) {b : Int32} {PM : (Nat → va_E) → Prop} (HH : HBad g mL_undo 11 [.ref (ad 0), .ref (ad 69)] n ad E k) (HM : RetP g mX4_undo 6 [.ref (ad 63)] n ad E (some (.int b)) PM) (hM : ∀ E2, PM E2 → ∃ f9, E2 63 = .inr (4, .int k :: f9)) (K : ∀ E2, PM E2 → J g mL_law 12 bc bs 2592 [some (.ref g.1.2.1), some (.ref (ad 0)), some (.ref (ad 63)), some (.ref (ad 69)), some (.int (nI i6)), none, none, none, none] [] n ad E2 Φ Ψ) : J g mL_law 12 (1 + bc) (6 + bs) 848 [some (.ref g.1.2.1), some (.ref (ad 0)), some (.ref (ad 63)), some (.ref (ad 69)), some (.int (nI i6)), none, none, none, none] [] n ad E Φ Ψ := by
  refine j_aload_n dL_law_848 rfl ?_
  refine j_aload_n dL_law_849 rfl ?_
  refine j_cSB (As := [.ref (ad 0), .ref (ad 69)]) (rest := []) cm_L_undo ct_L_undo ln_L_164 dL_law_850 (d' := 11) (by decide) rfl rfl (Nat.le_of_ble_eq_true rfl) (Nat.le_of_ble_eq_true rfl) HH ?_
  show J g mL_law 12 bc bs 853 [some (.ref g.1.2.1), some (.ref (ad 0)), some (.ref (ad 63)), some (.ref (ad 69)), some (.int (nI i6)), none, none, none, none] [.int k] n ad E Φ Ψ
  refine j_istore (L' := [some (.ref g.1.2.1), some (.ref (ad 0)), some (.ref (ad 63)), some (.ref (ad 69)), some (.int (nI i6)), some (.int k), none, none, none]) dL_law_853 (by decide) rfl rfl ?_
  refine j_aload_n dL_law_855 rfl ?_
  refine j_cVp (As := []) (rest := []) cm_X4_undo ci_X4_undo cs_X4_undo rfl ln_L_166 (ci := 4) rfl dL_law_856 (d' := 6) (by decide) (by omega) h63 rfl rfl (Nat.le_of_ble_eq_true rfl) (Nat.le_of_ble_eq_true rfl) HM (fun E2 q2 => ?_)
  obtain ⟨fm2, h63b⟩ := hM _ q2
  show J g mL_law 12 bc bs 859 [some (.ref g.1.2.1), some (.ref (ad 0)), some (.ref (ad 63)), some (.ref (ad 69)), some (.int (nI i6)), some (.int k), none, none, none] [.int b] n ad E2 Φ Ψ
  refine j_istore (L' := [some (.ref g.1.2.1), some (.ref (ad 0)), some (.ref (ad 63)), some (.ref (ad 69)), some (.int (nI i6)), some (.int k), some (.int b), none, none]) dL_law_859 (by decide) rfl rfl ?_
  refine j_aload_n dL_law_861 rfl ?_
  refine j_cV (As := []) (rest := []) cm_X4_thrown ci_X4_thrown cs_X4_thrown rfl ln_L_133 (ci := 4) rfl dL_law_862 (d' := 0) (by decide) (by omega) h63b rfl rfl (Nat.le_of_ble_eq_true rfl) (Nat.le_of_ble_eq_true rfl) (s_thrown' hn h63b) ?_
  refine j_iload dL_law_865 rfl ?_
  refine j_icmp_eq_t (tgt := 872) dL_law_867 (by decide) rfl ?_
  refine j_iload dL_law_872 rfl ?_
  refine j_if_ne_t (tgt := 889) dL_law_874 (by decide) hk ?_
  refine j_goto (tgt := 2592) dL_law_889 (by decide) ?_
  refine j_clr 5 ?_
  refine j_clr 6 ?_
  exact K E2 q2
set_option maxRecDepth 100000 in
set_option maxHeartbeats 4000000 in
theorem lc_setSun_ok {g : jG} {n : Nat} {ad : Nat → Nat} {E : Nat → va_E} {i6 bc bs : Nat} {Φ : Option Value → jR} {Ψ : String → jR} {fs fm : List Value} (hi : i6 + 6 ≤ g.1.2.2.1) (hL : g.1.2.2.1 ≤ 3072) (hn : 70 ≤ n) (h0 : E 0 = .inr (3, fs)) (h63 : E 63 = .inr (4, fm)) {x1 : Int32} (e1 : g.1.2.2.2 (i6 + 1) = x1) {v : Int32} {PC : (Nat → va_E) → Prop} {PM : (Nat → va_E) → (Nat → va_E) → Prop} (HH : HOk g mL_setSun 11 [.ref (ad 0), .int x1, .ref (ad 69)] n ad E v.toInt64 PC) (h69 : ∀ E1, PC E1 → E1 63 = E 63) (HM : ∀ E1 o, PC E1 → RetP g mX4_setSun 6 [.ref (ad 63), .int x1] n ad (va_up E1 69 (aL g 1 (vp_updL o 0 v.toInt64))) (some (.int v)) (PM (va_up E1 69 (aL g 1 (vp_updL o 0 v.toInt64))))) (hM : ∀ E1 E2, PM E1 E2 → (∃ f9, E2 63 = .inr (4, .int 0 :: f9)) ∧ E2 69 = E1 69) (K : ∀ E1 o E2, PC E1 → E1 69 = aL g 1 o → PM (va_up E1 69 (aL g 1 (vp_updL o 0 v.toInt64))) E2 → J g mL_law 12 bc bs 2592 [some (.ref g.1.2.1), some (.ref (ad 0)), some (.ref (ad 63)), some (.ref (ad 69)), some (.int (nI i6)), none, none, none, none] [] n ad E2 Φ Ψ) : J g mL_law 12 bc bs 892 [some (.ref g.1.2.1), some (.ref (ad 0)), some (.ref (ad 63)), some (.ref (ad 69)), some (.int (nI i6)), none, none, none, none] [] n ad E Φ Ψ := by
  refine j_aload_n dL_law_892 rfl ?_
  refine j_aload_n dL_law_893 rfl ?_
  refine j_iload dL_law_894 rfl ?_
  refine j_iconst (v := nI 1) dL_law_896 (by decide) ?_
  refine j_iadd dL_law_897 ?_
  refine j_topi (y := nI (i6 + 1)) (nI_add _ _) ?_
  refine j_sald dL_law_898 (by omega) (by omega) ?_
  refine j_topi (y := x1) e1 ?_
  refine j_aload_n dL_law_899 rfl ?_
  refine j_cSH (As := [.ref (ad 0), .int x1, .ref (ad 69)]) (rest := []) cm_L_setSun ct_L_setSun ln_L_167 dL_law_900 (d' := 11) (by decide) rfl rfl (Nat.le_of_ble_eq_true rfl) (Nat.le_of_ble_eq_true rfl) HH (fun E1 o p1 ho => ?_)
  obtain h63a := h69 E1 p1
  show J g mL_law 12 bc bs 903 [some (.ref g.1.2.1), some (.ref (ad 0)), some (.ref (ad 63)), some (.ref (ad 69)), some (.int (nI i6)), none, none, none, none] [.int 0] n ad (va_up E1 69 (aL g 1 (vp_updL o 0 v.toInt64))) Φ Ψ
  refine j_istore (L' := [some (.ref g.1.2.1), some (.ref (ad 0)), some (.ref (ad 63)), some (.ref (ad 69)), some (.int (nI i6)), some (.int 0), none, none, none]) dL_law_903 (by decide) rfl rfl ?_
  refine j_aload_n dL_law_905 rfl ?_
  refine j_aload_n dL_law_906 rfl ?_
  refine j_iload dL_law_907 rfl ?_
  refine j_iconst (v := nI 1) dL_law_909 (by decide) ?_
  refine j_iadd dL_law_910 ?_
  refine j_topi (y := nI (i6 + 1)) (nI_add _ _) ?_
  refine j_sald dL_law_911 (by omega) (by omega) ?_
  refine j_topi (y := x1) e1 ?_
  refine j_cVp (As := [.int x1]) (rest := []) cm_X4_setSun ci_X4_setSun cs_X4_setSun rfl ln_L_169 (ci := 4) rfl dL_law_912 (d' := 6) (by decide) (by omega) ((up_ne (by decide)).trans (h63a.trans h63)) rfl rfl (Nat.le_of_ble_eq_true rfl) (Nat.le_of_ble_eq_true rfl) (HM E1 _ p1) (fun E2 q2 => ?_)
  obtain ⟨⟨fm2, h63b⟩, h69b⟩ := hM _ _ q2
  show J g mL_law 12 bc bs 915 [some (.ref g.1.2.1), some (.ref (ad 0)), some (.ref (ad 63)), some (.ref (ad 69)), some (.int (nI i6)), some (.int 0), none, none, none] [.int v] n ad E2 Φ Ψ
  refine j_istore (L' := [some (.ref g.1.2.1), some (.ref (ad 0)), some (.ref (ad 63)), some (.ref (ad 69)), some (.int (nI i6)), some (.int 0), some (.int v), none, none]) dL_law_915 (by decide) rfl rfl ?_
  refine j_aload_n dL_law_917 rfl ?_
  refine j_cV (As := []) (rest := []) cm_X4_thrown ci_X4_thrown cs_X4_thrown rfl ln_L_133 (ci := 4) rfl dL_law_918 (d' := 0) (by decide) (by omega) h63b rfl rfl (Nat.le_of_ble_eq_true rfl) (Nat.le_of_ble_eq_true rfl) (s_thrown' hn h63b) ?_
  refine j_iload dL_law_921 rfl ?_
  refine j_icmp_eq_t (tgt := 928) dL_law_923 (by decide) (by decide) ?_
  refine j_iload dL_law_928 rfl ?_
  refine j_if_ne_f (tgt := 945) dL_law_930 (by decide) (by decide) ?_
  refine j_aload_n dL_law_933 rfl ?_
  refine j_iconst (v := nI 0) dL_law_934 (by decide) ?_
  refine j_lald dL_law_935 (by omega) (h69b.trans up_eq) (by decide) (by omega) rfl ?_
  refine j_topl (y := v.toInt64) (if_pos rfl) ?_
  refine j_iload dL_law_936 rfl ?_
  refine j_i2l dL_law_938 ?_
  refine j_lcmp dL_law_939 ?_
  refine j_topi (y := 0) (lg_self _) ?_
  refine j_if_eq_t (tgt := 945) dL_law_940 (by decide) (by decide) ?_
  refine j_goto (tgt := 2592) dL_law_945 (by decide) ?_
  refine j_clr 5 ?_
  refine j_clr 6 ?_
  exact K E1 o E2 p1 ho q2
set_option maxRecDepth 100000 in
set_option maxHeartbeats 4000000 in
theorem lc_setSun_bad {g : jG} {n : Nat} {ad : Nat → Nat} {E : Nat → va_E} {i6 bc bs : Nat} {Φ : Option Value → jR} {Ψ : String → jR} {fs fm : List Value} (hi : i6 + 6 ≤ g.1.2.2.1) (hL : g.1.2.2.1 ≤ 3072) (hn : 70 ≤ n) (h0 : E 0 = .inr (3, fs)) (h63 : E 63 = .inr (4, fm)) {x1 : Int32} (e1 : g.1.2.2.2 (i6 + 1) = x1) {k : Int32} (hk : ¬ k = 0) {b : Int32} {PM : (Nat → va_E) → Prop} (HH : HBad g mL_setSun 11 [.ref (ad 0), .int x1, .ref (ad 69)] n ad E k) (HM : RetP g mX4_setSun 6 [.ref (ad 63), .int x1] n ad E (some (.int b)) PM) (hM : ∀ E2, PM E2 → ∃ f9, E2 63 = .inr (4, .int k :: f9)) (K : ∀ E2, PM E2 → J g mL_law 12 bc bs 2592 [some (.ref g.1.2.1), some (.ref (ad 0)), some (.ref (ad 63)), some (.ref (ad 69)), some (.int (nI i6)), none, none, none, none] [] n ad E2 Φ Ψ) : J g mL_law 12 (1 + bc) (6 + bs) 892 [some (.ref g.1.2.1), some (.ref (ad 0)), some (.ref (ad 63)), some (.ref (ad 69)), some (.int (nI i6)), none, none, none, none] [] n ad E Φ Ψ := by
  refine j_aload_n dL_law_892 rfl ?_
  refine j_aload_n dL_law_893 rfl ?_
  refine j_iload dL_law_894 rfl ?_
  refine j_iconst (v := nI 1) dL_law_896 (by decide) ?_
  refine j_iadd dL_law_897 ?_
  refine j_topi (y := nI (i6 + 1)) (nI_add _ _) ?_
  refine j_sald dL_law_898 (by omega) (by omega) ?_
  refine j_topi (y := x1) e1 ?_
  refine j_aload_n dL_law_899 rfl ?_
  refine j_cSB (As := [.ref (ad 0), .int x1, .ref (ad 69)]) (rest := []) cm_L_setSun ct_L_setSun ln_L_167 dL_law_900 (d' := 11) (by decide) rfl rfl (Nat.le_of_ble_eq_true rfl) (Nat.le_of_ble_eq_true rfl) HH ?_
  show J g mL_law 12 bc bs 903 [some (.ref g.1.2.1), some (.ref (ad 0)), some (.ref (ad 63)), some (.ref (ad 69)), some (.int (nI i6)), none, none, none, none] [.int k] n ad E Φ Ψ
  refine j_istore (L' := [some (.ref g.1.2.1), some (.ref (ad 0)), some (.ref (ad 63)), some (.ref (ad 69)), some (.int (nI i6)), some (.int k), none, none, none]) dL_law_903 (by decide) rfl rfl ?_
  refine j_aload_n dL_law_905 rfl ?_
  refine j_aload_n dL_law_906 rfl ?_
  refine j_iload dL_law_907 rfl ?_
  refine j_iconst (v := nI 1) dL_law_909 (by decide) ?_
  refine j_iadd dL_law_910 ?_
  refine j_topi (y := nI (i6 + 1)) (nI_add _ _) ?_
  refine j_sald dL_law_911 (by omega) (by omega) ?_
  refine j_topi (y := x1) e1 ?_
  refine j_cVp (As := [.int x1]) (rest := []) cm_X4_setSun ci_X4_setSun cs_X4_setSun rfl ln_L_169 (ci := 4) rfl dL_law_912 (d' := 6) (by decide) (by omega) h63 rfl rfl (Nat.le_of_ble_eq_true rfl) (Nat.le_of_ble_eq_true rfl) HM (fun E2 q2 => ?_)
  obtain ⟨fm2, h63b⟩ := hM _ q2
  show J g mL_law 12 bc bs 915 [some (.ref g.1.2.1), some (.ref (ad 0)), some (.ref (ad 63)), some (.ref (ad 69)), some (.int (nI i6)), some (.int k), none, none, none] [.int b] n ad E2 Φ Ψ
  refine j_istore (L' := [some (.ref g.1.2.1), some (.ref (ad 0)), some (.ref (ad 63)), some (.ref (ad 69)), some (.int (nI i6)), some (.int k), some (.int b), none, none]) dL_law_915 (by decide) rfl rfl ?_
  refine j_aload_n dL_law_917 rfl ?_
  refine j_cV (As := []) (rest := []) cm_X4_thrown ci_X4_thrown cs_X4_thrown rfl ln_L_133 (ci := 4) rfl dL_law_918 (d' := 0) (by decide) (by omega) h63b rfl rfl (Nat.le_of_ble_eq_true rfl) (Nat.le_of_ble_eq_true rfl) (s_thrown' hn h63b) ?_
  refine j_iload dL_law_921 rfl ?_
  refine j_icmp_eq_t (tgt := 928) dL_law_923 (by decide) rfl ?_
  refine j_iload dL_law_928 rfl ?_
  refine j_if_ne_t (tgt := 945) dL_law_930 (by decide) hk ?_
  refine j_goto (tgt := 2592) dL_law_945 (by decide) ?_
  refine j_clr 5 ?_
  refine j_clr 6 ?_
  exact K E2 q2
set_option maxRecDepth 100000 in
set_option maxHeartbeats 4000000 in
theorem lc_setEdge_ok {g : jG} {n : Nat} {ad : Nat → Nat} {E : Nat → va_E} {i6 bc bs : Nat} {Φ : Option Value → jR} {Ψ : String → jR} {fs fm : List Value} (hi : i6 + 6 ≤ g.1.2.2.1) (hL : g.1.2.2.1 ≤ 3072) (hn : 70 ≤ n) (h0 : E 0 = .inr (3, fs)) (h63 : E 63 = .inr (4, fm)) {x1 : Int32} (e1 : g.1.2.2.2 (i6 + 1) = x1) {x2 : Int32} (e2 : g.1.2.2.2 (i6 + 2) = x2) {v : Int32} {PC : (Nat → va_E) → Prop} {PM : (Nat → va_E) → (Nat → va_E) → Prop} (HH : HOk g mL_setEdge 11 [.ref (ad 0), .int x1, .int x2, .ref (ad 69)] n ad E v.toInt64 PC) (h69 : ∀ E1, PC E1 → E1 63 = E 63) (HM : ∀ E1 o, PC E1 → RetP g mX4_setEdge 6 [.ref (ad 63), .int x1, .int x2] n ad (va_up E1 69 (aL g 1 (vp_updL o 0 v.toInt64))) (some (.int v)) (PM (va_up E1 69 (aL g 1 (vp_updL o 0 v.toInt64))))) (hM : ∀ E1 E2, PM E1 E2 → (∃ f9, E2 63 = .inr (4, .int 0 :: f9)) ∧ E2 69 = E1 69) (K : ∀ E1 o E2, PC E1 → E1 69 = aL g 1 o → PM (va_up E1 69 (aL g 1 (vp_updL o 0 v.toInt64))) E2 → J g mL_law 12 bc bs 2592 [some (.ref g.1.2.1), some (.ref (ad 0)), some (.ref (ad 63)), some (.ref (ad 69)), some (.int (nI i6)), none, none, none, none] [] n ad E2 Φ Ψ) : J g mL_law 12 bc bs 948 [some (.ref g.1.2.1), some (.ref (ad 0)), some (.ref (ad 63)), some (.ref (ad 69)), some (.int (nI i6)), none, none, none, none] [] n ad E Φ Ψ := by
  refine j_aload_n dL_law_948 rfl ?_
  refine j_aload_n dL_law_949 rfl ?_
  refine j_iload dL_law_950 rfl ?_
  refine j_iconst (v := nI 1) dL_law_952 (by decide) ?_
  refine j_iadd dL_law_953 ?_
  refine j_topi (y := nI (i6 + 1)) (nI_add _ _) ?_
  refine j_sald dL_law_954 (by omega) (by omega) ?_
  refine j_topi (y := x1) e1 ?_
  refine j_aload_n dL_law_955 rfl ?_
  refine j_iload dL_law_956 rfl ?_
  refine j_iconst (v := nI 2) dL_law_958 (by decide) ?_
  refine j_iadd dL_law_959 ?_
  refine j_topi (y := nI (i6 + 2)) (nI_add _ _) ?_
  refine j_sald dL_law_960 (by omega) (by omega) ?_
  refine j_topi (y := x2) e2 ?_
  refine j_aload_n dL_law_961 rfl ?_
  refine j_cSH (As := [.ref (ad 0), .int x1, .int x2, .ref (ad 69)]) (rest := []) cm_L_setEdge ct_L_setEdge ln_L_170 dL_law_962 (d' := 11) (by decide) rfl rfl (Nat.le_of_ble_eq_true rfl) (Nat.le_of_ble_eq_true rfl) HH (fun E1 o p1 ho => ?_)
  obtain h63a := h69 E1 p1
  show J g mL_law 12 bc bs 965 [some (.ref g.1.2.1), some (.ref (ad 0)), some (.ref (ad 63)), some (.ref (ad 69)), some (.int (nI i6)), none, none, none, none] [.int 0] n ad (va_up E1 69 (aL g 1 (vp_updL o 0 v.toInt64))) Φ Ψ
  refine j_istore (L' := [some (.ref g.1.2.1), some (.ref (ad 0)), some (.ref (ad 63)), some (.ref (ad 69)), some (.int (nI i6)), some (.int 0), none, none, none]) dL_law_965 (by decide) rfl rfl ?_
  refine j_aload_n dL_law_967 rfl ?_
  refine j_aload_n dL_law_968 rfl ?_
  refine j_iload dL_law_969 rfl ?_
  refine j_iconst (v := nI 1) dL_law_971 (by decide) ?_
  refine j_iadd dL_law_972 ?_
  refine j_topi (y := nI (i6 + 1)) (nI_add _ _) ?_
  refine j_sald dL_law_973 (by omega) (by omega) ?_
  refine j_topi (y := x1) e1 ?_
  refine j_aload_n dL_law_974 rfl ?_
  refine j_iload dL_law_975 rfl ?_
  refine j_iconst (v := nI 2) dL_law_977 (by decide) ?_
  refine j_iadd dL_law_978 ?_
  refine j_topi (y := nI (i6 + 2)) (nI_add _ _) ?_
  refine j_sald dL_law_979 (by omega) (by omega) ?_
  refine j_topi (y := x2) e2 ?_
  refine j_cVp (As := [.int x1, .int x2]) (rest := []) cm_X4_setEdge ci_X4_setEdge cs_X4_setEdge rfl ln_L_172 (ci := 4) rfl dL_law_980 (d' := 6) (by decide) (by omega) ((up_ne (by decide)).trans (h63a.trans h63)) rfl rfl (Nat.le_of_ble_eq_true rfl) (Nat.le_of_ble_eq_true rfl) (HM E1 _ p1) (fun E2 q2 => ?_)
  obtain ⟨⟨fm2, h63b⟩, h69b⟩ := hM _ _ q2
  show J g mL_law 12 bc bs 983 [some (.ref g.1.2.1), some (.ref (ad 0)), some (.ref (ad 63)), some (.ref (ad 69)), some (.int (nI i6)), some (.int 0), none, none, none] [.int v] n ad E2 Φ Ψ
  refine j_istore (L' := [some (.ref g.1.2.1), some (.ref (ad 0)), some (.ref (ad 63)), some (.ref (ad 69)), some (.int (nI i6)), some (.int 0), some (.int v), none, none]) dL_law_983 (by decide) rfl rfl ?_
  refine j_aload_n dL_law_985 rfl ?_
  refine j_cV (As := []) (rest := []) cm_X4_thrown ci_X4_thrown cs_X4_thrown rfl ln_L_133 (ci := 4) rfl dL_law_986 (d' := 0) (by decide) (by omega) h63b rfl rfl (Nat.le_of_ble_eq_true rfl) (Nat.le_of_ble_eq_true rfl) (s_thrown' hn h63b) ?_
  refine j_iload dL_law_989 rfl ?_
  refine j_icmp_eq_t (tgt := 996) dL_law_991 (by decide) (by decide) ?_
  refine j_iload dL_law_996 rfl ?_
  refine j_if_ne_f (tgt := 1013) dL_law_998 (by decide) (by decide) ?_
  refine j_aload_n dL_law_1001 rfl ?_
  refine j_iconst (v := nI 0) dL_law_1002 (by decide) ?_
  refine j_lald dL_law_1003 (by omega) (h69b.trans up_eq) (by decide) (by omega) rfl ?_
  refine j_topl (y := v.toInt64) (if_pos rfl) ?_
  refine j_iload dL_law_1004 rfl ?_
  refine j_i2l dL_law_1006 ?_
  refine j_lcmp dL_law_1007 ?_
  refine j_topi (y := 0) (lg_self _) ?_
  refine j_if_eq_t (tgt := 1013) dL_law_1008 (by decide) (by decide) ?_
  refine j_goto (tgt := 2592) dL_law_1013 (by decide) ?_
  refine j_clr 5 ?_
  refine j_clr 6 ?_
  exact K E1 o E2 p1 ho q2
set_option maxRecDepth 100000 in
set_option maxHeartbeats 4000000 in
theorem lc_setEdge_bad {g : jG} {n : Nat} {ad : Nat → Nat} {E : Nat → va_E} {i6 bc bs : Nat} {Φ : Option Value → jR} {Ψ : String → jR} {fs fm : List Value} (hi : i6 + 6 ≤ g.1.2.2.1) (hL : g.1.2.2.1 ≤ 3072) (hn : 70 ≤ n) (h0 : E 0 = .inr (3, fs)) (h63 : E 63 = .inr (4, fm)) {x1 : Int32} (e1 : g.1.2.2.2 (i6 + 1) = x1) {x2 : Int32} (e2 : g.1.2.2.2 (i6 + 2) = x2) {k : Int32} (hk : ¬ k = 0) {b : Int32} {PM : (Nat → va_E) → Prop} (HH : HBad g mL_setEdge 11 [.ref (ad 0), .int x1, .int x2, .ref (ad 69)] n ad E k) (HM : RetP g mX4_setEdge 6 [.ref (ad 63), .int x1, .int x2] n ad E (some (.int b)) PM) (hM : ∀ E2, PM E2 → ∃ f9, E2 63 = .inr (4, .int k :: f9)) (K : ∀ E2, PM E2 → J g mL_law 12 bc bs 2592 [some (.ref g.1.2.1), some (.ref (ad 0)), some (.ref (ad 63)), some (.ref (ad 69)), some (.int (nI i6)), none, none, none, none] [] n ad E2 Φ Ψ) : J g mL_law 12 (1 + bc) (6 + bs) 948 [some (.ref g.1.2.1), some (.ref (ad 0)), some (.ref (ad 63)), some (.ref (ad 69)), some (.int (nI i6)), none, none, none, none] [] n ad E Φ Ψ := by
  refine j_aload_n dL_law_948 rfl ?_
  refine j_aload_n dL_law_949 rfl ?_
  refine j_iload dL_law_950 rfl ?_
  refine j_iconst (v := nI 1) dL_law_952 (by decide) ?_
  refine j_iadd dL_law_953 ?_
  refine j_topi (y := nI (i6 + 1)) (nI_add _ _) ?_
  refine j_sald dL_law_954 (by omega) (by omega) ?_
  refine j_topi (y := x1) e1 ?_
  refine j_aload_n dL_law_955 rfl ?_
  refine j_iload dL_law_956 rfl ?_
  refine j_iconst (v := nI 2) dL_law_958 (by decide) ?_
  refine j_iadd dL_law_959 ?_
  refine j_topi (y := nI (i6 + 2)) (nI_add _ _) ?_
  refine j_sald dL_law_960 (by omega) (by omega) ?_
  refine j_topi (y := x2) e2 ?_
  refine j_aload_n dL_law_961 rfl ?_
  refine j_cSB (As := [.ref (ad 0), .int x1, .int x2, .ref (ad 69)]) (rest := []) cm_L_setEdge ct_L_setEdge ln_L_170 dL_law_962 (d' := 11) (by decide) rfl rfl (Nat.le_of_ble_eq_true rfl) (Nat.le_of_ble_eq_true rfl) HH ?_
  show J g mL_law 12 bc bs 965 [some (.ref g.1.2.1), some (.ref (ad 0)), some (.ref (ad 63)), some (.ref (ad 69)), some (.int (nI i6)), none, none, none, none] [.int k] n ad E Φ Ψ
  refine j_istore (L' := [some (.ref g.1.2.1), some (.ref (ad 0)), some (.ref (ad 63)), some (.ref (ad 69)), some (.int (nI i6)), some (.int k), none, none, none]) dL_law_965 (by decide) rfl rfl ?_
  refine j_aload_n dL_law_967 rfl ?_
  refine j_aload_n dL_law_968 rfl ?_
  refine j_iload dL_law_969 rfl ?_
  refine j_iconst (v := nI 1) dL_law_971 (by decide) ?_
  refine j_iadd dL_law_972 ?_
  refine j_topi (y := nI (i6 + 1)) (nI_add _ _) ?_
  refine j_sald dL_law_973 (by omega) (by omega) ?_
  refine j_topi (y := x1) e1 ?_
  refine j_aload_n dL_law_974 rfl ?_
  refine j_iload dL_law_975 rfl ?_
  refine j_iconst (v := nI 2) dL_law_977 (by decide) ?_
  refine j_iadd dL_law_978 ?_
  refine j_topi (y := nI (i6 + 2)) (nI_add _ _) ?_
  refine j_sald dL_law_979 (by omega) (by omega) ?_
  refine j_topi (y := x2) e2 ?_
  refine j_cVp (As := [.int x1, .int x2]) (rest := []) cm_X4_setEdge ci_X4_setEdge cs_X4_setEdge rfl ln_L_172 (ci := 4) rfl dL_law_980 (d' := 6) (by decide) (by omega) h63 rfl rfl (Nat.le_of_ble_eq_true rfl) (Nat.le_of_ble_eq_true rfl) HM (fun E2 q2 => ?_)
  obtain ⟨fm2, h63b⟩ := hM _ q2
  show J g mL_law 12 bc bs 983 [some (.ref g.1.2.1), some (.ref (ad 0)), some (.ref (ad 63)), some (.ref (ad 69)), some (.int (nI i6)), some (.int k), none, none, none] [.int b] n ad E2 Φ Ψ
  refine j_istore (L' := [some (.ref g.1.2.1), some (.ref (ad 0)), some (.ref (ad 63)), some (.ref (ad 69)), some (.int (nI i6)), some (.int k), some (.int b), none, none]) dL_law_983 (by decide) rfl rfl ?_
  refine j_aload_n dL_law_985 rfl ?_
  refine j_cV (As := []) (rest := []) cm_X4_thrown ci_X4_thrown cs_X4_thrown rfl ln_L_133 (ci := 4) rfl dL_law_986 (d' := 0) (by decide) (by omega) h63b rfl rfl (Nat.le_of_ble_eq_true rfl) (Nat.le_of_ble_eq_true rfl) (s_thrown' hn h63b) ?_
  refine j_iload dL_law_989 rfl ?_
  refine j_icmp_eq_t (tgt := 996) dL_law_991 (by decide) rfl ?_
  refine j_iload dL_law_996 rfl ?_
  refine j_if_ne_t (tgt := 1013) dL_law_998 (by decide) hk ?_
  refine j_goto (tgt := 2592) dL_law_1013 (by decide) ?_
  refine j_clr 5 ?_
  refine j_clr 6 ?_
  exact K E2 q2
set_option maxRecDepth 100000 in
set_option maxHeartbeats 4000000 in
theorem lc_flights {g : jG} {n : Nat} {ad : Nat → Nat} {E : Nat → va_E} {i6 bc bs : Nat} {Φ : Option Value → jR} {Ψ : String → jR} {fs fm : List Value} (hi : i6 + 6 ≤ g.1.2.2.1) (hL : g.1.2.2.1 ≤ 3072) (hn : 70 ≤ n) (h0 : E 0 = .inr (3, fs)) (h63 : E 63 = .inr (4, fm)) {v : Int32} {PC : (Nat → va_E) → Prop} {PM : (Nat → va_E) → (Nat → va_E) → Prop} (HC : RetP g mX3_flights 10 [.ref (ad 0)] n ad E (some (.int v)) PC) (h69 : ∀ E1, PC E1 → E1 63 = E 63) (HM : ∀ E1, PC E1 → RetP g mX4_flights 6 [.ref (ad 63)] n ad E1 (some (.int v)) (PM E1)) (K : ∀ E1 E2, PC E1 → PM E1 E2 → J g mL_law 12 bc bs 2592 [some (.ref g.1.2.1), some (.ref (ad 0)), some (.ref (ad 63)), some (.ref (ad 69)), some (.int (nI i6)), none, none, none, none] [] n ad E2 Φ Ψ) : J g mL_law 12 bc bs 1016 [some (.ref g.1.2.1), some (.ref (ad 0)), some (.ref (ad 63)), some (.ref (ad 69)), some (.int (nI i6)), none, none, none, none] [] n ad E Φ Ψ := by
  refine j_aload_n dL_law_1016 rfl ?_
  refine j_cVp (As := []) (rest := []) cm_X3_flights ci_X3_flights cs_X3_flights rfl ln_L_173 (ci := 3) rfl dL_law_1017 (d' := 10) (by decide) (by omega) h0 rfl rfl (Nat.le_of_ble_eq_true rfl) (Nat.le_of_ble_eq_true rfl) HC (fun E1 p1 => ?_)
  obtain h63a := h69 E1 p1
  show J g mL_law 12 bc bs 1020 [some (.ref g.1.2.1), some (.ref (ad 0)), some (.ref (ad 63)), some (.ref (ad 69)), some (.int (nI i6)), none, none, none, none] [.int v] n ad E1 Φ Ψ
  refine j_aload_n dL_law_1020 rfl ?_
  refine j_cVp (As := []) (rest := [.int v]) cm_X4_flights ci_X4_flights cs_X4_flights rfl ln_L_176 (ci := 4) rfl dL_law_1021 (d' := 6) (by decide) (by omega) (h63a.trans h63) rfl rfl (Nat.le_of_ble_eq_true rfl) (Nat.le_of_ble_eq_true rfl) (HM E1 p1) (fun E2 q2 => ?_)
  show J g mL_law 12 bc bs 1024 [some (.ref g.1.2.1), some (.ref (ad 0)), some (.ref (ad 63)), some (.ref (ad 69)), some (.int (nI i6)), none, none, none, none] [.int v, .int v] n ad E2 Φ Ψ
  refine j_icmp_eq_t (tgt := 2592) dL_law_1024 (by decide) rfl ?_
  exact K E1 E2 p1 q2
set_option maxRecDepth 100000 in
set_option maxHeartbeats 4000000 in
theorem lc_steps {g : jG} {n : Nat} {ad : Nat → Nat} {E : Nat → va_E} {i6 bc bs : Nat} {Φ : Option Value → jR} {Ψ : String → jR} {fs fm : List Value} (hi : i6 + 6 ≤ g.1.2.2.1) (hL : g.1.2.2.1 ≤ 3072) (hn : 70 ≤ n) (h0 : E 0 = .inr (3, fs)) (h63 : E 63 = .inr (4, fm)) {v : Int32} {PC : (Nat → va_E) → Prop} {PM : (Nat → va_E) → (Nat → va_E) → Prop} (HC : RetP g mX3_steps 10 [.ref (ad 0)] n ad E (some (.int v)) PC) (h69 : ∀ E1, PC E1 → E1 63 = E 63) (HM : ∀ E1, PC E1 → RetP g mX4_steps 6 [.ref (ad 63)] n ad E1 (some (.int v)) (PM E1)) (K : ∀ E1 E2, PC E1 → PM E1 E2 → J g mL_law 12 bc bs 2592 [some (.ref g.1.2.1), some (.ref (ad 0)), some (.ref (ad 63)), some (.ref (ad 69)), some (.int (nI i6)), none, none, none, none] [] n ad E2 Φ Ψ) : J g mL_law 12 bc bs 1029 [some (.ref g.1.2.1), some (.ref (ad 0)), some (.ref (ad 63)), some (.ref (ad 69)), some (.int (nI i6)), none, none, none, none] [] n ad E Φ Ψ := by
  refine j_aload_n dL_law_1029 rfl ?_
  refine j_cVp (As := []) (rest := []) cm_X3_steps ci_X3_steps cs_X3_steps rfl ln_L_177 (ci := 3) rfl dL_law_1030 (d' := 10) (by decide) (by omega) h0 rfl rfl (Nat.le_of_ble_eq_true rfl) (Nat.le_of_ble_eq_true rfl) HC (fun E1 p1 => ?_)
  obtain h63a := h69 E1 p1
  show J g mL_law 12 bc bs 1033 [some (.ref g.1.2.1), some (.ref (ad 0)), some (.ref (ad 63)), some (.ref (ad 69)), some (.int (nI i6)), none, none, none, none] [.int v] n ad E1 Φ Ψ
  refine j_aload_n dL_law_1033 rfl ?_
  refine j_cVp (As := []) (rest := [.int v]) cm_X4_steps ci_X4_steps cs_X4_steps rfl ln_L_180 (ci := 4) rfl dL_law_1034 (d' := 6) (by decide) (by omega) (h63a.trans h63) rfl rfl (Nat.le_of_ble_eq_true rfl) (Nat.le_of_ble_eq_true rfl) (HM E1 p1) (fun E2 q2 => ?_)
  show J g mL_law 12 bc bs 1037 [some (.ref g.1.2.1), some (.ref (ad 0)), some (.ref (ad 63)), some (.ref (ad 69)), some (.int (nI i6)), none, none, none, none] [.int v, .int v] n ad E2 Φ Ψ
  refine j_icmp_eq_t (tgt := 2592) dL_law_1037 (by decide) rfl ?_
  exact K E1 E2 p1 q2
set_option maxRecDepth 100000 in
set_option maxHeartbeats 4000000 in
theorem lc_hours {g : jG} {n : Nat} {ad : Nat → Nat} {E : Nat → va_E} {i6 bc bs : Nat} {Φ : Option Value → jR} {Ψ : String → jR} {fs fm : List Value} (hi : i6 + 6 ≤ g.1.2.2.1) (hL : g.1.2.2.1 ≤ 3072) (hn : 70 ≤ n) (h0 : E 0 = .inr (3, fs)) (h63 : E 63 = .inr (4, fm)) {v : Int32} {PC : (Nat → va_E) → Prop} {PM : (Nat → va_E) → (Nat → va_E) → Prop} (HC : RetP g mX3_hours 10 [.ref (ad 0)] n ad E (some (.int v)) PC) (h69 : ∀ E1, PC E1 → E1 63 = E 63) (HM : ∀ E1, PC E1 → RetP g mX4_hours 6 [.ref (ad 63)] n ad E1 (some (.int v)) (PM E1)) (K : ∀ E1 E2, PC E1 → PM E1 E2 → J g mL_law 12 bc bs 2592 [some (.ref g.1.2.1), some (.ref (ad 0)), some (.ref (ad 63)), some (.ref (ad 69)), some (.int (nI i6)), none, none, none, none] [] n ad E2 Φ Ψ) : J g mL_law 12 bc bs 1042 [some (.ref g.1.2.1), some (.ref (ad 0)), some (.ref (ad 63)), some (.ref (ad 69)), some (.int (nI i6)), none, none, none, none] [] n ad E Φ Ψ := by
  refine j_aload_n dL_law_1042 rfl ?_
  refine j_cVp (As := []) (rest := []) cm_X3_hours ci_X3_hours cs_X3_hours rfl ln_L_181 (ci := 3) rfl dL_law_1043 (d' := 10) (by decide) (by omega) h0 rfl rfl (Nat.le_of_ble_eq_true rfl) (Nat.le_of_ble_eq_true rfl) HC (fun E1 p1 => ?_)
  obtain h63a := h69 E1 p1
  show J g mL_law 12 bc bs 1046 [some (.ref g.1.2.1), some (.ref (ad 0)), some (.ref (ad 63)), some (.ref (ad 69)), some (.int (nI i6)), none, none, none, none] [.int v] n ad E1 Φ Ψ
  refine j_aload_n dL_law_1046 rfl ?_
  refine j_cVp (As := []) (rest := [.int v]) cm_X4_hours ci_X4_hours cs_X4_hours rfl ln_L_184 (ci := 4) rfl dL_law_1047 (d' := 6) (by decide) (by omega) (h63a.trans h63) rfl rfl (Nat.le_of_ble_eq_true rfl) (Nat.le_of_ble_eq_true rfl) (HM E1 p1) (fun E2 q2 => ?_)
  show J g mL_law 12 bc bs 1050 [some (.ref g.1.2.1), some (.ref (ad 0)), some (.ref (ad 63)), some (.ref (ad 69)), some (.int (nI i6)), none, none, none, none] [.int v, .int v] n ad E2 Φ Ψ
  refine j_icmp_eq_t (tgt := 2592) dL_law_1050 (by decide) rfl ?_
  exact K E1 E2 p1 q2
set_option maxRecDepth 100000 in
set_option maxHeartbeats 4000000 in
theorem lc_sun {g : jG} {n : Nat} {ad : Nat → Nat} {E : Nat → va_E} {i6 bc bs : Nat} {Φ : Option Value → jR} {Ψ : String → jR} {fs fm : List Value} (hi : i6 + 6 ≤ g.1.2.2.1) (hL : g.1.2.2.1 ≤ 3072) (hn : 70 ≤ n) (h0 : E 0 = .inr (3, fs)) (h63 : E 63 = .inr (4, fm)) {v : Int32} {PC : (Nat → va_E) → Prop} {PM : (Nat → va_E) → (Nat → va_E) → Prop} (HC : RetP g mX3_sun 10 [.ref (ad 0)] n ad E (some (.int v)) PC) (h69 : ∀ E1, PC E1 → E1 63 = E 63) (HM : ∀ E1, PC E1 → RetP g mX4_sun 6 [.ref (ad 63)] n ad E1 (some (.int v)) (PM E1)) (K : ∀ E1 E2, PC E1 → PM E1 E2 → J g mL_law 12 bc bs 2592 [some (.ref g.1.2.1), some (.ref (ad 0)), some (.ref (ad 63)), some (.ref (ad 69)), some (.int (nI i6)), none, none, none, none] [] n ad E2 Φ Ψ) : J g mL_law 12 bc bs 1055 [some (.ref g.1.2.1), some (.ref (ad 0)), some (.ref (ad 63)), some (.ref (ad 69)), some (.int (nI i6)), none, none, none, none] [] n ad E Φ Ψ := by
  refine j_aload_n dL_law_1055 rfl ?_
  refine j_cVp (As := []) (rest := []) cm_X3_sun ci_X3_sun cs_X3_sun rfl ln_L_185 (ci := 3) rfl dL_law_1056 (d' := 10) (by decide) (by omega) h0 rfl rfl (Nat.le_of_ble_eq_true rfl) (Nat.le_of_ble_eq_true rfl) HC (fun E1 p1 => ?_)
  obtain h63a := h69 E1 p1
  show J g mL_law 12 bc bs 1059 [some (.ref g.1.2.1), some (.ref (ad 0)), some (.ref (ad 63)), some (.ref (ad 69)), some (.int (nI i6)), none, none, none, none] [.int v] n ad E1 Φ Ψ
  refine j_aload_n dL_law_1059 rfl ?_
  refine j_cVp (As := []) (rest := [.int v]) cm_X4_sun ci_X4_sun cs_X4_sun rfl ln_L_188 (ci := 4) rfl dL_law_1060 (d' := 6) (by decide) (by omega) (h63a.trans h63) rfl rfl (Nat.le_of_ble_eq_true rfl) (Nat.le_of_ble_eq_true rfl) (HM E1 p1) (fun E2 q2 => ?_)
  show J g mL_law 12 bc bs 1063 [some (.ref g.1.2.1), some (.ref (ad 0)), some (.ref (ad 63)), some (.ref (ad 69)), some (.int (nI i6)), none, none, none, none] [.int v, .int v] n ad E2 Φ Ψ
  refine j_icmp_eq_t (tgt := 2592) dL_law_1063 (by decide) rfl ?_
  exact K E1 E2 p1 q2
set_option maxRecDepth 100000 in
set_option maxHeartbeats 4000000 in
theorem lc_edgeOf_ok {g : jG} {n : Nat} {ad : Nat → Nat} {E : Nat → va_E} {i6 bc bs : Nat} {Φ : Option Value → jR} {Ψ : String → jR} {fs fm : List Value} (hi : i6 + 6 ≤ g.1.2.2.1) (hL : g.1.2.2.1 ≤ 3072) (hn : 70 ≤ n) (h0 : E 0 = .inr (3, fs)) (h63 : E 63 = .inr (4, fm)) {x1 : Int32} (e1 : g.1.2.2.2 (i6 + 1) = x1) {v : Int32} {PC : (Nat → va_E) → Prop} {PM : (Nat → va_E) → (Nat → va_E) → Prop} (HH : HOk g mL_edgeOf 11 [.ref (ad 0), .int x1, .ref (ad 69)] n ad E v.toInt64 PC) (h69 : ∀ E1, PC E1 → E1 63 = E 63) (HM : ∀ E1 o, PC E1 → RetP g mX4_edgeOf 6 [.ref (ad 63), .int x1] n ad (va_up E1 69 (aL g 1 (vp_updL o 0 v.toInt64))) (some (.int v)) (PM (va_up E1 69 (aL g 1 (vp_updL o 0 v.toInt64))))) (hM : ∀ E1 E2, PM E1 E2 → (∃ f9, E2 63 = .inr (4, .int 0 :: f9)) ∧ E2 69 = E1 69) (K : ∀ E1 o E2, PC E1 → E1 69 = aL g 1 o → PM (va_up E1 69 (aL g 1 (vp_updL o 0 v.toInt64))) E2 → J g mL_law 12 bc bs 2592 [some (.ref g.1.2.1), some (.ref (ad 0)), some (.ref (ad 63)), some (.ref (ad 69)), some (.int (nI i6)), none, none, none, none] [] n ad E2 Φ Ψ) : J g mL_law 12 bc bs 1068 [some (.ref g.1.2.1), some (.ref (ad 0)), some (.ref (ad 63)), some (.ref (ad 69)), some (.int (nI i6)), none, none, none, none] [] n ad E Φ Ψ := by
  refine j_aload_n dL_law_1068 rfl ?_
  refine j_aload_n dL_law_1069 rfl ?_
  refine j_iload dL_law_1070 rfl ?_
  refine j_iconst (v := nI 1) dL_law_1072 (by decide) ?_
  refine j_iadd dL_law_1073 ?_
  refine j_topi (y := nI (i6 + 1)) (nI_add _ _) ?_
  refine j_sald dL_law_1074 (by omega) (by omega) ?_
  refine j_topi (y := x1) e1 ?_
  refine j_aload_n dL_law_1075 rfl ?_
  refine j_cSH (As := [.ref (ad 0), .int x1, .ref (ad 69)]) (rest := []) cm_L_edgeOf ct_L_edgeOf ln_L_189 dL_law_1076 (d' := 11) (by decide) rfl rfl (Nat.le_of_ble_eq_true rfl) (Nat.le_of_ble_eq_true rfl) HH (fun E1 o p1 ho => ?_)
  obtain h63a := h69 E1 p1
  show J g mL_law 12 bc bs 1079 [some (.ref g.1.2.1), some (.ref (ad 0)), some (.ref (ad 63)), some (.ref (ad 69)), some (.int (nI i6)), none, none, none, none] [.int 0] n ad (va_up E1 69 (aL g 1 (vp_updL o 0 v.toInt64))) Φ Ψ
  refine j_istore (L' := [some (.ref g.1.2.1), some (.ref (ad 0)), some (.ref (ad 63)), some (.ref (ad 69)), some (.int (nI i6)), some (.int 0), none, none, none]) dL_law_1079 (by decide) rfl rfl ?_
  refine j_aload_n dL_law_1081 rfl ?_
  refine j_aload_n dL_law_1082 rfl ?_
  refine j_iload dL_law_1083 rfl ?_
  refine j_iconst (v := nI 1) dL_law_1085 (by decide) ?_
  refine j_iadd dL_law_1086 ?_
  refine j_topi (y := nI (i6 + 1)) (nI_add _ _) ?_
  refine j_sald dL_law_1087 (by omega) (by omega) ?_
  refine j_topi (y := x1) e1 ?_
  refine j_cVp (As := [.int x1]) (rest := []) cm_X4_edgeOf ci_X4_edgeOf cs_X4_edgeOf rfl ln_L_191 (ci := 4) rfl dL_law_1088 (d' := 6) (by decide) (by omega) ((up_ne (by decide)).trans (h63a.trans h63)) rfl rfl (Nat.le_of_ble_eq_true rfl) (Nat.le_of_ble_eq_true rfl) (HM E1 _ p1) (fun E2 q2 => ?_)
  obtain ⟨⟨fm2, h63b⟩, h69b⟩ := hM _ _ q2
  show J g mL_law 12 bc bs 1091 [some (.ref g.1.2.1), some (.ref (ad 0)), some (.ref (ad 63)), some (.ref (ad 69)), some (.int (nI i6)), some (.int 0), none, none, none] [.int v] n ad E2 Φ Ψ
  refine j_istore (L' := [some (.ref g.1.2.1), some (.ref (ad 0)), some (.ref (ad 63)), some (.ref (ad 69)), some (.int (nI i6)), some (.int 0), some (.int v), none, none]) dL_law_1091 (by decide) rfl rfl ?_
  refine j_aload_n dL_law_1093 rfl ?_
  refine j_cV (As := []) (rest := []) cm_X4_thrown ci_X4_thrown cs_X4_thrown rfl ln_L_133 (ci := 4) rfl dL_law_1094 (d' := 0) (by decide) (by omega) h63b rfl rfl (Nat.le_of_ble_eq_true rfl) (Nat.le_of_ble_eq_true rfl) (s_thrown' hn h63b) ?_
  refine j_iload dL_law_1097 rfl ?_
  refine j_icmp_eq_t (tgt := 1104) dL_law_1099 (by decide) (by decide) ?_
  refine j_iload dL_law_1104 rfl ?_
  refine j_if_ne_f (tgt := 1121) dL_law_1106 (by decide) (by decide) ?_
  refine j_aload_n dL_law_1109 rfl ?_
  refine j_iconst (v := nI 0) dL_law_1110 (by decide) ?_
  refine j_lald dL_law_1111 (by omega) (h69b.trans up_eq) (by decide) (by omega) rfl ?_
  refine j_topl (y := v.toInt64) (if_pos rfl) ?_
  refine j_iload dL_law_1112 rfl ?_
  refine j_i2l dL_law_1114 ?_
  refine j_lcmp dL_law_1115 ?_
  refine j_topi (y := 0) (lg_self _) ?_
  refine j_if_eq_t (tgt := 1121) dL_law_1116 (by decide) (by decide) ?_
  refine j_goto (tgt := 2592) dL_law_1121 (by decide) ?_
  refine j_clr 5 ?_
  refine j_clr 6 ?_
  exact K E1 o E2 p1 ho q2
set_option maxRecDepth 100000 in
set_option maxHeartbeats 4000000 in
theorem lc_edgeOf_bad {g : jG} {n : Nat} {ad : Nat → Nat} {E : Nat → va_E} {i6 bc bs : Nat} {Φ : Option Value → jR} {Ψ : String → jR} {fs fm : List Value} (hi : i6 + 6 ≤ g.1.2.2.1) (hL : g.1.2.2.1 ≤ 3072) (hn : 70 ≤ n) (h0 : E 0 = .inr (3, fs)) (h63 : E 63 = .inr (4, fm)) {x1 : Int32} (e1 : g.1.2.2.2 (i6 + 1) = x1) {k : Int32} (hk : ¬ k = 0) {b : Int32} {PM : (Nat → va_E) → Prop} (HH : HBad g mL_edgeOf 11 [.ref (ad 0), .int x1, .ref (ad 69)] n ad E k) (HM : RetP g mX4_edgeOf 6 [.ref (ad 63), .int x1] n ad E (some (.int b)) PM) (hM : ∀ E2, PM E2 → ∃ f9, E2 63 = .inr (4, .int k :: f9)) (K : ∀ E2, PM E2 → J g mL_law 12 bc bs 2592 [some (.ref g.1.2.1), some (.ref (ad 0)), some (.ref (ad 63)), some (.ref (ad 69)), some (.int (nI i6)), none, none, none, none] [] n ad E2 Φ Ψ) : J g mL_law 12 (1 + bc) (6 + bs) 1068 [some (.ref g.1.2.1), some (.ref (ad 0)), some (.ref (ad 63)), some (.ref (ad 69)), some (.int (nI i6)), none, none, none, none] [] n ad E Φ Ψ := by
  refine j_aload_n dL_law_1068 rfl ?_
  refine j_aload_n dL_law_1069 rfl ?_
  refine j_iload dL_law_1070 rfl ?_
  refine j_iconst (v := nI 1) dL_law_1072 (by decide) ?_
  refine j_iadd dL_law_1073 ?_
  refine j_topi (y := nI (i6 + 1)) (nI_add _ _) ?_
  refine j_sald dL_law_1074 (by omega) (by omega) ?_
  refine j_topi (y := x1) e1 ?_
  refine j_aload_n dL_law_1075 rfl ?_
  refine j_cSB (As := [.ref (ad 0), .int x1, .ref (ad 69)]) (rest := []) cm_L_edgeOf ct_L_edgeOf ln_L_189 dL_law_1076 (d' := 11) (by decide) rfl rfl (Nat.le_of_ble_eq_true rfl) (Nat.le_of_ble_eq_true rfl) HH ?_
  show J g mL_law 12 bc bs 1079 [some (.ref g.1.2.1), some (.ref (ad 0)), some (.ref (ad 63)), some (.ref (ad 69)), some (.int (nI i6)), none, none, none, none] [.int k] n ad E Φ Ψ
  refine j_istore (L' := [some (.ref g.1.2.1), some (.ref (ad 0)), some (.ref (ad 63)), some (.ref (ad 69)), some (.int (nI i6)), some (.int k), none, none, none]) dL_law_1079 (by decide) rfl rfl ?_
  refine j_aload_n dL_law_1081 rfl ?_
  refine j_aload_n dL_law_1082 rfl ?_
  refine j_iload dL_law_1083 rfl ?_
  refine j_iconst (v := nI 1) dL_law_1085 (by decide) ?_
  refine j_iadd dL_law_1086 ?_
  refine j_topi (y := nI (i6 + 1)) (nI_add _ _) ?_
  refine j_sald dL_law_1087 (by omega) (by omega) ?_
  refine j_topi (y := x1) e1 ?_
  refine j_cVp (As := [.int x1]) (rest := []) cm_X4_edgeOf ci_X4_edgeOf cs_X4_edgeOf rfl ln_L_191 (ci := 4) rfl dL_law_1088 (d' := 6) (by decide) (by omega) h63 rfl rfl (Nat.le_of_ble_eq_true rfl) (Nat.le_of_ble_eq_true rfl) HM (fun E2 q2 => ?_)
  obtain ⟨fm2, h63b⟩ := hM _ q2
  show J g mL_law 12 bc bs 1091 [some (.ref g.1.2.1), some (.ref (ad 0)), some (.ref (ad 63)), some (.ref (ad 69)), some (.int (nI i6)), some (.int k), none, none, none] [.int b] n ad E2 Φ Ψ
  refine j_istore (L' := [some (.ref g.1.2.1), some (.ref (ad 0)), some (.ref (ad 63)), some (.ref (ad 69)), some (.int (nI i6)), some (.int k), some (.int b), none, none]) dL_law_1091 (by decide) rfl rfl ?_
  refine j_aload_n dL_law_1093 rfl ?_
  refine j_cV (As := []) (rest := []) cm_X4_thrown ci_X4_thrown cs_X4_thrown rfl ln_L_133 (ci := 4) rfl dL_law_1094 (d' := 0) (by decide) (by omega) h63b rfl rfl (Nat.le_of_ble_eq_true rfl) (Nat.le_of_ble_eq_true rfl) (s_thrown' hn h63b) ?_
  refine j_iload dL_law_1097 rfl ?_
  refine j_icmp_eq_t (tgt := 1104) dL_law_1099 (by decide) rfl ?_
  refine j_iload dL_law_1104 rfl ?_
  refine j_if_ne_t (tgt := 1121) dL_law_1106 (by decide) hk ?_
  refine j_goto (tgt := 2592) dL_law_1121 (by decide) ?_
  refine j_clr 5 ?_
  refine j_clr 6 ?_
  exact K E2 q2
set_option maxRecDepth 100000 in
set_option maxHeartbeats 4000000 in
theorem lc_marks {g : jG} {n : Nat} {ad : Nat → Nat} {E : Nat → va_E} {i6 bc bs : Nat} {Φ : Option Value → jR} {Ψ : String → jR} {fs fm : List Value} (hi : i6 + 6 ≤ g.1.2.2.1) (hL : g.1.2.2.1 ≤ 3072) (hn : 70 ≤ n) (h0 : E 0 = .inr (3, fs)) (h63 : E 63 = .inr (4, fm)) {v : Int32} {PC : (Nat → va_E) → Prop} {PM : (Nat → va_E) → (Nat → va_E) → Prop} (HC : RetP g mX3_marks 10 [.ref (ad 0)] n ad E (some (.int v)) PC) (h69 : ∀ E1, PC E1 → E1 63 = E 63) (HM : ∀ E1, PC E1 → RetP g mX4_marks 6 [.ref (ad 63)] n ad E1 (some (.int v)) (PM E1)) (K : ∀ E1 E2, PC E1 → PM E1 E2 → J g mL_law 12 bc bs 2592 [some (.ref g.1.2.1), some (.ref (ad 0)), some (.ref (ad 63)), some (.ref (ad 69)), some (.int (nI i6)), none, none, none, none] [] n ad E2 Φ Ψ) : J g mL_law 12 bc bs 1124 [some (.ref g.1.2.1), some (.ref (ad 0)), some (.ref (ad 63)), some (.ref (ad 69)), some (.int (nI i6)), none, none, none, none] [] n ad E Φ Ψ := by
  refine j_aload_n dL_law_1124 rfl ?_
  refine j_cVp (As := []) (rest := []) cm_X3_marks ci_X3_marks cs_X3_marks rfl ln_L_192 (ci := 3) rfl dL_law_1125 (d' := 10) (by decide) (by omega) h0 rfl rfl (Nat.le_of_ble_eq_true rfl) (Nat.le_of_ble_eq_true rfl) HC (fun E1 p1 => ?_)
  obtain h63a := h69 E1 p1
  show J g mL_law 12 bc bs 1128 [some (.ref g.1.2.1), some (.ref (ad 0)), some (.ref (ad 63)), some (.ref (ad 69)), some (.int (nI i6)), none, none, none, none] [.int v] n ad E1 Φ Ψ
  refine j_aload_n dL_law_1128 rfl ?_
  refine j_cVp (As := []) (rest := [.int v]) cm_X4_marks ci_X4_marks cs_X4_marks rfl ln_L_195 (ci := 4) rfl dL_law_1129 (d' := 6) (by decide) (by omega) (h63a.trans h63) rfl rfl (Nat.le_of_ble_eq_true rfl) (Nat.le_of_ble_eq_true rfl) (HM E1 p1) (fun E2 q2 => ?_)
  show J g mL_law 12 bc bs 1132 [some (.ref g.1.2.1), some (.ref (ad 0)), some (.ref (ad 63)), some (.ref (ad 69)), some (.int (nI i6)), none, none, none, none] [.int v, .int v] n ad E2 Φ Ψ
  refine j_icmp_eq_t (tgt := 2592) dL_law_1132 (by decide) rfl ?_
  exact K E1 E2 p1 q2
set_option maxRecDepth 100000 in
set_option maxHeartbeats 4000000 in
theorem lc_deeds {g : jG} {n : Nat} {ad : Nat → Nat} {E : Nat → va_E} {i6 bc bs : Nat} {Φ : Option Value → jR} {Ψ : String → jR} {fs fm : List Value} (hi : i6 + 6 ≤ g.1.2.2.1) (hL : g.1.2.2.1 ≤ 3072) (hn : 70 ≤ n) (h0 : E 0 = .inr (3, fs)) (h63 : E 63 = .inr (4, fm)) {v : Int32} {PC : (Nat → va_E) → Prop} {PM : (Nat → va_E) → (Nat → va_E) → Prop} (HC : RetP g mX3_deeds 10 [.ref (ad 0)] n ad E (some (.int v)) PC) (h69 : ∀ E1, PC E1 → E1 63 = E 63) (HM : ∀ E1, PC E1 → RetP g mX4_deeds 6 [.ref (ad 63)] n ad E1 (some (.int v)) (PM E1)) (K : ∀ E1 E2, PC E1 → PM E1 E2 → J g mL_law 12 bc bs 2592 [some (.ref g.1.2.1), some (.ref (ad 0)), some (.ref (ad 63)), some (.ref (ad 69)), some (.int (nI i6)), none, none, none, none] [] n ad E2 Φ Ψ) : J g mL_law 12 bc bs 1137 [some (.ref g.1.2.1), some (.ref (ad 0)), some (.ref (ad 63)), some (.ref (ad 69)), some (.int (nI i6)), none, none, none, none] [] n ad E Φ Ψ := by
  refine j_aload_n dL_law_1137 rfl ?_
  refine j_cVp (As := []) (rest := []) cm_X3_deeds ci_X3_deeds cs_X3_deeds rfl ln_L_196 (ci := 3) rfl dL_law_1138 (d' := 10) (by decide) (by omega) h0 rfl rfl (Nat.le_of_ble_eq_true rfl) (Nat.le_of_ble_eq_true rfl) HC (fun E1 p1 => ?_)
  obtain h63a := h69 E1 p1
  show J g mL_law 12 bc bs 1141 [some (.ref g.1.2.1), some (.ref (ad 0)), some (.ref (ad 63)), some (.ref (ad 69)), some (.int (nI i6)), none, none, none, none] [.int v] n ad E1 Φ Ψ
  refine j_aload_n dL_law_1141 rfl ?_
  refine j_cVp (As := []) (rest := [.int v]) cm_X4_deeds ci_X4_deeds cs_X4_deeds rfl ln_L_199 (ci := 4) rfl dL_law_1142 (d' := 6) (by decide) (by omega) (h63a.trans h63) rfl rfl (Nat.le_of_ble_eq_true rfl) (Nat.le_of_ble_eq_true rfl) (HM E1 p1) (fun E2 q2 => ?_)
  show J g mL_law 12 bc bs 1145 [some (.ref g.1.2.1), some (.ref (ad 0)), some (.ref (ad 63)), some (.ref (ad 69)), some (.int (nI i6)), none, none, none, none] [.int v, .int v] n ad E2 Φ Ψ
  refine j_icmp_eq_t (tgt := 2592) dL_law_1145 (by decide) rfl ?_
  exact K E1 E2 p1 q2
set_option maxRecDepth 100000 in
set_option maxHeartbeats 4000000 in
theorem lc_gone {g : jG} {n : Nat} {ad : Nat → Nat} {E : Nat → va_E} {i6 bc bs : Nat} {Φ : Option Value → jR} {Ψ : String → jR} {fs fm : List Value} (hi : i6 + 6 ≤ g.1.2.2.1) (hL : g.1.2.2.1 ≤ 3072) (hn : 70 ≤ n) (h0 : E 0 = .inr (3, fs)) (h63 : E 63 = .inr (4, fm)) {v : Int64} {PC : (Nat → va_E) → Prop} {PM : (Nat → va_E) → (Nat → va_E) → Prop} (HC : RetP g mX3_gone 10 [.ref (ad 0)] n ad E (some (.long v)) PC) (h69 : ∀ E1, PC E1 → E1 63 = E 63) (HM : ∀ E1, PC E1 → RetP g mX4_gone 6 [.ref (ad 63)] n ad E1 (some (.long v)) (PM E1)) (K : ∀ E1 E2, PC E1 → PM E1 E2 → J g mL_law 12 bc bs 2592 [some (.ref g.1.2.1), some (.ref (ad 0)), some (.ref (ad 63)), some (.ref (ad 69)), some (.int (nI i6)), none, none, none, none] [] n ad E2 Φ Ψ) : J g mL_law 12 bc bs 1150 [some (.ref g.1.2.1), some (.ref (ad 0)), some (.ref (ad 63)), some (.ref (ad 69)), some (.int (nI i6)), none, none, none, none] [] n ad E Φ Ψ := by
  refine j_aload_n dL_law_1150 rfl ?_
  refine j_cVp (As := []) (rest := []) cm_X3_gone ci_X3_gone cs_X3_gone rfl ln_L_200 (ci := 3) rfl dL_law_1151 (d' := 10) (by decide) (by omega) h0 rfl rfl (Nat.le_of_ble_eq_true rfl) (Nat.le_of_ble_eq_true rfl) HC (fun E1 p1 => ?_)
  obtain h63a := h69 E1 p1
  show J g mL_law 12 bc bs 1154 [some (.ref g.1.2.1), some (.ref (ad 0)), some (.ref (ad 63)), some (.ref (ad 69)), some (.int (nI i6)), none, none, none, none] [.long v] n ad E1 Φ Ψ
  refine j_aload_n dL_law_1154 rfl ?_
  refine j_cVp (As := []) (rest := [.long v]) cm_X4_gone ci_X4_gone cs_X4_gone rfl ln_L_204 (ci := 4) rfl dL_law_1155 (d' := 6) (by decide) (by omega) (h63a.trans h63) rfl rfl (Nat.le_of_ble_eq_true rfl) (Nat.le_of_ble_eq_true rfl) (HM E1 p1) (fun E2 q2 => ?_)
  show J g mL_law 12 bc bs 1158 [some (.ref g.1.2.1), some (.ref (ad 0)), some (.ref (ad 63)), some (.ref (ad 69)), some (.int (nI i6)), none, none, none, none] [.long v, .long v] n ad E2 Φ Ψ
  refine j_lcmp dL_law_1158 ?_
  refine j_topi (y := 0) (lg_self _) ?_
  refine j_if_eq_t (tgt := 2592) dL_law_1159 (by decide) (by decide) ?_
  exact K E1 E2 p1 q2
set_option maxRecDepth 100000 in
set_option maxHeartbeats 4000000 in
theorem lc_levelAt_ok {g : jG} {n : Nat} {ad : Nat → Nat} {E : Nat → va_E} {i6 bc bs : Nat} {Φ : Option Value → jR} {Ψ : String → jR} {fs fm : List Value} (hi : i6 + 6 ≤ g.1.2.2.1) (hL : g.1.2.2.1 ≤ 3072) (hn : 70 ≤ n) (h0 : E 0 = .inr (3, fs)) (h63 : E 63 = .inr (4, fm)) {x1 : Int32} (e1 : g.1.2.2.2 (i6 + 1) = x1) {x2 : Int32} (e2 : g.1.2.2.2 (i6 + 2) = x2) {v : Int32} {PC : (Nat → va_E) → Prop} {PM : (Nat → va_E) → (Nat → va_E) → Prop} (HH : HOk g mL_levelAt 11 [.ref (ad 0), .int x1, .int x2, .ref (ad 69)] n ad E v.toInt64 PC) (h69 : ∀ E1, PC E1 → E1 63 = E 63) (HM : ∀ E1 o, PC E1 → RetP g mX4_levelAt 6 [.ref (ad 63), .int x1, .int x2] n ad (va_up E1 69 (aL g 1 (vp_updL o 0 v.toInt64))) (some (.int v)) (PM (va_up E1 69 (aL g 1 (vp_updL o 0 v.toInt64))))) (hM : ∀ E1 E2, PM E1 E2 → (∃ f9, E2 63 = .inr (4, .int 0 :: f9)) ∧ E2 69 = E1 69) (K : ∀ E1 o E2, PC E1 → E1 69 = aL g 1 o → PM (va_up E1 69 (aL g 1 (vp_updL o 0 v.toInt64))) E2 → J g mL_law 12 bc bs 2592 [some (.ref g.1.2.1), some (.ref (ad 0)), some (.ref (ad 63)), some (.ref (ad 69)), some (.int (nI i6)), none, none, none, none] [] n ad E2 Φ Ψ) : J g mL_law 12 bc bs 1164 [some (.ref g.1.2.1), some (.ref (ad 0)), some (.ref (ad 63)), some (.ref (ad 69)), some (.int (nI i6)), none, none, none, none] [] n ad E Φ Ψ := by
  refine j_aload_n dL_law_1164 rfl ?_
  refine j_aload_n dL_law_1165 rfl ?_
  refine j_iload dL_law_1166 rfl ?_
  refine j_iconst (v := nI 1) dL_law_1168 (by decide) ?_
  refine j_iadd dL_law_1169 ?_
  refine j_topi (y := nI (i6 + 1)) (nI_add _ _) ?_
  refine j_sald dL_law_1170 (by omega) (by omega) ?_
  refine j_topi (y := x1) e1 ?_
  refine j_aload_n dL_law_1171 rfl ?_
  refine j_iload dL_law_1172 rfl ?_
  refine j_iconst (v := nI 2) dL_law_1174 (by decide) ?_
  refine j_iadd dL_law_1175 ?_
  refine j_topi (y := nI (i6 + 2)) (nI_add _ _) ?_
  refine j_sald dL_law_1176 (by omega) (by omega) ?_
  refine j_topi (y := x2) e2 ?_
  refine j_aload_n dL_law_1177 rfl ?_
  refine j_cSH (As := [.ref (ad 0), .int x1, .int x2, .ref (ad 69)]) (rest := []) cm_L_levelAt ct_L_levelAt ln_L_205 dL_law_1178 (d' := 11) (by decide) rfl rfl (Nat.le_of_ble_eq_true rfl) (Nat.le_of_ble_eq_true rfl) HH (fun E1 o p1 ho => ?_)
  obtain h63a := h69 E1 p1
  show J g mL_law 12 bc bs 1181 [some (.ref g.1.2.1), some (.ref (ad 0)), some (.ref (ad 63)), some (.ref (ad 69)), some (.int (nI i6)), none, none, none, none] [.int 0] n ad (va_up E1 69 (aL g 1 (vp_updL o 0 v.toInt64))) Φ Ψ
  refine j_istore (L' := [some (.ref g.1.2.1), some (.ref (ad 0)), some (.ref (ad 63)), some (.ref (ad 69)), some (.int (nI i6)), some (.int 0), none, none, none]) dL_law_1181 (by decide) rfl rfl ?_
  refine j_aload_n dL_law_1183 rfl ?_
  refine j_aload_n dL_law_1184 rfl ?_
  refine j_iload dL_law_1185 rfl ?_
  refine j_iconst (v := nI 1) dL_law_1187 (by decide) ?_
  refine j_iadd dL_law_1188 ?_
  refine j_topi (y := nI (i6 + 1)) (nI_add _ _) ?_
  refine j_sald dL_law_1189 (by omega) (by omega) ?_
  refine j_topi (y := x1) e1 ?_
  refine j_aload_n dL_law_1190 rfl ?_
  refine j_iload dL_law_1191 rfl ?_
  refine j_iconst (v := nI 2) dL_law_1193 (by decide) ?_
  refine j_iadd dL_law_1194 ?_
  refine j_topi (y := nI (i6 + 2)) (nI_add _ _) ?_
  refine j_sald dL_law_1195 (by omega) (by omega) ?_
  refine j_topi (y := x2) e2 ?_
  refine j_cVp (As := [.int x1, .int x2]) (rest := []) cm_X4_levelAt ci_X4_levelAt cs_X4_levelAt rfl ln_L_207 (ci := 4) rfl dL_law_1196 (d' := 6) (by decide) (by omega) ((up_ne (by decide)).trans (h63a.trans h63)) rfl rfl (Nat.le_of_ble_eq_true rfl) (Nat.le_of_ble_eq_true rfl) (HM E1 _ p1) (fun E2 q2 => ?_)
  obtain ⟨⟨fm2, h63b⟩, h69b⟩ := hM _ _ q2
  show J g mL_law 12 bc bs 1199 [some (.ref g.1.2.1), some (.ref (ad 0)), some (.ref (ad 63)), some (.ref (ad 69)), some (.int (nI i6)), some (.int 0), none, none, none] [.int v] n ad E2 Φ Ψ
  refine j_istore (L' := [some (.ref g.1.2.1), some (.ref (ad 0)), some (.ref (ad 63)), some (.ref (ad 69)), some (.int (nI i6)), some (.int 0), some (.int v), none, none]) dL_law_1199 (by decide) rfl rfl ?_
  refine j_aload_n dL_law_1201 rfl ?_
  refine j_cV (As := []) (rest := []) cm_X4_thrown ci_X4_thrown cs_X4_thrown rfl ln_L_133 (ci := 4) rfl dL_law_1202 (d' := 0) (by decide) (by omega) h63b rfl rfl (Nat.le_of_ble_eq_true rfl) (Nat.le_of_ble_eq_true rfl) (s_thrown' hn h63b) ?_
  refine j_iload dL_law_1205 rfl ?_
  refine j_icmp_eq_t (tgt := 1212) dL_law_1207 (by decide) (by decide) ?_
  refine j_iload dL_law_1212 rfl ?_
  refine j_if_ne_f (tgt := 1229) dL_law_1214 (by decide) (by decide) ?_
  refine j_aload_n dL_law_1217 rfl ?_
  refine j_iconst (v := nI 0) dL_law_1218 (by decide) ?_
  refine j_lald dL_law_1219 (by omega) (h69b.trans up_eq) (by decide) (by omega) rfl ?_
  refine j_topl (y := v.toInt64) (if_pos rfl) ?_
  refine j_iload dL_law_1220 rfl ?_
  refine j_i2l dL_law_1222 ?_
  refine j_lcmp dL_law_1223 ?_
  refine j_topi (y := 0) (lg_self _) ?_
  refine j_if_eq_t (tgt := 1229) dL_law_1224 (by decide) (by decide) ?_
  refine j_goto (tgt := 2592) dL_law_1229 (by decide) ?_
  refine j_clr 5 ?_
  refine j_clr 6 ?_
  exact K E1 o E2 p1 ho q2
set_option maxRecDepth 100000 in
set_option maxHeartbeats 4000000 in
theorem lc_levelAt_bad {g : jG} {n : Nat} {ad : Nat → Nat} {E : Nat → va_E} {i6 bc bs : Nat} {Φ : Option Value → jR} {Ψ : String → jR} {fs fm : List Value} (hi : i6 + 6 ≤ g.1.2.2.1) (hL : g.1.2.2.1 ≤ 3072) (hn : 70 ≤ n) (h0 : E 0 = .inr (3, fs)) (h63 : E 63 = .inr (4, fm)) {x1 : Int32} (e1 : g.1.2.2.2 (i6 + 1) = x1) {x2 : Int32} (e2 : g.1.2.2.2 (i6 + 2) = x2) {k : Int32} (hk : ¬ k = 0) {b : Int32} {PM : (Nat → va_E) → Prop} (HH : HBad g mL_levelAt 11 [.ref (ad 0), .int x1, .int x2, .ref (ad 69)] n ad E k) (HM : RetP g mX4_levelAt 6 [.ref (ad 63), .int x1, .int x2] n ad E (some (.int b)) PM) (hM : ∀ E2, PM E2 → ∃ f9, E2 63 = .inr (4, .int k :: f9)) (K : ∀ E2, PM E2 → J g mL_law 12 bc bs 2592 [some (.ref g.1.2.1), some (.ref (ad 0)), some (.ref (ad 63)), some (.ref (ad 69)), some (.int (nI i6)), none, none, none, none] [] n ad E2 Φ Ψ) : J g mL_law 12 (1 + bc) (6 + bs) 1164 [some (.ref g.1.2.1), some (.ref (ad 0)), some (.ref (ad 63)), some (.ref (ad 69)), some (.int (nI i6)), none, none, none, none] [] n ad E Φ Ψ := by
  refine j_aload_n dL_law_1164 rfl ?_
  refine j_aload_n dL_law_1165 rfl ?_
  refine j_iload dL_law_1166 rfl ?_
  refine j_iconst (v := nI 1) dL_law_1168 (by decide) ?_
  refine j_iadd dL_law_1169 ?_
  refine j_topi (y := nI (i6 + 1)) (nI_add _ _) ?_
  refine j_sald dL_law_1170 (by omega) (by omega) ?_
  refine j_topi (y := x1) e1 ?_
  refine j_aload_n dL_law_1171 rfl ?_
  refine j_iload dL_law_1172 rfl ?_
  refine j_iconst (v := nI 2) dL_law_1174 (by decide) ?_
  refine j_iadd dL_law_1175 ?_
  refine j_topi (y := nI (i6 + 2)) (nI_add _ _) ?_
  refine j_sald dL_law_1176 (by omega) (by omega) ?_
  refine j_topi (y := x2) e2 ?_
  refine j_aload_n dL_law_1177 rfl ?_
  refine j_cSB (As := [.ref (ad 0), .int x1, .int x2, .ref (ad 69)]) (rest := []) cm_L_levelAt ct_L_levelAt ln_L_205 dL_law_1178 (d' := 11) (by decide) rfl rfl (Nat.le_of_ble_eq_true rfl) (Nat.le_of_ble_eq_true rfl) HH ?_
  show J g mL_law 12 bc bs 1181 [some (.ref g.1.2.1), some (.ref (ad 0)), some (.ref (ad 63)), some (.ref (ad 69)), some (.int (nI i6)), none, none, none, none] [.int k] n ad E Φ Ψ
  refine j_istore (L' := [some (.ref g.1.2.1), some (.ref (ad 0)), some (.ref (ad 63)), some (.ref (ad 69)), some (.int (nI i6)), some (.int k), none, none, none]) dL_law_1181 (by decide) rfl rfl ?_
  refine j_aload_n dL_law_1183 rfl ?_
  refine j_aload_n dL_law_1184 rfl ?_
  refine j_iload dL_law_1185 rfl ?_
  refine j_iconst (v := nI 1) dL_law_1187 (by decide) ?_
  refine j_iadd dL_law_1188 ?_
  refine j_topi (y := nI (i6 + 1)) (nI_add _ _) ?_
  refine j_sald dL_law_1189 (by omega) (by omega) ?_
  refine j_topi (y := x1) e1 ?_
  refine j_aload_n dL_law_1190 rfl ?_
  refine j_iload dL_law_1191 rfl ?_
  refine j_iconst (v := nI 2) dL_law_1193 (by decide) ?_
  refine j_iadd dL_law_1194 ?_
  refine j_topi (y := nI (i6 + 2)) (nI_add _ _) ?_
  refine j_sald dL_law_1195 (by omega) (by omega) ?_
  refine j_topi (y := x2) e2 ?_
  refine j_cVp (As := [.int x1, .int x2]) (rest := []) cm_X4_levelAt ci_X4_levelAt cs_X4_levelAt rfl ln_L_207 (ci := 4) rfl dL_law_1196 (d' := 6) (by decide) (by omega) h63 rfl rfl (Nat.le_of_ble_eq_true rfl) (Nat.le_of_ble_eq_true rfl) HM (fun E2 q2 => ?_)
  obtain ⟨fm2, h63b⟩ := hM _ q2
  show J g mL_law 12 bc bs 1199 [some (.ref g.1.2.1), some (.ref (ad 0)), some (.ref (ad 63)), some (.ref (ad 69)), some (.int (nI i6)), some (.int k), none, none, none] [.int b] n ad E2 Φ Ψ
  refine j_istore (L' := [some (.ref g.1.2.1), some (.ref (ad 0)), some (.ref (ad 63)), some (.ref (ad 69)), some (.int (nI i6)), some (.int k), some (.int b), none, none]) dL_law_1199 (by decide) rfl rfl ?_
  refine j_aload_n dL_law_1201 rfl ?_
  refine j_cV (As := []) (rest := []) cm_X4_thrown ci_X4_thrown cs_X4_thrown rfl ln_L_133 (ci := 4) rfl dL_law_1202 (d' := 0) (by decide) (by omega) h63b rfl rfl (Nat.le_of_ble_eq_true rfl) (Nat.le_of_ble_eq_true rfl) (s_thrown' hn h63b) ?_
  refine j_iload dL_law_1205 rfl ?_
  refine j_icmp_eq_t (tgt := 1212) dL_law_1207 (by decide) rfl ?_
  refine j_iload dL_law_1212 rfl ?_
  refine j_if_ne_t (tgt := 1229) dL_law_1214 (by decide) hk ?_
  refine j_goto (tgt := 2592) dL_law_1229 (by decide) ?_
  refine j_clr 5 ?_
  refine j_clr 6 ?_
  exact K E2 q2
set_option maxRecDepth 100000 in
set_option maxHeartbeats 4000000 in
theorem lc_sumOf_ok {g : jG} {n : Nat} {ad : Nat → Nat} {E : Nat → va_E} {i6 bc bs : Nat} {Φ : Option Value → jR} {Ψ : String → jR} {fs fm : List Value} (hi : i6 + 6 ≤ g.1.2.2.1) (hL : g.1.2.2.1 ≤ 3072) (hn : 70 ≤ n) (h0 : E 0 = .inr (3, fs)) (h63 : E 63 = .inr (4, fm)) {x1 : Int32} (e1 : g.1.2.2.2 (i6 + 1) = x1) {x2 : Int32} (e2 : g.1.2.2.2 (i6 + 2) = x2) {x3 : Int32} (e3 : g.1.2.2.2 (i6 + 3) = x3) {x4 : Int32} (e4 : g.1.2.2.2 (i6 + 4) = x4) {v : Int64} {PC : (Nat → va_E) → Prop} {PM : (Nat → va_E) → (Nat → va_E) → Prop} (HH : HOk g mL_sumOf 11 [.ref (ad 0), .int x1, .int x2, .int x3, .int x4, .ref (ad 69)] n ad E v PC) (h69 : ∀ E1, PC E1 → E1 63 = E 63) (HM : ∀ E1 o, PC E1 → RetP g mX4_sumOf 6 [.ref (ad 63), .int x1, .int x2, .int x3, .int x4] n ad (va_up E1 69 (aL g 1 (vp_updL o 0 v))) (some (.long v)) (PM (va_up E1 69 (aL g 1 (vp_updL o 0 v))))) (hM : ∀ E1 E2, PM E1 E2 → (∃ f9, E2 63 = .inr (4, .int 0 :: f9)) ∧ E2 69 = E1 69) (K : ∀ E1 o E2, PC E1 → E1 69 = aL g 1 o → PM (va_up E1 69 (aL g 1 (vp_updL o 0 v))) E2 → J g mL_law 12 bc bs 2592 [some (.ref g.1.2.1), some (.ref (ad 0)), some (.ref (ad 63)), some (.ref (ad 69)), some (.int (nI i6)), none, none, none, none] [] n ad E2 Φ Ψ) : J g mL_law 12 bc bs 1232 [some (.ref g.1.2.1), some (.ref (ad 0)), some (.ref (ad 63)), some (.ref (ad 69)), some (.int (nI i6)), none, none, none, none] [] n ad E Φ Ψ := by
  refine j_aload_n dL_law_1232 rfl ?_
  refine j_aload_n dL_law_1233 rfl ?_
  refine j_iload dL_law_1234 rfl ?_
  refine j_iconst (v := nI 1) dL_law_1236 (by decide) ?_
  refine j_iadd dL_law_1237 ?_
  refine j_topi (y := nI (i6 + 1)) (nI_add _ _) ?_
  refine j_sald dL_law_1238 (by omega) (by omega) ?_
  refine j_topi (y := x1) e1 ?_
  refine j_aload_n dL_law_1239 rfl ?_
  refine j_iload dL_law_1240 rfl ?_
  refine j_iconst (v := nI 2) dL_law_1242 (by decide) ?_
  refine j_iadd dL_law_1243 ?_
  refine j_topi (y := nI (i6 + 2)) (nI_add _ _) ?_
  refine j_sald dL_law_1244 (by omega) (by omega) ?_
  refine j_topi (y := x2) e2 ?_
  refine j_aload_n dL_law_1245 rfl ?_
  refine j_iload dL_law_1246 rfl ?_
  refine j_iconst (v := nI 3) dL_law_1248 (by decide) ?_
  refine j_iadd dL_law_1249 ?_
  refine j_topi (y := nI (i6 + 3)) (nI_add _ _) ?_
  refine j_sald dL_law_1250 (by omega) (by omega) ?_
  refine j_topi (y := x3) e3 ?_
  refine j_aload_n dL_law_1251 rfl ?_
  refine j_iload dL_law_1252 rfl ?_
  refine j_iconst (v := nI 4) dL_law_1254 (by decide) ?_
  refine j_iadd dL_law_1255 ?_
  refine j_topi (y := nI (i6 + 4)) (nI_add _ _) ?_
  refine j_sald dL_law_1256 (by omega) (by omega) ?_
  refine j_topi (y := x4) e4 ?_
  refine j_aload_n dL_law_1257 rfl ?_
  refine j_cSH (As := [.ref (ad 0), .int x1, .int x2, .int x3, .int x4, .ref (ad 69)]) (rest := []) cm_L_sumOf ct_L_sumOf ln_L_208 dL_law_1258 (d' := 11) (by decide) rfl rfl (Nat.le_of_ble_eq_true rfl) (Nat.le_of_ble_eq_true rfl) HH (fun E1 o p1 ho => ?_)
  obtain h63a := h69 E1 p1
  show J g mL_law 12 bc bs 1261 [some (.ref g.1.2.1), some (.ref (ad 0)), some (.ref (ad 63)), some (.ref (ad 69)), some (.int (nI i6)), none, none, none, none] [.int 0] n ad (va_up E1 69 (aL g 1 (vp_updL o 0 v))) Φ Ψ
  refine j_istore (L' := [some (.ref g.1.2.1), some (.ref (ad 0)), some (.ref (ad 63)), some (.ref (ad 69)), some (.int (nI i6)), some (.int 0), none, none, none]) dL_law_1261 (by decide) rfl rfl ?_
  refine j_aload_n dL_law_1263 rfl ?_
  refine j_aload_n dL_law_1264 rfl ?_
  refine j_iload dL_law_1265 rfl ?_
  refine j_iconst (v := nI 1) dL_law_1267 (by decide) ?_
  refine j_iadd dL_law_1268 ?_
  refine j_topi (y := nI (i6 + 1)) (nI_add _ _) ?_
  refine j_sald dL_law_1269 (by omega) (by omega) ?_
  refine j_topi (y := x1) e1 ?_
  refine j_aload_n dL_law_1270 rfl ?_
  refine j_iload dL_law_1271 rfl ?_
  refine j_iconst (v := nI 2) dL_law_1273 (by decide) ?_
  refine j_iadd dL_law_1274 ?_
  refine j_topi (y := nI (i6 + 2)) (nI_add _ _) ?_
  refine j_sald dL_law_1275 (by omega) (by omega) ?_
  refine j_topi (y := x2) e2 ?_
  refine j_aload_n dL_law_1276 rfl ?_
  refine j_iload dL_law_1277 rfl ?_
  refine j_iconst (v := nI 3) dL_law_1279 (by decide) ?_
  refine j_iadd dL_law_1280 ?_
  refine j_topi (y := nI (i6 + 3)) (nI_add _ _) ?_
  refine j_sald dL_law_1281 (by omega) (by omega) ?_
  refine j_topi (y := x3) e3 ?_
  refine j_aload_n dL_law_1282 rfl ?_
  refine j_iload dL_law_1283 rfl ?_
  refine j_iconst (v := nI 4) dL_law_1285 (by decide) ?_
  refine j_iadd dL_law_1286 ?_
  refine j_topi (y := nI (i6 + 4)) (nI_add _ _) ?_
  refine j_sald dL_law_1287 (by omega) (by omega) ?_
  refine j_topi (y := x4) e4 ?_
  refine j_cVp (As := [.int x1, .int x2, .int x3, .int x4]) (rest := []) cm_X4_sumOf ci_X4_sumOf cs_X4_sumOf rfl ln_L_211 (ci := 4) rfl dL_law_1288 (d' := 6) (by decide) (by omega) ((up_ne (by decide)).trans (h63a.trans h63)) rfl rfl (Nat.le_of_ble_eq_true rfl) (Nat.le_of_ble_eq_true rfl) (HM E1 _ p1) (fun E2 q2 => ?_)
  obtain ⟨⟨fm2, h63b⟩, h69b⟩ := hM _ _ q2
  show J g mL_law 12 bc bs 1291 [some (.ref g.1.2.1), some (.ref (ad 0)), some (.ref (ad 63)), some (.ref (ad 69)), some (.int (nI i6)), some (.int 0), none, none, none] [.long v] n ad E2 Φ Ψ
  refine j_lstore (L' := [some (.ref g.1.2.1), some (.ref (ad 0)), some (.ref (ad 63)), some (.ref (ad 69)), some (.int (nI i6)), some (.int 0), some (.long v), none, none]) dL_law_1291 (by decide) rfl rfl ?_
  refine j_aload_n dL_law_1293 rfl ?_
  refine j_cV (As := []) (rest := []) cm_X4_thrown ci_X4_thrown cs_X4_thrown rfl ln_L_133 (ci := 4) rfl dL_law_1294 (d' := 0) (by decide) (by omega) h63b rfl rfl (Nat.le_of_ble_eq_true rfl) (Nat.le_of_ble_eq_true rfl) (s_thrown' hn h63b) ?_
  refine j_iload dL_law_1297 rfl ?_
  refine j_icmp_eq_t (tgt := 1304) dL_law_1299 (by decide) (by decide) ?_
  refine j_iload dL_law_1304 rfl ?_
  refine j_if_ne_f (tgt := 1320) dL_law_1306 (by decide) (by decide) ?_
  refine j_aload_n dL_law_1309 rfl ?_
  refine j_iconst (v := nI 0) dL_law_1310 (by decide) ?_
  refine j_lald dL_law_1311 (by omega) (h69b.trans up_eq) (by decide) (by omega) rfl ?_
  refine j_topl (y := v) (if_pos rfl) ?_
  refine j_lload dL_law_1312 rfl ?_
  refine j_lcmp dL_law_1314 ?_
  refine j_topi (y := 0) (lg_self _) ?_
  refine j_if_eq_t (tgt := 1320) dL_law_1315 (by decide) (by decide) ?_
  refine j_goto (tgt := 2592) dL_law_1320 (by decide) ?_
  refine j_clr 5 ?_
  refine j_clr 6 ?_
  exact K E1 o E2 p1 ho q2
set_option maxRecDepth 100000 in
set_option maxHeartbeats 4000000 in
theorem lc_sumOf_bad {g : jG} {n : Nat} {ad : Nat → Nat} {E : Nat → va_E} {i6 bc bs : Nat} {Φ : Option Value → jR} {Ψ : String → jR} {fs fm : List Value} (hi : i6 + 6 ≤ g.1.2.2.1) (hL : g.1.2.2.1 ≤ 3072) (hn : 70 ≤ n) (h0 : E 0 = .inr (3, fs)) (h63 : E 63 = .inr (4, fm)) {x1 : Int32} (e1 : g.1.2.2.2 (i6 + 1) = x1) {x2 : Int32} (e2 : g.1.2.2.2 (i6 + 2) = x2) {x3 : Int32} (e3 : g.1.2.2.2 (i6 + 3) = x3) {x4 : Int32} (e4 : g.1.2.2.2 (i6 + 4) = x4) {k : Int32} (hk : ¬ k = 0) {b : Int64} {PM : (Nat → va_E) → Prop} (HH : HBad g mL_sumOf 11 [.ref (ad 0), .int x1, .int x2, .int x3, .int x4, .ref (ad 69)] n ad E k) (HM : RetP g mX4_sumOf 6 [.ref (ad 63), .int x1, .int x2, .int x3, .int x4] n ad E (some (.long b)) PM) (hM : ∀ E2, PM E2 → ∃ f9, E2 63 = .inr (4, .int k :: f9)) (K : ∀ E2, PM E2 → J g mL_law 12 bc bs 2592 [some (.ref g.1.2.1), some (.ref (ad 0)), some (.ref (ad 63)), some (.ref (ad 69)), some (.int (nI i6)), none, none, none, none] [] n ad E2 Φ Ψ) : J g mL_law 12 (1 + bc) (6 + bs) 1232 [some (.ref g.1.2.1), some (.ref (ad 0)), some (.ref (ad 63)), some (.ref (ad 69)), some (.int (nI i6)), none, none, none, none] [] n ad E Φ Ψ := by
  refine j_aload_n dL_law_1232 rfl ?_
  refine j_aload_n dL_law_1233 rfl ?_
  refine j_iload dL_law_1234 rfl ?_
  refine j_iconst (v := nI 1) dL_law_1236 (by decide) ?_
  refine j_iadd dL_law_1237 ?_
  refine j_topi (y := nI (i6 + 1)) (nI_add _ _) ?_
  refine j_sald dL_law_1238 (by omega) (by omega) ?_
  refine j_topi (y := x1) e1 ?_
  refine j_aload_n dL_law_1239 rfl ?_
  refine j_iload dL_law_1240 rfl ?_
  refine j_iconst (v := nI 2) dL_law_1242 (by decide) ?_
  refine j_iadd dL_law_1243 ?_
  refine j_topi (y := nI (i6 + 2)) (nI_add _ _) ?_
  refine j_sald dL_law_1244 (by omega) (by omega) ?_
  refine j_topi (y := x2) e2 ?_
  refine j_aload_n dL_law_1245 rfl ?_
  refine j_iload dL_law_1246 rfl ?_
  refine j_iconst (v := nI 3) dL_law_1248 (by decide) ?_
  refine j_iadd dL_law_1249 ?_
  refine j_topi (y := nI (i6 + 3)) (nI_add _ _) ?_
  refine j_sald dL_law_1250 (by omega) (by omega) ?_
  refine j_topi (y := x3) e3 ?_
  refine j_aload_n dL_law_1251 rfl ?_
  refine j_iload dL_law_1252 rfl ?_
  refine j_iconst (v := nI 4) dL_law_1254 (by decide) ?_
  refine j_iadd dL_law_1255 ?_
  refine j_topi (y := nI (i6 + 4)) (nI_add _ _) ?_
  refine j_sald dL_law_1256 (by omega) (by omega) ?_
  refine j_topi (y := x4) e4 ?_
  refine j_aload_n dL_law_1257 rfl ?_
  refine j_cSB (As := [.ref (ad 0), .int x1, .int x2, .int x3, .int x4, .ref (ad 69)]) (rest := []) cm_L_sumOf ct_L_sumOf ln_L_208 dL_law_1258 (d' := 11) (by decide) rfl rfl (Nat.le_of_ble_eq_true rfl) (Nat.le_of_ble_eq_true rfl) HH ?_
  show J g mL_law 12 bc bs 1261 [some (.ref g.1.2.1), some (.ref (ad 0)), some (.ref (ad 63)), some (.ref (ad 69)), some (.int (nI i6)), none, none, none, none] [.int k] n ad E Φ Ψ
  refine j_istore (L' := [some (.ref g.1.2.1), some (.ref (ad 0)), some (.ref (ad 63)), some (.ref (ad 69)), some (.int (nI i6)), some (.int k), none, none, none]) dL_law_1261 (by decide) rfl rfl ?_
  refine j_aload_n dL_law_1263 rfl ?_
  refine j_aload_n dL_law_1264 rfl ?_
  refine j_iload dL_law_1265 rfl ?_
  refine j_iconst (v := nI 1) dL_law_1267 (by decide) ?_
  refine j_iadd dL_law_1268 ?_
  refine j_topi (y := nI (i6 + 1)) (nI_add _ _) ?_
  refine j_sald dL_law_1269 (by omega) (by omega) ?_
  refine j_topi (y := x1) e1 ?_
  refine j_aload_n dL_law_1270 rfl ?_
  refine j_iload dL_law_1271 rfl ?_
  refine j_iconst (v := nI 2) dL_law_1273 (by decide) ?_
  refine j_iadd dL_law_1274 ?_
  refine j_topi (y := nI (i6 + 2)) (nI_add _ _) ?_
  refine j_sald dL_law_1275 (by omega) (by omega) ?_
  refine j_topi (y := x2) e2 ?_
  refine j_aload_n dL_law_1276 rfl ?_
  refine j_iload dL_law_1277 rfl ?_
  refine j_iconst (v := nI 3) dL_law_1279 (by decide) ?_
  refine j_iadd dL_law_1280 ?_
  refine j_topi (y := nI (i6 + 3)) (nI_add _ _) ?_
  refine j_sald dL_law_1281 (by omega) (by omega) ?_
  refine j_topi (y := x3) e3 ?_
  refine j_aload_n dL_law_1282 rfl ?_
  refine j_iload dL_law_1283 rfl ?_
  refine j_iconst (v := nI 4) dL_law_1285 (by decide) ?_
  refine j_iadd dL_law_1286 ?_
  refine j_topi (y := nI (i6 + 4)) (nI_add _ _) ?_
  refine j_sald dL_law_1287 (by omega) (by omega) ?_
  refine j_topi (y := x4) e4 ?_
  refine j_cVp (As := [.int x1, .int x2, .int x3, .int x4]) (rest := []) cm_X4_sumOf ci_X4_sumOf cs_X4_sumOf rfl ln_L_211 (ci := 4) rfl dL_law_1288 (d' := 6) (by decide) (by omega) h63 rfl rfl (Nat.le_of_ble_eq_true rfl) (Nat.le_of_ble_eq_true rfl) HM (fun E2 q2 => ?_)
  obtain ⟨fm2, h63b⟩ := hM _ q2
  show J g mL_law 12 bc bs 1291 [some (.ref g.1.2.1), some (.ref (ad 0)), some (.ref (ad 63)), some (.ref (ad 69)), some (.int (nI i6)), some (.int k), none, none, none] [.long b] n ad E2 Φ Ψ
  refine j_lstore (L' := [some (.ref g.1.2.1), some (.ref (ad 0)), some (.ref (ad 63)), some (.ref (ad 69)), some (.int (nI i6)), some (.int k), some (.long b), none, none]) dL_law_1291 (by decide) rfl rfl ?_
  refine j_aload_n dL_law_1293 rfl ?_
  refine j_cV (As := []) (rest := []) cm_X4_thrown ci_X4_thrown cs_X4_thrown rfl ln_L_133 (ci := 4) rfl dL_law_1294 (d' := 0) (by decide) (by omega) h63b rfl rfl (Nat.le_of_ble_eq_true rfl) (Nat.le_of_ble_eq_true rfl) (s_thrown' hn h63b) ?_
  refine j_iload dL_law_1297 rfl ?_
  refine j_icmp_eq_t (tgt := 1304) dL_law_1299 (by decide) rfl ?_
  refine j_iload dL_law_1304 rfl ?_
  refine j_if_ne_t (tgt := 1320) dL_law_1306 (by decide) hk ?_
  refine j_goto (tgt := 2592) dL_law_1320 (by decide) ?_
  refine j_clr 5 ?_
  refine j_clr 6 ?_
  exact K E2 q2
set_option maxRecDepth 100000 in
set_option maxHeartbeats 4000000 in
theorem lc_sumTo_ok {g : jG} {n : Nat} {ad : Nat → Nat} {E : Nat → va_E} {i6 bc bs : Nat} {Φ : Option Value → jR} {Ψ : String → jR} {fs fm : List Value} (hi : i6 + 6 ≤ g.1.2.2.1) (hL : g.1.2.2.1 ≤ 3072) (hn : 70 ≤ n) (h0 : E 0 = .inr (3, fs)) (h63 : E 63 = .inr (4, fm)) {x1 : Int32} (e1 : g.1.2.2.2 (i6 + 1) = x1) {x2 : Int32} (e2 : g.1.2.2.2 (i6 + 2) = x2) {v : Int64} {PC : (Nat → va_E) → Prop} {PM : (Nat → va_E) → (Nat → va_E) → Prop} (HH : HOk g mL_sumTo 11 [.ref (ad 0), .int x1, .int x2, .ref (ad 69)] n ad E v PC) (h69 : ∀ E1, PC E1 → E1 63 = E 63) (HM : ∀ E1 o, PC E1 → RetP g mX4_sumTo 6 [.ref (ad 63), .int x1, .int x2] n ad (va_up E1 69 (aL g 1 (vp_updL o 0 v))) (some (.long v)) (PM (va_up E1 69 (aL g 1 (vp_updL o 0 v))))) (hM : ∀ E1 E2, PM E1 E2 → (∃ f9, E2 63 = .inr (4, .int 0 :: f9)) ∧ E2 69 = E1 69) (K : ∀ E1 o E2, PC E1 → E1 69 = aL g 1 o → PM (va_up E1 69 (aL g 1 (vp_updL o 0 v))) E2 → J g mL_law 12 bc bs 2592 [some (.ref g.1.2.1), some (.ref (ad 0)), some (.ref (ad 63)), some (.ref (ad 69)), some (.int (nI i6)), none, none, none, none] [] n ad E2 Φ Ψ) : J g mL_law 12 bc bs 1323 [some (.ref g.1.2.1), some (.ref (ad 0)), some (.ref (ad 63)), some (.ref (ad 69)), some (.int (nI i6)), none, none, none, none] [] n ad E Φ Ψ := by
  refine j_aload_n dL_law_1323 rfl ?_
  refine j_aload_n dL_law_1324 rfl ?_
  refine j_iload dL_law_1325 rfl ?_
  refine j_iconst (v := nI 1) dL_law_1327 (by decide) ?_
  refine j_iadd dL_law_1328 ?_
  refine j_topi (y := nI (i6 + 1)) (nI_add _ _) ?_
  refine j_sald dL_law_1329 (by omega) (by omega) ?_
  refine j_topi (y := x1) e1 ?_
  refine j_aload_n dL_law_1330 rfl ?_
  refine j_iload dL_law_1331 rfl ?_
  refine j_iconst (v := nI 2) dL_law_1333 (by decide) ?_
  refine j_iadd dL_law_1334 ?_
  refine j_topi (y := nI (i6 + 2)) (nI_add _ _) ?_
  refine j_sald dL_law_1335 (by omega) (by omega) ?_
  refine j_topi (y := x2) e2 ?_
  refine j_aload_n dL_law_1336 rfl ?_
  refine j_cSH (As := [.ref (ad 0), .int x1, .int x2, .ref (ad 69)]) (rest := []) cm_L_sumTo ct_L_sumTo ln_L_212 dL_law_1337 (d' := 11) (by decide) rfl rfl (Nat.le_of_ble_eq_true rfl) (Nat.le_of_ble_eq_true rfl) HH (fun E1 o p1 ho => ?_)
  obtain h63a := h69 E1 p1
  show J g mL_law 12 bc bs 1340 [some (.ref g.1.2.1), some (.ref (ad 0)), some (.ref (ad 63)), some (.ref (ad 69)), some (.int (nI i6)), none, none, none, none] [.int 0] n ad (va_up E1 69 (aL g 1 (vp_updL o 0 v))) Φ Ψ
  refine j_istore (L' := [some (.ref g.1.2.1), some (.ref (ad 0)), some (.ref (ad 63)), some (.ref (ad 69)), some (.int (nI i6)), some (.int 0), none, none, none]) dL_law_1340 (by decide) rfl rfl ?_
  refine j_aload_n dL_law_1342 rfl ?_
  refine j_aload_n dL_law_1343 rfl ?_
  refine j_iload dL_law_1344 rfl ?_
  refine j_iconst (v := nI 1) dL_law_1346 (by decide) ?_
  refine j_iadd dL_law_1347 ?_
  refine j_topi (y := nI (i6 + 1)) (nI_add _ _) ?_
  refine j_sald dL_law_1348 (by omega) (by omega) ?_
  refine j_topi (y := x1) e1 ?_
  refine j_aload_n dL_law_1349 rfl ?_
  refine j_iload dL_law_1350 rfl ?_
  refine j_iconst (v := nI 2) dL_law_1352 (by decide) ?_
  refine j_iadd dL_law_1353 ?_
  refine j_topi (y := nI (i6 + 2)) (nI_add _ _) ?_
  refine j_sald dL_law_1354 (by omega) (by omega) ?_
  refine j_topi (y := x2) e2 ?_
  refine j_cVp (As := [.int x1, .int x2]) (rest := []) cm_X4_sumTo ci_X4_sumTo cs_X4_sumTo rfl ln_L_214 (ci := 4) rfl dL_law_1355 (d' := 6) (by decide) (by omega) ((up_ne (by decide)).trans (h63a.trans h63)) rfl rfl (Nat.le_of_ble_eq_true rfl) (Nat.le_of_ble_eq_true rfl) (HM E1 _ p1) (fun E2 q2 => ?_)
  obtain ⟨⟨fm2, h63b⟩, h69b⟩ := hM _ _ q2
  show J g mL_law 12 bc bs 1358 [some (.ref g.1.2.1), some (.ref (ad 0)), some (.ref (ad 63)), some (.ref (ad 69)), some (.int (nI i6)), some (.int 0), none, none, none] [.long v] n ad E2 Φ Ψ
  refine j_lstore (L' := [some (.ref g.1.2.1), some (.ref (ad 0)), some (.ref (ad 63)), some (.ref (ad 69)), some (.int (nI i6)), some (.int 0), some (.long v), none, none]) dL_law_1358 (by decide) rfl rfl ?_
  refine j_aload_n dL_law_1360 rfl ?_
  refine j_cV (As := []) (rest := []) cm_X4_thrown ci_X4_thrown cs_X4_thrown rfl ln_L_133 (ci := 4) rfl dL_law_1361 (d' := 0) (by decide) (by omega) h63b rfl rfl (Nat.le_of_ble_eq_true rfl) (Nat.le_of_ble_eq_true rfl) (s_thrown' hn h63b) ?_
  refine j_iload dL_law_1364 rfl ?_
  refine j_icmp_eq_t (tgt := 1371) dL_law_1366 (by decide) (by decide) ?_
  refine j_iload dL_law_1371 rfl ?_
  refine j_if_ne_f (tgt := 1387) dL_law_1373 (by decide) (by decide) ?_
  refine j_aload_n dL_law_1376 rfl ?_
  refine j_iconst (v := nI 0) dL_law_1377 (by decide) ?_
  refine j_lald dL_law_1378 (by omega) (h69b.trans up_eq) (by decide) (by omega) rfl ?_
  refine j_topl (y := v) (if_pos rfl) ?_
  refine j_lload dL_law_1379 rfl ?_
  refine j_lcmp dL_law_1381 ?_
  refine j_topi (y := 0) (lg_self _) ?_
  refine j_if_eq_t (tgt := 1387) dL_law_1382 (by decide) (by decide) ?_
  refine j_goto (tgt := 2592) dL_law_1387 (by decide) ?_
  refine j_clr 5 ?_
  refine j_clr 6 ?_
  exact K E1 o E2 p1 ho q2
set_option maxRecDepth 100000 in
set_option maxHeartbeats 4000000 in
theorem lc_sumTo_bad {g : jG} {n : Nat} {ad : Nat → Nat} {E : Nat → va_E} {i6 bc bs : Nat} {Φ : Option Value → jR} {Ψ : String → jR} {fs fm : List Value} (hi : i6 + 6 ≤ g.1.2.2.1) (hL : g.1.2.2.1 ≤ 3072) (hn : 70 ≤ n) (h0 : E 0 = .inr (3, fs)) (h63 : E 63 = .inr (4, fm)) {x1 : Int32} (e1 : g.1.2.2.2 (i6 + 1) = x1) {x2 : Int32} (e2 : g.1.2.2.2 (i6 + 2) = x2) {k : Int32} (hk : ¬ k = 0) {b : Int64} {PM : (Nat → va_E) → Prop} (HH : HBad g mL_sumTo 11 [.ref (ad 0), .int x1, .int x2, .ref (ad 69)] n ad E k) (HM : RetP g mX4_sumTo 6 [.ref (ad 63), .int x1, .int x2] n ad E (some (.long b)) PM) (hM : ∀ E2, PM E2 → ∃ f9, E2 63 = .inr (4, .int k :: f9)) (K : ∀ E2, PM E2 → J g mL_law 12 bc bs 2592 [some (.ref g.1.2.1), some (.ref (ad 0)), some (.ref (ad 63)), some (.ref (ad 69)), some (.int (nI i6)), none, none, none, none] [] n ad E2 Φ Ψ) : J g mL_law 12 (1 + bc) (6 + bs) 1323 [some (.ref g.1.2.1), some (.ref (ad 0)), some (.ref (ad 63)), some (.ref (ad 69)), some (.int (nI i6)), none, none, none, none] [] n ad E Φ Ψ := by
  refine j_aload_n dL_law_1323 rfl ?_
  refine j_aload_n dL_law_1324 rfl ?_
  refine j_iload dL_law_1325 rfl ?_
  refine j_iconst (v := nI 1) dL_law_1327 (by decide) ?_
  refine j_iadd dL_law_1328 ?_
  refine j_topi (y := nI (i6 + 1)) (nI_add _ _) ?_
  refine j_sald dL_law_1329 (by omega) (by omega) ?_
  refine j_topi (y := x1) e1 ?_
  refine j_aload_n dL_law_1330 rfl ?_
  refine j_iload dL_law_1331 rfl ?_
  refine j_iconst (v := nI 2) dL_law_1333 (by decide) ?_
  refine j_iadd dL_law_1334 ?_
  refine j_topi (y := nI (i6 + 2)) (nI_add _ _) ?_
  refine j_sald dL_law_1335 (by omega) (by omega) ?_
  refine j_topi (y := x2) e2 ?_
  refine j_aload_n dL_law_1336 rfl ?_
  refine j_cSB (As := [.ref (ad 0), .int x1, .int x2, .ref (ad 69)]) (rest := []) cm_L_sumTo ct_L_sumTo ln_L_212 dL_law_1337 (d' := 11) (by decide) rfl rfl (Nat.le_of_ble_eq_true rfl) (Nat.le_of_ble_eq_true rfl) HH ?_
  show J g mL_law 12 bc bs 1340 [some (.ref g.1.2.1), some (.ref (ad 0)), some (.ref (ad 63)), some (.ref (ad 69)), some (.int (nI i6)), none, none, none, none] [.int k] n ad E Φ Ψ
  refine j_istore (L' := [some (.ref g.1.2.1), some (.ref (ad 0)), some (.ref (ad 63)), some (.ref (ad 69)), some (.int (nI i6)), some (.int k), none, none, none]) dL_law_1340 (by decide) rfl rfl ?_
  refine j_aload_n dL_law_1342 rfl ?_
  refine j_aload_n dL_law_1343 rfl ?_
  refine j_iload dL_law_1344 rfl ?_
  refine j_iconst (v := nI 1) dL_law_1346 (by decide) ?_
  refine j_iadd dL_law_1347 ?_
  refine j_topi (y := nI (i6 + 1)) (nI_add _ _) ?_
  refine j_sald dL_law_1348 (by omega) (by omega) ?_
  refine j_topi (y := x1) e1 ?_
  refine j_aload_n dL_law_1349 rfl ?_
  refine j_iload dL_law_1350 rfl ?_
  refine j_iconst (v := nI 2) dL_law_1352 (by decide) ?_
  refine j_iadd dL_law_1353 ?_
  refine j_topi (y := nI (i6 + 2)) (nI_add _ _) ?_
  refine j_sald dL_law_1354 (by omega) (by omega) ?_
  refine j_topi (y := x2) e2 ?_
  refine j_cVp (As := [.int x1, .int x2]) (rest := []) cm_X4_sumTo ci_X4_sumTo cs_X4_sumTo rfl ln_L_214 (ci := 4) rfl dL_law_1355 (d' := 6) (by decide) (by omega) h63 rfl rfl (Nat.le_of_ble_eq_true rfl) (Nat.le_of_ble_eq_true rfl) HM (fun E2 q2 => ?_)
  obtain ⟨fm2, h63b⟩ := hM _ q2
  show J g mL_law 12 bc bs 1358 [some (.ref g.1.2.1), some (.ref (ad 0)), some (.ref (ad 63)), some (.ref (ad 69)), some (.int (nI i6)), some (.int k), none, none, none] [.long b] n ad E2 Φ Ψ
  refine j_lstore (L' := [some (.ref g.1.2.1), some (.ref (ad 0)), some (.ref (ad 63)), some (.ref (ad 69)), some (.int (nI i6)), some (.int k), some (.long b), none, none]) dL_law_1358 (by decide) rfl rfl ?_
  refine j_aload_n dL_law_1360 rfl ?_
  refine j_cV (As := []) (rest := []) cm_X4_thrown ci_X4_thrown cs_X4_thrown rfl ln_L_133 (ci := 4) rfl dL_law_1361 (d' := 0) (by decide) (by omega) h63b rfl rfl (Nat.le_of_ble_eq_true rfl) (Nat.le_of_ble_eq_true rfl) (s_thrown' hn h63b) ?_
  refine j_iload dL_law_1364 rfl ?_
  refine j_icmp_eq_t (tgt := 1371) dL_law_1366 (by decide) rfl ?_
  refine j_iload dL_law_1371 rfl ?_
  refine j_if_ne_t (tgt := 1387) dL_law_1373 (by decide) hk ?_
  refine j_goto (tgt := 2592) dL_law_1387 (by decide) ?_
  refine j_clr 5 ?_
  refine j_clr 6 ?_
  exact K E2 q2
set_option maxRecDepth 100000 in
set_option maxHeartbeats 4000000 in
theorem lc_flightSum_ok {g : jG} {n : Nat} {ad : Nat → Nat} {E : Nat → va_E} {i6 bc bs : Nat} {Φ : Option Value → jR} {Ψ : String → jR} {fs fm : List Value} (hi : i6 + 6 ≤ g.1.2.2.1) (hL : g.1.2.2.1 ≤ 3072) (hn : 70 ≤ n) (h0 : E 0 = .inr (3, fs)) (h63 : E 63 = .inr (4, fm)) {x1 : Int32} (e1 : g.1.2.2.2 (i6 + 1) = x1) {v : Int64} {PC : (Nat → va_E) → Prop} {PM : (Nat → va_E) → (Nat → va_E) → Prop} (HH : HOk g mL_flightSum 11 [.ref (ad 0), .int x1, .ref (ad 69)] n ad E v PC) (h69 : ∀ E1, PC E1 → E1 63 = E 63) (HM : ∀ E1 o, PC E1 → RetP g mX4_flightSum 6 [.ref (ad 63), .int x1] n ad (va_up E1 69 (aL g 1 (vp_updL o 0 v))) (some (.long v)) (PM (va_up E1 69 (aL g 1 (vp_updL o 0 v))))) (hM : ∀ E1 E2, PM E1 E2 → (∃ f9, E2 63 = .inr (4, .int 0 :: f9)) ∧ E2 69 = E1 69) (K : ∀ E1 o E2, PC E1 → E1 69 = aL g 1 o → PM (va_up E1 69 (aL g 1 (vp_updL o 0 v))) E2 → J g mL_law 12 bc bs 2592 [some (.ref g.1.2.1), some (.ref (ad 0)), some (.ref (ad 63)), some (.ref (ad 69)), some (.int (nI i6)), none, none, none, none] [] n ad E2 Φ Ψ) : J g mL_law 12 bc bs 1390 [some (.ref g.1.2.1), some (.ref (ad 0)), some (.ref (ad 63)), some (.ref (ad 69)), some (.int (nI i6)), none, none, none, none] [] n ad E Φ Ψ := by
  refine j_aload_n dL_law_1390 rfl ?_
  refine j_aload_n dL_law_1391 rfl ?_
  refine j_iload dL_law_1392 rfl ?_
  refine j_iconst (v := nI 1) dL_law_1394 (by decide) ?_
  refine j_iadd dL_law_1395 ?_
  refine j_topi (y := nI (i6 + 1)) (nI_add _ _) ?_
  refine j_sald dL_law_1396 (by omega) (by omega) ?_
  refine j_topi (y := x1) e1 ?_
  refine j_aload_n dL_law_1397 rfl ?_
  refine j_cSH (As := [.ref (ad 0), .int x1, .ref (ad 69)]) (rest := []) cm_L_flightSum ct_L_flightSum ln_L_215 dL_law_1398 (d' := 11) (by decide) rfl rfl (Nat.le_of_ble_eq_true rfl) (Nat.le_of_ble_eq_true rfl) HH (fun E1 o p1 ho => ?_)
  obtain h63a := h69 E1 p1
  show J g mL_law 12 bc bs 1401 [some (.ref g.1.2.1), some (.ref (ad 0)), some (.ref (ad 63)), some (.ref (ad 69)), some (.int (nI i6)), none, none, none, none] [.int 0] n ad (va_up E1 69 (aL g 1 (vp_updL o 0 v))) Φ Ψ
  refine j_istore (L' := [some (.ref g.1.2.1), some (.ref (ad 0)), some (.ref (ad 63)), some (.ref (ad 69)), some (.int (nI i6)), some (.int 0), none, none, none]) dL_law_1401 (by decide) rfl rfl ?_
  refine j_aload_n dL_law_1403 rfl ?_
  refine j_aload_n dL_law_1404 rfl ?_
  refine j_iload dL_law_1405 rfl ?_
  refine j_iconst (v := nI 1) dL_law_1407 (by decide) ?_
  refine j_iadd dL_law_1408 ?_
  refine j_topi (y := nI (i6 + 1)) (nI_add _ _) ?_
  refine j_sald dL_law_1409 (by omega) (by omega) ?_
  refine j_topi (y := x1) e1 ?_
  refine j_cVp (As := [.int x1]) (rest := []) cm_X4_flightSum ci_X4_flightSum cs_X4_flightSum rfl ln_L_217 (ci := 4) rfl dL_law_1410 (d' := 6) (by decide) (by omega) ((up_ne (by decide)).trans (h63a.trans h63)) rfl rfl (Nat.le_of_ble_eq_true rfl) (Nat.le_of_ble_eq_true rfl) (HM E1 _ p1) (fun E2 q2 => ?_)
  obtain ⟨⟨fm2, h63b⟩, h69b⟩ := hM _ _ q2
  show J g mL_law 12 bc bs 1413 [some (.ref g.1.2.1), some (.ref (ad 0)), some (.ref (ad 63)), some (.ref (ad 69)), some (.int (nI i6)), some (.int 0), none, none, none] [.long v] n ad E2 Φ Ψ
  refine j_lstore (L' := [some (.ref g.1.2.1), some (.ref (ad 0)), some (.ref (ad 63)), some (.ref (ad 69)), some (.int (nI i6)), some (.int 0), some (.long v), none, none]) dL_law_1413 (by decide) rfl rfl ?_
  refine j_aload_n dL_law_1415 rfl ?_
  refine j_cV (As := []) (rest := []) cm_X4_thrown ci_X4_thrown cs_X4_thrown rfl ln_L_133 (ci := 4) rfl dL_law_1416 (d' := 0) (by decide) (by omega) h63b rfl rfl (Nat.le_of_ble_eq_true rfl) (Nat.le_of_ble_eq_true rfl) (s_thrown' hn h63b) ?_
  refine j_iload dL_law_1419 rfl ?_
  refine j_icmp_eq_t (tgt := 1426) dL_law_1421 (by decide) (by decide) ?_
  refine j_iload dL_law_1426 rfl ?_
  refine j_if_ne_f (tgt := 1442) dL_law_1428 (by decide) (by decide) ?_
  refine j_aload_n dL_law_1431 rfl ?_
  refine j_iconst (v := nI 0) dL_law_1432 (by decide) ?_
  refine j_lald dL_law_1433 (by omega) (h69b.trans up_eq) (by decide) (by omega) rfl ?_
  refine j_topl (y := v) (if_pos rfl) ?_
  refine j_lload dL_law_1434 rfl ?_
  refine j_lcmp dL_law_1436 ?_
  refine j_topi (y := 0) (lg_self _) ?_
  refine j_if_eq_t (tgt := 1442) dL_law_1437 (by decide) (by decide) ?_
  refine j_goto (tgt := 2592) dL_law_1442 (by decide) ?_
  refine j_clr 5 ?_
  refine j_clr 6 ?_
  exact K E1 o E2 p1 ho q2
set_option maxRecDepth 100000 in
set_option maxHeartbeats 4000000 in
theorem lc_flightSum_bad {g : jG} {n : Nat} {ad : Nat → Nat} {E : Nat → va_E} {i6 bc bs : Nat} {Φ : Option Value → jR} {Ψ : String → jR} {fs fm : List Value} (hi : i6 + 6 ≤ g.1.2.2.1) (hL : g.1.2.2.1 ≤ 3072) (hn : 70 ≤ n) (h0 : E 0 = .inr (3, fs)) (h63 : E 63 = .inr (4, fm)) {x1 : Int32} (e1 : g.1.2.2.2 (i6 + 1) = x1) {k : Int32} (hk : ¬ k = 0) {b : Int64} {PM : (Nat → va_E) → Prop} (HH : HBad g mL_flightSum 11 [.ref (ad 0), .int x1, .ref (ad 69)] n ad E k) (HM : RetP g mX4_flightSum 6 [.ref (ad 63), .int x1] n ad E (some (.long b)) PM) (hM : ∀ E2, PM E2 → ∃ f9, E2 63 = .inr (4, .int k :: f9)) (K : ∀ E2, PM E2 → J g mL_law 12 bc bs 2592 [some (.ref g.1.2.1), some (.ref (ad 0)), some (.ref (ad 63)), some (.ref (ad 69)), some (.int (nI i6)), none, none, none, none] [] n ad E2 Φ Ψ) : J g mL_law 12 (1 + bc) (6 + bs) 1390 [some (.ref g.1.2.1), some (.ref (ad 0)), some (.ref (ad 63)), some (.ref (ad 69)), some (.int (nI i6)), none, none, none, none] [] n ad E Φ Ψ := by
  refine j_aload_n dL_law_1390 rfl ?_
  refine j_aload_n dL_law_1391 rfl ?_
  refine j_iload dL_law_1392 rfl ?_
  refine j_iconst (v := nI 1) dL_law_1394 (by decide) ?_
  refine j_iadd dL_law_1395 ?_
  refine j_topi (y := nI (i6 + 1)) (nI_add _ _) ?_
  refine j_sald dL_law_1396 (by omega) (by omega) ?_
  refine j_topi (y := x1) e1 ?_
  refine j_aload_n dL_law_1397 rfl ?_
  refine j_cSB (As := [.ref (ad 0), .int x1, .ref (ad 69)]) (rest := []) cm_L_flightSum ct_L_flightSum ln_L_215 dL_law_1398 (d' := 11) (by decide) rfl rfl (Nat.le_of_ble_eq_true rfl) (Nat.le_of_ble_eq_true rfl) HH ?_
  show J g mL_law 12 bc bs 1401 [some (.ref g.1.2.1), some (.ref (ad 0)), some (.ref (ad 63)), some (.ref (ad 69)), some (.int (nI i6)), none, none, none, none] [.int k] n ad E Φ Ψ
  refine j_istore (L' := [some (.ref g.1.2.1), some (.ref (ad 0)), some (.ref (ad 63)), some (.ref (ad 69)), some (.int (nI i6)), some (.int k), none, none, none]) dL_law_1401 (by decide) rfl rfl ?_
  refine j_aload_n dL_law_1403 rfl ?_
  refine j_aload_n dL_law_1404 rfl ?_
  refine j_iload dL_law_1405 rfl ?_
  refine j_iconst (v := nI 1) dL_law_1407 (by decide) ?_
  refine j_iadd dL_law_1408 ?_
  refine j_topi (y := nI (i6 + 1)) (nI_add _ _) ?_
  refine j_sald dL_law_1409 (by omega) (by omega) ?_
  refine j_topi (y := x1) e1 ?_
  refine j_cVp (As := [.int x1]) (rest := []) cm_X4_flightSum ci_X4_flightSum cs_X4_flightSum rfl ln_L_217 (ci := 4) rfl dL_law_1410 (d' := 6) (by decide) (by omega) h63 rfl rfl (Nat.le_of_ble_eq_true rfl) (Nat.le_of_ble_eq_true rfl) HM (fun E2 q2 => ?_)
  obtain ⟨fm2, h63b⟩ := hM _ q2
  show J g mL_law 12 bc bs 1413 [some (.ref g.1.2.1), some (.ref (ad 0)), some (.ref (ad 63)), some (.ref (ad 69)), some (.int (nI i6)), some (.int k), none, none, none] [.long b] n ad E2 Φ Ψ
  refine j_lstore (L' := [some (.ref g.1.2.1), some (.ref (ad 0)), some (.ref (ad 63)), some (.ref (ad 69)), some (.int (nI i6)), some (.int k), some (.long b), none, none]) dL_law_1413 (by decide) rfl rfl ?_
  refine j_aload_n dL_law_1415 rfl ?_
  refine j_cV (As := []) (rest := []) cm_X4_thrown ci_X4_thrown cs_X4_thrown rfl ln_L_133 (ci := 4) rfl dL_law_1416 (d' := 0) (by decide) (by omega) h63b rfl rfl (Nat.le_of_ble_eq_true rfl) (Nat.le_of_ble_eq_true rfl) (s_thrown' hn h63b) ?_
  refine j_iload dL_law_1419 rfl ?_
  refine j_icmp_eq_t (tgt := 1426) dL_law_1421 (by decide) rfl ?_
  refine j_iload dL_law_1426 rfl ?_
  refine j_if_ne_t (tgt := 1442) dL_law_1428 (by decide) hk ?_
  refine j_goto (tgt := 2592) dL_law_1442 (by decide) ?_
  refine j_clr 5 ?_
  refine j_clr 6 ?_
  exact K E2 q2
set_option maxRecDepth 100000 in
set_option maxHeartbeats 4000000 in
theorem lc_stepSum_ok {g : jG} {n : Nat} {ad : Nat → Nat} {E : Nat → va_E} {i6 bc bs : Nat} {Φ : Option Value → jR} {Ψ : String → jR} {fs fm : List Value} (hi : i6 + 6 ≤ g.1.2.2.1) (hL : g.1.2.2.1 ≤ 3072) (hn : 70 ≤ n) (h0 : E 0 = .inr (3, fs)) (h63 : E 63 = .inr (4, fm)) {x1 : Int32} (e1 : g.1.2.2.2 (i6 + 1) = x1) {v : Int64} {PC : (Nat → va_E) → Prop} {PM : (Nat → va_E) → (Nat → va_E) → Prop} (HH : HOk g mL_stepSum 11 [.ref (ad 0), .int x1, .ref (ad 69)] n ad E v PC) (h69 : ∀ E1, PC E1 → E1 63 = E 63) (HM : ∀ E1 o, PC E1 → RetP g mX4_stepSum 6 [.ref (ad 63), .int x1] n ad (va_up E1 69 (aL g 1 (vp_updL o 0 v))) (some (.long v)) (PM (va_up E1 69 (aL g 1 (vp_updL o 0 v))))) (hM : ∀ E1 E2, PM E1 E2 → (∃ f9, E2 63 = .inr (4, .int 0 :: f9)) ∧ E2 69 = E1 69) (K : ∀ E1 o E2, PC E1 → E1 69 = aL g 1 o → PM (va_up E1 69 (aL g 1 (vp_updL o 0 v))) E2 → J g mL_law 12 bc bs 2592 [some (.ref g.1.2.1), some (.ref (ad 0)), some (.ref (ad 63)), some (.ref (ad 69)), some (.int (nI i6)), none, none, none, none] [] n ad E2 Φ Ψ) : J g mL_law 12 bc bs 1445 [some (.ref g.1.2.1), some (.ref (ad 0)), some (.ref (ad 63)), some (.ref (ad 69)), some (.int (nI i6)), none, none, none, none] [] n ad E Φ Ψ := by
  refine j_aload_n dL_law_1445 rfl ?_
  refine j_aload_n dL_law_1446 rfl ?_
  refine j_iload dL_law_1447 rfl ?_
  refine j_iconst (v := nI 1) dL_law_1449 (by decide) ?_
  refine j_iadd dL_law_1450 ?_
  refine j_topi (y := nI (i6 + 1)) (nI_add _ _) ?_
  refine j_sald dL_law_1451 (by omega) (by omega) ?_
  refine j_topi (y := x1) e1 ?_
  refine j_aload_n dL_law_1452 rfl ?_
  refine j_cSH (As := [.ref (ad 0), .int x1, .ref (ad 69)]) (rest := []) cm_L_stepSum ct_L_stepSum ln_L_218 dL_law_1453 (d' := 11) (by decide) rfl rfl (Nat.le_of_ble_eq_true rfl) (Nat.le_of_ble_eq_true rfl) HH (fun E1 o p1 ho => ?_)
  obtain h63a := h69 E1 p1
  show J g mL_law 12 bc bs 1456 [some (.ref g.1.2.1), some (.ref (ad 0)), some (.ref (ad 63)), some (.ref (ad 69)), some (.int (nI i6)), none, none, none, none] [.int 0] n ad (va_up E1 69 (aL g 1 (vp_updL o 0 v))) Φ Ψ
  refine j_istore (L' := [some (.ref g.1.2.1), some (.ref (ad 0)), some (.ref (ad 63)), some (.ref (ad 69)), some (.int (nI i6)), some (.int 0), none, none, none]) dL_law_1456 (by decide) rfl rfl ?_
  refine j_aload_n dL_law_1458 rfl ?_
  refine j_aload_n dL_law_1459 rfl ?_
  refine j_iload dL_law_1460 rfl ?_
  refine j_iconst (v := nI 1) dL_law_1462 (by decide) ?_
  refine j_iadd dL_law_1463 ?_
  refine j_topi (y := nI (i6 + 1)) (nI_add _ _) ?_
  refine j_sald dL_law_1464 (by omega) (by omega) ?_
  refine j_topi (y := x1) e1 ?_
  refine j_cVp (As := [.int x1]) (rest := []) cm_X4_stepSum ci_X4_stepSum cs_X4_stepSum rfl ln_L_220 (ci := 4) rfl dL_law_1465 (d' := 6) (by decide) (by omega) ((up_ne (by decide)).trans (h63a.trans h63)) rfl rfl (Nat.le_of_ble_eq_true rfl) (Nat.le_of_ble_eq_true rfl) (HM E1 _ p1) (fun E2 q2 => ?_)
  obtain ⟨⟨fm2, h63b⟩, h69b⟩ := hM _ _ q2
  show J g mL_law 12 bc bs 1468 [some (.ref g.1.2.1), some (.ref (ad 0)), some (.ref (ad 63)), some (.ref (ad 69)), some (.int (nI i6)), some (.int 0), none, none, none] [.long v] n ad E2 Φ Ψ
  refine j_lstore (L' := [some (.ref g.1.2.1), some (.ref (ad 0)), some (.ref (ad 63)), some (.ref (ad 69)), some (.int (nI i6)), some (.int 0), some (.long v), none, none]) dL_law_1468 (by decide) rfl rfl ?_
  refine j_aload_n dL_law_1470 rfl ?_
  refine j_cV (As := []) (rest := []) cm_X4_thrown ci_X4_thrown cs_X4_thrown rfl ln_L_133 (ci := 4) rfl dL_law_1471 (d' := 0) (by decide) (by omega) h63b rfl rfl (Nat.le_of_ble_eq_true rfl) (Nat.le_of_ble_eq_true rfl) (s_thrown' hn h63b) ?_
  refine j_iload dL_law_1474 rfl ?_
  refine j_icmp_eq_t (tgt := 1481) dL_law_1476 (by decide) (by decide) ?_
  refine j_iload dL_law_1481 rfl ?_
  refine j_if_ne_f (tgt := 1497) dL_law_1483 (by decide) (by decide) ?_
  refine j_aload_n dL_law_1486 rfl ?_
  refine j_iconst (v := nI 0) dL_law_1487 (by decide) ?_
  refine j_lald dL_law_1488 (by omega) (h69b.trans up_eq) (by decide) (by omega) rfl ?_
  refine j_topl (y := v) (if_pos rfl) ?_
  refine j_lload dL_law_1489 rfl ?_
  refine j_lcmp dL_law_1491 ?_
  refine j_topi (y := 0) (lg_self _) ?_
  refine j_if_eq_t (tgt := 1497) dL_law_1492 (by decide) (by decide) ?_
  refine j_goto (tgt := 2592) dL_law_1497 (by decide) ?_
  refine j_clr 5 ?_
  refine j_clr 6 ?_
  exact K E1 o E2 p1 ho q2
set_option maxRecDepth 100000 in
set_option maxHeartbeats 4000000 in
theorem lc_stepSum_bad {g : jG} {n : Nat} {ad : Nat → Nat} {E : Nat → va_E} {i6 bc bs : Nat} {Φ : Option Value → jR} {Ψ : String → jR} {fs fm : List Value} (hi : i6 + 6 ≤ g.1.2.2.1) (hL : g.1.2.2.1 ≤ 3072) (hn : 70 ≤ n) (h0 : E 0 = .inr (3, fs)) (h63 : E 63 = .inr (4, fm)) {x1 : Int32} (e1 : g.1.2.2.2 (i6 + 1) = x1) {k : Int32} (hk : ¬ k = 0) {b : Int64} {PM : (Nat → va_E) → Prop} (HH : HBad g mL_stepSum 11 [.ref (ad 0), .int x1, .ref (ad 69)] n ad E k) (HM : RetP g mX4_stepSum 6 [.ref (ad 63), .int x1] n ad E (some (.long b)) PM) (hM : ∀ E2, PM E2 → ∃ f9, E2 63 = .inr (4, .int k :: f9)) (K : ∀ E2, PM E2 → J g mL_law 12 bc bs 2592 [some (.ref g.1.2.1), some (.ref (ad 0)), some (.ref (ad 63)), some (.ref (ad 69)), some (.int (nI i6)), none, none, none, none] [] n ad E2 Φ Ψ) : J g mL_law 12 (1 + bc) (6 + bs) 1445 [some (.ref g.1.2.1), some (.ref (ad 0)), some (.ref (ad 63)), some (.ref (ad 69)), some (.int (nI i6)), none, none, none, none] [] n ad E Φ Ψ := by
  refine j_aload_n dL_law_1445 rfl ?_
  refine j_aload_n dL_law_1446 rfl ?_
  refine j_iload dL_law_1447 rfl ?_
  refine j_iconst (v := nI 1) dL_law_1449 (by decide) ?_
  refine j_iadd dL_law_1450 ?_
  refine j_topi (y := nI (i6 + 1)) (nI_add _ _) ?_
  refine j_sald dL_law_1451 (by omega) (by omega) ?_
  refine j_topi (y := x1) e1 ?_
  refine j_aload_n dL_law_1452 rfl ?_
  refine j_cSB (As := [.ref (ad 0), .int x1, .ref (ad 69)]) (rest := []) cm_L_stepSum ct_L_stepSum ln_L_218 dL_law_1453 (d' := 11) (by decide) rfl rfl (Nat.le_of_ble_eq_true rfl) (Nat.le_of_ble_eq_true rfl) HH ?_
  show J g mL_law 12 bc bs 1456 [some (.ref g.1.2.1), some (.ref (ad 0)), some (.ref (ad 63)), some (.ref (ad 69)), some (.int (nI i6)), none, none, none, none] [.int k] n ad E Φ Ψ
  refine j_istore (L' := [some (.ref g.1.2.1), some (.ref (ad 0)), some (.ref (ad 63)), some (.ref (ad 69)), some (.int (nI i6)), some (.int k), none, none, none]) dL_law_1456 (by decide) rfl rfl ?_
  refine j_aload_n dL_law_1458 rfl ?_
  refine j_aload_n dL_law_1459 rfl ?_
  refine j_iload dL_law_1460 rfl ?_
  refine j_iconst (v := nI 1) dL_law_1462 (by decide) ?_
  refine j_iadd dL_law_1463 ?_
  refine j_topi (y := nI (i6 + 1)) (nI_add _ _) ?_
  refine j_sald dL_law_1464 (by omega) (by omega) ?_
  refine j_topi (y := x1) e1 ?_
  refine j_cVp (As := [.int x1]) (rest := []) cm_X4_stepSum ci_X4_stepSum cs_X4_stepSum rfl ln_L_220 (ci := 4) rfl dL_law_1465 (d' := 6) (by decide) (by omega) h63 rfl rfl (Nat.le_of_ble_eq_true rfl) (Nat.le_of_ble_eq_true rfl) HM (fun E2 q2 => ?_)
  obtain ⟨fm2, h63b⟩ := hM _ q2
  show J g mL_law 12 bc bs 1468 [some (.ref g.1.2.1), some (.ref (ad 0)), some (.ref (ad 63)), some (.ref (ad 69)), some (.int (nI i6)), some (.int k), none, none, none] [.long b] n ad E2 Φ Ψ
  refine j_lstore (L' := [some (.ref g.1.2.1), some (.ref (ad 0)), some (.ref (ad 63)), some (.ref (ad 69)), some (.int (nI i6)), some (.int k), some (.long b), none, none]) dL_law_1468 (by decide) rfl rfl ?_
  refine j_aload_n dL_law_1470 rfl ?_
  refine j_cV (As := []) (rest := []) cm_X4_thrown ci_X4_thrown cs_X4_thrown rfl ln_L_133 (ci := 4) rfl dL_law_1471 (d' := 0) (by decide) (by omega) h63b rfl rfl (Nat.le_of_ble_eq_true rfl) (Nat.le_of_ble_eq_true rfl) (s_thrown' hn h63b) ?_
  refine j_iload dL_law_1474 rfl ?_
  refine j_icmp_eq_t (tgt := 1481) dL_law_1476 (by decide) rfl ?_
  refine j_iload dL_law_1481 rfl ?_
  refine j_if_ne_t (tgt := 1497) dL_law_1483 (by decide) hk ?_
  refine j_goto (tgt := 2592) dL_law_1497 (by decide) ?_
  refine j_clr 5 ?_
  refine j_clr 6 ?_
  exact K E2 q2
set_option maxRecDepth 100000 in
set_option maxHeartbeats 4000000 in
theorem lc_total {g : jG} {n : Nat} {ad : Nat → Nat} {E : Nat → va_E} {i6 bc bs : Nat} {Φ : Option Value → jR} {Ψ : String → jR} {fs fm : List Value} (hi : i6 + 6 ≤ g.1.2.2.1) (hL : g.1.2.2.1 ≤ 3072) (hn : 70 ≤ n) (h0 : E 0 = .inr (3, fs)) (h63 : E 63 = .inr (4, fm)) {v : Int64} {PC : (Nat → va_E) → Prop} {PM : (Nat → va_E) → (Nat → va_E) → Prop} (HC : RetP g mX3_total 10 [.ref (ad 0)] n ad E (some (.long v)) PC) (h69 : ∀ E1, PC E1 → E1 63 = E 63) (HM : ∀ E1, PC E1 → RetP g mX4_total 6 [.ref (ad 63)] n ad E1 (some (.long v)) (PM E1)) (K : ∀ E1 E2, PC E1 → PM E1 E2 → J g mL_law 12 bc bs 2592 [some (.ref g.1.2.1), some (.ref (ad 0)), some (.ref (ad 63)), some (.ref (ad 69)), some (.int (nI i6)), none, none, none, none] [] n ad E2 Φ Ψ) : J g mL_law 12 bc bs 1500 [some (.ref g.1.2.1), some (.ref (ad 0)), some (.ref (ad 63)), some (.ref (ad 69)), some (.int (nI i6)), none, none, none, none] [] n ad E Φ Ψ := by
  refine j_aload_n dL_law_1500 rfl ?_
  refine j_cVp (As := []) (rest := []) cm_X3_total ci_X3_total cs_X3_total rfl ln_L_221 (ci := 3) rfl dL_law_1501 (d' := 10) (by decide) (by omega) h0 rfl rfl (Nat.le_of_ble_eq_true rfl) (Nat.le_of_ble_eq_true rfl) HC (fun E1 p1 => ?_)
  obtain h63a := h69 E1 p1
  show J g mL_law 12 bc bs 1504 [some (.ref g.1.2.1), some (.ref (ad 0)), some (.ref (ad 63)), some (.ref (ad 69)), some (.int (nI i6)), none, none, none, none] [.long v] n ad E1 Φ Ψ
  refine j_aload_n dL_law_1504 rfl ?_
  refine j_cVp (As := []) (rest := [.long v]) cm_X4_total ci_X4_total cs_X4_total rfl ln_L_224 (ci := 4) rfl dL_law_1505 (d' := 6) (by decide) (by omega) (h63a.trans h63) rfl rfl (Nat.le_of_ble_eq_true rfl) (Nat.le_of_ble_eq_true rfl) (HM E1 p1) (fun E2 q2 => ?_)
  show J g mL_law 12 bc bs 1508 [some (.ref g.1.2.1), some (.ref (ad 0)), some (.ref (ad 63)), some (.ref (ad 69)), some (.int (nI i6)), none, none, none, none] [.long v, .long v] n ad E2 Φ Ψ
  refine j_lcmp dL_law_1508 ?_
  refine j_topi (y := 0) (lg_self _) ?_
  refine j_if_eq_t (tgt := 2592) dL_law_1509 (by decide) (by decide) ?_
  exact K E1 E2 p1 q2
set_option maxRecDepth 100000 in
set_option maxHeartbeats 4000000 in
theorem lc_firstReaching_ok {g : jG} {n : Nat} {ad : Nat → Nat} {E : Nat → va_E} {i6 bc bs : Nat} {Φ : Option Value → jR} {Ψ : String → jR} {fs fm : List Value} (hi : i6 + 6 ≤ g.1.2.2.1) (hL : g.1.2.2.1 ≤ 3072) (hn : 70 ≤ n) (h0 : E 0 = .inr (3, fs)) (h63 : E 63 = .inr (4, fm)) {x1 : Int32} (e1 : g.1.2.2.2 (i6 + 1) = x1) {x2 : Int32} (e2 : g.1.2.2.2 (i6 + 2) = x2) {v : Int32} {PC : (Nat → va_E) → Prop} {PM : (Nat → va_E) → (Nat → va_E) → Prop} (HH : HOk g mL_firstReaching 11 [.ref (ad 0), .int x1, .int x2, .ref (ad 69)] n ad E v.toInt64 PC) (h69 : ∀ E1, PC E1 → E1 63 = E 63) (HM : ∀ E1 o, PC E1 → RetP g mX4_firstReaching 6 [.ref (ad 63), .int x1, .int x2] n ad (va_up E1 69 (aL g 1 (vp_updL o 0 v.toInt64))) (some (.int v)) (PM (va_up E1 69 (aL g 1 (vp_updL o 0 v.toInt64))))) (hM : ∀ E1 E2, PM E1 E2 → (∃ f9, E2 63 = .inr (4, .int 0 :: f9)) ∧ E2 69 = E1 69) (K : ∀ E1 o E2, PC E1 → E1 69 = aL g 1 o → PM (va_up E1 69 (aL g 1 (vp_updL o 0 v.toInt64))) E2 → J g mL_law 12 bc bs 2592 [some (.ref g.1.2.1), some (.ref (ad 0)), some (.ref (ad 63)), some (.ref (ad 69)), some (.int (nI i6)), none, none, none, none] [] n ad E2 Φ Ψ) : J g mL_law 12 bc bs 1514 [some (.ref g.1.2.1), some (.ref (ad 0)), some (.ref (ad 63)), some (.ref (ad 69)), some (.int (nI i6)), none, none, none, none] [] n ad E Φ Ψ := by
  refine j_aload_n dL_law_1514 rfl ?_
  refine j_aload_n dL_law_1515 rfl ?_
  refine j_iload dL_law_1516 rfl ?_
  refine j_iconst (v := nI 1) dL_law_1518 (by decide) ?_
  refine j_iadd dL_law_1519 ?_
  refine j_topi (y := nI (i6 + 1)) (nI_add _ _) ?_
  refine j_sald dL_law_1520 (by omega) (by omega) ?_
  refine j_topi (y := x1) e1 ?_
  refine j_aload_n dL_law_1521 rfl ?_
  refine j_iload dL_law_1522 rfl ?_
  refine j_iconst (v := nI 2) dL_law_1524 (by decide) ?_
  refine j_iadd dL_law_1525 ?_
  refine j_topi (y := nI (i6 + 2)) (nI_add _ _) ?_
  refine j_sald dL_law_1526 (by omega) (by omega) ?_
  refine j_topi (y := x2) e2 ?_
  refine j_aload_n dL_law_1527 rfl ?_
  refine j_cSH (As := [.ref (ad 0), .int x1, .int x2, .ref (ad 69)]) (rest := []) cm_L_firstReaching ct_L_firstReaching ln_L_225 dL_law_1528 (d' := 11) (by decide) rfl rfl (Nat.le_of_ble_eq_true rfl) (Nat.le_of_ble_eq_true rfl) HH (fun E1 o p1 ho => ?_)
  obtain h63a := h69 E1 p1
  show J g mL_law 12 bc bs 1531 [some (.ref g.1.2.1), some (.ref (ad 0)), some (.ref (ad 63)), some (.ref (ad 69)), some (.int (nI i6)), none, none, none, none] [.int 0] n ad (va_up E1 69 (aL g 1 (vp_updL o 0 v.toInt64))) Φ Ψ
  refine j_istore (L' := [some (.ref g.1.2.1), some (.ref (ad 0)), some (.ref (ad 63)), some (.ref (ad 69)), some (.int (nI i6)), some (.int 0), none, none, none]) dL_law_1531 (by decide) rfl rfl ?_
  refine j_aload_n dL_law_1533 rfl ?_
  refine j_aload_n dL_law_1534 rfl ?_
  refine j_iload dL_law_1535 rfl ?_
  refine j_iconst (v := nI 1) dL_law_1537 (by decide) ?_
  refine j_iadd dL_law_1538 ?_
  refine j_topi (y := nI (i6 + 1)) (nI_add _ _) ?_
  refine j_sald dL_law_1539 (by omega) (by omega) ?_
  refine j_topi (y := x1) e1 ?_
  refine j_aload_n dL_law_1540 rfl ?_
  refine j_iload dL_law_1541 rfl ?_
  refine j_iconst (v := nI 2) dL_law_1543 (by decide) ?_
  refine j_iadd dL_law_1544 ?_
  refine j_topi (y := nI (i6 + 2)) (nI_add _ _) ?_
  refine j_sald dL_law_1545 (by omega) (by omega) ?_
  refine j_topi (y := x2) e2 ?_
  refine j_cVp (As := [.int x1, .int x2]) (rest := []) cm_X4_firstReaching ci_X4_firstReaching cs_X4_firstReaching rfl ln_L_227 (ci := 4) rfl dL_law_1546 (d' := 6) (by decide) (by omega) ((up_ne (by decide)).trans (h63a.trans h63)) rfl rfl (Nat.le_of_ble_eq_true rfl) (Nat.le_of_ble_eq_true rfl) (HM E1 _ p1) (fun E2 q2 => ?_)
  obtain ⟨⟨fm2, h63b⟩, h69b⟩ := hM _ _ q2
  show J g mL_law 12 bc bs 1549 [some (.ref g.1.2.1), some (.ref (ad 0)), some (.ref (ad 63)), some (.ref (ad 69)), some (.int (nI i6)), some (.int 0), none, none, none] [.int v] n ad E2 Φ Ψ
  refine j_istore (L' := [some (.ref g.1.2.1), some (.ref (ad 0)), some (.ref (ad 63)), some (.ref (ad 69)), some (.int (nI i6)), some (.int 0), some (.int v), none, none]) dL_law_1549 (by decide) rfl rfl ?_
  refine j_aload_n dL_law_1551 rfl ?_
  refine j_cV (As := []) (rest := []) cm_X4_thrown ci_X4_thrown cs_X4_thrown rfl ln_L_133 (ci := 4) rfl dL_law_1552 (d' := 0) (by decide) (by omega) h63b rfl rfl (Nat.le_of_ble_eq_true rfl) (Nat.le_of_ble_eq_true rfl) (s_thrown' hn h63b) ?_
  refine j_iload dL_law_1555 rfl ?_
  refine j_icmp_eq_t (tgt := 1562) dL_law_1557 (by decide) (by decide) ?_
  refine j_iload dL_law_1562 rfl ?_
  refine j_if_ne_f (tgt := 1579) dL_law_1564 (by decide) (by decide) ?_
  refine j_aload_n dL_law_1567 rfl ?_
  refine j_iconst (v := nI 0) dL_law_1568 (by decide) ?_
  refine j_lald dL_law_1569 (by omega) (h69b.trans up_eq) (by decide) (by omega) rfl ?_
  refine j_topl (y := v.toInt64) (if_pos rfl) ?_
  refine j_iload dL_law_1570 rfl ?_
  refine j_i2l dL_law_1572 ?_
  refine j_lcmp dL_law_1573 ?_
  refine j_topi (y := 0) (lg_self _) ?_
  refine j_if_eq_t (tgt := 1579) dL_law_1574 (by decide) (by decide) ?_
  refine j_goto (tgt := 2592) dL_law_1579 (by decide) ?_
  refine j_clr 5 ?_
  refine j_clr 6 ?_
  exact K E1 o E2 p1 ho q2
set_option maxRecDepth 100000 in
set_option maxHeartbeats 4000000 in
theorem lc_firstReaching_bad {g : jG} {n : Nat} {ad : Nat → Nat} {E : Nat → va_E} {i6 bc bs : Nat} {Φ : Option Value → jR} {Ψ : String → jR} {fs fm : List Value} (hi : i6 + 6 ≤ g.1.2.2.1) (hL : g.1.2.2.1 ≤ 3072) (hn : 70 ≤ n) (h0 : E 0 = .inr (3, fs)) (h63 : E 63 = .inr (4, fm)) {x1 : Int32} (e1 : g.1.2.2.2 (i6 + 1) = x1) {x2 : Int32} (e2 : g.1.2.2.2 (i6 + 2) = x2) {k : Int32} (hk : ¬ k = 0) {b : Int32} {PM : (Nat → va_E) → Prop} (HH : HBad g mL_firstReaching 11 [.ref (ad 0), .int x1, .int x2, .ref (ad 69)] n ad E k) (HM : RetP g mX4_firstReaching 6 [.ref (ad 63), .int x1, .int x2] n ad E (some (.int b)) PM) (hM : ∀ E2, PM E2 → ∃ f9, E2 63 = .inr (4, .int k :: f9)) (K : ∀ E2, PM E2 → J g mL_law 12 bc bs 2592 [some (.ref g.1.2.1), some (.ref (ad 0)), some (.ref (ad 63)), some (.ref (ad 69)), some (.int (nI i6)), none, none, none, none] [] n ad E2 Φ Ψ) : J g mL_law 12 (1 + bc) (6 + bs) 1514 [some (.ref g.1.2.1), some (.ref (ad 0)), some (.ref (ad 63)), some (.ref (ad 69)), some (.int (nI i6)), none, none, none, none] [] n ad E Φ Ψ := by
  refine j_aload_n dL_law_1514 rfl ?_
  refine j_aload_n dL_law_1515 rfl ?_
  refine j_iload dL_law_1516 rfl ?_
  refine j_iconst (v := nI 1) dL_law_1518 (by decide) ?_
  refine j_iadd dL_law_1519 ?_
  refine j_topi (y := nI (i6 + 1)) (nI_add _ _) ?_
  refine j_sald dL_law_1520 (by omega) (by omega) ?_
  refine j_topi (y := x1) e1 ?_
  refine j_aload_n dL_law_1521 rfl ?_
  refine j_iload dL_law_1522 rfl ?_
  refine j_iconst (v := nI 2) dL_law_1524 (by decide) ?_
  refine j_iadd dL_law_1525 ?_
  refine j_topi (y := nI (i6 + 2)) (nI_add _ _) ?_
  refine j_sald dL_law_1526 (by omega) (by omega) ?_
  refine j_topi (y := x2) e2 ?_
  refine j_aload_n dL_law_1527 rfl ?_
  refine j_cSB (As := [.ref (ad 0), .int x1, .int x2, .ref (ad 69)]) (rest := []) cm_L_firstReaching ct_L_firstReaching ln_L_225 dL_law_1528 (d' := 11) (by decide) rfl rfl (Nat.le_of_ble_eq_true rfl) (Nat.le_of_ble_eq_true rfl) HH ?_
  show J g mL_law 12 bc bs 1531 [some (.ref g.1.2.1), some (.ref (ad 0)), some (.ref (ad 63)), some (.ref (ad 69)), some (.int (nI i6)), none, none, none, none] [.int k] n ad E Φ Ψ
  refine j_istore (L' := [some (.ref g.1.2.1), some (.ref (ad 0)), some (.ref (ad 63)), some (.ref (ad 69)), some (.int (nI i6)), some (.int k), none, none, none]) dL_law_1531 (by decide) rfl rfl ?_
  refine j_aload_n dL_law_1533 rfl ?_
  refine j_aload_n dL_law_1534 rfl ?_
  refine j_iload dL_law_1535 rfl ?_
  refine j_iconst (v := nI 1) dL_law_1537 (by decide) ?_
  refine j_iadd dL_law_1538 ?_
  refine j_topi (y := nI (i6 + 1)) (nI_add _ _) ?_
  refine j_sald dL_law_1539 (by omega) (by omega) ?_
  refine j_topi (y := x1) e1 ?_
  refine j_aload_n dL_law_1540 rfl ?_
  refine j_iload dL_law_1541 rfl ?_
  refine j_iconst (v := nI 2) dL_law_1543 (by decide) ?_
  refine j_iadd dL_law_1544 ?_
  refine j_topi (y := nI (i6 + 2)) (nI_add _ _) ?_
  refine j_sald dL_law_1545 (by omega) (by omega) ?_
  refine j_topi (y := x2) e2 ?_
  refine j_cVp (As := [.int x1, .int x2]) (rest := []) cm_X4_firstReaching ci_X4_firstReaching cs_X4_firstReaching rfl ln_L_227 (ci := 4) rfl dL_law_1546 (d' := 6) (by decide) (by omega) h63 rfl rfl (Nat.le_of_ble_eq_true rfl) (Nat.le_of_ble_eq_true rfl) HM (fun E2 q2 => ?_)
  obtain ⟨fm2, h63b⟩ := hM _ q2
  show J g mL_law 12 bc bs 1549 [some (.ref g.1.2.1), some (.ref (ad 0)), some (.ref (ad 63)), some (.ref (ad 69)), some (.int (nI i6)), some (.int k), none, none, none] [.int b] n ad E2 Φ Ψ
  refine j_istore (L' := [some (.ref g.1.2.1), some (.ref (ad 0)), some (.ref (ad 63)), some (.ref (ad 69)), some (.int (nI i6)), some (.int k), some (.int b), none, none]) dL_law_1549 (by decide) rfl rfl ?_
  refine j_aload_n dL_law_1551 rfl ?_
  refine j_cV (As := []) (rest := []) cm_X4_thrown ci_X4_thrown cs_X4_thrown rfl ln_L_133 (ci := 4) rfl dL_law_1552 (d' := 0) (by decide) (by omega) h63b rfl rfl (Nat.le_of_ble_eq_true rfl) (Nat.le_of_ble_eq_true rfl) (s_thrown' hn h63b) ?_
  refine j_iload dL_law_1555 rfl ?_
  refine j_icmp_eq_t (tgt := 1562) dL_law_1557 (by decide) rfl ?_
  refine j_iload dL_law_1562 rfl ?_
  refine j_if_ne_t (tgt := 1579) dL_law_1564 (by decide) hk ?_
  refine j_goto (tgt := 2592) dL_law_1579 (by decide) ?_
  refine j_clr 5 ?_
  refine j_clr 6 ?_
  exact K E2 q2
set_option maxRecDepth 100000 in
set_option maxHeartbeats 4000000 in
theorem lc_bestRun_ok {g : jG} {n : Nat} {ad : Nat → Nat} {E : Nat → va_E} {i6 bc bs : Nat} {Φ : Option Value → jR} {Ψ : String → jR} {fs fm : List Value} (hi : i6 + 6 ≤ g.1.2.2.1) (hL : g.1.2.2.1 ≤ 3072) (hn : 70 ≤ n) (h0 : E 0 = .inr (3, fs)) (h63 : E 63 = .inr (4, fm)) {x1 : Int32} (e1 : g.1.2.2.2 (i6 + 1) = x1) {v : Int64} {PC : (Nat → va_E) → Prop} {PM : (Nat → va_E) → (Nat → va_E) → Prop} (HH : HOk g mL_bestRun 11 [.ref (ad 0), .int x1, .ref (ad 69)] n ad E v PC) (h69 : ∀ E1, PC E1 → E1 63 = E 63) (HM : ∀ E1 o, PC E1 → RetP g mX4_bestRun 6 [.ref (ad 63), .int x1] n ad (va_up E1 69 (aL g 1 (vp_updL o 0 v))) (some (.long v)) (PM (va_up E1 69 (aL g 1 (vp_updL o 0 v))))) (hM : ∀ E1 E2, PM E1 E2 → (∃ f9, E2 63 = .inr (4, .int 0 :: f9)) ∧ E2 69 = E1 69) (K : ∀ E1 o E2, PC E1 → E1 69 = aL g 1 o → PM (va_up E1 69 (aL g 1 (vp_updL o 0 v))) E2 → J g mL_law 12 bc bs 2592 [some (.ref g.1.2.1), some (.ref (ad 0)), some (.ref (ad 63)), some (.ref (ad 69)), some (.int (nI i6)), none, none, none, none] [] n ad E2 Φ Ψ) : J g mL_law 12 bc bs 1582 [some (.ref g.1.2.1), some (.ref (ad 0)), some (.ref (ad 63)), some (.ref (ad 69)), some (.int (nI i6)), none, none, none, none] [] n ad E Φ Ψ := by
  refine j_aload_n dL_law_1582 rfl ?_
  refine j_aload_n dL_law_1583 rfl ?_
  refine j_iload dL_law_1584 rfl ?_
  refine j_iconst (v := nI 1) dL_law_1586 (by decide) ?_
  refine j_iadd dL_law_1587 ?_
  refine j_topi (y := nI (i6 + 1)) (nI_add _ _) ?_
  refine j_sald dL_law_1588 (by omega) (by omega) ?_
  refine j_topi (y := x1) e1 ?_
  refine j_aload_n dL_law_1589 rfl ?_
  refine j_cSH (As := [.ref (ad 0), .int x1, .ref (ad 69)]) (rest := []) cm_L_bestRun ct_L_bestRun ln_L_228 dL_law_1590 (d' := 11) (by decide) rfl rfl (Nat.le_of_ble_eq_true rfl) (Nat.le_of_ble_eq_true rfl) HH (fun E1 o p1 ho => ?_)
  obtain h63a := h69 E1 p1
  show J g mL_law 12 bc bs 1593 [some (.ref g.1.2.1), some (.ref (ad 0)), some (.ref (ad 63)), some (.ref (ad 69)), some (.int (nI i6)), none, none, none, none] [.int 0] n ad (va_up E1 69 (aL g 1 (vp_updL o 0 v))) Φ Ψ
  refine j_istore (L' := [some (.ref g.1.2.1), some (.ref (ad 0)), some (.ref (ad 63)), some (.ref (ad 69)), some (.int (nI i6)), some (.int 0), none, none, none]) dL_law_1593 (by decide) rfl rfl ?_
  refine j_aload_n dL_law_1595 rfl ?_
  refine j_aload_n dL_law_1596 rfl ?_
  refine j_iload dL_law_1597 rfl ?_
  refine j_iconst (v := nI 1) dL_law_1599 (by decide) ?_
  refine j_iadd dL_law_1600 ?_
  refine j_topi (y := nI (i6 + 1)) (nI_add _ _) ?_
  refine j_sald dL_law_1601 (by omega) (by omega) ?_
  refine j_topi (y := x1) e1 ?_
  refine j_cVp (As := [.int x1]) (rest := []) cm_X4_bestRun ci_X4_bestRun cs_X4_bestRun rfl ln_L_230 (ci := 4) rfl dL_law_1602 (d' := 6) (by decide) (by omega) ((up_ne (by decide)).trans (h63a.trans h63)) rfl rfl (Nat.le_of_ble_eq_true rfl) (Nat.le_of_ble_eq_true rfl) (HM E1 _ p1) (fun E2 q2 => ?_)
  obtain ⟨⟨fm2, h63b⟩, h69b⟩ := hM _ _ q2
  show J g mL_law 12 bc bs 1605 [some (.ref g.1.2.1), some (.ref (ad 0)), some (.ref (ad 63)), some (.ref (ad 69)), some (.int (nI i6)), some (.int 0), none, none, none] [.long v] n ad E2 Φ Ψ
  refine j_lstore (L' := [some (.ref g.1.2.1), some (.ref (ad 0)), some (.ref (ad 63)), some (.ref (ad 69)), some (.int (nI i6)), some (.int 0), some (.long v), none, none]) dL_law_1605 (by decide) rfl rfl ?_
  refine j_aload_n dL_law_1607 rfl ?_
  refine j_cV (As := []) (rest := []) cm_X4_thrown ci_X4_thrown cs_X4_thrown rfl ln_L_133 (ci := 4) rfl dL_law_1608 (d' := 0) (by decide) (by omega) h63b rfl rfl (Nat.le_of_ble_eq_true rfl) (Nat.le_of_ble_eq_true rfl) (s_thrown' hn h63b) ?_
  refine j_iload dL_law_1611 rfl ?_
  refine j_icmp_eq_t (tgt := 1618) dL_law_1613 (by decide) (by decide) ?_
  refine j_iload dL_law_1618 rfl ?_
  refine j_if_ne_f (tgt := 1634) dL_law_1620 (by decide) (by decide) ?_
  refine j_aload_n dL_law_1623 rfl ?_
  refine j_iconst (v := nI 0) dL_law_1624 (by decide) ?_
  refine j_lald dL_law_1625 (by omega) (h69b.trans up_eq) (by decide) (by omega) rfl ?_
  refine j_topl (y := v) (if_pos rfl) ?_
  refine j_lload dL_law_1626 rfl ?_
  refine j_lcmp dL_law_1628 ?_
  refine j_topi (y := 0) (lg_self _) ?_
  refine j_if_eq_t (tgt := 1634) dL_law_1629 (by decide) (by decide) ?_
  refine j_goto (tgt := 2592) dL_law_1634 (by decide) ?_
  refine j_clr 5 ?_
  refine j_clr 6 ?_
  exact K E1 o E2 p1 ho q2
set_option maxRecDepth 100000 in
set_option maxHeartbeats 4000000 in
theorem lc_bestRun_bad {g : jG} {n : Nat} {ad : Nat → Nat} {E : Nat → va_E} {i6 bc bs : Nat} {Φ : Option Value → jR} {Ψ : String → jR} {fs fm : List Value} (hi : i6 + 6 ≤ g.1.2.2.1) (hL : g.1.2.2.1 ≤ 3072) (hn : 70 ≤ n) (h0 : E 0 = .inr (3, fs)) (h63 : E 63 = .inr (4, fm)) {x1 : Int32} (e1 : g.1.2.2.2 (i6 + 1) = x1) {k : Int32} (hk : ¬ k = 0) {b : Int64} {PM : (Nat → va_E) → Prop} (HH : HBad g mL_bestRun 11 [.ref (ad 0), .int x1, .ref (ad 69)] n ad E k) (HM : RetP g mX4_bestRun 6 [.ref (ad 63), .int x1] n ad E (some (.long b)) PM) (hM : ∀ E2, PM E2 → ∃ f9, E2 63 = .inr (4, .int k :: f9)) (K : ∀ E2, PM E2 → J g mL_law 12 bc bs 2592 [some (.ref g.1.2.1), some (.ref (ad 0)), some (.ref (ad 63)), some (.ref (ad 69)), some (.int (nI i6)), none, none, none, none] [] n ad E2 Φ Ψ) : J g mL_law 12 (1 + bc) (6 + bs) 1582 [some (.ref g.1.2.1), some (.ref (ad 0)), some (.ref (ad 63)), some (.ref (ad 69)), some (.int (nI i6)), none, none, none, none] [] n ad E Φ Ψ := by
  refine j_aload_n dL_law_1582 rfl ?_
  refine j_aload_n dL_law_1583 rfl ?_
  refine j_iload dL_law_1584 rfl ?_
  refine j_iconst (v := nI 1) dL_law_1586 (by decide) ?_
  refine j_iadd dL_law_1587 ?_
  refine j_topi (y := nI (i6 + 1)) (nI_add _ _) ?_
  refine j_sald dL_law_1588 (by omega) (by omega) ?_
  refine j_topi (y := x1) e1 ?_
  refine j_aload_n dL_law_1589 rfl ?_
  refine j_cSB (As := [.ref (ad 0), .int x1, .ref (ad 69)]) (rest := []) cm_L_bestRun ct_L_bestRun ln_L_228 dL_law_1590 (d' := 11) (by decide) rfl rfl (Nat.le_of_ble_eq_true rfl) (Nat.le_of_ble_eq_true rfl) HH ?_
  show J g mL_law 12 bc bs 1593 [some (.ref g.1.2.1), some (.ref (ad 0)), some (.ref (ad 63)), some (.ref (ad 69)), some (.int (nI i6)), none, none, none, none] [.int k] n ad E Φ Ψ
  refine j_istore (L' := [some (.ref g.1.2.1), some (.ref (ad 0)), some (.ref (ad 63)), some (.ref (ad 69)), some (.int (nI i6)), some (.int k), none, none, none]) dL_law_1593 (by decide) rfl rfl ?_
  refine j_aload_n dL_law_1595 rfl ?_
  refine j_aload_n dL_law_1596 rfl ?_
  refine j_iload dL_law_1597 rfl ?_
  refine j_iconst (v := nI 1) dL_law_1599 (by decide) ?_
  refine j_iadd dL_law_1600 ?_
  refine j_topi (y := nI (i6 + 1)) (nI_add _ _) ?_
  refine j_sald dL_law_1601 (by omega) (by omega) ?_
  refine j_topi (y := x1) e1 ?_
  refine j_cVp (As := [.int x1]) (rest := []) cm_X4_bestRun ci_X4_bestRun cs_X4_bestRun rfl ln_L_230 (ci := 4) rfl dL_law_1602 (d' := 6) (by decide) (by omega) h63 rfl rfl (Nat.le_of_ble_eq_true rfl) (Nat.le_of_ble_eq_true rfl) HM (fun E2 q2 => ?_)
  obtain ⟨fm2, h63b⟩ := hM _ q2
  show J g mL_law 12 bc bs 1605 [some (.ref g.1.2.1), some (.ref (ad 0)), some (.ref (ad 63)), some (.ref (ad 69)), some (.int (nI i6)), some (.int k), none, none, none] [.long b] n ad E2 Φ Ψ
  refine j_lstore (L' := [some (.ref g.1.2.1), some (.ref (ad 0)), some (.ref (ad 63)), some (.ref (ad 69)), some (.int (nI i6)), some (.int k), some (.long b), none, none]) dL_law_1605 (by decide) rfl rfl ?_
  refine j_aload_n dL_law_1607 rfl ?_
  refine j_cV (As := []) (rest := []) cm_X4_thrown ci_X4_thrown cs_X4_thrown rfl ln_L_133 (ci := 4) rfl dL_law_1608 (d' := 0) (by decide) (by omega) h63b rfl rfl (Nat.le_of_ble_eq_true rfl) (Nat.le_of_ble_eq_true rfl) (s_thrown' hn h63b) ?_
  refine j_iload dL_law_1611 rfl ?_
  refine j_icmp_eq_t (tgt := 1618) dL_law_1613 (by decide) rfl ?_
  refine j_iload dL_law_1618 rfl ?_
  refine j_if_ne_t (tgt := 1634) dL_law_1620 (by decide) hk ?_
  refine j_goto (tgt := 2592) dL_law_1634 (by decide) ?_
  refine j_clr 5 ?_
  refine j_clr 6 ?_
  exact K E2 q2
set_option maxRecDepth 100000 in
set_option maxHeartbeats 4000000 in
theorem lc_dryIn_ok {g : jG} {n : Nat} {ad : Nat → Nat} {E : Nat → va_E} {i6 bc bs : Nat} {Φ : Option Value → jR} {Ψ : String → jR} {fs fm : List Value} (hi : i6 + 6 ≤ g.1.2.2.1) (hL : g.1.2.2.1 ≤ 3072) (hn : 70 ≤ n) (h0 : E 0 = .inr (3, fs)) (h63 : E 63 = .inr (4, fm)) {x1 : Int32} (e1 : g.1.2.2.2 (i6 + 1) = x1) {x2 : Int32} (e2 : g.1.2.2.2 (i6 + 2) = x2) {x3 : Int32} (e3 : g.1.2.2.2 (i6 + 3) = x3) {x4 : Int32} (e4 : g.1.2.2.2 (i6 + 4) = x4) {v : Int32} {PC : (Nat → va_E) → Prop} {PM : (Nat → va_E) → (Nat → va_E) → Prop} (HH : HOk g mL_dryIn 11 [.ref (ad 0), .int x1, .int x2, .int x3, .int x4, .ref (ad 69)] n ad E v.toInt64 PC) (h69 : ∀ E1, PC E1 → E1 63 = E 63) (HM : ∀ E1 o, PC E1 → RetP g mX4_dryIn 6 [.ref (ad 63), .int x1, .int x2, .int x3, .int x4] n ad (va_up E1 69 (aL g 1 (vp_updL o 0 v.toInt64))) (some (.int v)) (PM (va_up E1 69 (aL g 1 (vp_updL o 0 v.toInt64))))) (hM : ∀ E1 E2, PM E1 E2 → (∃ f9, E2 63 = .inr (4, .int 0 :: f9)) ∧ E2 69 = E1 69) (K : ∀ E1 o E2, PC E1 → E1 69 = aL g 1 o → PM (va_up E1 69 (aL g 1 (vp_updL o 0 v.toInt64))) E2 → J g mL_law 12 bc bs 2592 [some (.ref g.1.2.1), some (.ref (ad 0)), some (.ref (ad 63)), some (.ref (ad 69)), some (.int (nI i6)), none, none, none, none] [] n ad E2 Φ Ψ) : J g mL_law 12 bc bs 1637 [some (.ref g.1.2.1), some (.ref (ad 0)), some (.ref (ad 63)), some (.ref (ad 69)), some (.int (nI i6)), none, none, none, none] [] n ad E Φ Ψ := by
  refine j_aload_n dL_law_1637 rfl ?_
  refine j_aload_n dL_law_1638 rfl ?_
  refine j_iload dL_law_1639 rfl ?_
  refine j_iconst (v := nI 1) dL_law_1641 (by decide) ?_
  refine j_iadd dL_law_1642 ?_
  refine j_topi (y := nI (i6 + 1)) (nI_add _ _) ?_
  refine j_sald dL_law_1643 (by omega) (by omega) ?_
  refine j_topi (y := x1) e1 ?_
  refine j_aload_n dL_law_1644 rfl ?_
  refine j_iload dL_law_1645 rfl ?_
  refine j_iconst (v := nI 2) dL_law_1647 (by decide) ?_
  refine j_iadd dL_law_1648 ?_
  refine j_topi (y := nI (i6 + 2)) (nI_add _ _) ?_
  refine j_sald dL_law_1649 (by omega) (by omega) ?_
  refine j_topi (y := x2) e2 ?_
  refine j_aload_n dL_law_1650 rfl ?_
  refine j_iload dL_law_1651 rfl ?_
  refine j_iconst (v := nI 3) dL_law_1653 (by decide) ?_
  refine j_iadd dL_law_1654 ?_
  refine j_topi (y := nI (i6 + 3)) (nI_add _ _) ?_
  refine j_sald dL_law_1655 (by omega) (by omega) ?_
  refine j_topi (y := x3) e3 ?_
  refine j_aload_n dL_law_1656 rfl ?_
  refine j_iload dL_law_1657 rfl ?_
  refine j_iconst (v := nI 4) dL_law_1659 (by decide) ?_
  refine j_iadd dL_law_1660 ?_
  refine j_topi (y := nI (i6 + 4)) (nI_add _ _) ?_
  refine j_sald dL_law_1661 (by omega) (by omega) ?_
  refine j_topi (y := x4) e4 ?_
  refine j_aload_n dL_law_1662 rfl ?_
  refine j_cSH (As := [.ref (ad 0), .int x1, .int x2, .int x3, .int x4, .ref (ad 69)]) (rest := []) cm_L_dryIn ct_L_dryIn ln_L_231 dL_law_1663 (d' := 11) (by decide) rfl rfl (Nat.le_of_ble_eq_true rfl) (Nat.le_of_ble_eq_true rfl) HH (fun E1 o p1 ho => ?_)
  obtain h63a := h69 E1 p1
  show J g mL_law 12 bc bs 1666 [some (.ref g.1.2.1), some (.ref (ad 0)), some (.ref (ad 63)), some (.ref (ad 69)), some (.int (nI i6)), none, none, none, none] [.int 0] n ad (va_up E1 69 (aL g 1 (vp_updL o 0 v.toInt64))) Φ Ψ
  refine j_istore (L' := [some (.ref g.1.2.1), some (.ref (ad 0)), some (.ref (ad 63)), some (.ref (ad 69)), some (.int (nI i6)), some (.int 0), none, none, none]) dL_law_1666 (by decide) rfl rfl ?_
  refine j_aload_n dL_law_1668 rfl ?_
  refine j_aload_n dL_law_1669 rfl ?_
  refine j_iload dL_law_1670 rfl ?_
  refine j_iconst (v := nI 1) dL_law_1672 (by decide) ?_
  refine j_iadd dL_law_1673 ?_
  refine j_topi (y := nI (i6 + 1)) (nI_add _ _) ?_
  refine j_sald dL_law_1674 (by omega) (by omega) ?_
  refine j_topi (y := x1) e1 ?_
  refine j_aload_n dL_law_1675 rfl ?_
  refine j_iload dL_law_1676 rfl ?_
  refine j_iconst (v := nI 2) dL_law_1678 (by decide) ?_
  refine j_iadd dL_law_1679 ?_
  refine j_topi (y := nI (i6 + 2)) (nI_add _ _) ?_
  refine j_sald dL_law_1680 (by omega) (by omega) ?_
  refine j_topi (y := x2) e2 ?_
  refine j_aload_n dL_law_1681 rfl ?_
  refine j_iload dL_law_1682 rfl ?_
  refine j_iconst (v := nI 3) dL_law_1684 (by decide) ?_
  refine j_iadd dL_law_1685 ?_
  refine j_topi (y := nI (i6 + 3)) (nI_add _ _) ?_
  refine j_sald dL_law_1686 (by omega) (by omega) ?_
  refine j_topi (y := x3) e3 ?_
  refine j_aload_n dL_law_1687 rfl ?_
  refine j_iload dL_law_1688 rfl ?_
  refine j_iconst (v := nI 4) dL_law_1690 (by decide) ?_
  refine j_iadd dL_law_1691 ?_
  refine j_topi (y := nI (i6 + 4)) (nI_add _ _) ?_
  refine j_sald dL_law_1692 (by omega) (by omega) ?_
  refine j_topi (y := x4) e4 ?_
  refine j_cVp (As := [.int x1, .int x2, .int x3, .int x4]) (rest := []) cm_X4_dryIn ci_X4_dryIn cs_X4_dryIn rfl ln_L_233 (ci := 4) rfl dL_law_1693 (d' := 6) (by decide) (by omega) ((up_ne (by decide)).trans (h63a.trans h63)) rfl rfl (Nat.le_of_ble_eq_true rfl) (Nat.le_of_ble_eq_true rfl) (HM E1 _ p1) (fun E2 q2 => ?_)
  obtain ⟨⟨fm2, h63b⟩, h69b⟩ := hM _ _ q2
  show J g mL_law 12 bc bs 1696 [some (.ref g.1.2.1), some (.ref (ad 0)), some (.ref (ad 63)), some (.ref (ad 69)), some (.int (nI i6)), some (.int 0), none, none, none] [.int v] n ad E2 Φ Ψ
  refine j_istore (L' := [some (.ref g.1.2.1), some (.ref (ad 0)), some (.ref (ad 63)), some (.ref (ad 69)), some (.int (nI i6)), some (.int 0), some (.int v), none, none]) dL_law_1696 (by decide) rfl rfl ?_
  refine j_aload_n dL_law_1698 rfl ?_
  refine j_cV (As := []) (rest := []) cm_X4_thrown ci_X4_thrown cs_X4_thrown rfl ln_L_133 (ci := 4) rfl dL_law_1699 (d' := 0) (by decide) (by omega) h63b rfl rfl (Nat.le_of_ble_eq_true rfl) (Nat.le_of_ble_eq_true rfl) (s_thrown' hn h63b) ?_
  refine j_iload dL_law_1702 rfl ?_
  refine j_icmp_eq_t (tgt := 1709) dL_law_1704 (by decide) (by decide) ?_
  refine j_iload dL_law_1709 rfl ?_
  refine j_if_ne_f (tgt := 1726) dL_law_1711 (by decide) (by decide) ?_
  refine j_aload_n dL_law_1714 rfl ?_
  refine j_iconst (v := nI 0) dL_law_1715 (by decide) ?_
  refine j_lald dL_law_1716 (by omega) (h69b.trans up_eq) (by decide) (by omega) rfl ?_
  refine j_topl (y := v.toInt64) (if_pos rfl) ?_
  refine j_iload dL_law_1717 rfl ?_
  refine j_i2l dL_law_1719 ?_
  refine j_lcmp dL_law_1720 ?_
  refine j_topi (y := 0) (lg_self _) ?_
  refine j_if_eq_t (tgt := 1726) dL_law_1721 (by decide) (by decide) ?_
  refine j_goto (tgt := 2592) dL_law_1726 (by decide) ?_
  refine j_clr 5 ?_
  refine j_clr 6 ?_
  exact K E1 o E2 p1 ho q2
set_option maxRecDepth 100000 in
set_option maxHeartbeats 4000000 in
theorem lc_dryIn_bad {g : jG} {n : Nat} {ad : Nat → Nat} {E : Nat → va_E} {i6 bc bs : Nat} {Φ : Option Value → jR} {Ψ : String → jR} {fs fm : List Value} (hi : i6 + 6 ≤ g.1.2.2.1) (hL : g.1.2.2.1 ≤ 3072) (hn : 70 ≤ n) (h0 : E 0 = .inr (3, fs)) (h63 : E 63 = .inr (4, fm)) {x1 : Int32} (e1 : g.1.2.2.2 (i6 + 1) = x1) {x2 : Int32} (e2 : g.1.2.2.2 (i6 + 2) = x2) {x3 : Int32} (e3 : g.1.2.2.2 (i6 + 3) = x3) {x4 : Int32} (e4 : g.1.2.2.2 (i6 + 4) = x4) {k : Int32} (hk : ¬ k = 0) {b : Int32} {PM : (Nat → va_E) → Prop} (HH : HBad g mL_dryIn 11 [.ref (ad 0), .int x1, .int x2, .int x3, .int x4, .ref (ad 69)] n ad E k) (HM : RetP g mX4_dryIn 6 [.ref (ad 63), .int x1, .int x2, .int x3, .int x4] n ad E (some (.int b)) PM) (hM : ∀ E2, PM E2 → ∃ f9, E2 63 = .inr (4, .int k :: f9)) (K : ∀ E2, PM E2 → J g mL_law 12 bc bs 2592 [some (.ref g.1.2.1), some (.ref (ad 0)), some (.ref (ad 63)), some (.ref (ad 69)), some (.int (nI i6)), none, none, none, none] [] n ad E2 Φ Ψ) : J g mL_law 12 (1 + bc) (6 + bs) 1637 [some (.ref g.1.2.1), some (.ref (ad 0)), some (.ref (ad 63)), some (.ref (ad 69)), some (.int (nI i6)), none, none, none, none] [] n ad E Φ Ψ := by
  refine j_aload_n dL_law_1637 rfl ?_
  refine j_aload_n dL_law_1638 rfl ?_
  refine j_iload dL_law_1639 rfl ?_
  refine j_iconst (v := nI 1) dL_law_1641 (by decide) ?_
  refine j_iadd dL_law_1642 ?_
  refine j_topi (y := nI (i6 + 1)) (nI_add _ _) ?_
  refine j_sald dL_law_1643 (by omega) (by omega) ?_
  refine j_topi (y := x1) e1 ?_
  refine j_aload_n dL_law_1644 rfl ?_
  refine j_iload dL_law_1645 rfl ?_
  refine j_iconst (v := nI 2) dL_law_1647 (by decide) ?_
  refine j_iadd dL_law_1648 ?_
  refine j_topi (y := nI (i6 + 2)) (nI_add _ _) ?_
  refine j_sald dL_law_1649 (by omega) (by omega) ?_
  refine j_topi (y := x2) e2 ?_
  refine j_aload_n dL_law_1650 rfl ?_
  refine j_iload dL_law_1651 rfl ?_
  refine j_iconst (v := nI 3) dL_law_1653 (by decide) ?_
  refine j_iadd dL_law_1654 ?_
  refine j_topi (y := nI (i6 + 3)) (nI_add _ _) ?_
  refine j_sald dL_law_1655 (by omega) (by omega) ?_
  refine j_topi (y := x3) e3 ?_
  refine j_aload_n dL_law_1656 rfl ?_
  refine j_iload dL_law_1657 rfl ?_
  refine j_iconst (v := nI 4) dL_law_1659 (by decide) ?_
  refine j_iadd dL_law_1660 ?_
  refine j_topi (y := nI (i6 + 4)) (nI_add _ _) ?_
  refine j_sald dL_law_1661 (by omega) (by omega) ?_
  refine j_topi (y := x4) e4 ?_
  refine j_aload_n dL_law_1662 rfl ?_
  refine j_cSB (As := [.ref (ad 0), .int x1, .int x2, .int x3, .int x4, .ref (ad 69)]) (rest := []) cm_L_dryIn ct_L_dryIn ln_L_231 dL_law_1663 (d' := 11) (by decide) rfl rfl (Nat.le_of_ble_eq_true rfl) (Nat.le_of_ble_eq_true rfl) HH ?_
  show J g mL_law 12 bc bs 1666 [some (.ref g.1.2.1), some (.ref (ad 0)), some (.ref (ad 63)), some (.ref (ad 69)), some (.int (nI i6)), none, none, none, none] [.int k] n ad E Φ Ψ
  refine j_istore (L' := [some (.ref g.1.2.1), some (.ref (ad 0)), some (.ref (ad 63)), some (.ref (ad 69)), some (.int (nI i6)), some (.int k), none, none, none]) dL_law_1666 (by decide) rfl rfl ?_
  refine j_aload_n dL_law_1668 rfl ?_
  refine j_aload_n dL_law_1669 rfl ?_
  refine j_iload dL_law_1670 rfl ?_
  refine j_iconst (v := nI 1) dL_law_1672 (by decide) ?_
  refine j_iadd dL_law_1673 ?_
  refine j_topi (y := nI (i6 + 1)) (nI_add _ _) ?_
  refine j_sald dL_law_1674 (by omega) (by omega) ?_
  refine j_topi (y := x1) e1 ?_
  refine j_aload_n dL_law_1675 rfl ?_
  refine j_iload dL_law_1676 rfl ?_
  refine j_iconst (v := nI 2) dL_law_1678 (by decide) ?_
  refine j_iadd dL_law_1679 ?_
  refine j_topi (y := nI (i6 + 2)) (nI_add _ _) ?_
  refine j_sald dL_law_1680 (by omega) (by omega) ?_
  refine j_topi (y := x2) e2 ?_
  refine j_aload_n dL_law_1681 rfl ?_
  refine j_iload dL_law_1682 rfl ?_
  refine j_iconst (v := nI 3) dL_law_1684 (by decide) ?_
  refine j_iadd dL_law_1685 ?_
  refine j_topi (y := nI (i6 + 3)) (nI_add _ _) ?_
  refine j_sald dL_law_1686 (by omega) (by omega) ?_
  refine j_topi (y := x3) e3 ?_
  refine j_aload_n dL_law_1687 rfl ?_
  refine j_iload dL_law_1688 rfl ?_
  refine j_iconst (v := nI 4) dL_law_1690 (by decide) ?_
  refine j_iadd dL_law_1691 ?_
  refine j_topi (y := nI (i6 + 4)) (nI_add _ _) ?_
  refine j_sald dL_law_1692 (by omega) (by omega) ?_
  refine j_topi (y := x4) e4 ?_
  refine j_cVp (As := [.int x1, .int x2, .int x3, .int x4]) (rest := []) cm_X4_dryIn ci_X4_dryIn cs_X4_dryIn rfl ln_L_233 (ci := 4) rfl dL_law_1693 (d' := 6) (by decide) (by omega) h63 rfl rfl (Nat.le_of_ble_eq_true rfl) (Nat.le_of_ble_eq_true rfl) HM (fun E2 q2 => ?_)
  obtain ⟨fm2, h63b⟩ := hM _ q2
  show J g mL_law 12 bc bs 1696 [some (.ref g.1.2.1), some (.ref (ad 0)), some (.ref (ad 63)), some (.ref (ad 69)), some (.int (nI i6)), some (.int k), none, none, none] [.int b] n ad E2 Φ Ψ
  refine j_istore (L' := [some (.ref g.1.2.1), some (.ref (ad 0)), some (.ref (ad 63)), some (.ref (ad 69)), some (.int (nI i6)), some (.int k), some (.int b), none, none]) dL_law_1696 (by decide) rfl rfl ?_
  refine j_aload_n dL_law_1698 rfl ?_
  refine j_cV (As := []) (rest := []) cm_X4_thrown ci_X4_thrown cs_X4_thrown rfl ln_L_133 (ci := 4) rfl dL_law_1699 (d' := 0) (by decide) (by omega) h63b rfl rfl (Nat.le_of_ble_eq_true rfl) (Nat.le_of_ble_eq_true rfl) (s_thrown' hn h63b) ?_
  refine j_iload dL_law_1702 rfl ?_
  refine j_icmp_eq_t (tgt := 1709) dL_law_1704 (by decide) rfl ?_
  refine j_iload dL_law_1709 rfl ?_
  refine j_if_ne_t (tgt := 1726) dL_law_1711 (by decide) hk ?_
  refine j_goto (tgt := 2592) dL_law_1726 (by decide) ?_
  refine j_clr 5 ?_
  refine j_clr 6 ?_
  exact K E2 q2
set_option maxRecDepth 100000 in
set_option maxHeartbeats 4000000 in
theorem lc_dry {g : jG} {n : Nat} {ad : Nat → Nat} {E : Nat → va_E} {i6 bc bs : Nat} {Φ : Option Value → jR} {Ψ : String → jR} {fs fm : List Value} (hi : i6 + 6 ≤ g.1.2.2.1) (hL : g.1.2.2.1 ≤ 3072) (hn : 70 ≤ n) (h0 : E 0 = .inr (3, fs)) (h63 : E 63 = .inr (4, fm)) {v : Int32} {PC : (Nat → va_E) → Prop} {PM : (Nat → va_E) → (Nat → va_E) → Prop} (HC : RetP g mX3_dry 10 [.ref (ad 0)] n ad E (some (.int v)) PC) (h69 : ∀ E1, PC E1 → E1 63 = E 63) (HM : ∀ E1, PC E1 → RetP g mX4_dry 6 [.ref (ad 63)] n ad E1 (some (.int v)) (PM E1)) (K : ∀ E1 E2, PC E1 → PM E1 E2 → J g mL_law 12 bc bs 2592 [some (.ref g.1.2.1), some (.ref (ad 0)), some (.ref (ad 63)), some (.ref (ad 69)), some (.int (nI i6)), none, none, none, none] [] n ad E2 Φ Ψ) : J g mL_law 12 bc bs 1729 [some (.ref g.1.2.1), some (.ref (ad 0)), some (.ref (ad 63)), some (.ref (ad 69)), some (.int (nI i6)), none, none, none, none] [] n ad E Φ Ψ := by
  refine j_aload_n dL_law_1729 rfl ?_
  refine j_cVp (As := []) (rest := []) cm_X3_dry ci_X3_dry cs_X3_dry rfl ln_L_234 (ci := 3) rfl dL_law_1730 (d' := 10) (by decide) (by omega) h0 rfl rfl (Nat.le_of_ble_eq_true rfl) (Nat.le_of_ble_eq_true rfl) HC (fun E1 p1 => ?_)
  obtain h63a := h69 E1 p1
  show J g mL_law 12 bc bs 1733 [some (.ref g.1.2.1), some (.ref (ad 0)), some (.ref (ad 63)), some (.ref (ad 69)), some (.int (nI i6)), none, none, none, none] [.int v] n ad E1 Φ Ψ
  refine j_aload_n dL_law_1733 rfl ?_
  refine j_cVp (As := []) (rest := [.int v]) cm_X4_dry ci_X4_dry cs_X4_dry rfl ln_L_237 (ci := 4) rfl dL_law_1734 (d' := 6) (by decide) (by omega) (h63a.trans h63) rfl rfl (Nat.le_of_ble_eq_true rfl) (Nat.le_of_ble_eq_true rfl) (HM E1 p1) (fun E2 q2 => ?_)
  show J g mL_law 12 bc bs 1737 [some (.ref g.1.2.1), some (.ref (ad 0)), some (.ref (ad 63)), some (.ref (ad 69)), some (.int (nI i6)), none, none, none, none] [.int v, .int v] n ad E2 Φ Ψ
  refine j_icmp_eq_t (tgt := 2592) dL_law_1737 (by decide) rfl ?_
  exact K E1 E2 p1 q2
set_option maxRecDepth 100000 in
set_option maxHeartbeats 4000000 in
theorem lc_dryAt_ok {g : jG} {n : Nat} {ad : Nat → Nat} {E : Nat → va_E} {i6 bc bs : Nat} {Φ : Option Value → jR} {Ψ : String → jR} {fs fm : List Value} (hi : i6 + 6 ≤ g.1.2.2.1) (hL : g.1.2.2.1 ≤ 3072) (hn : 70 ≤ n) (h0 : E 0 = .inr (3, fs)) (h63 : E 63 = .inr (4, fm)) {x1 : Int32} (e1 : g.1.2.2.2 (i6 + 1) = x1) {v : Int32} {PC : (Nat → va_E) → Prop} {PM : (Nat → va_E) → (Nat → va_E) → Prop} (HH : HOk g mL_dryAt 11 [.ref (ad 0), .int x1, .ref (ad 69)] n ad E v.toInt64 PC) (h69 : ∀ E1, PC E1 → E1 63 = E 63) (HM : ∀ E1 o, PC E1 → RetP g mX4_dryAt 6 [.ref (ad 63), .int x1] n ad (va_up E1 69 (aL g 1 (vp_updL o 0 v.toInt64))) (some (.int v)) (PM (va_up E1 69 (aL g 1 (vp_updL o 0 v.toInt64))))) (hM : ∀ E1 E2, PM E1 E2 → (∃ f9, E2 63 = .inr (4, .int 0 :: f9)) ∧ E2 69 = E1 69) (K : ∀ E1 o E2, PC E1 → E1 69 = aL g 1 o → PM (va_up E1 69 (aL g 1 (vp_updL o 0 v.toInt64))) E2 → J g mL_law 12 bc bs 2592 [some (.ref g.1.2.1), some (.ref (ad 0)), some (.ref (ad 63)), some (.ref (ad 69)), some (.int (nI i6)), none, none, none, none] [] n ad E2 Φ Ψ) : J g mL_law 12 bc bs 1742 [some (.ref g.1.2.1), some (.ref (ad 0)), some (.ref (ad 63)), some (.ref (ad 69)), some (.int (nI i6)), none, none, none, none] [] n ad E Φ Ψ := by
  refine j_aload_n dL_law_1742 rfl ?_
  refine j_aload_n dL_law_1743 rfl ?_
  refine j_iload dL_law_1744 rfl ?_
  refine j_iconst (v := nI 1) dL_law_1746 (by decide) ?_
  refine j_iadd dL_law_1747 ?_
  refine j_topi (y := nI (i6 + 1)) (nI_add _ _) ?_
  refine j_sald dL_law_1748 (by omega) (by omega) ?_
  refine j_topi (y := x1) e1 ?_
  refine j_aload_n dL_law_1749 rfl ?_
  refine j_cSH (As := [.ref (ad 0), .int x1, .ref (ad 69)]) (rest := []) cm_L_dryAt ct_L_dryAt ln_L_238 dL_law_1750 (d' := 11) (by decide) rfl rfl (Nat.le_of_ble_eq_true rfl) (Nat.le_of_ble_eq_true rfl) HH (fun E1 o p1 ho => ?_)
  obtain h63a := h69 E1 p1
  show J g mL_law 12 bc bs 1753 [some (.ref g.1.2.1), some (.ref (ad 0)), some (.ref (ad 63)), some (.ref (ad 69)), some (.int (nI i6)), none, none, none, none] [.int 0] n ad (va_up E1 69 (aL g 1 (vp_updL o 0 v.toInt64))) Φ Ψ
  refine j_istore (L' := [some (.ref g.1.2.1), some (.ref (ad 0)), some (.ref (ad 63)), some (.ref (ad 69)), some (.int (nI i6)), some (.int 0), none, none, none]) dL_law_1753 (by decide) rfl rfl ?_
  refine j_aload_n dL_law_1755 rfl ?_
  refine j_aload_n dL_law_1756 rfl ?_
  refine j_iload dL_law_1757 rfl ?_
  refine j_iconst (v := nI 1) dL_law_1759 (by decide) ?_
  refine j_iadd dL_law_1760 ?_
  refine j_topi (y := nI (i6 + 1)) (nI_add _ _) ?_
  refine j_sald dL_law_1761 (by omega) (by omega) ?_
  refine j_topi (y := x1) e1 ?_
  refine j_cVp (As := [.int x1]) (rest := []) cm_X4_dryAt ci_X4_dryAt cs_X4_dryAt rfl ln_L_240 (ci := 4) rfl dL_law_1762 (d' := 6) (by decide) (by omega) ((up_ne (by decide)).trans (h63a.trans h63)) rfl rfl (Nat.le_of_ble_eq_true rfl) (Nat.le_of_ble_eq_true rfl) (HM E1 _ p1) (fun E2 q2 => ?_)
  obtain ⟨⟨fm2, h63b⟩, h69b⟩ := hM _ _ q2
  show J g mL_law 12 bc bs 1765 [some (.ref g.1.2.1), some (.ref (ad 0)), some (.ref (ad 63)), some (.ref (ad 69)), some (.int (nI i6)), some (.int 0), none, none, none] [.int v] n ad E2 Φ Ψ
  refine j_istore (L' := [some (.ref g.1.2.1), some (.ref (ad 0)), some (.ref (ad 63)), some (.ref (ad 69)), some (.int (nI i6)), some (.int 0), some (.int v), none, none]) dL_law_1765 (by decide) rfl rfl ?_
  refine j_aload_n dL_law_1767 rfl ?_
  refine j_cV (As := []) (rest := []) cm_X4_thrown ci_X4_thrown cs_X4_thrown rfl ln_L_133 (ci := 4) rfl dL_law_1768 (d' := 0) (by decide) (by omega) h63b rfl rfl (Nat.le_of_ble_eq_true rfl) (Nat.le_of_ble_eq_true rfl) (s_thrown' hn h63b) ?_
  refine j_iload dL_law_1771 rfl ?_
  refine j_icmp_eq_t (tgt := 1778) dL_law_1773 (by decide) (by decide) ?_
  refine j_iload dL_law_1778 rfl ?_
  refine j_if_ne_f (tgt := 1795) dL_law_1780 (by decide) (by decide) ?_
  refine j_aload_n dL_law_1783 rfl ?_
  refine j_iconst (v := nI 0) dL_law_1784 (by decide) ?_
  refine j_lald dL_law_1785 (by omega) (h69b.trans up_eq) (by decide) (by omega) rfl ?_
  refine j_topl (y := v.toInt64) (if_pos rfl) ?_
  refine j_iload dL_law_1786 rfl ?_
  refine j_i2l dL_law_1788 ?_
  refine j_lcmp dL_law_1789 ?_
  refine j_topi (y := 0) (lg_self _) ?_
  refine j_if_eq_t (tgt := 1795) dL_law_1790 (by decide) (by decide) ?_
  refine j_goto (tgt := 2592) dL_law_1795 (by decide) ?_
  refine j_clr 5 ?_
  refine j_clr 6 ?_
  exact K E1 o E2 p1 ho q2
set_option maxRecDepth 100000 in
set_option maxHeartbeats 4000000 in
theorem lc_dryAt_bad {g : jG} {n : Nat} {ad : Nat → Nat} {E : Nat → va_E} {i6 bc bs : Nat} {Φ : Option Value → jR} {Ψ : String → jR} {fs fm : List Value} (hi : i6 + 6 ≤ g.1.2.2.1) (hL : g.1.2.2.1 ≤ 3072) (hn : 70 ≤ n) (h0 : E 0 = .inr (3, fs)) (h63 : E 63 = .inr (4, fm)) {x1 : Int32} (e1 : g.1.2.2.2 (i6 + 1) = x1) {k : Int32} (hk : ¬ k = 0) {b : Int32} {PM : (Nat → va_E) → Prop} (HH : HBad g mL_dryAt 11 [.ref (ad 0), .int x1, .ref (ad 69)] n ad E k) (HM : RetP g mX4_dryAt 6 [.ref (ad 63), .int x1] n ad E (some (.int b)) PM) (hM : ∀ E2, PM E2 → ∃ f9, E2 63 = .inr (4, .int k :: f9)) (K : ∀ E2, PM E2 → J g mL_law 12 bc bs 2592 [some (.ref g.1.2.1), some (.ref (ad 0)), some (.ref (ad 63)), some (.ref (ad 69)), some (.int (nI i6)), none, none, none, none] [] n ad E2 Φ Ψ) : J g mL_law 12 (1 + bc) (6 + bs) 1742 [some (.ref g.1.2.1), some (.ref (ad 0)), some (.ref (ad 63)), some (.ref (ad 69)), some (.int (nI i6)), none, none, none, none] [] n ad E Φ Ψ := by
  refine j_aload_n dL_law_1742 rfl ?_
  refine j_aload_n dL_law_1743 rfl ?_
  refine j_iload dL_law_1744 rfl ?_
  refine j_iconst (v := nI 1) dL_law_1746 (by decide) ?_
  refine j_iadd dL_law_1747 ?_
  refine j_topi (y := nI (i6 + 1)) (nI_add _ _) ?_
  refine j_sald dL_law_1748 (by omega) (by omega) ?_
  refine j_topi (y := x1) e1 ?_
  refine j_aload_n dL_law_1749 rfl ?_
  refine j_cSB (As := [.ref (ad 0), .int x1, .ref (ad 69)]) (rest := []) cm_L_dryAt ct_L_dryAt ln_L_238 dL_law_1750 (d' := 11) (by decide) rfl rfl (Nat.le_of_ble_eq_true rfl) (Nat.le_of_ble_eq_true rfl) HH ?_
  show J g mL_law 12 bc bs 1753 [some (.ref g.1.2.1), some (.ref (ad 0)), some (.ref (ad 63)), some (.ref (ad 69)), some (.int (nI i6)), none, none, none, none] [.int k] n ad E Φ Ψ
  refine j_istore (L' := [some (.ref g.1.2.1), some (.ref (ad 0)), some (.ref (ad 63)), some (.ref (ad 69)), some (.int (nI i6)), some (.int k), none, none, none]) dL_law_1753 (by decide) rfl rfl ?_
  refine j_aload_n dL_law_1755 rfl ?_
  refine j_aload_n dL_law_1756 rfl ?_
  refine j_iload dL_law_1757 rfl ?_
  refine j_iconst (v := nI 1) dL_law_1759 (by decide) ?_
  refine j_iadd dL_law_1760 ?_
  refine j_topi (y := nI (i6 + 1)) (nI_add _ _) ?_
  refine j_sald dL_law_1761 (by omega) (by omega) ?_
  refine j_topi (y := x1) e1 ?_
  refine j_cVp (As := [.int x1]) (rest := []) cm_X4_dryAt ci_X4_dryAt cs_X4_dryAt rfl ln_L_240 (ci := 4) rfl dL_law_1762 (d' := 6) (by decide) (by omega) h63 rfl rfl (Nat.le_of_ble_eq_true rfl) (Nat.le_of_ble_eq_true rfl) HM (fun E2 q2 => ?_)
  obtain ⟨fm2, h63b⟩ := hM _ q2
  show J g mL_law 12 bc bs 1765 [some (.ref g.1.2.1), some (.ref (ad 0)), some (.ref (ad 63)), some (.ref (ad 69)), some (.int (nI i6)), some (.int k), none, none, none] [.int b] n ad E2 Φ Ψ
  refine j_istore (L' := [some (.ref g.1.2.1), some (.ref (ad 0)), some (.ref (ad 63)), some (.ref (ad 69)), some (.int (nI i6)), some (.int k), some (.int b), none, none]) dL_law_1765 (by decide) rfl rfl ?_
  refine j_aload_n dL_law_1767 rfl ?_
  refine j_cV (As := []) (rest := []) cm_X4_thrown ci_X4_thrown cs_X4_thrown rfl ln_L_133 (ci := 4) rfl dL_law_1768 (d' := 0) (by decide) (by omega) h63b rfl rfl (Nat.le_of_ble_eq_true rfl) (Nat.le_of_ble_eq_true rfl) (s_thrown' hn h63b) ?_
  refine j_iload dL_law_1771 rfl ?_
  refine j_icmp_eq_t (tgt := 1778) dL_law_1773 (by decide) rfl ?_
  refine j_iload dL_law_1778 rfl ?_
  refine j_if_ne_t (tgt := 1795) dL_law_1780 (by decide) hk ?_
  refine j_goto (tgt := 2592) dL_law_1795 (by decide) ?_
  refine j_clr 5 ?_
  refine j_clr 6 ?_
  exact K E2 q2
set_option maxRecDepth 100000 in
set_option maxHeartbeats 4000000 in
theorem lc_longestDry_ok {g : jG} {n : Nat} {ad : Nat → Nat} {E : Nat → va_E} {i6 bc bs : Nat} {Φ : Option Value → jR} {Ψ : String → jR} {fs fm : List Value} (hi : i6 + 6 ≤ g.1.2.2.1) (hL : g.1.2.2.1 ≤ 3072) (hn : 70 ≤ n) (h0 : E 0 = .inr (3, fs)) (h63 : E 63 = .inr (4, fm)) {x1 : Int32} (e1 : g.1.2.2.2 (i6 + 1) = x1) {v : Int32} {PC : (Nat → va_E) → Prop} {PM : (Nat → va_E) → (Nat → va_E) → Prop} (HH : HOk g mL_longestDry 11 [.ref (ad 0), .int x1, .ref (ad 69)] n ad E v.toInt64 PC) (h69 : ∀ E1, PC E1 → E1 63 = E 63) (HM : ∀ E1 o, PC E1 → RetP g mX4_longestDry 6 [.ref (ad 63), .int x1] n ad (va_up E1 69 (aL g 1 (vp_updL o 0 v.toInt64))) (some (.int v)) (PM (va_up E1 69 (aL g 1 (vp_updL o 0 v.toInt64))))) (hM : ∀ E1 E2, PM E1 E2 → (∃ f9, E2 63 = .inr (4, .int 0 :: f9)) ∧ E2 69 = E1 69) (K : ∀ E1 o E2, PC E1 → E1 69 = aL g 1 o → PM (va_up E1 69 (aL g 1 (vp_updL o 0 v.toInt64))) E2 → J g mL_law 12 bc bs 2592 [some (.ref g.1.2.1), some (.ref (ad 0)), some (.ref (ad 63)), some (.ref (ad 69)), some (.int (nI i6)), none, none, none, none] [] n ad E2 Φ Ψ) : J g mL_law 12 bc bs 1798 [some (.ref g.1.2.1), some (.ref (ad 0)), some (.ref (ad 63)), some (.ref (ad 69)), some (.int (nI i6)), none, none, none, none] [] n ad E Φ Ψ := by
  refine j_aload_n dL_law_1798 rfl ?_
  refine j_aload_n dL_law_1799 rfl ?_
  refine j_iload dL_law_1800 rfl ?_
  refine j_iconst (v := nI 1) dL_law_1802 (by decide) ?_
  refine j_iadd dL_law_1803 ?_
  refine j_topi (y := nI (i6 + 1)) (nI_add _ _) ?_
  refine j_sald dL_law_1804 (by omega) (by omega) ?_
  refine j_topi (y := x1) e1 ?_
  refine j_aload_n dL_law_1805 rfl ?_
  refine j_cSH (As := [.ref (ad 0), .int x1, .ref (ad 69)]) (rest := []) cm_L_longestDry ct_L_longestDry ln_L_241 dL_law_1806 (d' := 11) (by decide) rfl rfl (Nat.le_of_ble_eq_true rfl) (Nat.le_of_ble_eq_true rfl) HH (fun E1 o p1 ho => ?_)
  obtain h63a := h69 E1 p1
  show J g mL_law 12 bc bs 1809 [some (.ref g.1.2.1), some (.ref (ad 0)), some (.ref (ad 63)), some (.ref (ad 69)), some (.int (nI i6)), none, none, none, none] [.int 0] n ad (va_up E1 69 (aL g 1 (vp_updL o 0 v.toInt64))) Φ Ψ
  refine j_istore (L' := [some (.ref g.1.2.1), some (.ref (ad 0)), some (.ref (ad 63)), some (.ref (ad 69)), some (.int (nI i6)), some (.int 0), none, none, none]) dL_law_1809 (by decide) rfl rfl ?_
  refine j_aload_n dL_law_1811 rfl ?_
  refine j_aload_n dL_law_1812 rfl ?_
  refine j_iload dL_law_1813 rfl ?_
  refine j_iconst (v := nI 1) dL_law_1815 (by decide) ?_
  refine j_iadd dL_law_1816 ?_
  refine j_topi (y := nI (i6 + 1)) (nI_add _ _) ?_
  refine j_sald dL_law_1817 (by omega) (by omega) ?_
  refine j_topi (y := x1) e1 ?_
  refine j_cVp (As := [.int x1]) (rest := []) cm_X4_longestDry ci_X4_longestDry cs_X4_longestDry rfl ln_L_243 (ci := 4) rfl dL_law_1818 (d' := 6) (by decide) (by omega) ((up_ne (by decide)).trans (h63a.trans h63)) rfl rfl (Nat.le_of_ble_eq_true rfl) (Nat.le_of_ble_eq_true rfl) (HM E1 _ p1) (fun E2 q2 => ?_)
  obtain ⟨⟨fm2, h63b⟩, h69b⟩ := hM _ _ q2
  show J g mL_law 12 bc bs 1821 [some (.ref g.1.2.1), some (.ref (ad 0)), some (.ref (ad 63)), some (.ref (ad 69)), some (.int (nI i6)), some (.int 0), none, none, none] [.int v] n ad E2 Φ Ψ
  refine j_istore (L' := [some (.ref g.1.2.1), some (.ref (ad 0)), some (.ref (ad 63)), some (.ref (ad 69)), some (.int (nI i6)), some (.int 0), some (.int v), none, none]) dL_law_1821 (by decide) rfl rfl ?_
  refine j_aload_n dL_law_1823 rfl ?_
  refine j_cV (As := []) (rest := []) cm_X4_thrown ci_X4_thrown cs_X4_thrown rfl ln_L_133 (ci := 4) rfl dL_law_1824 (d' := 0) (by decide) (by omega) h63b rfl rfl (Nat.le_of_ble_eq_true rfl) (Nat.le_of_ble_eq_true rfl) (s_thrown' hn h63b) ?_
  refine j_iload dL_law_1827 rfl ?_
  refine j_icmp_eq_t (tgt := 1834) dL_law_1829 (by decide) (by decide) ?_
  refine j_iload dL_law_1834 rfl ?_
  refine j_if_ne_f (tgt := 1851) dL_law_1836 (by decide) (by decide) ?_
  refine j_aload_n dL_law_1839 rfl ?_
  refine j_iconst (v := nI 0) dL_law_1840 (by decide) ?_
  refine j_lald dL_law_1841 (by omega) (h69b.trans up_eq) (by decide) (by omega) rfl ?_
  refine j_topl (y := v.toInt64) (if_pos rfl) ?_
  refine j_iload dL_law_1842 rfl ?_
  refine j_i2l dL_law_1844 ?_
  refine j_lcmp dL_law_1845 ?_
  refine j_topi (y := 0) (lg_self _) ?_
  refine j_if_eq_t (tgt := 1851) dL_law_1846 (by decide) (by decide) ?_
  refine j_goto (tgt := 2592) dL_law_1851 (by decide) ?_
  refine j_clr 5 ?_
  refine j_clr 6 ?_
  exact K E1 o E2 p1 ho q2
set_option maxRecDepth 100000 in
set_option maxHeartbeats 4000000 in
theorem lc_longestDry_bad {g : jG} {n : Nat} {ad : Nat → Nat} {E : Nat → va_E} {i6 bc bs : Nat} {Φ : Option Value → jR} {Ψ : String → jR} {fs fm : List Value} (hi : i6 + 6 ≤ g.1.2.2.1) (hL : g.1.2.2.1 ≤ 3072) (hn : 70 ≤ n) (h0 : E 0 = .inr (3, fs)) (h63 : E 63 = .inr (4, fm)) {x1 : Int32} (e1 : g.1.2.2.2 (i6 + 1) = x1) {k : Int32} (hk : ¬ k = 0) {b : Int32} {PM : (Nat → va_E) → Prop} (HH : HBad g mL_longestDry 11 [.ref (ad 0), .int x1, .ref (ad 69)] n ad E k) (HM : RetP g mX4_longestDry 6 [.ref (ad 63), .int x1] n ad E (some (.int b)) PM) (hM : ∀ E2, PM E2 → ∃ f9, E2 63 = .inr (4, .int k :: f9)) (K : ∀ E2, PM E2 → J g mL_law 12 bc bs 2592 [some (.ref g.1.2.1), some (.ref (ad 0)), some (.ref (ad 63)), some (.ref (ad 69)), some (.int (nI i6)), none, none, none, none] [] n ad E2 Φ Ψ) : J g mL_law 12 (1 + bc) (6 + bs) 1798 [some (.ref g.1.2.1), some (.ref (ad 0)), some (.ref (ad 63)), some (.ref (ad 69)), some (.int (nI i6)), none, none, none, none] [] n ad E Φ Ψ := by
  refine j_aload_n dL_law_1798 rfl ?_
  refine j_aload_n dL_law_1799 rfl ?_
  refine j_iload dL_law_1800 rfl ?_
  refine j_iconst (v := nI 1) dL_law_1802 (by decide) ?_
  refine j_iadd dL_law_1803 ?_
  refine j_topi (y := nI (i6 + 1)) (nI_add _ _) ?_
  refine j_sald dL_law_1804 (by omega) (by omega) ?_
  refine j_topi (y := x1) e1 ?_
  refine j_aload_n dL_law_1805 rfl ?_
  refine j_cSB (As := [.ref (ad 0), .int x1, .ref (ad 69)]) (rest := []) cm_L_longestDry ct_L_longestDry ln_L_241 dL_law_1806 (d' := 11) (by decide) rfl rfl (Nat.le_of_ble_eq_true rfl) (Nat.le_of_ble_eq_true rfl) HH ?_
  show J g mL_law 12 bc bs 1809 [some (.ref g.1.2.1), some (.ref (ad 0)), some (.ref (ad 63)), some (.ref (ad 69)), some (.int (nI i6)), none, none, none, none] [.int k] n ad E Φ Ψ
  refine j_istore (L' := [some (.ref g.1.2.1), some (.ref (ad 0)), some (.ref (ad 63)), some (.ref (ad 69)), some (.int (nI i6)), some (.int k), none, none, none]) dL_law_1809 (by decide) rfl rfl ?_
  refine j_aload_n dL_law_1811 rfl ?_
  refine j_aload_n dL_law_1812 rfl ?_
  refine j_iload dL_law_1813 rfl ?_
  refine j_iconst (v := nI 1) dL_law_1815 (by decide) ?_
  refine j_iadd dL_law_1816 ?_
  refine j_topi (y := nI (i6 + 1)) (nI_add _ _) ?_
  refine j_sald dL_law_1817 (by omega) (by omega) ?_
  refine j_topi (y := x1) e1 ?_
  refine j_cVp (As := [.int x1]) (rest := []) cm_X4_longestDry ci_X4_longestDry cs_X4_longestDry rfl ln_L_243 (ci := 4) rfl dL_law_1818 (d' := 6) (by decide) (by omega) h63 rfl rfl (Nat.le_of_ble_eq_true rfl) (Nat.le_of_ble_eq_true rfl) HM (fun E2 q2 => ?_)
  obtain ⟨fm2, h63b⟩ := hM _ q2
  show J g mL_law 12 bc bs 1821 [some (.ref g.1.2.1), some (.ref (ad 0)), some (.ref (ad 63)), some (.ref (ad 69)), some (.int (nI i6)), some (.int k), none, none, none] [.int b] n ad E2 Φ Ψ
  refine j_istore (L' := [some (.ref g.1.2.1), some (.ref (ad 0)), some (.ref (ad 63)), some (.ref (ad 69)), some (.int (nI i6)), some (.int k), some (.int b), none, none]) dL_law_1821 (by decide) rfl rfl ?_
  refine j_aload_n dL_law_1823 rfl ?_
  refine j_cV (As := []) (rest := []) cm_X4_thrown ci_X4_thrown cs_X4_thrown rfl ln_L_133 (ci := 4) rfl dL_law_1824 (d' := 0) (by decide) (by omega) h63b rfl rfl (Nat.le_of_ble_eq_true rfl) (Nat.le_of_ble_eq_true rfl) (s_thrown' hn h63b) ?_
  refine j_iload dL_law_1827 rfl ?_
  refine j_icmp_eq_t (tgt := 1834) dL_law_1829 (by decide) rfl ?_
  refine j_iload dL_law_1834 rfl ?_
  refine j_if_ne_t (tgt := 1851) dL_law_1836 (by decide) hk ?_
  refine j_goto (tgt := 2592) dL_law_1851 (by decide) ?_
  refine j_clr 5 ?_
  refine j_clr 6 ?_
  exact K E2 q2
set_option maxRecDepth 100000 in
set_option maxHeartbeats 4000000 in
theorem lc_driestFlight {g : jG} {n : Nat} {ad : Nat → Nat} {E : Nat → va_E} {i6 bc bs : Nat} {Φ : Option Value → jR} {Ψ : String → jR} {fs fm : List Value} (hi : i6 + 6 ≤ g.1.2.2.1) (hL : g.1.2.2.1 ≤ 3072) (hn : 70 ≤ n) (h0 : E 0 = .inr (3, fs)) (h63 : E 63 = .inr (4, fm)) {v : Int32} {PC : (Nat → va_E) → Prop} {PM : (Nat → va_E) → (Nat → va_E) → Prop} (HC : RetP g mX3_driestFlight 10 [.ref (ad 0)] n ad E (some (.int v)) PC) (h69 : ∀ E1, PC E1 → E1 63 = E 63) (HM : ∀ E1, PC E1 → RetP g mX4_driestFlight 6 [.ref (ad 63)] n ad E1 (some (.int v)) (PM E1)) (K : ∀ E1 E2, PC E1 → PM E1 E2 → J g mL_law 12 bc bs 2592 [some (.ref g.1.2.1), some (.ref (ad 0)), some (.ref (ad 63)), some (.ref (ad 69)), some (.int (nI i6)), none, none, none, none] [] n ad E2 Φ Ψ) : J g mL_law 12 bc bs 1854 [some (.ref g.1.2.1), some (.ref (ad 0)), some (.ref (ad 63)), some (.ref (ad 69)), some (.int (nI i6)), none, none, none, none] [] n ad E Φ Ψ := by
  refine j_aload_n dL_law_1854 rfl ?_
  refine j_cVp (As := []) (rest := []) cm_X3_driestFlight ci_X3_driestFlight cs_X3_driestFlight rfl ln_L_244 (ci := 3) rfl dL_law_1855 (d' := 10) (by decide) (by omega) h0 rfl rfl (Nat.le_of_ble_eq_true rfl) (Nat.le_of_ble_eq_true rfl) HC (fun E1 p1 => ?_)
  obtain h63a := h69 E1 p1
  show J g mL_law 12 bc bs 1858 [some (.ref g.1.2.1), some (.ref (ad 0)), some (.ref (ad 63)), some (.ref (ad 69)), some (.int (nI i6)), none, none, none, none] [.int v] n ad E1 Φ Ψ
  refine j_aload_n dL_law_1858 rfl ?_
  refine j_cVp (As := []) (rest := [.int v]) cm_X4_driestFlight ci_X4_driestFlight cs_X4_driestFlight rfl ln_L_247 (ci := 4) rfl dL_law_1859 (d' := 6) (by decide) (by omega) (h63a.trans h63) rfl rfl (Nat.le_of_ble_eq_true rfl) (Nat.le_of_ble_eq_true rfl) (HM E1 p1) (fun E2 q2 => ?_)
  show J g mL_law 12 bc bs 1862 [some (.ref g.1.2.1), some (.ref (ad 0)), some (.ref (ad 63)), some (.ref (ad 69)), some (.int (nI i6)), none, none, none, none] [.int v, .int v] n ad E2 Φ Ψ
  refine j_icmp_eq_t (tgt := 2592) dL_law_1862 (by decide) rfl ?_
  exact K E1 E2 p1 q2
set_option maxRecDepth 100000 in
set_option maxHeartbeats 4000000 in
theorem lc_lowestIn_ok {g : jG} {n : Nat} {ad : Nat → Nat} {E : Nat → va_E} {i6 bc bs : Nat} {Φ : Option Value → jR} {Ψ : String → jR} {fs fm : List Value} (hi : i6 + 6 ≤ g.1.2.2.1) (hL : g.1.2.2.1 ≤ 3072) (hn : 70 ≤ n) (h0 : E 0 = .inr (3, fs)) (h63 : E 63 = .inr (4, fm)) {x1 : Int32} (e1 : g.1.2.2.2 (i6 + 1) = x1) {x2 : Int32} (e2 : g.1.2.2.2 (i6 + 2) = x2) {x3 : Int32} (e3 : g.1.2.2.2 (i6 + 3) = x3) {x4 : Int32} (e4 : g.1.2.2.2 (i6 + 4) = x4) {v : Int32} {PC : (Nat → va_E) → Prop} {PM : (Nat → va_E) → (Nat → va_E) → Prop} (HH : HOk g mL_lowestIn 11 [.ref (ad 0), .int x1, .int x2, .int x3, .int x4, .ref (ad 69)] n ad E v.toInt64 PC) (h69 : ∀ E1, PC E1 → E1 63 = E 63) (HM : ∀ E1 o, PC E1 → RetP g mX4_lowestIn 6 [.ref (ad 63), .int x1, .int x2, .int x3, .int x4] n ad (va_up E1 69 (aL g 1 (vp_updL o 0 v.toInt64))) (some (.int v)) (PM (va_up E1 69 (aL g 1 (vp_updL o 0 v.toInt64))))) (hM : ∀ E1 E2, PM E1 E2 → (∃ f9, E2 63 = .inr (4, .int 0 :: f9)) ∧ E2 69 = E1 69) (K : ∀ E1 o E2, PC E1 → E1 69 = aL g 1 o → PM (va_up E1 69 (aL g 1 (vp_updL o 0 v.toInt64))) E2 → J g mL_law 12 bc bs 2592 [some (.ref g.1.2.1), some (.ref (ad 0)), some (.ref (ad 63)), some (.ref (ad 69)), some (.int (nI i6)), none, none, none, none] [] n ad E2 Φ Ψ) : J g mL_law 12 bc bs 1867 [some (.ref g.1.2.1), some (.ref (ad 0)), some (.ref (ad 63)), some (.ref (ad 69)), some (.int (nI i6)), none, none, none, none] [] n ad E Φ Ψ := by
  refine j_aload_n dL_law_1867 rfl ?_
  refine j_aload_n dL_law_1868 rfl ?_
  refine j_iload dL_law_1869 rfl ?_
  refine j_iconst (v := nI 1) dL_law_1871 (by decide) ?_
  refine j_iadd dL_law_1872 ?_
  refine j_topi (y := nI (i6 + 1)) (nI_add _ _) ?_
  refine j_sald dL_law_1873 (by omega) (by omega) ?_
  refine j_topi (y := x1) e1 ?_
  refine j_aload_n dL_law_1874 rfl ?_
  refine j_iload dL_law_1875 rfl ?_
  refine j_iconst (v := nI 2) dL_law_1877 (by decide) ?_
  refine j_iadd dL_law_1878 ?_
  refine j_topi (y := nI (i6 + 2)) (nI_add _ _) ?_
  refine j_sald dL_law_1879 (by omega) (by omega) ?_
  refine j_topi (y := x2) e2 ?_
  refine j_aload_n dL_law_1880 rfl ?_
  refine j_iload dL_law_1881 rfl ?_
  refine j_iconst (v := nI 3) dL_law_1883 (by decide) ?_
  refine j_iadd dL_law_1884 ?_
  refine j_topi (y := nI (i6 + 3)) (nI_add _ _) ?_
  refine j_sald dL_law_1885 (by omega) (by omega) ?_
  refine j_topi (y := x3) e3 ?_
  refine j_aload_n dL_law_1886 rfl ?_
  refine j_iload dL_law_1887 rfl ?_
  refine j_iconst (v := nI 4) dL_law_1889 (by decide) ?_
  refine j_iadd dL_law_1890 ?_
  refine j_topi (y := nI (i6 + 4)) (nI_add _ _) ?_
  refine j_sald dL_law_1891 (by omega) (by omega) ?_
  refine j_topi (y := x4) e4 ?_
  refine j_aload_n dL_law_1892 rfl ?_
  refine j_cSH (As := [.ref (ad 0), .int x1, .int x2, .int x3, .int x4, .ref (ad 69)]) (rest := []) cm_L_lowestIn ct_L_lowestIn ln_L_248 dL_law_1893 (d' := 11) (by decide) rfl rfl (Nat.le_of_ble_eq_true rfl) (Nat.le_of_ble_eq_true rfl) HH (fun E1 o p1 ho => ?_)
  obtain h63a := h69 E1 p1
  show J g mL_law 12 bc bs 1896 [some (.ref g.1.2.1), some (.ref (ad 0)), some (.ref (ad 63)), some (.ref (ad 69)), some (.int (nI i6)), none, none, none, none] [.int 0] n ad (va_up E1 69 (aL g 1 (vp_updL o 0 v.toInt64))) Φ Ψ
  refine j_istore (L' := [some (.ref g.1.2.1), some (.ref (ad 0)), some (.ref (ad 63)), some (.ref (ad 69)), some (.int (nI i6)), some (.int 0), none, none, none]) dL_law_1896 (by decide) rfl rfl ?_
  refine j_aload_n dL_law_1898 rfl ?_
  refine j_aload_n dL_law_1899 rfl ?_
  refine j_iload dL_law_1900 rfl ?_
  refine j_iconst (v := nI 1) dL_law_1902 (by decide) ?_
  refine j_iadd dL_law_1903 ?_
  refine j_topi (y := nI (i6 + 1)) (nI_add _ _) ?_
  refine j_sald dL_law_1904 (by omega) (by omega) ?_
  refine j_topi (y := x1) e1 ?_
  refine j_aload_n dL_law_1905 rfl ?_
  refine j_iload dL_law_1906 rfl ?_
  refine j_iconst (v := nI 2) dL_law_1908 (by decide) ?_
  refine j_iadd dL_law_1909 ?_
  refine j_topi (y := nI (i6 + 2)) (nI_add _ _) ?_
  refine j_sald dL_law_1910 (by omega) (by omega) ?_
  refine j_topi (y := x2) e2 ?_
  refine j_aload_n dL_law_1911 rfl ?_
  refine j_iload dL_law_1912 rfl ?_
  refine j_iconst (v := nI 3) dL_law_1914 (by decide) ?_
  refine j_iadd dL_law_1915 ?_
  refine j_topi (y := nI (i6 + 3)) (nI_add _ _) ?_
  refine j_sald dL_law_1916 (by omega) (by omega) ?_
  refine j_topi (y := x3) e3 ?_
  refine j_aload_n dL_law_1917 rfl ?_
  refine j_iload dL_law_1918 rfl ?_
  refine j_iconst (v := nI 4) dL_law_1920 (by decide) ?_
  refine j_iadd dL_law_1921 ?_
  refine j_topi (y := nI (i6 + 4)) (nI_add _ _) ?_
  refine j_sald dL_law_1922 (by omega) (by omega) ?_
  refine j_topi (y := x4) e4 ?_
  refine j_cVp (As := [.int x1, .int x2, .int x3, .int x4]) (rest := []) cm_X4_lowestIn ci_X4_lowestIn cs_X4_lowestIn rfl ln_L_250 (ci := 4) rfl dL_law_1923 (d' := 6) (by decide) (by omega) ((up_ne (by decide)).trans (h63a.trans h63)) rfl rfl (Nat.le_of_ble_eq_true rfl) (Nat.le_of_ble_eq_true rfl) (HM E1 _ p1) (fun E2 q2 => ?_)
  obtain ⟨⟨fm2, h63b⟩, h69b⟩ := hM _ _ q2
  show J g mL_law 12 bc bs 1926 [some (.ref g.1.2.1), some (.ref (ad 0)), some (.ref (ad 63)), some (.ref (ad 69)), some (.int (nI i6)), some (.int 0), none, none, none] [.int v] n ad E2 Φ Ψ
  refine j_istore (L' := [some (.ref g.1.2.1), some (.ref (ad 0)), some (.ref (ad 63)), some (.ref (ad 69)), some (.int (nI i6)), some (.int 0), some (.int v), none, none]) dL_law_1926 (by decide) rfl rfl ?_
  refine j_aload_n dL_law_1928 rfl ?_
  refine j_cV (As := []) (rest := []) cm_X4_thrown ci_X4_thrown cs_X4_thrown rfl ln_L_133 (ci := 4) rfl dL_law_1929 (d' := 0) (by decide) (by omega) h63b rfl rfl (Nat.le_of_ble_eq_true rfl) (Nat.le_of_ble_eq_true rfl) (s_thrown' hn h63b) ?_
  refine j_iload dL_law_1932 rfl ?_
  refine j_icmp_eq_t (tgt := 1939) dL_law_1934 (by decide) (by decide) ?_
  refine j_iload dL_law_1939 rfl ?_
  refine j_if_ne_f (tgt := 1956) dL_law_1941 (by decide) (by decide) ?_
  refine j_aload_n dL_law_1944 rfl ?_
  refine j_iconst (v := nI 0) dL_law_1945 (by decide) ?_
  refine j_lald dL_law_1946 (by omega) (h69b.trans up_eq) (by decide) (by omega) rfl ?_
  refine j_topl (y := v.toInt64) (if_pos rfl) ?_
  refine j_iload dL_law_1947 rfl ?_
  refine j_i2l dL_law_1949 ?_
  refine j_lcmp dL_law_1950 ?_
  refine j_topi (y := 0) (lg_self _) ?_
  refine j_if_eq_t (tgt := 1956) dL_law_1951 (by decide) (by decide) ?_
  refine j_goto (tgt := 2592) dL_law_1956 (by decide) ?_
  refine j_clr 5 ?_
  refine j_clr 6 ?_
  exact K E1 o E2 p1 ho q2
set_option maxRecDepth 100000 in
set_option maxHeartbeats 4000000 in
theorem lc_lowestIn_bad {g : jG} {n : Nat} {ad : Nat → Nat} {E : Nat → va_E} {i6 bc bs : Nat} {Φ : Option Value → jR} {Ψ : String → jR} {fs fm : List Value} (hi : i6 + 6 ≤ g.1.2.2.1) (hL : g.1.2.2.1 ≤ 3072) (hn : 70 ≤ n) (h0 : E 0 = .inr (3, fs)) (h63 : E 63 = .inr (4, fm)) {x1 : Int32} (e1 : g.1.2.2.2 (i6 + 1) = x1) {x2 : Int32} (e2 : g.1.2.2.2 (i6 + 2) = x2) {x3 : Int32} (e3 : g.1.2.2.2 (i6 + 3) = x3) {x4 : Int32} (e4 : g.1.2.2.2 (i6 + 4) = x4) {k : Int32} (hk : ¬ k = 0) {b : Int32} {PM : (Nat → va_E) → Prop} (HH : HBad g mL_lowestIn 11 [.ref (ad 0), .int x1, .int x2, .int x3, .int x4, .ref (ad 69)] n ad E k) (HM : RetP g mX4_lowestIn 6 [.ref (ad 63), .int x1, .int x2, .int x3, .int x4] n ad E (some (.int b)) PM) (hM : ∀ E2, PM E2 → ∃ f9, E2 63 = .inr (4, .int k :: f9)) (K : ∀ E2, PM E2 → J g mL_law 12 bc bs 2592 [some (.ref g.1.2.1), some (.ref (ad 0)), some (.ref (ad 63)), some (.ref (ad 69)), some (.int (nI i6)), none, none, none, none] [] n ad E2 Φ Ψ) : J g mL_law 12 (1 + bc) (6 + bs) 1867 [some (.ref g.1.2.1), some (.ref (ad 0)), some (.ref (ad 63)), some (.ref (ad 69)), some (.int (nI i6)), none, none, none, none] [] n ad E Φ Ψ := by
  refine j_aload_n dL_law_1867 rfl ?_
  refine j_aload_n dL_law_1868 rfl ?_
  refine j_iload dL_law_1869 rfl ?_
  refine j_iconst (v := nI 1) dL_law_1871 (by decide) ?_
  refine j_iadd dL_law_1872 ?_
  refine j_topi (y := nI (i6 + 1)) (nI_add _ _) ?_
  refine j_sald dL_law_1873 (by omega) (by omega) ?_
  refine j_topi (y := x1) e1 ?_
  refine j_aload_n dL_law_1874 rfl ?_
  refine j_iload dL_law_1875 rfl ?_
  refine j_iconst (v := nI 2) dL_law_1877 (by decide) ?_
  refine j_iadd dL_law_1878 ?_
  refine j_topi (y := nI (i6 + 2)) (nI_add _ _) ?_
  refine j_sald dL_law_1879 (by omega) (by omega) ?_
  refine j_topi (y := x2) e2 ?_
  refine j_aload_n dL_law_1880 rfl ?_
  refine j_iload dL_law_1881 rfl ?_
  refine j_iconst (v := nI 3) dL_law_1883 (by decide) ?_
  refine j_iadd dL_law_1884 ?_
  refine j_topi (y := nI (i6 + 3)) (nI_add _ _) ?_
  refine j_sald dL_law_1885 (by omega) (by omega) ?_
  refine j_topi (y := x3) e3 ?_
  refine j_aload_n dL_law_1886 rfl ?_
  refine j_iload dL_law_1887 rfl ?_
  refine j_iconst (v := nI 4) dL_law_1889 (by decide) ?_
  refine j_iadd dL_law_1890 ?_
  refine j_topi (y := nI (i6 + 4)) (nI_add _ _) ?_
  refine j_sald dL_law_1891 (by omega) (by omega) ?_
  refine j_topi (y := x4) e4 ?_
  refine j_aload_n dL_law_1892 rfl ?_
  refine j_cSB (As := [.ref (ad 0), .int x1, .int x2, .int x3, .int x4, .ref (ad 69)]) (rest := []) cm_L_lowestIn ct_L_lowestIn ln_L_248 dL_law_1893 (d' := 11) (by decide) rfl rfl (Nat.le_of_ble_eq_true rfl) (Nat.le_of_ble_eq_true rfl) HH ?_
  show J g mL_law 12 bc bs 1896 [some (.ref g.1.2.1), some (.ref (ad 0)), some (.ref (ad 63)), some (.ref (ad 69)), some (.int (nI i6)), none, none, none, none] [.int k] n ad E Φ Ψ
  refine j_istore (L' := [some (.ref g.1.2.1), some (.ref (ad 0)), some (.ref (ad 63)), some (.ref (ad 69)), some (.int (nI i6)), some (.int k), none, none, none]) dL_law_1896 (by decide) rfl rfl ?_
  refine j_aload_n dL_law_1898 rfl ?_
  refine j_aload_n dL_law_1899 rfl ?_
  refine j_iload dL_law_1900 rfl ?_
  refine j_iconst (v := nI 1) dL_law_1902 (by decide) ?_
  refine j_iadd dL_law_1903 ?_
  refine j_topi (y := nI (i6 + 1)) (nI_add _ _) ?_
  refine j_sald dL_law_1904 (by omega) (by omega) ?_
  refine j_topi (y := x1) e1 ?_
  refine j_aload_n dL_law_1905 rfl ?_
  refine j_iload dL_law_1906 rfl ?_
  refine j_iconst (v := nI 2) dL_law_1908 (by decide) ?_
  refine j_iadd dL_law_1909 ?_
  refine j_topi (y := nI (i6 + 2)) (nI_add _ _) ?_
  refine j_sald dL_law_1910 (by omega) (by omega) ?_
  refine j_topi (y := x2) e2 ?_
  refine j_aload_n dL_law_1911 rfl ?_
  refine j_iload dL_law_1912 rfl ?_
  refine j_iconst (v := nI 3) dL_law_1914 (by decide) ?_
  refine j_iadd dL_law_1915 ?_
  refine j_topi (y := nI (i6 + 3)) (nI_add _ _) ?_
  refine j_sald dL_law_1916 (by omega) (by omega) ?_
  refine j_topi (y := x3) e3 ?_
  refine j_aload_n dL_law_1917 rfl ?_
  refine j_iload dL_law_1918 rfl ?_
  refine j_iconst (v := nI 4) dL_law_1920 (by decide) ?_
  refine j_iadd dL_law_1921 ?_
  refine j_topi (y := nI (i6 + 4)) (nI_add _ _) ?_
  refine j_sald dL_law_1922 (by omega) (by omega) ?_
  refine j_topi (y := x4) e4 ?_
  refine j_cVp (As := [.int x1, .int x2, .int x3, .int x4]) (rest := []) cm_X4_lowestIn ci_X4_lowestIn cs_X4_lowestIn rfl ln_L_250 (ci := 4) rfl dL_law_1923 (d' := 6) (by decide) (by omega) h63 rfl rfl (Nat.le_of_ble_eq_true rfl) (Nat.le_of_ble_eq_true rfl) HM (fun E2 q2 => ?_)
  obtain ⟨fm2, h63b⟩ := hM _ q2
  show J g mL_law 12 bc bs 1926 [some (.ref g.1.2.1), some (.ref (ad 0)), some (.ref (ad 63)), some (.ref (ad 69)), some (.int (nI i6)), some (.int k), none, none, none] [.int b] n ad E2 Φ Ψ
  refine j_istore (L' := [some (.ref g.1.2.1), some (.ref (ad 0)), some (.ref (ad 63)), some (.ref (ad 69)), some (.int (nI i6)), some (.int k), some (.int b), none, none]) dL_law_1926 (by decide) rfl rfl ?_
  refine j_aload_n dL_law_1928 rfl ?_
  refine j_cV (As := []) (rest := []) cm_X4_thrown ci_X4_thrown cs_X4_thrown rfl ln_L_133 (ci := 4) rfl dL_law_1929 (d' := 0) (by decide) (by omega) h63b rfl rfl (Nat.le_of_ble_eq_true rfl) (Nat.le_of_ble_eq_true rfl) (s_thrown' hn h63b) ?_
  refine j_iload dL_law_1932 rfl ?_
  refine j_icmp_eq_t (tgt := 1939) dL_law_1934 (by decide) rfl ?_
  refine j_iload dL_law_1939 rfl ?_
  refine j_if_ne_t (tgt := 1956) dL_law_1941 (by decide) hk ?_
  refine j_goto (tgt := 2592) dL_law_1956 (by decide) ?_
  refine j_clr 5 ?_
  refine j_clr 6 ?_
  exact K E2 q2
set_option maxRecDepth 100000 in
set_option maxHeartbeats 4000000 in
theorem lc_highestAt_ok {g : jG} {n : Nat} {ad : Nat → Nat} {E : Nat → va_E} {i6 bc bs : Nat} {Φ : Option Value → jR} {Ψ : String → jR} {fs fm : List Value} (hi : i6 + 6 ≤ g.1.2.2.1) (hL : g.1.2.2.1 ≤ 3072) (hn : 70 ≤ n) (h0 : E 0 = .inr (3, fs)) (h63 : E 63 = .inr (4, fm)) {x1 : Int32} (e1 : g.1.2.2.2 (i6 + 1) = x1) {v : Int32} {PC : (Nat → va_E) → Prop} {PM : (Nat → va_E) → (Nat → va_E) → Prop} (HH : HOk g mL_highestAt 11 [.ref (ad 0), .int x1, .ref (ad 69)] n ad E v.toInt64 PC) (h69 : ∀ E1, PC E1 → E1 63 = E 63) (HM : ∀ E1 o, PC E1 → RetP g mX4_highestAt 6 [.ref (ad 63), .int x1] n ad (va_up E1 69 (aL g 1 (vp_updL o 0 v.toInt64))) (some (.int v)) (PM (va_up E1 69 (aL g 1 (vp_updL o 0 v.toInt64))))) (hM : ∀ E1 E2, PM E1 E2 → (∃ f9, E2 63 = .inr (4, .int 0 :: f9)) ∧ E2 69 = E1 69) (K : ∀ E1 o E2, PC E1 → E1 69 = aL g 1 o → PM (va_up E1 69 (aL g 1 (vp_updL o 0 v.toInt64))) E2 → J g mL_law 12 bc bs 2592 [some (.ref g.1.2.1), some (.ref (ad 0)), some (.ref (ad 63)), some (.ref (ad 69)), some (.int (nI i6)), none, none, none, none] [] n ad E2 Φ Ψ) : J g mL_law 12 bc bs 1959 [some (.ref g.1.2.1), some (.ref (ad 0)), some (.ref (ad 63)), some (.ref (ad 69)), some (.int (nI i6)), none, none, none, none] [] n ad E Φ Ψ := by
  refine j_aload_n dL_law_1959 rfl ?_
  refine j_aload_n dL_law_1960 rfl ?_
  refine j_iload dL_law_1961 rfl ?_
  refine j_iconst (v := nI 1) dL_law_1963 (by decide) ?_
  refine j_iadd dL_law_1964 ?_
  refine j_topi (y := nI (i6 + 1)) (nI_add _ _) ?_
  refine j_sald dL_law_1965 (by omega) (by omega) ?_
  refine j_topi (y := x1) e1 ?_
  refine j_aload_n dL_law_1966 rfl ?_
  refine j_cSH (As := [.ref (ad 0), .int x1, .ref (ad 69)]) (rest := []) cm_L_highestAt ct_L_highestAt ln_L_251 dL_law_1967 (d' := 11) (by decide) rfl rfl (Nat.le_of_ble_eq_true rfl) (Nat.le_of_ble_eq_true rfl) HH (fun E1 o p1 ho => ?_)
  obtain h63a := h69 E1 p1
  show J g mL_law 12 bc bs 1970 [some (.ref g.1.2.1), some (.ref (ad 0)), some (.ref (ad 63)), some (.ref (ad 69)), some (.int (nI i6)), none, none, none, none] [.int 0] n ad (va_up E1 69 (aL g 1 (vp_updL o 0 v.toInt64))) Φ Ψ
  refine j_istore (L' := [some (.ref g.1.2.1), some (.ref (ad 0)), some (.ref (ad 63)), some (.ref (ad 69)), some (.int (nI i6)), some (.int 0), none, none, none]) dL_law_1970 (by decide) rfl rfl ?_
  refine j_aload_n dL_law_1972 rfl ?_
  refine j_aload_n dL_law_1973 rfl ?_
  refine j_iload dL_law_1974 rfl ?_
  refine j_iconst (v := nI 1) dL_law_1976 (by decide) ?_
  refine j_iadd dL_law_1977 ?_
  refine j_topi (y := nI (i6 + 1)) (nI_add _ _) ?_
  refine j_sald dL_law_1978 (by omega) (by omega) ?_
  refine j_topi (y := x1) e1 ?_
  refine j_cVp (As := [.int x1]) (rest := []) cm_X4_highestAt ci_X4_highestAt cs_X4_highestAt rfl ln_L_253 (ci := 4) rfl dL_law_1979 (d' := 6) (by decide) (by omega) ((up_ne (by decide)).trans (h63a.trans h63)) rfl rfl (Nat.le_of_ble_eq_true rfl) (Nat.le_of_ble_eq_true rfl) (HM E1 _ p1) (fun E2 q2 => ?_)
  obtain ⟨⟨fm2, h63b⟩, h69b⟩ := hM _ _ q2
  show J g mL_law 12 bc bs 1982 [some (.ref g.1.2.1), some (.ref (ad 0)), some (.ref (ad 63)), some (.ref (ad 69)), some (.int (nI i6)), some (.int 0), none, none, none] [.int v] n ad E2 Φ Ψ
  refine j_istore (L' := [some (.ref g.1.2.1), some (.ref (ad 0)), some (.ref (ad 63)), some (.ref (ad 69)), some (.int (nI i6)), some (.int 0), some (.int v), none, none]) dL_law_1982 (by decide) rfl rfl ?_
  refine j_aload_n dL_law_1984 rfl ?_
  refine j_cV (As := []) (rest := []) cm_X4_thrown ci_X4_thrown cs_X4_thrown rfl ln_L_133 (ci := 4) rfl dL_law_1985 (d' := 0) (by decide) (by omega) h63b rfl rfl (Nat.le_of_ble_eq_true rfl) (Nat.le_of_ble_eq_true rfl) (s_thrown' hn h63b) ?_
  refine j_iload dL_law_1988 rfl ?_
  refine j_icmp_eq_t (tgt := 1995) dL_law_1990 (by decide) (by decide) ?_
  refine j_iload dL_law_1995 rfl ?_
  refine j_if_ne_f (tgt := 2012) dL_law_1997 (by decide) (by decide) ?_
  refine j_aload_n dL_law_2000 rfl ?_
  refine j_iconst (v := nI 0) dL_law_2001 (by decide) ?_
  refine j_lald dL_law_2002 (by omega) (h69b.trans up_eq) (by decide) (by omega) rfl ?_
  refine j_topl (y := v.toInt64) (if_pos rfl) ?_
  refine j_iload dL_law_2003 rfl ?_
  refine j_i2l dL_law_2005 ?_
  refine j_lcmp dL_law_2006 ?_
  refine j_topi (y := 0) (lg_self _) ?_
  refine j_if_eq_t (tgt := 2012) dL_law_2007 (by decide) (by decide) ?_
  refine j_goto (tgt := 2592) dL_law_2012 (by decide) ?_
  refine j_clr 5 ?_
  refine j_clr 6 ?_
  exact K E1 o E2 p1 ho q2
set_option maxRecDepth 100000 in
set_option maxHeartbeats 4000000 in
theorem lc_highestAt_bad {g : jG} {n : Nat} {ad : Nat → Nat} {E : Nat → va_E} {i6 bc bs : Nat} {Φ : Option Value → jR} {Ψ : String → jR} {fs fm : List Value} (hi : i6 + 6 ≤ g.1.2.2.1) (hL : g.1.2.2.1 ≤ 3072) (hn : 70 ≤ n) (h0 : E 0 = .inr (3, fs)) (h63 : E 63 = .inr (4, fm)) {x1 : Int32} (e1 : g.1.2.2.2 (i6 + 1) = x1) {k : Int32} (hk : ¬ k = 0) {b : Int32} {PM : (Nat → va_E) → Prop} (HH : HBad g mL_highestAt 11 [.ref (ad 0), .int x1, .ref (ad 69)] n ad E k) (HM : RetP g mX4_highestAt 6 [.ref (ad 63), .int x1] n ad E (some (.int b)) PM) (hM : ∀ E2, PM E2 → ∃ f9, E2 63 = .inr (4, .int k :: f9)) (K : ∀ E2, PM E2 → J g mL_law 12 bc bs 2592 [some (.ref g.1.2.1), some (.ref (ad 0)), some (.ref (ad 63)), some (.ref (ad 69)), some (.int (nI i6)), none, none, none, none] [] n ad E2 Φ Ψ) : J g mL_law 12 (1 + bc) (6 + bs) 1959 [some (.ref g.1.2.1), some (.ref (ad 0)), some (.ref (ad 63)), some (.ref (ad 69)), some (.int (nI i6)), none, none, none, none] [] n ad E Φ Ψ := by
  refine j_aload_n dL_law_1959 rfl ?_
  refine j_aload_n dL_law_1960 rfl ?_
  refine j_iload dL_law_1961 rfl ?_
  refine j_iconst (v := nI 1) dL_law_1963 (by decide) ?_
  refine j_iadd dL_law_1964 ?_
  refine j_topi (y := nI (i6 + 1)) (nI_add _ _) ?_
  refine j_sald dL_law_1965 (by omega) (by omega) ?_
  refine j_topi (y := x1) e1 ?_
  refine j_aload_n dL_law_1966 rfl ?_
  refine j_cSB (As := [.ref (ad 0), .int x1, .ref (ad 69)]) (rest := []) cm_L_highestAt ct_L_highestAt ln_L_251 dL_law_1967 (d' := 11) (by decide) rfl rfl (Nat.le_of_ble_eq_true rfl) (Nat.le_of_ble_eq_true rfl) HH ?_
  show J g mL_law 12 bc bs 1970 [some (.ref g.1.2.1), some (.ref (ad 0)), some (.ref (ad 63)), some (.ref (ad 69)), some (.int (nI i6)), none, none, none, none] [.int k] n ad E Φ Ψ
  refine j_istore (L' := [some (.ref g.1.2.1), some (.ref (ad 0)), some (.ref (ad 63)), some (.ref (ad 69)), some (.int (nI i6)), some (.int k), none, none, none]) dL_law_1970 (by decide) rfl rfl ?_
  refine j_aload_n dL_law_1972 rfl ?_
  refine j_aload_n dL_law_1973 rfl ?_
  refine j_iload dL_law_1974 rfl ?_
  refine j_iconst (v := nI 1) dL_law_1976 (by decide) ?_
  refine j_iadd dL_law_1977 ?_
  refine j_topi (y := nI (i6 + 1)) (nI_add _ _) ?_
  refine j_sald dL_law_1978 (by omega) (by omega) ?_
  refine j_topi (y := x1) e1 ?_
  refine j_cVp (As := [.int x1]) (rest := []) cm_X4_highestAt ci_X4_highestAt cs_X4_highestAt rfl ln_L_253 (ci := 4) rfl dL_law_1979 (d' := 6) (by decide) (by omega) h63 rfl rfl (Nat.le_of_ble_eq_true rfl) (Nat.le_of_ble_eq_true rfl) HM (fun E2 q2 => ?_)
  obtain ⟨fm2, h63b⟩ := hM _ q2
  show J g mL_law 12 bc bs 1982 [some (.ref g.1.2.1), some (.ref (ad 0)), some (.ref (ad 63)), some (.ref (ad 69)), some (.int (nI i6)), some (.int k), none, none, none] [.int b] n ad E2 Φ Ψ
  refine j_istore (L' := [some (.ref g.1.2.1), some (.ref (ad 0)), some (.ref (ad 63)), some (.ref (ad 69)), some (.int (nI i6)), some (.int k), some (.int b), none, none]) dL_law_1982 (by decide) rfl rfl ?_
  refine j_aload_n dL_law_1984 rfl ?_
  refine j_cV (As := []) (rest := []) cm_X4_thrown ci_X4_thrown cs_X4_thrown rfl ln_L_133 (ci := 4) rfl dL_law_1985 (d' := 0) (by decide) (by omega) h63b rfl rfl (Nat.le_of_ble_eq_true rfl) (Nat.le_of_ble_eq_true rfl) (s_thrown' hn h63b) ?_
  refine j_iload dL_law_1988 rfl ?_
  refine j_icmp_eq_t (tgt := 1995) dL_law_1990 (by decide) rfl ?_
  refine j_iload dL_law_1995 rfl ?_
  refine j_if_ne_t (tgt := 2012) dL_law_1997 (by decide) hk ?_
  refine j_goto (tgt := 2592) dL_law_2012 (by decide) ?_
  refine j_clr 5 ?_
  refine j_clr 6 ?_
  exact K E2 q2
set_option maxRecDepth 100000 in
set_option maxHeartbeats 4000000 in
theorem lc_upTo {g : jG} {n : Nat} {ad : Nat → Nat} {E : Nat → va_E} {i6 bc bs : Nat} {Φ : Option Value → jR} {Ψ : String → jR} {fs fm : List Value} (hi : i6 + 6 ≤ g.1.2.2.1) (hL : g.1.2.2.1 ≤ 3072) (hn : 70 ≤ n) (h0 : E 0 = .inr (3, fs)) (h63 : E 63 = .inr (4, fm)) {x1 : Int32} (e1 : g.1.2.2.2 (i6 + 1) = x1) {v : Int32} {PC : (Nat → va_E) → Prop} {PM : (Nat → va_E) → (Nat → va_E) → Prop} (HC : RetP g mX3_upTo 10 [.ref (ad 0), .int x1] n ad E (some (.int v)) PC) (h69 : ∀ E1, PC E1 → E1 63 = E 63) (HM : ∀ E1, PC E1 → RetP g mX4_upTo 6 [.ref (ad 63), .int x1] n ad E1 (some (.int v)) (PM E1)) (K : ∀ E1 E2, PC E1 → PM E1 E2 → J g mL_law 12 bc bs 2592 [some (.ref g.1.2.1), some (.ref (ad 0)), some (.ref (ad 63)), some (.ref (ad 69)), some (.int (nI i6)), none, none, none, none] [] n ad E2 Φ Ψ) : J g mL_law 12 bc bs 2015 [some (.ref g.1.2.1), some (.ref (ad 0)), some (.ref (ad 63)), some (.ref (ad 69)), some (.int (nI i6)), none, none, none, none] [] n ad E Φ Ψ := by
  refine j_aload_n dL_law_2015 rfl ?_
  refine j_aload_n dL_law_2016 rfl ?_
  refine j_iload dL_law_2017 rfl ?_
  refine j_iconst (v := nI 1) dL_law_2019 (by decide) ?_
  refine j_iadd dL_law_2020 ?_
  refine j_topi (y := nI (i6 + 1)) (nI_add _ _) ?_
  refine j_sald dL_law_2021 (by omega) (by omega) ?_
  refine j_topi (y := x1) e1 ?_
  refine j_cVp (As := [.int x1]) (rest := []) cm_X3_upTo ci_X3_upTo cs_X3_upTo rfl ln_L_254 (ci := 3) rfl dL_law_2022 (d' := 10) (by decide) (by omega) h0 rfl rfl (Nat.le_of_ble_eq_true rfl) (Nat.le_of_ble_eq_true rfl) HC (fun E1 p1 => ?_)
  obtain h63a := h69 E1 p1
  show J g mL_law 12 bc bs 2025 [some (.ref g.1.2.1), some (.ref (ad 0)), some (.ref (ad 63)), some (.ref (ad 69)), some (.int (nI i6)), none, none, none, none] [.int v] n ad E1 Φ Ψ
  refine j_aload_n dL_law_2025 rfl ?_
  refine j_aload_n dL_law_2026 rfl ?_
  refine j_iload dL_law_2027 rfl ?_
  refine j_iconst (v := nI 1) dL_law_2029 (by decide) ?_
  refine j_iadd dL_law_2030 ?_
  refine j_topi (y := nI (i6 + 1)) (nI_add _ _) ?_
  refine j_sald dL_law_2031 (by omega) (by omega) ?_
  refine j_topi (y := x1) e1 ?_
  refine j_cVp (As := [.int x1]) (rest := [.int v]) cm_X4_upTo ci_X4_upTo cs_X4_upTo rfl ln_L_257 (ci := 4) rfl dL_law_2032 (d' := 6) (by decide) (by omega) (h63a.trans h63) rfl rfl (Nat.le_of_ble_eq_true rfl) (Nat.le_of_ble_eq_true rfl) (HM E1 p1) (fun E2 q2 => ?_)
  show J g mL_law 12 bc bs 2035 [some (.ref g.1.2.1), some (.ref (ad 0)), some (.ref (ad 63)), some (.ref (ad 69)), some (.int (nI i6)), none, none, none, none] [.int v, .int v] n ad E2 Φ Ψ
  refine j_icmp_eq_t (tgt := 2592) dL_law_2035 (by decide) rfl ?_
  exact K E1 E2 p1 q2
set_option maxRecDepth 100000 in
set_option maxHeartbeats 4000000 in
theorem lc_levelInOrder_ok {g : jG} {n : Nat} {ad : Nat → Nat} {E : Nat → va_E} {i6 bc bs : Nat} {Φ : Option Value → jR} {Ψ : String → jR} {fs fm : List Value} (hi : i6 + 6 ≤ g.1.2.2.1) (hL : g.1.2.2.1 ≤ 3072) (hn : 70 ≤ n) (h0 : E 0 = .inr (3, fs)) (h63 : E 63 = .inr (4, fm)) {x1 : Int32} (e1 : g.1.2.2.2 (i6 + 1) = x1) {v : Int32} {PC : (Nat → va_E) → Prop} {PM : (Nat → va_E) → (Nat → va_E) → Prop} (HH : HOk g mL_levelInOrder 11 [.ref (ad 0), .int x1, .ref (ad 69)] n ad E v.toInt64 PC) (h69 : ∀ E1, PC E1 → E1 63 = E 63) (HM : ∀ E1 o, PC E1 → RetP g mX4_levelInOrder 6 [.ref (ad 63), .int x1] n ad (va_up E1 69 (aL g 1 (vp_updL o 0 v.toInt64))) (some (.int v)) (PM (va_up E1 69 (aL g 1 (vp_updL o 0 v.toInt64))))) (hM : ∀ E1 E2, PM E1 E2 → (∃ f9, E2 63 = .inr (4, .int 0 :: f9)) ∧ E2 69 = E1 69) (K : ∀ E1 o E2, PC E1 → E1 69 = aL g 1 o → PM (va_up E1 69 (aL g 1 (vp_updL o 0 v.toInt64))) E2 → J g mL_law 12 bc bs 2592 [some (.ref g.1.2.1), some (.ref (ad 0)), some (.ref (ad 63)), some (.ref (ad 69)), some (.int (nI i6)), none, none, none, none] [] n ad E2 Φ Ψ) : J g mL_law 12 bc bs 2040 [some (.ref g.1.2.1), some (.ref (ad 0)), some (.ref (ad 63)), some (.ref (ad 69)), some (.int (nI i6)), none, none, none, none] [] n ad E Φ Ψ := by
  refine j_aload_n dL_law_2040 rfl ?_
  refine j_aload_n dL_law_2041 rfl ?_
  refine j_iload dL_law_2042 rfl ?_
  refine j_iconst (v := nI 1) dL_law_2044 (by decide) ?_
  refine j_iadd dL_law_2045 ?_
  refine j_topi (y := nI (i6 + 1)) (nI_add _ _) ?_
  refine j_sald dL_law_2046 (by omega) (by omega) ?_
  refine j_topi (y := x1) e1 ?_
  refine j_aload_n dL_law_2047 rfl ?_
  refine j_cSH (As := [.ref (ad 0), .int x1, .ref (ad 69)]) (rest := []) cm_L_levelInOrder ct_L_levelInOrder ln_L_258 dL_law_2048 (d' := 11) (by decide) rfl rfl (Nat.le_of_ble_eq_true rfl) (Nat.le_of_ble_eq_true rfl) HH (fun E1 o p1 ho => ?_)
  obtain h63a := h69 E1 p1
  show J g mL_law 12 bc bs 2051 [some (.ref g.1.2.1), some (.ref (ad 0)), some (.ref (ad 63)), some (.ref (ad 69)), some (.int (nI i6)), none, none, none, none] [.int 0] n ad (va_up E1 69 (aL g 1 (vp_updL o 0 v.toInt64))) Φ Ψ
  refine j_istore (L' := [some (.ref g.1.2.1), some (.ref (ad 0)), some (.ref (ad 63)), some (.ref (ad 69)), some (.int (nI i6)), some (.int 0), none, none, none]) dL_law_2051 (by decide) rfl rfl ?_
  refine j_aload_n dL_law_2053 rfl ?_
  refine j_aload_n dL_law_2054 rfl ?_
  refine j_iload dL_law_2055 rfl ?_
  refine j_iconst (v := nI 1) dL_law_2057 (by decide) ?_
  refine j_iadd dL_law_2058 ?_
  refine j_topi (y := nI (i6 + 1)) (nI_add _ _) ?_
  refine j_sald dL_law_2059 (by omega) (by omega) ?_
  refine j_topi (y := x1) e1 ?_
  refine j_cVp (As := [.int x1]) (rest := []) cm_X4_levelInOrder ci_X4_levelInOrder cs_X4_levelInOrder rfl ln_L_260 (ci := 4) rfl dL_law_2060 (d' := 6) (by decide) (by omega) ((up_ne (by decide)).trans (h63a.trans h63)) rfl rfl (Nat.le_of_ble_eq_true rfl) (Nat.le_of_ble_eq_true rfl) (HM E1 _ p1) (fun E2 q2 => ?_)
  obtain ⟨⟨fm2, h63b⟩, h69b⟩ := hM _ _ q2
  show J g mL_law 12 bc bs 2063 [some (.ref g.1.2.1), some (.ref (ad 0)), some (.ref (ad 63)), some (.ref (ad 69)), some (.int (nI i6)), some (.int 0), none, none, none] [.int v] n ad E2 Φ Ψ
  refine j_istore (L' := [some (.ref g.1.2.1), some (.ref (ad 0)), some (.ref (ad 63)), some (.ref (ad 69)), some (.int (nI i6)), some (.int 0), some (.int v), none, none]) dL_law_2063 (by decide) rfl rfl ?_
  refine j_aload_n dL_law_2065 rfl ?_
  refine j_cV (As := []) (rest := []) cm_X4_thrown ci_X4_thrown cs_X4_thrown rfl ln_L_133 (ci := 4) rfl dL_law_2066 (d' := 0) (by decide) (by omega) h63b rfl rfl (Nat.le_of_ble_eq_true rfl) (Nat.le_of_ble_eq_true rfl) (s_thrown' hn h63b) ?_
  refine j_iload dL_law_2069 rfl ?_
  refine j_icmp_eq_t (tgt := 2076) dL_law_2071 (by decide) (by decide) ?_
  refine j_iload dL_law_2076 rfl ?_
  refine j_if_ne_f (tgt := 2093) dL_law_2078 (by decide) (by decide) ?_
  refine j_aload_n dL_law_2081 rfl ?_
  refine j_iconst (v := nI 0) dL_law_2082 (by decide) ?_
  refine j_lald dL_law_2083 (by omega) (h69b.trans up_eq) (by decide) (by omega) rfl ?_
  refine j_topl (y := v.toInt64) (if_pos rfl) ?_
  refine j_iload dL_law_2084 rfl ?_
  refine j_i2l dL_law_2086 ?_
  refine j_lcmp dL_law_2087 ?_
  refine j_topi (y := 0) (lg_self _) ?_
  refine j_if_eq_t (tgt := 2093) dL_law_2088 (by decide) (by decide) ?_
  refine j_goto (tgt := 2592) dL_law_2093 (by decide) ?_
  refine j_clr 5 ?_
  refine j_clr 6 ?_
  exact K E1 o E2 p1 ho q2
set_option maxRecDepth 100000 in
set_option maxHeartbeats 4000000 in
theorem lc_levelInOrder_bad {g : jG} {n : Nat} {ad : Nat → Nat} {E : Nat → va_E} {i6 bc bs : Nat} {Φ : Option Value → jR} {Ψ : String → jR} {fs fm : List Value} (hi : i6 + 6 ≤ g.1.2.2.1) (hL : g.1.2.2.1 ≤ 3072) (hn : 70 ≤ n) (h0 : E 0 = .inr (3, fs)) (h63 : E 63 = .inr (4, fm)) {x1 : Int32} (e1 : g.1.2.2.2 (i6 + 1) = x1) {k : Int32} (hk : ¬ k = 0) {b : Int32} {PM : (Nat → va_E) → Prop} (HH : HBad g mL_levelInOrder 11 [.ref (ad 0), .int x1, .ref (ad 69)] n ad E k) (HM : RetP g mX4_levelInOrder 6 [.ref (ad 63), .int x1] n ad E (some (.int b)) PM) (hM : ∀ E2, PM E2 → ∃ f9, E2 63 = .inr (4, .int k :: f9)) (K : ∀ E2, PM E2 → J g mL_law 12 bc bs 2592 [some (.ref g.1.2.1), some (.ref (ad 0)), some (.ref (ad 63)), some (.ref (ad 69)), some (.int (nI i6)), none, none, none, none] [] n ad E2 Φ Ψ) : J g mL_law 12 (1 + bc) (6 + bs) 2040 [some (.ref g.1.2.1), some (.ref (ad 0)), some (.ref (ad 63)), some (.ref (ad 69)), some (.int (nI i6)), none, none, none, none] [] n ad E Φ Ψ := by
  refine j_aload_n dL_law_2040 rfl ?_
  refine j_aload_n dL_law_2041 rfl ?_
  refine j_iload dL_law_2042 rfl ?_
  refine j_iconst (v := nI 1) dL_law_2044 (by decide) ?_
  refine j_iadd dL_law_2045 ?_
  refine j_topi (y := nI (i6 + 1)) (nI_add _ _) ?_
  refine j_sald dL_law_2046 (by omega) (by omega) ?_
  refine j_topi (y := x1) e1 ?_
  refine j_aload_n dL_law_2047 rfl ?_
  refine j_cSB (As := [.ref (ad 0), .int x1, .ref (ad 69)]) (rest := []) cm_L_levelInOrder ct_L_levelInOrder ln_L_258 dL_law_2048 (d' := 11) (by decide) rfl rfl (Nat.le_of_ble_eq_true rfl) (Nat.le_of_ble_eq_true rfl) HH ?_
  show J g mL_law 12 bc bs 2051 [some (.ref g.1.2.1), some (.ref (ad 0)), some (.ref (ad 63)), some (.ref (ad 69)), some (.int (nI i6)), none, none, none, none] [.int k] n ad E Φ Ψ
  refine j_istore (L' := [some (.ref g.1.2.1), some (.ref (ad 0)), some (.ref (ad 63)), some (.ref (ad 69)), some (.int (nI i6)), some (.int k), none, none, none]) dL_law_2051 (by decide) rfl rfl ?_
  refine j_aload_n dL_law_2053 rfl ?_
  refine j_aload_n dL_law_2054 rfl ?_
  refine j_iload dL_law_2055 rfl ?_
  refine j_iconst (v := nI 1) dL_law_2057 (by decide) ?_
  refine j_iadd dL_law_2058 ?_
  refine j_topi (y := nI (i6 + 1)) (nI_add _ _) ?_
  refine j_sald dL_law_2059 (by omega) (by omega) ?_
  refine j_topi (y := x1) e1 ?_
  refine j_cVp (As := [.int x1]) (rest := []) cm_X4_levelInOrder ci_X4_levelInOrder cs_X4_levelInOrder rfl ln_L_260 (ci := 4) rfl dL_law_2060 (d' := 6) (by decide) (by omega) h63 rfl rfl (Nat.le_of_ble_eq_true rfl) (Nat.le_of_ble_eq_true rfl) HM (fun E2 q2 => ?_)
  obtain ⟨fm2, h63b⟩ := hM _ q2
  show J g mL_law 12 bc bs 2063 [some (.ref g.1.2.1), some (.ref (ad 0)), some (.ref (ad 63)), some (.ref (ad 69)), some (.int (nI i6)), some (.int k), none, none, none] [.int b] n ad E2 Φ Ψ
  refine j_istore (L' := [some (.ref g.1.2.1), some (.ref (ad 0)), some (.ref (ad 63)), some (.ref (ad 69)), some (.int (nI i6)), some (.int k), some (.int b), none, none]) dL_law_2063 (by decide) rfl rfl ?_
  refine j_aload_n dL_law_2065 rfl ?_
  refine j_cV (As := []) (rest := []) cm_X4_thrown ci_X4_thrown cs_X4_thrown rfl ln_L_133 (ci := 4) rfl dL_law_2066 (d' := 0) (by decide) (by omega) h63b rfl rfl (Nat.le_of_ble_eq_true rfl) (Nat.le_of_ble_eq_true rfl) (s_thrown' hn h63b) ?_
  refine j_iload dL_law_2069 rfl ?_
  refine j_icmp_eq_t (tgt := 2076) dL_law_2071 (by decide) rfl ?_
  refine j_iload dL_law_2076 rfl ?_
  refine j_if_ne_t (tgt := 2093) dL_law_2078 (by decide) hk ?_
  refine j_goto (tgt := 2592) dL_law_2093 (by decide) ?_
  refine j_clr 5 ?_
  refine j_clr 6 ?_
  exact K E2 q2
set_option maxRecDepth 100000 in
set_option maxHeartbeats 4000000 in
theorem lc_outOfOrder {g : jG} {n : Nat} {ad : Nat → Nat} {E : Nat → va_E} {i6 bc bs : Nat} {Φ : Option Value → jR} {Ψ : String → jR} {fs fm : List Value} (hi : i6 + 6 ≤ g.1.2.2.1) (hL : g.1.2.2.1 ≤ 3072) (hn : 70 ≤ n) (h0 : E 0 = .inr (3, fs)) (h63 : E 63 = .inr (4, fm)) {v : Int32} {PC : (Nat → va_E) → Prop} {PM : (Nat → va_E) → (Nat → va_E) → Prop} (HC : RetP g mX3_outOfOrder 10 [.ref (ad 0)] n ad E (some (.int v)) PC) (h69 : ∀ E1, PC E1 → E1 63 = E 63) (HM : ∀ E1, PC E1 → RetP g mX4_outOfOrder 6 [.ref (ad 63)] n ad E1 (some (.int v)) (PM E1)) (K : ∀ E1 E2, PC E1 → PM E1 E2 → J g mL_law 12 bc bs 2592 [some (.ref g.1.2.1), some (.ref (ad 0)), some (.ref (ad 63)), some (.ref (ad 69)), some (.int (nI i6)), none, none, none, none] [] n ad E2 Φ Ψ) : J g mL_law 12 bc bs 2096 [some (.ref g.1.2.1), some (.ref (ad 0)), some (.ref (ad 63)), some (.ref (ad 69)), some (.int (nI i6)), none, none, none, none] [] n ad E Φ Ψ := by
  refine j_aload_n dL_law_2096 rfl ?_
  refine j_cVp (As := []) (rest := []) cm_X3_outOfOrder ci_X3_outOfOrder cs_X3_outOfOrder rfl ln_L_261 (ci := 3) rfl dL_law_2097 (d' := 10) (by decide) (by omega) h0 rfl rfl (Nat.le_of_ble_eq_true rfl) (Nat.le_of_ble_eq_true rfl) HC (fun E1 p1 => ?_)
  obtain h63a := h69 E1 p1
  show J g mL_law 12 bc bs 2100 [some (.ref g.1.2.1), some (.ref (ad 0)), some (.ref (ad 63)), some (.ref (ad 69)), some (.int (nI i6)), none, none, none, none] [.int v] n ad E1 Φ Ψ
  refine j_aload_n dL_law_2100 rfl ?_
  refine j_cVp (As := []) (rest := [.int v]) cm_X4_outOfOrder ci_X4_outOfOrder cs_X4_outOfOrder rfl ln_L_264 (ci := 4) rfl dL_law_2101 (d' := 6) (by decide) (by omega) (h63a.trans h63) rfl rfl (Nat.le_of_ble_eq_true rfl) (Nat.le_of_ble_eq_true rfl) (HM E1 p1) (fun E2 q2 => ?_)
  show J g mL_law 12 bc bs 2104 [some (.ref g.1.2.1), some (.ref (ad 0)), some (.ref (ad 63)), some (.ref (ad 69)), some (.int (nI i6)), none, none, none, none] [.int v, .int v] n ad E2 Φ Ψ
  refine j_icmp_eq_t (tgt := 2592) dL_law_2104 (by decide) rfl ?_
  exact K E1 E2 p1 q2
set_option maxRecDepth 100000 in
set_option maxHeartbeats 4000000 in
theorem lc_alike_ok {g : jG} {n : Nat} {ad : Nat → Nat} {E : Nat → va_E} {i6 bc bs : Nat} {Φ : Option Value → jR} {Ψ : String → jR} {fs fm : List Value} (hi : i6 + 6 ≤ g.1.2.2.1) (hL : g.1.2.2.1 ≤ 3072) (hn : 70 ≤ n) (h0 : E 0 = .inr (3, fs)) (h63 : E 63 = .inr (4, fm)) {x1 : Int32} (e1 : g.1.2.2.2 (i6 + 1) = x1) {x2 : Int32} (e2 : g.1.2.2.2 (i6 + 2) = x2) {v : Int32} {PC : (Nat → va_E) → Prop} {PM : (Nat → va_E) → (Nat → va_E) → Prop} (HH : HOk g mL_alike 11 [.ref (ad 0), .int x1, .int x2, .ref (ad 69)] n ad E v.toInt64 PC) (h69 : ∀ E1, PC E1 → E1 63 = E 63) (HM : ∀ E1 o, PC E1 → RetP g mX4_alike 6 [.ref (ad 63), .int x1, .int x2] n ad (va_up E1 69 (aL g 1 (vp_updL o 0 v.toInt64))) (some (.int v)) (PM (va_up E1 69 (aL g 1 (vp_updL o 0 v.toInt64))))) (hM : ∀ E1 E2, PM E1 E2 → (∃ f9, E2 63 = .inr (4, .int 0 :: f9)) ∧ E2 69 = E1 69) (K : ∀ E1 o E2, PC E1 → E1 69 = aL g 1 o → PM (va_up E1 69 (aL g 1 (vp_updL o 0 v.toInt64))) E2 → J g mL_law 12 bc bs 2592 [some (.ref g.1.2.1), some (.ref (ad 0)), some (.ref (ad 63)), some (.ref (ad 69)), some (.int (nI i6)), none, none, none, none] [] n ad E2 Φ Ψ) : J g mL_law 12 bc bs 2109 [some (.ref g.1.2.1), some (.ref (ad 0)), some (.ref (ad 63)), some (.ref (ad 69)), some (.int (nI i6)), none, none, none, none] [] n ad E Φ Ψ := by
  refine j_aload_n dL_law_2109 rfl ?_
  refine j_aload_n dL_law_2110 rfl ?_
  refine j_iload dL_law_2111 rfl ?_
  refine j_iconst (v := nI 1) dL_law_2113 (by decide) ?_
  refine j_iadd dL_law_2114 ?_
  refine j_topi (y := nI (i6 + 1)) (nI_add _ _) ?_
  refine j_sald dL_law_2115 (by omega) (by omega) ?_
  refine j_topi (y := x1) e1 ?_
  refine j_aload_n dL_law_2116 rfl ?_
  refine j_iload dL_law_2117 rfl ?_
  refine j_iconst (v := nI 2) dL_law_2119 (by decide) ?_
  refine j_iadd dL_law_2120 ?_
  refine j_topi (y := nI (i6 + 2)) (nI_add _ _) ?_
  refine j_sald dL_law_2121 (by omega) (by omega) ?_
  refine j_topi (y := x2) e2 ?_
  refine j_aload_n dL_law_2122 rfl ?_
  refine j_cSH (As := [.ref (ad 0), .int x1, .int x2, .ref (ad 69)]) (rest := []) cm_L_alike ct_L_alike ln_L_265 dL_law_2123 (d' := 11) (by decide) rfl rfl (Nat.le_of_ble_eq_true rfl) (Nat.le_of_ble_eq_true rfl) HH (fun E1 o p1 ho => ?_)
  obtain h63a := h69 E1 p1
  show J g mL_law 12 bc bs 2126 [some (.ref g.1.2.1), some (.ref (ad 0)), some (.ref (ad 63)), some (.ref (ad 69)), some (.int (nI i6)), none, none, none, none] [.int 0] n ad (va_up E1 69 (aL g 1 (vp_updL o 0 v.toInt64))) Φ Ψ
  refine j_istore (L' := [some (.ref g.1.2.1), some (.ref (ad 0)), some (.ref (ad 63)), some (.ref (ad 69)), some (.int (nI i6)), some (.int 0), none, none, none]) dL_law_2126 (by decide) rfl rfl ?_
  refine j_aload_n dL_law_2128 rfl ?_
  refine j_aload_n dL_law_2129 rfl ?_
  refine j_iload dL_law_2130 rfl ?_
  refine j_iconst (v := nI 1) dL_law_2132 (by decide) ?_
  refine j_iadd dL_law_2133 ?_
  refine j_topi (y := nI (i6 + 1)) (nI_add _ _) ?_
  refine j_sald dL_law_2134 (by omega) (by omega) ?_
  refine j_topi (y := x1) e1 ?_
  refine j_aload_n dL_law_2135 rfl ?_
  refine j_iload dL_law_2136 rfl ?_
  refine j_iconst (v := nI 2) dL_law_2138 (by decide) ?_
  refine j_iadd dL_law_2139 ?_
  refine j_topi (y := nI (i6 + 2)) (nI_add _ _) ?_
  refine j_sald dL_law_2140 (by omega) (by omega) ?_
  refine j_topi (y := x2) e2 ?_
  refine j_cVp (As := [.int x1, .int x2]) (rest := []) cm_X4_alike ci_X4_alike cs_X4_alike rfl ln_L_267 (ci := 4) rfl dL_law_2141 (d' := 6) (by decide) (by omega) ((up_ne (by decide)).trans (h63a.trans h63)) rfl rfl (Nat.le_of_ble_eq_true rfl) (Nat.le_of_ble_eq_true rfl) (HM E1 _ p1) (fun E2 q2 => ?_)
  obtain ⟨⟨fm2, h63b⟩, h69b⟩ := hM _ _ q2
  show J g mL_law 12 bc bs 2144 [some (.ref g.1.2.1), some (.ref (ad 0)), some (.ref (ad 63)), some (.ref (ad 69)), some (.int (nI i6)), some (.int 0), none, none, none] [.int v] n ad E2 Φ Ψ
  refine j_istore (L' := [some (.ref g.1.2.1), some (.ref (ad 0)), some (.ref (ad 63)), some (.ref (ad 69)), some (.int (nI i6)), some (.int 0), some (.int v), none, none]) dL_law_2144 (by decide) rfl rfl ?_
  refine j_aload_n dL_law_2146 rfl ?_
  refine j_cV (As := []) (rest := []) cm_X4_thrown ci_X4_thrown cs_X4_thrown rfl ln_L_133 (ci := 4) rfl dL_law_2147 (d' := 0) (by decide) (by omega) h63b rfl rfl (Nat.le_of_ble_eq_true rfl) (Nat.le_of_ble_eq_true rfl) (s_thrown' hn h63b) ?_
  refine j_iload dL_law_2150 rfl ?_
  refine j_icmp_eq_t (tgt := 2157) dL_law_2152 (by decide) (by decide) ?_
  refine j_iload dL_law_2157 rfl ?_
  refine j_if_ne_f (tgt := 2174) dL_law_2159 (by decide) (by decide) ?_
  refine j_aload_n dL_law_2162 rfl ?_
  refine j_iconst (v := nI 0) dL_law_2163 (by decide) ?_
  refine j_lald dL_law_2164 (by omega) (h69b.trans up_eq) (by decide) (by omega) rfl ?_
  refine j_topl (y := v.toInt64) (if_pos rfl) ?_
  refine j_iload dL_law_2165 rfl ?_
  refine j_i2l dL_law_2167 ?_
  refine j_lcmp dL_law_2168 ?_
  refine j_topi (y := 0) (lg_self _) ?_
  refine j_if_eq_t (tgt := 2174) dL_law_2169 (by decide) (by decide) ?_
  refine j_goto (tgt := 2592) dL_law_2174 (by decide) ?_
  refine j_clr 5 ?_
  refine j_clr 6 ?_
  exact K E1 o E2 p1 ho q2
set_option maxRecDepth 100000 in
set_option maxHeartbeats 4000000 in
theorem lc_alike_bad {g : jG} {n : Nat} {ad : Nat → Nat} {E : Nat → va_E} {i6 bc bs : Nat} {Φ : Option Value → jR} {Ψ : String → jR} {fs fm : List Value} (hi : i6 + 6 ≤ g.1.2.2.1) (hL : g.1.2.2.1 ≤ 3072) (hn : 70 ≤ n) (h0 : E 0 = .inr (3, fs)) (h63 : E 63 = .inr (4, fm)) {x1 : Int32} (e1 : g.1.2.2.2 (i6 + 1) = x1) {x2 : Int32} (e2 : g.1.2.2.2 (i6 + 2) = x2) {k : Int32} (hk : ¬ k = 0) {b : Int32} {PM : (Nat → va_E) → Prop} (HH : HBad g mL_alike 11 [.ref (ad 0), .int x1, .int x2, .ref (ad 69)] n ad E k) (HM : RetP g mX4_alike 6 [.ref (ad 63), .int x1, .int x2] n ad E (some (.int b)) PM) (hM : ∀ E2, PM E2 → ∃ f9, E2 63 = .inr (4, .int k :: f9)) (K : ∀ E2, PM E2 → J g mL_law 12 bc bs 2592 [some (.ref g.1.2.1), some (.ref (ad 0)), some (.ref (ad 63)), some (.ref (ad 69)), some (.int (nI i6)), none, none, none, none] [] n ad E2 Φ Ψ) : J g mL_law 12 (1 + bc) (6 + bs) 2109 [some (.ref g.1.2.1), some (.ref (ad 0)), some (.ref (ad 63)), some (.ref (ad 69)), some (.int (nI i6)), none, none, none, none] [] n ad E Φ Ψ := by
  refine j_aload_n dL_law_2109 rfl ?_
  refine j_aload_n dL_law_2110 rfl ?_
  refine j_iload dL_law_2111 rfl ?_
  refine j_iconst (v := nI 1) dL_law_2113 (by decide) ?_
  refine j_iadd dL_law_2114 ?_
  refine j_topi (y := nI (i6 + 1)) (nI_add _ _) ?_
  refine j_sald dL_law_2115 (by omega) (by omega) ?_
  refine j_topi (y := x1) e1 ?_
  refine j_aload_n dL_law_2116 rfl ?_
  refine j_iload dL_law_2117 rfl ?_
  refine j_iconst (v := nI 2) dL_law_2119 (by decide) ?_
  refine j_iadd dL_law_2120 ?_
  refine j_topi (y := nI (i6 + 2)) (nI_add _ _) ?_
  refine j_sald dL_law_2121 (by omega) (by omega) ?_
  refine j_topi (y := x2) e2 ?_
  refine j_aload_n dL_law_2122 rfl ?_
  refine j_cSB (As := [.ref (ad 0), .int x1, .int x2, .ref (ad 69)]) (rest := []) cm_L_alike ct_L_alike ln_L_265 dL_law_2123 (d' := 11) (by decide) rfl rfl (Nat.le_of_ble_eq_true rfl) (Nat.le_of_ble_eq_true rfl) HH ?_
  show J g mL_law 12 bc bs 2126 [some (.ref g.1.2.1), some (.ref (ad 0)), some (.ref (ad 63)), some (.ref (ad 69)), some (.int (nI i6)), none, none, none, none] [.int k] n ad E Φ Ψ
  refine j_istore (L' := [some (.ref g.1.2.1), some (.ref (ad 0)), some (.ref (ad 63)), some (.ref (ad 69)), some (.int (nI i6)), some (.int k), none, none, none]) dL_law_2126 (by decide) rfl rfl ?_
  refine j_aload_n dL_law_2128 rfl ?_
  refine j_aload_n dL_law_2129 rfl ?_
  refine j_iload dL_law_2130 rfl ?_
  refine j_iconst (v := nI 1) dL_law_2132 (by decide) ?_
  refine j_iadd dL_law_2133 ?_
  refine j_topi (y := nI (i6 + 1)) (nI_add _ _) ?_
  refine j_sald dL_law_2134 (by omega) (by omega) ?_
  refine j_topi (y := x1) e1 ?_
  refine j_aload_n dL_law_2135 rfl ?_
  refine j_iload dL_law_2136 rfl ?_
  refine j_iconst (v := nI 2) dL_law_2138 (by decide) ?_
  refine j_iadd dL_law_2139 ?_
  refine j_topi (y := nI (i6 + 2)) (nI_add _ _) ?_
  refine j_sald dL_law_2140 (by omega) (by omega) ?_
  refine j_topi (y := x2) e2 ?_
  refine j_cVp (As := [.int x1, .int x2]) (rest := []) cm_X4_alike ci_X4_alike cs_X4_alike rfl ln_L_267 (ci := 4) rfl dL_law_2141 (d' := 6) (by decide) (by omega) h63 rfl rfl (Nat.le_of_ble_eq_true rfl) (Nat.le_of_ble_eq_true rfl) HM (fun E2 q2 => ?_)
  obtain ⟨fm2, h63b⟩ := hM _ q2
  show J g mL_law 12 bc bs 2144 [some (.ref g.1.2.1), some (.ref (ad 0)), some (.ref (ad 63)), some (.ref (ad 69)), some (.int (nI i6)), some (.int k), none, none, none] [.int b] n ad E2 Φ Ψ
  refine j_istore (L' := [some (.ref g.1.2.1), some (.ref (ad 0)), some (.ref (ad 63)), some (.ref (ad 69)), some (.int (nI i6)), some (.int k), some (.int b), none, none]) dL_law_2144 (by decide) rfl rfl ?_
  refine j_aload_n dL_law_2146 rfl ?_
  refine j_cV (As := []) (rest := []) cm_X4_thrown ci_X4_thrown cs_X4_thrown rfl ln_L_133 (ci := 4) rfl dL_law_2147 (d' := 0) (by decide) (by omega) h63b rfl rfl (Nat.le_of_ble_eq_true rfl) (Nat.le_of_ble_eq_true rfl) (s_thrown' hn h63b) ?_
  refine j_iload dL_law_2150 rfl ?_
  refine j_icmp_eq_t (tgt := 2157) dL_law_2152 (by decide) rfl ?_
  refine j_iload dL_law_2157 rfl ?_
  refine j_if_ne_t (tgt := 2174) dL_law_2159 (by decide) hk ?_
  refine j_goto (tgt := 2592) dL_law_2174 (by decide) ?_
  refine j_clr 5 ?_
  refine j_clr 6 ?_
  exact K E2 q2
set_option maxRecDepth 100000 in
set_option maxHeartbeats 4000000 in
theorem lc_changedSince_ok {g : jG} {n : Nat} {ad : Nat → Nat} {E : Nat → va_E} {i6 bc bs : Nat} {Φ : Option Value → jR} {Ψ : String → jR} {fs fm : List Value} (hi : i6 + 6 ≤ g.1.2.2.1) (hL : g.1.2.2.1 ≤ 3072) (hn : 70 ≤ n) (h0 : E 0 = .inr (3, fs)) (h63 : E 63 = .inr (4, fm)) {x1 : Int32} (e1 : g.1.2.2.2 (i6 + 1) = x1) {v : Int32} {PC : (Nat → va_E) → Prop} {PM : (Nat → va_E) → (Nat → va_E) → Prop} (HH : HOk g mL_changedSince 11 [.ref (ad 0), .int x1, .ref (ad 69)] n ad E v.toInt64 PC) (h69 : ∀ E1, PC E1 → E1 63 = E 63) (HM : ∀ E1 o, PC E1 → RetP g mX4_changedSince 6 [.ref (ad 63), .int x1] n ad (va_up E1 69 (aL g 1 (vp_updL o 0 v.toInt64))) (some (.int v)) (PM (va_up E1 69 (aL g 1 (vp_updL o 0 v.toInt64))))) (hM : ∀ E1 E2, PM E1 E2 → (∃ f9, E2 63 = .inr (4, .int 0 :: f9)) ∧ E2 69 = E1 69) (K : ∀ E1 o E2, PC E1 → E1 69 = aL g 1 o → PM (va_up E1 69 (aL g 1 (vp_updL o 0 v.toInt64))) E2 → J g mL_law 12 bc bs 2592 [some (.ref g.1.2.1), some (.ref (ad 0)), some (.ref (ad 63)), some (.ref (ad 69)), some (.int (nI i6)), none, none, none, none] [] n ad E2 Φ Ψ) : J g mL_law 12 bc bs 2177 [some (.ref g.1.2.1), some (.ref (ad 0)), some (.ref (ad 63)), some (.ref (ad 69)), some (.int (nI i6)), none, none, none, none] [] n ad E Φ Ψ := by
  refine j_aload_n dL_law_2177 rfl ?_
  refine j_aload_n dL_law_2178 rfl ?_
  refine j_iload dL_law_2179 rfl ?_
  refine j_iconst (v := nI 1) dL_law_2181 (by decide) ?_
  refine j_iadd dL_law_2182 ?_
  refine j_topi (y := nI (i6 + 1)) (nI_add _ _) ?_
  refine j_sald dL_law_2183 (by omega) (by omega) ?_
  refine j_topi (y := x1) e1 ?_
  refine j_aload_n dL_law_2184 rfl ?_
  refine j_cSH (As := [.ref (ad 0), .int x1, .ref (ad 69)]) (rest := []) cm_L_changedSince ct_L_changedSince ln_L_268 dL_law_2185 (d' := 11) (by decide) rfl rfl (Nat.le_of_ble_eq_true rfl) (Nat.le_of_ble_eq_true rfl) HH (fun E1 o p1 ho => ?_)
  obtain h63a := h69 E1 p1
  show J g mL_law 12 bc bs 2188 [some (.ref g.1.2.1), some (.ref (ad 0)), some (.ref (ad 63)), some (.ref (ad 69)), some (.int (nI i6)), none, none, none, none] [.int 0] n ad (va_up E1 69 (aL g 1 (vp_updL o 0 v.toInt64))) Φ Ψ
  refine j_istore (L' := [some (.ref g.1.2.1), some (.ref (ad 0)), some (.ref (ad 63)), some (.ref (ad 69)), some (.int (nI i6)), some (.int 0), none, none, none]) dL_law_2188 (by decide) rfl rfl ?_
  refine j_aload_n dL_law_2190 rfl ?_
  refine j_aload_n dL_law_2191 rfl ?_
  refine j_iload dL_law_2192 rfl ?_
  refine j_iconst (v := nI 1) dL_law_2194 (by decide) ?_
  refine j_iadd dL_law_2195 ?_
  refine j_topi (y := nI (i6 + 1)) (nI_add _ _) ?_
  refine j_sald dL_law_2196 (by omega) (by omega) ?_
  refine j_topi (y := x1) e1 ?_
  refine j_cVp (As := [.int x1]) (rest := []) cm_X4_changedSince ci_X4_changedSince cs_X4_changedSince rfl ln_L_270 (ci := 4) rfl dL_law_2197 (d' := 6) (by decide) (by omega) ((up_ne (by decide)).trans (h63a.trans h63)) rfl rfl (Nat.le_of_ble_eq_true rfl) (Nat.le_of_ble_eq_true rfl) (HM E1 _ p1) (fun E2 q2 => ?_)
  obtain ⟨⟨fm2, h63b⟩, h69b⟩ := hM _ _ q2
  show J g mL_law 12 bc bs 2200 [some (.ref g.1.2.1), some (.ref (ad 0)), some (.ref (ad 63)), some (.ref (ad 69)), some (.int (nI i6)), some (.int 0), none, none, none] [.int v] n ad E2 Φ Ψ
  refine j_istore (L' := [some (.ref g.1.2.1), some (.ref (ad 0)), some (.ref (ad 63)), some (.ref (ad 69)), some (.int (nI i6)), some (.int 0), some (.int v), none, none]) dL_law_2200 (by decide) rfl rfl ?_
  refine j_aload_n dL_law_2202 rfl ?_
  refine j_cV (As := []) (rest := []) cm_X4_thrown ci_X4_thrown cs_X4_thrown rfl ln_L_133 (ci := 4) rfl dL_law_2203 (d' := 0) (by decide) (by omega) h63b rfl rfl (Nat.le_of_ble_eq_true rfl) (Nat.le_of_ble_eq_true rfl) (s_thrown' hn h63b) ?_
  refine j_iload dL_law_2206 rfl ?_
  refine j_icmp_eq_t (tgt := 2213) dL_law_2208 (by decide) (by decide) ?_
  refine j_iload dL_law_2213 rfl ?_
  refine j_if_ne_f (tgt := 2230) dL_law_2215 (by decide) (by decide) ?_
  refine j_aload_n dL_law_2218 rfl ?_
  refine j_iconst (v := nI 0) dL_law_2219 (by decide) ?_
  refine j_lald dL_law_2220 (by omega) (h69b.trans up_eq) (by decide) (by omega) rfl ?_
  refine j_topl (y := v.toInt64) (if_pos rfl) ?_
  refine j_iload dL_law_2221 rfl ?_
  refine j_i2l dL_law_2223 ?_
  refine j_lcmp dL_law_2224 ?_
  refine j_topi (y := 0) (lg_self _) ?_
  refine j_if_eq_t (tgt := 2230) dL_law_2225 (by decide) (by decide) ?_
  refine j_goto (tgt := 2592) dL_law_2230 (by decide) ?_
  refine j_clr 5 ?_
  refine j_clr 6 ?_
  exact K E1 o E2 p1 ho q2
set_option maxRecDepth 100000 in
set_option maxHeartbeats 4000000 in
theorem lc_changedSince_bad {g : jG} {n : Nat} {ad : Nat → Nat} {E : Nat → va_E} {i6 bc bs : Nat} {Φ : Option Value → jR} {Ψ : String → jR} {fs fm : List Value} (hi : i6 + 6 ≤ g.1.2.2.1) (hL : g.1.2.2.1 ≤ 3072) (hn : 70 ≤ n) (h0 : E 0 = .inr (3, fs)) (h63 : E 63 = .inr (4, fm)) {x1 : Int32} (e1 : g.1.2.2.2 (i6 + 1) = x1) {k : Int32} (hk : ¬ k = 0) {b : Int32} {PM : (Nat → va_E) → Prop} (HH : HBad g mL_changedSince 11 [.ref (ad 0), .int x1, .ref (ad 69)] n ad E k) (HM : RetP g mX4_changedSince 6 [.ref (ad 63), .int x1] n ad E (some (.int b)) PM) (hM : ∀ E2, PM E2 → ∃ f9, E2 63 = .inr (4, .int k :: f9)) (K : ∀ E2, PM E2 → J g mL_law 12 bc bs 2592 [some (.ref g.1.2.1), some (.ref (ad 0)), some (.ref (ad 63)), some (.ref (ad 69)), some (.int (nI i6)), none, none, none, none] [] n ad E2 Φ Ψ) : J g mL_law 12 (1 + bc) (6 + bs) 2177 [some (.ref g.1.2.1), some (.ref (ad 0)), some (.ref (ad 63)), some (.ref (ad 69)), some (.int (nI i6)), none, none, none, none] [] n ad E Φ Ψ := by
  refine j_aload_n dL_law_2177 rfl ?_
  refine j_aload_n dL_law_2178 rfl ?_
  refine j_iload dL_law_2179 rfl ?_
  refine j_iconst (v := nI 1) dL_law_2181 (by decide) ?_
  refine j_iadd dL_law_2182 ?_
  refine j_topi (y := nI (i6 + 1)) (nI_add _ _) ?_
  refine j_sald dL_law_2183 (by omega) (by omega) ?_
  refine j_topi (y := x1) e1 ?_
  refine j_aload_n dL_law_2184 rfl ?_
  refine j_cSB (As := [.ref (ad 0), .int x1, .ref (ad 69)]) (rest := []) cm_L_changedSince ct_L_changedSince ln_L_268 dL_law_2185 (d' := 11) (by decide) rfl rfl (Nat.le_of_ble_eq_true rfl) (Nat.le_of_ble_eq_true rfl) HH ?_
  show J g mL_law 12 bc bs 2188 [some (.ref g.1.2.1), some (.ref (ad 0)), some (.ref (ad 63)), some (.ref (ad 69)), some (.int (nI i6)), none, none, none, none] [.int k] n ad E Φ Ψ
  refine j_istore (L' := [some (.ref g.1.2.1), some (.ref (ad 0)), some (.ref (ad 63)), some (.ref (ad 69)), some (.int (nI i6)), some (.int k), none, none, none]) dL_law_2188 (by decide) rfl rfl ?_
  refine j_aload_n dL_law_2190 rfl ?_
  refine j_aload_n dL_law_2191 rfl ?_
  refine j_iload dL_law_2192 rfl ?_
  refine j_iconst (v := nI 1) dL_law_2194 (by decide) ?_
  refine j_iadd dL_law_2195 ?_
  refine j_topi (y := nI (i6 + 1)) (nI_add _ _) ?_
  refine j_sald dL_law_2196 (by omega) (by omega) ?_
  refine j_topi (y := x1) e1 ?_
  refine j_cVp (As := [.int x1]) (rest := []) cm_X4_changedSince ci_X4_changedSince cs_X4_changedSince rfl ln_L_270 (ci := 4) rfl dL_law_2197 (d' := 6) (by decide) (by omega) h63 rfl rfl (Nat.le_of_ble_eq_true rfl) (Nat.le_of_ble_eq_true rfl) HM (fun E2 q2 => ?_)
  obtain ⟨fm2, h63b⟩ := hM _ q2
  show J g mL_law 12 bc bs 2200 [some (.ref g.1.2.1), some (.ref (ad 0)), some (.ref (ad 63)), some (.ref (ad 69)), some (.int (nI i6)), some (.int k), none, none, none] [.int b] n ad E2 Φ Ψ
  refine j_istore (L' := [some (.ref g.1.2.1), some (.ref (ad 0)), some (.ref (ad 63)), some (.ref (ad 69)), some (.int (nI i6)), some (.int k), some (.int b), none, none]) dL_law_2200 (by decide) rfl rfl ?_
  refine j_aload_n dL_law_2202 rfl ?_
  refine j_cV (As := []) (rest := []) cm_X4_thrown ci_X4_thrown cs_X4_thrown rfl ln_L_133 (ci := 4) rfl dL_law_2203 (d' := 0) (by decide) (by omega) h63b rfl rfl (Nat.le_of_ble_eq_true rfl) (Nat.le_of_ble_eq_true rfl) (s_thrown' hn h63b) ?_
  refine j_iload dL_law_2206 rfl ?_
  refine j_icmp_eq_t (tgt := 2213) dL_law_2208 (by decide) rfl ?_
  refine j_iload dL_law_2213 rfl ?_
  refine j_if_ne_t (tgt := 2230) dL_law_2215 (by decide) hk ?_
  refine j_goto (tgt := 2592) dL_law_2230 (by decide) ?_
  refine j_clr 5 ?_
  refine j_clr 6 ?_
  exact K E2 q2
set_option maxRecDepth 100000 in
set_option maxHeartbeats 4000000 in
theorem lc_totalIn_ok {g : jG} {n : Nat} {ad : Nat → Nat} {E : Nat → va_E} {i6 bc bs : Nat} {Φ : Option Value → jR} {Ψ : String → jR} {fs fm : List Value} (hi : i6 + 6 ≤ g.1.2.2.1) (hL : g.1.2.2.1 ≤ 3072) (hn : 70 ≤ n) (h0 : E 0 = .inr (3, fs)) (h63 : E 63 = .inr (4, fm)) {x1 : Int32} (e1 : g.1.2.2.2 (i6 + 1) = x1) {v : Int64} {PC : (Nat → va_E) → Prop} {PM : (Nat → va_E) → (Nat → va_E) → Prop} (HH : HOk g mL_totalIn 11 [.ref (ad 0), .int x1, .ref (ad 69)] n ad E v PC) (h69 : ∀ E1, PC E1 → E1 63 = E 63) (HM : ∀ E1 o, PC E1 → RetP g mX4_totalIn 6 [.ref (ad 63), .int x1] n ad (va_up E1 69 (aL g 1 (vp_updL o 0 v))) (some (.long v)) (PM (va_up E1 69 (aL g 1 (vp_updL o 0 v))))) (hM : ∀ E1 E2, PM E1 E2 → (∃ f9, E2 63 = .inr (4, .int 0 :: f9)) ∧ E2 69 = E1 69) (K : ∀ E1 o E2, PC E1 → E1 69 = aL g 1 o → PM (va_up E1 69 (aL g 1 (vp_updL o 0 v))) E2 → J g mL_law 12 bc bs 2592 [some (.ref g.1.2.1), some (.ref (ad 0)), some (.ref (ad 63)), some (.ref (ad 69)), some (.int (nI i6)), none, none, none, none] [] n ad E2 Φ Ψ) : J g mL_law 12 bc bs 2233 [some (.ref g.1.2.1), some (.ref (ad 0)), some (.ref (ad 63)), some (.ref (ad 69)), some (.int (nI i6)), none, none, none, none] [] n ad E Φ Ψ := by
  refine j_aload_n dL_law_2233 rfl ?_
  refine j_aload_n dL_law_2234 rfl ?_
  refine j_iload dL_law_2235 rfl ?_
  refine j_iconst (v := nI 1) dL_law_2237 (by decide) ?_
  refine j_iadd dL_law_2238 ?_
  refine j_topi (y := nI (i6 + 1)) (nI_add _ _) ?_
  refine j_sald dL_law_2239 (by omega) (by omega) ?_
  refine j_topi (y := x1) e1 ?_
  refine j_aload_n dL_law_2240 rfl ?_
  refine j_cSH (As := [.ref (ad 0), .int x1, .ref (ad 69)]) (rest := []) cm_L_totalIn ct_L_totalIn ln_L_271 dL_law_2241 (d' := 11) (by decide) rfl rfl (Nat.le_of_ble_eq_true rfl) (Nat.le_of_ble_eq_true rfl) HH (fun E1 o p1 ho => ?_)
  obtain h63a := h69 E1 p1
  show J g mL_law 12 bc bs 2244 [some (.ref g.1.2.1), some (.ref (ad 0)), some (.ref (ad 63)), some (.ref (ad 69)), some (.int (nI i6)), none, none, none, none] [.int 0] n ad (va_up E1 69 (aL g 1 (vp_updL o 0 v))) Φ Ψ
  refine j_istore (L' := [some (.ref g.1.2.1), some (.ref (ad 0)), some (.ref (ad 63)), some (.ref (ad 69)), some (.int (nI i6)), some (.int 0), none, none, none]) dL_law_2244 (by decide) rfl rfl ?_
  refine j_aload_n dL_law_2246 rfl ?_
  refine j_aload_n dL_law_2247 rfl ?_
  refine j_iload dL_law_2248 rfl ?_
  refine j_iconst (v := nI 1) dL_law_2250 (by decide) ?_
  refine j_iadd dL_law_2251 ?_
  refine j_topi (y := nI (i6 + 1)) (nI_add _ _) ?_
  refine j_sald dL_law_2252 (by omega) (by omega) ?_
  refine j_topi (y := x1) e1 ?_
  refine j_cVp (As := [.int x1]) (rest := []) cm_X4_totalIn ci_X4_totalIn cs_X4_totalIn rfl ln_L_273 (ci := 4) rfl dL_law_2253 (d' := 6) (by decide) (by omega) ((up_ne (by decide)).trans (h63a.trans h63)) rfl rfl (Nat.le_of_ble_eq_true rfl) (Nat.le_of_ble_eq_true rfl) (HM E1 _ p1) (fun E2 q2 => ?_)
  obtain ⟨⟨fm2, h63b⟩, h69b⟩ := hM _ _ q2
  show J g mL_law 12 bc bs 2256 [some (.ref g.1.2.1), some (.ref (ad 0)), some (.ref (ad 63)), some (.ref (ad 69)), some (.int (nI i6)), some (.int 0), none, none, none] [.long v] n ad E2 Φ Ψ
  refine j_lstore (L' := [some (.ref g.1.2.1), some (.ref (ad 0)), some (.ref (ad 63)), some (.ref (ad 69)), some (.int (nI i6)), some (.int 0), some (.long v), none, none]) dL_law_2256 (by decide) rfl rfl ?_
  refine j_aload_n dL_law_2258 rfl ?_
  refine j_cV (As := []) (rest := []) cm_X4_thrown ci_X4_thrown cs_X4_thrown rfl ln_L_133 (ci := 4) rfl dL_law_2259 (d' := 0) (by decide) (by omega) h63b rfl rfl (Nat.le_of_ble_eq_true rfl) (Nat.le_of_ble_eq_true rfl) (s_thrown' hn h63b) ?_
  refine j_iload dL_law_2262 rfl ?_
  refine j_icmp_eq_t (tgt := 2269) dL_law_2264 (by decide) (by decide) ?_
  refine j_iload dL_law_2269 rfl ?_
  refine j_if_ne_f (tgt := 2285) dL_law_2271 (by decide) (by decide) ?_
  refine j_aload_n dL_law_2274 rfl ?_
  refine j_iconst (v := nI 0) dL_law_2275 (by decide) ?_
  refine j_lald dL_law_2276 (by omega) (h69b.trans up_eq) (by decide) (by omega) rfl ?_
  refine j_topl (y := v) (if_pos rfl) ?_
  refine j_lload dL_law_2277 rfl ?_
  refine j_lcmp dL_law_2279 ?_
  refine j_topi (y := 0) (lg_self _) ?_
  refine j_if_eq_t (tgt := 2285) dL_law_2280 (by decide) (by decide) ?_
  refine j_goto (tgt := 2592) dL_law_2285 (by decide) ?_
  refine j_clr 5 ?_
  refine j_clr 6 ?_
  exact K E1 o E2 p1 ho q2
set_option maxRecDepth 100000 in
set_option maxHeartbeats 4000000 in
theorem lc_totalIn_bad {g : jG} {n : Nat} {ad : Nat → Nat} {E : Nat → va_E} {i6 bc bs : Nat} {Φ : Option Value → jR} {Ψ : String → jR} {fs fm : List Value} (hi : i6 + 6 ≤ g.1.2.2.1) (hL : g.1.2.2.1 ≤ 3072) (hn : 70 ≤ n) (h0 : E 0 = .inr (3, fs)) (h63 : E 63 = .inr (4, fm)) {x1 : Int32} (e1 : g.1.2.2.2 (i6 + 1) = x1) {k : Int32} (hk : ¬ k = 0) {b : Int64} {PM : (Nat → va_E) → Prop} (HH : HBad g mL_totalIn 11 [.ref (ad 0), .int x1, .ref (ad 69)] n ad E k) (HM : RetP g mX4_totalIn 6 [.ref (ad 63), .int x1] n ad E (some (.long b)) PM) (hM : ∀ E2, PM E2 → ∃ f9, E2 63 = .inr (4, .int k :: f9)) (K : ∀ E2, PM E2 → J g mL_law 12 bc bs 2592 [some (.ref g.1.2.1), some (.ref (ad 0)), some (.ref (ad 63)), some (.ref (ad 69)), some (.int (nI i6)), none, none, none, none] [] n ad E2 Φ Ψ) : J g mL_law 12 (1 + bc) (6 + bs) 2233 [some (.ref g.1.2.1), some (.ref (ad 0)), some (.ref (ad 63)), some (.ref (ad 69)), some (.int (nI i6)), none, none, none, none] [] n ad E Φ Ψ := by
  refine j_aload_n dL_law_2233 rfl ?_
  refine j_aload_n dL_law_2234 rfl ?_
  refine j_iload dL_law_2235 rfl ?_
  refine j_iconst (v := nI 1) dL_law_2237 (by decide) ?_
  refine j_iadd dL_law_2238 ?_
  refine j_topi (y := nI (i6 + 1)) (nI_add _ _) ?_
  refine j_sald dL_law_2239 (by omega) (by omega) ?_
  refine j_topi (y := x1) e1 ?_
  refine j_aload_n dL_law_2240 rfl ?_
  refine j_cSB (As := [.ref (ad 0), .int x1, .ref (ad 69)]) (rest := []) cm_L_totalIn ct_L_totalIn ln_L_271 dL_law_2241 (d' := 11) (by decide) rfl rfl (Nat.le_of_ble_eq_true rfl) (Nat.le_of_ble_eq_true rfl) HH ?_
  show J g mL_law 12 bc bs 2244 [some (.ref g.1.2.1), some (.ref (ad 0)), some (.ref (ad 63)), some (.ref (ad 69)), some (.int (nI i6)), none, none, none, none] [.int k] n ad E Φ Ψ
  refine j_istore (L' := [some (.ref g.1.2.1), some (.ref (ad 0)), some (.ref (ad 63)), some (.ref (ad 69)), some (.int (nI i6)), some (.int k), none, none, none]) dL_law_2244 (by decide) rfl rfl ?_
  refine j_aload_n dL_law_2246 rfl ?_
  refine j_aload_n dL_law_2247 rfl ?_
  refine j_iload dL_law_2248 rfl ?_
  refine j_iconst (v := nI 1) dL_law_2250 (by decide) ?_
  refine j_iadd dL_law_2251 ?_
  refine j_topi (y := nI (i6 + 1)) (nI_add _ _) ?_
  refine j_sald dL_law_2252 (by omega) (by omega) ?_
  refine j_topi (y := x1) e1 ?_
  refine j_cVp (As := [.int x1]) (rest := []) cm_X4_totalIn ci_X4_totalIn cs_X4_totalIn rfl ln_L_273 (ci := 4) rfl dL_law_2253 (d' := 6) (by decide) (by omega) h63 rfl rfl (Nat.le_of_ble_eq_true rfl) (Nat.le_of_ble_eq_true rfl) HM (fun E2 q2 => ?_)
  obtain ⟨fm2, h63b⟩ := hM _ q2
  show J g mL_law 12 bc bs 2256 [some (.ref g.1.2.1), some (.ref (ad 0)), some (.ref (ad 63)), some (.ref (ad 69)), some (.int (nI i6)), some (.int k), none, none, none] [.long b] n ad E2 Φ Ψ
  refine j_lstore (L' := [some (.ref g.1.2.1), some (.ref (ad 0)), some (.ref (ad 63)), some (.ref (ad 69)), some (.int (nI i6)), some (.int k), some (.long b), none, none]) dL_law_2256 (by decide) rfl rfl ?_
  refine j_aload_n dL_law_2258 rfl ?_
  refine j_cV (As := []) (rest := []) cm_X4_thrown ci_X4_thrown cs_X4_thrown rfl ln_L_133 (ci := 4) rfl dL_law_2259 (d' := 0) (by decide) (by omega) h63b rfl rfl (Nat.le_of_ble_eq_true rfl) (Nat.le_of_ble_eq_true rfl) (s_thrown' hn h63b) ?_
  refine j_iload dL_law_2262 rfl ?_
  refine j_icmp_eq_t (tgt := 2269) dL_law_2264 (by decide) rfl ?_
  refine j_iload dL_law_2269 rfl ?_
  refine j_if_ne_t (tgt := 2285) dL_law_2271 (by decide) hk ?_
  refine j_goto (tgt := 2592) dL_law_2285 (by decide) ?_
  refine j_clr 5 ?_
  refine j_clr 6 ?_
  exact K E2 q2
set_option maxRecDepth 100000 in
set_option maxHeartbeats 4000000 in
theorem lc_goneIn_ok {g : jG} {n : Nat} {ad : Nat → Nat} {E : Nat → va_E} {i6 bc bs : Nat} {Φ : Option Value → jR} {Ψ : String → jR} {fs fm : List Value} (hi : i6 + 6 ≤ g.1.2.2.1) (hL : g.1.2.2.1 ≤ 3072) (hn : 70 ≤ n) (h0 : E 0 = .inr (3, fs)) (h63 : E 63 = .inr (4, fm)) {x1 : Int32} (e1 : g.1.2.2.2 (i6 + 1) = x1) {v : Int32} {PC : (Nat → va_E) → Prop} {PM : (Nat → va_E) → (Nat → va_E) → Prop} (HH : HOk g mL_goneIn 11 [.ref (ad 0), .int x1, .ref (ad 69)] n ad E v.toInt64 PC) (h69 : ∀ E1, PC E1 → E1 63 = E 63) (HM : ∀ E1 o, PC E1 → RetP g mX4_goneIn 6 [.ref (ad 63), .int x1] n ad (va_up E1 69 (aL g 1 (vp_updL o 0 v.toInt64))) (some (.int v)) (PM (va_up E1 69 (aL g 1 (vp_updL o 0 v.toInt64))))) (hM : ∀ E1 E2, PM E1 E2 → (∃ f9, E2 63 = .inr (4, .int 0 :: f9)) ∧ E2 69 = E1 69) (K : ∀ E1 o E2, PC E1 → E1 69 = aL g 1 o → PM (va_up E1 69 (aL g 1 (vp_updL o 0 v.toInt64))) E2 → J g mL_law 12 bc bs 2592 [some (.ref g.1.2.1), some (.ref (ad 0)), some (.ref (ad 63)), some (.ref (ad 69)), some (.int (nI i6)), none, none, none, none] [] n ad E2 Φ Ψ) : J g mL_law 12 bc bs 2288 [some (.ref g.1.2.1), some (.ref (ad 0)), some (.ref (ad 63)), some (.ref (ad 69)), some (.int (nI i6)), none, none, none, none] [] n ad E Φ Ψ := by
  refine j_aload_n dL_law_2288 rfl ?_
  refine j_aload_n dL_law_2289 rfl ?_
  refine j_iload dL_law_2290 rfl ?_
  refine j_iconst (v := nI 1) dL_law_2292 (by decide) ?_
  refine j_iadd dL_law_2293 ?_
  refine j_topi (y := nI (i6 + 1)) (nI_add _ _) ?_
  refine j_sald dL_law_2294 (by omega) (by omega) ?_
  refine j_topi (y := x1) e1 ?_
  refine j_aload_n dL_law_2295 rfl ?_
  refine j_cSH (As := [.ref (ad 0), .int x1, .ref (ad 69)]) (rest := []) cm_L_goneIn ct_L_goneIn ln_L_274 dL_law_2296 (d' := 11) (by decide) rfl rfl (Nat.le_of_ble_eq_true rfl) (Nat.le_of_ble_eq_true rfl) HH (fun E1 o p1 ho => ?_)
  obtain h63a := h69 E1 p1
  show J g mL_law 12 bc bs 2299 [some (.ref g.1.2.1), some (.ref (ad 0)), some (.ref (ad 63)), some (.ref (ad 69)), some (.int (nI i6)), none, none, none, none] [.int 0] n ad (va_up E1 69 (aL g 1 (vp_updL o 0 v.toInt64))) Φ Ψ
  refine j_istore (L' := [some (.ref g.1.2.1), some (.ref (ad 0)), some (.ref (ad 63)), some (.ref (ad 69)), some (.int (nI i6)), some (.int 0), none, none, none]) dL_law_2299 (by decide) rfl rfl ?_
  refine j_aload_n dL_law_2301 rfl ?_
  refine j_aload_n dL_law_2302 rfl ?_
  refine j_iload dL_law_2303 rfl ?_
  refine j_iconst (v := nI 1) dL_law_2305 (by decide) ?_
  refine j_iadd dL_law_2306 ?_
  refine j_topi (y := nI (i6 + 1)) (nI_add _ _) ?_
  refine j_sald dL_law_2307 (by omega) (by omega) ?_
  refine j_topi (y := x1) e1 ?_
  refine j_cVp (As := [.int x1]) (rest := []) cm_X4_goneIn ci_X4_goneIn cs_X4_goneIn rfl ln_L_276 (ci := 4) rfl dL_law_2308 (d' := 6) (by decide) (by omega) ((up_ne (by decide)).trans (h63a.trans h63)) rfl rfl (Nat.le_of_ble_eq_true rfl) (Nat.le_of_ble_eq_true rfl) (HM E1 _ p1) (fun E2 q2 => ?_)
  obtain ⟨⟨fm2, h63b⟩, h69b⟩ := hM _ _ q2
  show J g mL_law 12 bc bs 2311 [some (.ref g.1.2.1), some (.ref (ad 0)), some (.ref (ad 63)), some (.ref (ad 69)), some (.int (nI i6)), some (.int 0), none, none, none] [.int v] n ad E2 Φ Ψ
  refine j_istore (L' := [some (.ref g.1.2.1), some (.ref (ad 0)), some (.ref (ad 63)), some (.ref (ad 69)), some (.int (nI i6)), some (.int 0), some (.int v), none, none]) dL_law_2311 (by decide) rfl rfl ?_
  refine j_aload_n dL_law_2313 rfl ?_
  refine j_cV (As := []) (rest := []) cm_X4_thrown ci_X4_thrown cs_X4_thrown rfl ln_L_133 (ci := 4) rfl dL_law_2314 (d' := 0) (by decide) (by omega) h63b rfl rfl (Nat.le_of_ble_eq_true rfl) (Nat.le_of_ble_eq_true rfl) (s_thrown' hn h63b) ?_
  refine j_iload dL_law_2317 rfl ?_
  refine j_icmp_eq_t (tgt := 2324) dL_law_2319 (by decide) (by decide) ?_
  refine j_iload dL_law_2324 rfl ?_
  refine j_if_ne_f (tgt := 2341) dL_law_2326 (by decide) (by decide) ?_
  refine j_aload_n dL_law_2329 rfl ?_
  refine j_iconst (v := nI 0) dL_law_2330 (by decide) ?_
  refine j_lald dL_law_2331 (by omega) (h69b.trans up_eq) (by decide) (by omega) rfl ?_
  refine j_topl (y := v.toInt64) (if_pos rfl) ?_
  refine j_iload dL_law_2332 rfl ?_
  refine j_i2l dL_law_2334 ?_
  refine j_lcmp dL_law_2335 ?_
  refine j_topi (y := 0) (lg_self _) ?_
  refine j_if_eq_t (tgt := 2341) dL_law_2336 (by decide) (by decide) ?_
  refine j_goto (tgt := 2592) dL_law_2341 (by decide) ?_
  refine j_clr 5 ?_
  refine j_clr 6 ?_
  exact K E1 o E2 p1 ho q2
set_option maxRecDepth 100000 in
set_option maxHeartbeats 4000000 in
theorem lc_goneIn_bad {g : jG} {n : Nat} {ad : Nat → Nat} {E : Nat → va_E} {i6 bc bs : Nat} {Φ : Option Value → jR} {Ψ : String → jR} {fs fm : List Value} (hi : i6 + 6 ≤ g.1.2.2.1) (hL : g.1.2.2.1 ≤ 3072) (hn : 70 ≤ n) (h0 : E 0 = .inr (3, fs)) (h63 : E 63 = .inr (4, fm)) {x1 : Int32} (e1 : g.1.2.2.2 (i6 + 1) = x1) {k : Int32} (hk : ¬ k = 0) {b : Int32} {PM : (Nat → va_E) → Prop} (HH : HBad g mL_goneIn 11 [.ref (ad 0), .int x1, .ref (ad 69)] n ad E k) (HM : RetP g mX4_goneIn 6 [.ref (ad 63), .int x1] n ad E (some (.int b)) PM) (hM : ∀ E2, PM E2 → ∃ f9, E2 63 = .inr (4, .int k :: f9)) (K : ∀ E2, PM E2 → J g mL_law 12 bc bs 2592 [some (.ref g.1.2.1), some (.ref (ad 0)), some (.ref (ad 63)), some (.ref (ad 69)), some (.int (nI i6)), none, none, none, none] [] n ad E2 Φ Ψ) : J g mL_law 12 (1 + bc) (6 + bs) 2288 [some (.ref g.1.2.1), some (.ref (ad 0)), some (.ref (ad 63)), some (.ref (ad 69)), some (.int (nI i6)), none, none, none, none] [] n ad E Φ Ψ := by
  refine j_aload_n dL_law_2288 rfl ?_
  refine j_aload_n dL_law_2289 rfl ?_
  refine j_iload dL_law_2290 rfl ?_
  refine j_iconst (v := nI 1) dL_law_2292 (by decide) ?_
  refine j_iadd dL_law_2293 ?_
  refine j_topi (y := nI (i6 + 1)) (nI_add _ _) ?_
  refine j_sald dL_law_2294 (by omega) (by omega) ?_
  refine j_topi (y := x1) e1 ?_
  refine j_aload_n dL_law_2295 rfl ?_
  refine j_cSB (As := [.ref (ad 0), .int x1, .ref (ad 69)]) (rest := []) cm_L_goneIn ct_L_goneIn ln_L_274 dL_law_2296 (d' := 11) (by decide) rfl rfl (Nat.le_of_ble_eq_true rfl) (Nat.le_of_ble_eq_true rfl) HH ?_
  show J g mL_law 12 bc bs 2299 [some (.ref g.1.2.1), some (.ref (ad 0)), some (.ref (ad 63)), some (.ref (ad 69)), some (.int (nI i6)), none, none, none, none] [.int k] n ad E Φ Ψ
  refine j_istore (L' := [some (.ref g.1.2.1), some (.ref (ad 0)), some (.ref (ad 63)), some (.ref (ad 69)), some (.int (nI i6)), some (.int k), none, none, none]) dL_law_2299 (by decide) rfl rfl ?_
  refine j_aload_n dL_law_2301 rfl ?_
  refine j_aload_n dL_law_2302 rfl ?_
  refine j_iload dL_law_2303 rfl ?_
  refine j_iconst (v := nI 1) dL_law_2305 (by decide) ?_
  refine j_iadd dL_law_2306 ?_
  refine j_topi (y := nI (i6 + 1)) (nI_add _ _) ?_
  refine j_sald dL_law_2307 (by omega) (by omega) ?_
  refine j_topi (y := x1) e1 ?_
  refine j_cVp (As := [.int x1]) (rest := []) cm_X4_goneIn ci_X4_goneIn cs_X4_goneIn rfl ln_L_276 (ci := 4) rfl dL_law_2308 (d' := 6) (by decide) (by omega) h63 rfl rfl (Nat.le_of_ble_eq_true rfl) (Nat.le_of_ble_eq_true rfl) HM (fun E2 q2 => ?_)
  obtain ⟨fm2, h63b⟩ := hM _ q2
  show J g mL_law 12 bc bs 2311 [some (.ref g.1.2.1), some (.ref (ad 0)), some (.ref (ad 63)), some (.ref (ad 69)), some (.int (nI i6)), some (.int k), none, none, none] [.int b] n ad E2 Φ Ψ
  refine j_istore (L' := [some (.ref g.1.2.1), some (.ref (ad 0)), some (.ref (ad 63)), some (.ref (ad 69)), some (.int (nI i6)), some (.int k), some (.int b), none, none]) dL_law_2311 (by decide) rfl rfl ?_
  refine j_aload_n dL_law_2313 rfl ?_
  refine j_cV (As := []) (rest := []) cm_X4_thrown ci_X4_thrown cs_X4_thrown rfl ln_L_133 (ci := 4) rfl dL_law_2314 (d' := 0) (by decide) (by omega) h63b rfl rfl (Nat.le_of_ble_eq_true rfl) (Nat.le_of_ble_eq_true rfl) (s_thrown' hn h63b) ?_
  refine j_iload dL_law_2317 rfl ?_
  refine j_icmp_eq_t (tgt := 2324) dL_law_2319 (by decide) rfl ?_
  refine j_iload dL_law_2324 rfl ?_
  refine j_if_ne_t (tgt := 2341) dL_law_2326 (by decide) hk ?_
  refine j_goto (tgt := 2592) dL_law_2341 (by decide) ?_
  refine j_clr 5 ?_
  refine j_clr 6 ?_
  exact K E2 q2
set_option maxRecDepth 100000 in
set_option maxHeartbeats 4000000 in
theorem lc_hoursUntilDry {g : jG} {n : Nat} {ad : Nat → Nat} {E : Nat → va_E} {i6 bc bs : Nat} {Φ : Option Value → jR} {Ψ : String → jR} {fs fm : List Value} (hi : i6 + 6 ≤ g.1.2.2.1) (hL : g.1.2.2.1 ≤ 3072) (hn : 70 ≤ n) (h0 : E 0 = .inr (3, fs)) (h63 : E 63 = .inr (4, fm)) {v : Int32} {PC : (Nat → va_E) → Prop} {PM : (Nat → va_E) → (Nat → va_E) → Prop} (HC : RetP g mX3_hoursUntilDry 10 [.ref (ad 0)] n ad E (some (.int v)) PC) (h69 : ∀ E1, PC E1 → E1 63 = E 63) (HM : ∀ E1, PC E1 → RetP g mX4_hoursUntilDry 6 [.ref (ad 63)] n ad E1 (some (.int v)) (PM E1)) (K : ∀ E1 E2, PC E1 → PM E1 E2 → J g mL_law 12 bc bs 2592 [some (.ref g.1.2.1), some (.ref (ad 0)), some (.ref (ad 63)), some (.ref (ad 69)), some (.int (nI i6)), none, none, none, none] [] n ad E2 Φ Ψ) : J g mL_law 12 bc bs 2344 [some (.ref g.1.2.1), some (.ref (ad 0)), some (.ref (ad 63)), some (.ref (ad 69)), some (.int (nI i6)), none, none, none, none] [] n ad E Φ Ψ := by
  refine j_aload_n dL_law_2344 rfl ?_
  refine j_cVp (As := []) (rest := []) cm_X3_hoursUntilDry ci_X3_hoursUntilDry cs_X3_hoursUntilDry rfl ln_L_277 (ci := 3) rfl dL_law_2345 (d' := 10) (by decide) (by omega) h0 rfl rfl (Nat.le_of_ble_eq_true rfl) (Nat.le_of_ble_eq_true rfl) HC (fun E1 p1 => ?_)
  obtain h63a := h69 E1 p1
  show J g mL_law 12 bc bs 2348 [some (.ref g.1.2.1), some (.ref (ad 0)), some (.ref (ad 63)), some (.ref (ad 69)), some (.int (nI i6)), none, none, none, none] [.int v] n ad E1 Φ Ψ
  refine j_aload_n dL_law_2348 rfl ?_
  refine j_cVp (As := []) (rest := [.int v]) cm_X4_hoursUntilDry ci_X4_hoursUntilDry cs_X4_hoursUntilDry rfl ln_L_280 (ci := 4) rfl dL_law_2349 (d' := 6) (by decide) (by omega) (h63a.trans h63) rfl rfl (Nat.le_of_ble_eq_true rfl) (Nat.le_of_ble_eq_true rfl) (HM E1 p1) (fun E2 q2 => ?_)
  show J g mL_law 12 bc bs 2352 [some (.ref g.1.2.1), some (.ref (ad 0)), some (.ref (ad 63)), some (.ref (ad 69)), some (.int (nI i6)), none, none, none, none] [.int v, .int v] n ad E2 Φ Ψ
  refine j_icmp_eq_t (tgt := 2592) dL_law_2352 (by decide) rfl ?_
  exact K E1 E2 p1 q2
set_option maxRecDepth 100000 in
set_option maxHeartbeats 4000000 in
theorem lc_sunWanted_ok {g : jG} {n : Nat} {ad : Nat → Nat} {E : Nat → va_E} {i6 bc bs : Nat} {Φ : Option Value → jR} {Ψ : String → jR} {fs fm : List Value} (hi : i6 + 6 ≤ g.1.2.2.1) (hL : g.1.2.2.1 ≤ 3072) (hn : 70 ≤ n) (h0 : E 0 = .inr (3, fs)) (h63 : E 63 = .inr (4, fm)) {x1 : Int32} (e1 : g.1.2.2.2 (i6 + 1) = x1) {v : Int32} {PC : (Nat → va_E) → Prop} {PM : (Nat → va_E) → (Nat → va_E) → Prop} (HH : HOk g mL_sunWanted 11 [.ref (ad 0), .int x1, .ref (ad 69)] n ad E v.toInt64 PC) (h69 : ∀ E1, PC E1 → E1 63 = E 63) (HM : ∀ E1 o, PC E1 → RetP g mX4_sunWanted 6 [.ref (ad 63), .int x1] n ad (va_up E1 69 (aL g 1 (vp_updL o 0 v.toInt64))) (some (.int v)) (PM (va_up E1 69 (aL g 1 (vp_updL o 0 v.toInt64))))) (hM : ∀ E1 E2, PM E1 E2 → (∃ f9, E2 63 = .inr (4, .int 0 :: f9)) ∧ E2 69 = E1 69) (K : ∀ E1 o E2, PC E1 → E1 69 = aL g 1 o → PM (va_up E1 69 (aL g 1 (vp_updL o 0 v.toInt64))) E2 → J g mL_law 12 bc bs 2592 [some (.ref g.1.2.1), some (.ref (ad 0)), some (.ref (ad 63)), some (.ref (ad 69)), some (.int (nI i6)), none, none, none, none] [] n ad E2 Φ Ψ) : J g mL_law 12 bc bs 2357 [some (.ref g.1.2.1), some (.ref (ad 0)), some (.ref (ad 63)), some (.ref (ad 69)), some (.int (nI i6)), none, none, none, none] [] n ad E Φ Ψ := by
  refine j_aload_n dL_law_2357 rfl ?_
  refine j_aload_n dL_law_2358 rfl ?_
  refine j_iload dL_law_2359 rfl ?_
  refine j_iconst (v := nI 1) dL_law_2361 (by decide) ?_
  refine j_iadd dL_law_2362 ?_
  refine j_topi (y := nI (i6 + 1)) (nI_add _ _) ?_
  refine j_sald dL_law_2363 (by omega) (by omega) ?_
  refine j_topi (y := x1) e1 ?_
  refine j_aload_n dL_law_2364 rfl ?_
  refine j_cSH (As := [.ref (ad 0), .int x1, .ref (ad 69)]) (rest := []) cm_L_sunWanted ct_L_sunWanted ln_L_281 dL_law_2365 (d' := 11) (by decide) rfl rfl (Nat.le_of_ble_eq_true rfl) (Nat.le_of_ble_eq_true rfl) HH (fun E1 o p1 ho => ?_)
  obtain h63a := h69 E1 p1
  show J g mL_law 12 bc bs 2368 [some (.ref g.1.2.1), some (.ref (ad 0)), some (.ref (ad 63)), some (.ref (ad 69)), some (.int (nI i6)), none, none, none, none] [.int 0] n ad (va_up E1 69 (aL g 1 (vp_updL o 0 v.toInt64))) Φ Ψ
  refine j_istore (L' := [some (.ref g.1.2.1), some (.ref (ad 0)), some (.ref (ad 63)), some (.ref (ad 69)), some (.int (nI i6)), some (.int 0), none, none, none]) dL_law_2368 (by decide) rfl rfl ?_
  refine j_aload_n dL_law_2370 rfl ?_
  refine j_aload_n dL_law_2371 rfl ?_
  refine j_iload dL_law_2372 rfl ?_
  refine j_iconst (v := nI 1) dL_law_2374 (by decide) ?_
  refine j_iadd dL_law_2375 ?_
  refine j_topi (y := nI (i6 + 1)) (nI_add _ _) ?_
  refine j_sald dL_law_2376 (by omega) (by omega) ?_
  refine j_topi (y := x1) e1 ?_
  refine j_cVp (As := [.int x1]) (rest := []) cm_X4_sunWanted ci_X4_sunWanted cs_X4_sunWanted rfl ln_L_283 (ci := 4) rfl dL_law_2377 (d' := 6) (by decide) (by omega) ((up_ne (by decide)).trans (h63a.trans h63)) rfl rfl (Nat.le_of_ble_eq_true rfl) (Nat.le_of_ble_eq_true rfl) (HM E1 _ p1) (fun E2 q2 => ?_)
  obtain ⟨⟨fm2, h63b⟩, h69b⟩ := hM _ _ q2
  show J g mL_law 12 bc bs 2380 [some (.ref g.1.2.1), some (.ref (ad 0)), some (.ref (ad 63)), some (.ref (ad 69)), some (.int (nI i6)), some (.int 0), none, none, none] [.int v] n ad E2 Φ Ψ
  refine j_istore (L' := [some (.ref g.1.2.1), some (.ref (ad 0)), some (.ref (ad 63)), some (.ref (ad 69)), some (.int (nI i6)), some (.int 0), some (.int v), none, none]) dL_law_2380 (by decide) rfl rfl ?_
  refine j_aload_n dL_law_2382 rfl ?_
  refine j_cV (As := []) (rest := []) cm_X4_thrown ci_X4_thrown cs_X4_thrown rfl ln_L_133 (ci := 4) rfl dL_law_2383 (d' := 0) (by decide) (by omega) h63b rfl rfl (Nat.le_of_ble_eq_true rfl) (Nat.le_of_ble_eq_true rfl) (s_thrown' hn h63b) ?_
  refine j_iload dL_law_2386 rfl ?_
  refine j_icmp_eq_t (tgt := 2393) dL_law_2388 (by decide) (by decide) ?_
  refine j_iload dL_law_2393 rfl ?_
  refine j_if_ne_f (tgt := 2410) dL_law_2395 (by decide) (by decide) ?_
  refine j_aload_n dL_law_2398 rfl ?_
  refine j_iconst (v := nI 0) dL_law_2399 (by decide) ?_
  refine j_lald dL_law_2400 (by omega) (h69b.trans up_eq) (by decide) (by omega) rfl ?_
  refine j_topl (y := v.toInt64) (if_pos rfl) ?_
  refine j_iload dL_law_2401 rfl ?_
  refine j_i2l dL_law_2403 ?_
  refine j_lcmp dL_law_2404 ?_
  refine j_topi (y := 0) (lg_self _) ?_
  refine j_if_eq_t (tgt := 2410) dL_law_2405 (by decide) (by decide) ?_
  refine j_goto (tgt := 2592) dL_law_2410 (by decide) ?_
  refine j_clr 5 ?_
  refine j_clr 6 ?_
  exact K E1 o E2 p1 ho q2
set_option maxRecDepth 100000 in
set_option maxHeartbeats 4000000 in
theorem lc_sunWanted_bad {g : jG} {n : Nat} {ad : Nat → Nat} {E : Nat → va_E} {i6 bc bs : Nat} {Φ : Option Value → jR} {Ψ : String → jR} {fs fm : List Value} (hi : i6 + 6 ≤ g.1.2.2.1) (hL : g.1.2.2.1 ≤ 3072) (hn : 70 ≤ n) (h0 : E 0 = .inr (3, fs)) (h63 : E 63 = .inr (4, fm)) {x1 : Int32} (e1 : g.1.2.2.2 (i6 + 1) = x1) {k : Int32} (hk : ¬ k = 0) {b : Int32} {PM : (Nat → va_E) → Prop} (HH : HBad g mL_sunWanted 11 [.ref (ad 0), .int x1, .ref (ad 69)] n ad E k) (HM : RetP g mX4_sunWanted 6 [.ref (ad 63), .int x1] n ad E (some (.int b)) PM) (hM : ∀ E2, PM E2 → ∃ f9, E2 63 = .inr (4, .int k :: f9)) (K : ∀ E2, PM E2 → J g mL_law 12 bc bs 2592 [some (.ref g.1.2.1), some (.ref (ad 0)), some (.ref (ad 63)), some (.ref (ad 69)), some (.int (nI i6)), none, none, none, none] [] n ad E2 Φ Ψ) : J g mL_law 12 (1 + bc) (6 + bs) 2357 [some (.ref g.1.2.1), some (.ref (ad 0)), some (.ref (ad 63)), some (.ref (ad 69)), some (.int (nI i6)), none, none, none, none] [] n ad E Φ Ψ := by
  refine j_aload_n dL_law_2357 rfl ?_
  refine j_aload_n dL_law_2358 rfl ?_
  refine j_iload dL_law_2359 rfl ?_
  refine j_iconst (v := nI 1) dL_law_2361 (by decide) ?_
  refine j_iadd dL_law_2362 ?_
  refine j_topi (y := nI (i6 + 1)) (nI_add _ _) ?_
  refine j_sald dL_law_2363 (by omega) (by omega) ?_
  refine j_topi (y := x1) e1 ?_
  refine j_aload_n dL_law_2364 rfl ?_
  refine j_cSB (As := [.ref (ad 0), .int x1, .ref (ad 69)]) (rest := []) cm_L_sunWanted ct_L_sunWanted ln_L_281 dL_law_2365 (d' := 11) (by decide) rfl rfl (Nat.le_of_ble_eq_true rfl) (Nat.le_of_ble_eq_true rfl) HH ?_
  show J g mL_law 12 bc bs 2368 [some (.ref g.1.2.1), some (.ref (ad 0)), some (.ref (ad 63)), some (.ref (ad 69)), some (.int (nI i6)), none, none, none, none] [.int k] n ad E Φ Ψ
  refine j_istore (L' := [some (.ref g.1.2.1), some (.ref (ad 0)), some (.ref (ad 63)), some (.ref (ad 69)), some (.int (nI i6)), some (.int k), none, none, none]) dL_law_2368 (by decide) rfl rfl ?_
  refine j_aload_n dL_law_2370 rfl ?_
  refine j_aload_n dL_law_2371 rfl ?_
  refine j_iload dL_law_2372 rfl ?_
  refine j_iconst (v := nI 1) dL_law_2374 (by decide) ?_
  refine j_iadd dL_law_2375 ?_
  refine j_topi (y := nI (i6 + 1)) (nI_add _ _) ?_
  refine j_sald dL_law_2376 (by omega) (by omega) ?_
  refine j_topi (y := x1) e1 ?_
  refine j_cVp (As := [.int x1]) (rest := []) cm_X4_sunWanted ci_X4_sunWanted cs_X4_sunWanted rfl ln_L_283 (ci := 4) rfl dL_law_2377 (d' := 6) (by decide) (by omega) h63 rfl rfl (Nat.le_of_ble_eq_true rfl) (Nat.le_of_ble_eq_true rfl) HM (fun E2 q2 => ?_)
  obtain ⟨fm2, h63b⟩ := hM _ q2
  show J g mL_law 12 bc bs 2380 [some (.ref g.1.2.1), some (.ref (ad 0)), some (.ref (ad 63)), some (.ref (ad 69)), some (.int (nI i6)), some (.int k), none, none, none] [.int b] n ad E2 Φ Ψ
  refine j_istore (L' := [some (.ref g.1.2.1), some (.ref (ad 0)), some (.ref (ad 63)), some (.ref (ad 69)), some (.int (nI i6)), some (.int k), some (.int b), none, none]) dL_law_2380 (by decide) rfl rfl ?_
  refine j_aload_n dL_law_2382 rfl ?_
  refine j_cV (As := []) (rest := []) cm_X4_thrown ci_X4_thrown cs_X4_thrown rfl ln_L_133 (ci := 4) rfl dL_law_2383 (d' := 0) (by decide) (by omega) h63b rfl rfl (Nat.le_of_ble_eq_true rfl) (Nat.le_of_ble_eq_true rfl) (s_thrown' hn h63b) ?_
  refine j_iload dL_law_2386 rfl ?_
  refine j_icmp_eq_t (tgt := 2393) dL_law_2388 (by decide) rfl ?_
  refine j_iload dL_law_2393 rfl ?_
  refine j_if_ne_t (tgt := 2410) dL_law_2395 (by decide) hk ?_
  refine j_goto (tgt := 2592) dL_law_2410 (by decide) ?_
  refine j_clr 5 ?_
  refine j_clr 6 ?_
  exact K E2 q2
set_option maxRecDepth 100000 in
set_option maxHeartbeats 4000000 in
theorem lc_bestEdge_ok {g : jG} {n : Nat} {ad : Nat → Nat} {E : Nat → va_E} {i6 bc bs : Nat} {Φ : Option Value → jR} {Ψ : String → jR} {fs fm : List Value} (hi : i6 + 6 ≤ g.1.2.2.1) (hL : g.1.2.2.1 ≤ 3072) (hn : 70 ≤ n) (h0 : E 0 = .inr (3, fs)) (h63 : E 63 = .inr (4, fm)) {x1 : Int32} (e1 : g.1.2.2.2 (i6 + 1) = x1) {x2 : Int32} (e2 : g.1.2.2.2 (i6 + 2) = x2) {v : Int32} {PC : (Nat → va_E) → Prop} {PM : (Nat → va_E) → (Nat → va_E) → Prop} (HH : HOk g mL_bestEdge 11 [.ref (ad 0), .int x1, .int x2, .ref (ad 69)] n ad E v.toInt64 PC) (h69 : ∀ E1, PC E1 → E1 63 = E 63) (HM : ∀ E1 o, PC E1 → RetP g mX4_bestEdge 6 [.ref (ad 63), .int x1, .int x2] n ad (va_up E1 69 (aL g 1 (vp_updL o 0 v.toInt64))) (some (.int v)) (PM (va_up E1 69 (aL g 1 (vp_updL o 0 v.toInt64))))) (hM : ∀ E1 E2, PM E1 E2 → (∃ f9, E2 63 = .inr (4, .int 0 :: f9)) ∧ E2 69 = E1 69) (K : ∀ E1 o E2, PC E1 → E1 69 = aL g 1 o → PM (va_up E1 69 (aL g 1 (vp_updL o 0 v.toInt64))) E2 → J g mL_law 12 bc bs 2592 [some (.ref g.1.2.1), some (.ref (ad 0)), some (.ref (ad 63)), some (.ref (ad 69)), some (.int (nI i6)), none, none, none, none] [] n ad E2 Φ Ψ) : J g mL_law 12 bc bs 2413 [some (.ref g.1.2.1), some (.ref (ad 0)), some (.ref (ad 63)), some (.ref (ad 69)), some (.int (nI i6)), none, none, none, none] [] n ad E Φ Ψ := by
  refine j_aload_n dL_law_2413 rfl ?_
  refine j_aload_n dL_law_2414 rfl ?_
  refine j_iload dL_law_2415 rfl ?_
  refine j_iconst (v := nI 1) dL_law_2417 (by decide) ?_
  refine j_iadd dL_law_2418 ?_
  refine j_topi (y := nI (i6 + 1)) (nI_add _ _) ?_
  refine j_sald dL_law_2419 (by omega) (by omega) ?_
  refine j_topi (y := x1) e1 ?_
  refine j_aload_n dL_law_2420 rfl ?_
  refine j_iload dL_law_2421 rfl ?_
  refine j_iconst (v := nI 2) dL_law_2423 (by decide) ?_
  refine j_iadd dL_law_2424 ?_
  refine j_topi (y := nI (i6 + 2)) (nI_add _ _) ?_
  refine j_sald dL_law_2425 (by omega) (by omega) ?_
  refine j_topi (y := x2) e2 ?_
  refine j_aload_n dL_law_2426 rfl ?_
  refine j_cSH (As := [.ref (ad 0), .int x1, .int x2, .ref (ad 69)]) (rest := []) cm_L_bestEdge ct_L_bestEdge ln_L_284 dL_law_2427 (d' := 11) (by decide) rfl rfl (Nat.le_of_ble_eq_true rfl) (Nat.le_of_ble_eq_true rfl) HH (fun E1 o p1 ho => ?_)
  obtain h63a := h69 E1 p1
  show J g mL_law 12 bc bs 2430 [some (.ref g.1.2.1), some (.ref (ad 0)), some (.ref (ad 63)), some (.ref (ad 69)), some (.int (nI i6)), none, none, none, none] [.int 0] n ad (va_up E1 69 (aL g 1 (vp_updL o 0 v.toInt64))) Φ Ψ
  refine j_istore (L' := [some (.ref g.1.2.1), some (.ref (ad 0)), some (.ref (ad 63)), some (.ref (ad 69)), some (.int (nI i6)), some (.int 0), none, none, none]) dL_law_2430 (by decide) rfl rfl ?_
  refine j_aload_n dL_law_2432 rfl ?_
  refine j_aload_n dL_law_2433 rfl ?_
  refine j_iload dL_law_2434 rfl ?_
  refine j_iconst (v := nI 1) dL_law_2436 (by decide) ?_
  refine j_iadd dL_law_2437 ?_
  refine j_topi (y := nI (i6 + 1)) (nI_add _ _) ?_
  refine j_sald dL_law_2438 (by omega) (by omega) ?_
  refine j_topi (y := x1) e1 ?_
  refine j_aload_n dL_law_2439 rfl ?_
  refine j_iload dL_law_2440 rfl ?_
  refine j_iconst (v := nI 2) dL_law_2442 (by decide) ?_
  refine j_iadd dL_law_2443 ?_
  refine j_topi (y := nI (i6 + 2)) (nI_add _ _) ?_
  refine j_sald dL_law_2444 (by omega) (by omega) ?_
  refine j_topi (y := x2) e2 ?_
  refine j_cVp (As := [.int x1, .int x2]) (rest := []) cm_X4_bestEdge ci_X4_bestEdge cs_X4_bestEdge rfl ln_L_286 (ci := 4) rfl dL_law_2445 (d' := 6) (by decide) (by omega) ((up_ne (by decide)).trans (h63a.trans h63)) rfl rfl (Nat.le_of_ble_eq_true rfl) (Nat.le_of_ble_eq_true rfl) (HM E1 _ p1) (fun E2 q2 => ?_)
  obtain ⟨⟨fm2, h63b⟩, h69b⟩ := hM _ _ q2
  show J g mL_law 12 bc bs 2448 [some (.ref g.1.2.1), some (.ref (ad 0)), some (.ref (ad 63)), some (.ref (ad 69)), some (.int (nI i6)), some (.int 0), none, none, none] [.int v] n ad E2 Φ Ψ
  refine j_istore (L' := [some (.ref g.1.2.1), some (.ref (ad 0)), some (.ref (ad 63)), some (.ref (ad 69)), some (.int (nI i6)), some (.int 0), some (.int v), none, none]) dL_law_2448 (by decide) rfl rfl ?_
  refine j_aload_n dL_law_2450 rfl ?_
  refine j_cV (As := []) (rest := []) cm_X4_thrown ci_X4_thrown cs_X4_thrown rfl ln_L_133 (ci := 4) rfl dL_law_2451 (d' := 0) (by decide) (by omega) h63b rfl rfl (Nat.le_of_ble_eq_true rfl) (Nat.le_of_ble_eq_true rfl) (s_thrown' hn h63b) ?_
  refine j_iload dL_law_2454 rfl ?_
  refine j_icmp_eq_t (tgt := 2461) dL_law_2456 (by decide) (by decide) ?_
  refine j_iload dL_law_2461 rfl ?_
  refine j_if_ne_f (tgt := 2478) dL_law_2463 (by decide) (by decide) ?_
  refine j_aload_n dL_law_2466 rfl ?_
  refine j_iconst (v := nI 0) dL_law_2467 (by decide) ?_
  refine j_lald dL_law_2468 (by omega) (h69b.trans up_eq) (by decide) (by omega) rfl ?_
  refine j_topl (y := v.toInt64) (if_pos rfl) ?_
  refine j_iload dL_law_2469 rfl ?_
  refine j_i2l dL_law_2471 ?_
  refine j_lcmp dL_law_2472 ?_
  refine j_topi (y := 0) (lg_self _) ?_
  refine j_if_eq_t (tgt := 2478) dL_law_2473 (by decide) (by decide) ?_
  refine j_goto (tgt := 2592) dL_law_2478 (by decide) ?_
  refine j_clr 5 ?_
  refine j_clr 6 ?_
  exact K E1 o E2 p1 ho q2
set_option maxRecDepth 100000 in
set_option maxHeartbeats 4000000 in
theorem lc_bestEdge_bad {g : jG} {n : Nat} {ad : Nat → Nat} {E : Nat → va_E} {i6 bc bs : Nat} {Φ : Option Value → jR} {Ψ : String → jR} {fs fm : List Value} (hi : i6 + 6 ≤ g.1.2.2.1) (hL : g.1.2.2.1 ≤ 3072) (hn : 70 ≤ n) (h0 : E 0 = .inr (3, fs)) (h63 : E 63 = .inr (4, fm)) {x1 : Int32} (e1 : g.1.2.2.2 (i6 + 1) = x1) {x2 : Int32} (e2 : g.1.2.2.2 (i6 + 2) = x2) {k : Int32} (hk : ¬ k = 0) {b : Int32} {PM : (Nat → va_E) → Prop} (HH : HBad g mL_bestEdge 11 [.ref (ad 0), .int x1, .int x2, .ref (ad 69)] n ad E k) (HM : RetP g mX4_bestEdge 6 [.ref (ad 63), .int x1, .int x2] n ad E (some (.int b)) PM) (hM : ∀ E2, PM E2 → ∃ f9, E2 63 = .inr (4, .int k :: f9)) (K : ∀ E2, PM E2 → J g mL_law 12 bc bs 2592 [some (.ref g.1.2.1), some (.ref (ad 0)), some (.ref (ad 63)), some (.ref (ad 69)), some (.int (nI i6)), none, none, none, none] [] n ad E2 Φ Ψ) : J g mL_law 12 (1 + bc) (6 + bs) 2413 [some (.ref g.1.2.1), some (.ref (ad 0)), some (.ref (ad 63)), some (.ref (ad 69)), some (.int (nI i6)), none, none, none, none] [] n ad E Φ Ψ := by
  refine j_aload_n dL_law_2413 rfl ?_
  refine j_aload_n dL_law_2414 rfl ?_
  refine j_iload dL_law_2415 rfl ?_
  refine j_iconst (v := nI 1) dL_law_2417 (by decide) ?_
  refine j_iadd dL_law_2418 ?_
  refine j_topi (y := nI (i6 + 1)) (nI_add _ _) ?_
  refine j_sald dL_law_2419 (by omega) (by omega) ?_
  refine j_topi (y := x1) e1 ?_
  refine j_aload_n dL_law_2420 rfl ?_
  refine j_iload dL_law_2421 rfl ?_
  refine j_iconst (v := nI 2) dL_law_2423 (by decide) ?_
  refine j_iadd dL_law_2424 ?_
  refine j_topi (y := nI (i6 + 2)) (nI_add _ _) ?_
  refine j_sald dL_law_2425 (by omega) (by omega) ?_
  refine j_topi (y := x2) e2 ?_
  refine j_aload_n dL_law_2426 rfl ?_
  refine j_cSB (As := [.ref (ad 0), .int x1, .int x2, .ref (ad 69)]) (rest := []) cm_L_bestEdge ct_L_bestEdge ln_L_284 dL_law_2427 (d' := 11) (by decide) rfl rfl (Nat.le_of_ble_eq_true rfl) (Nat.le_of_ble_eq_true rfl) HH ?_
  show J g mL_law 12 bc bs 2430 [some (.ref g.1.2.1), some (.ref (ad 0)), some (.ref (ad 63)), some (.ref (ad 69)), some (.int (nI i6)), none, none, none, none] [.int k] n ad E Φ Ψ
  refine j_istore (L' := [some (.ref g.1.2.1), some (.ref (ad 0)), some (.ref (ad 63)), some (.ref (ad 69)), some (.int (nI i6)), some (.int k), none, none, none]) dL_law_2430 (by decide) rfl rfl ?_
  refine j_aload_n dL_law_2432 rfl ?_
  refine j_aload_n dL_law_2433 rfl ?_
  refine j_iload dL_law_2434 rfl ?_
  refine j_iconst (v := nI 1) dL_law_2436 (by decide) ?_
  refine j_iadd dL_law_2437 ?_
  refine j_topi (y := nI (i6 + 1)) (nI_add _ _) ?_
  refine j_sald dL_law_2438 (by omega) (by omega) ?_
  refine j_topi (y := x1) e1 ?_
  refine j_aload_n dL_law_2439 rfl ?_
  refine j_iload dL_law_2440 rfl ?_
  refine j_iconst (v := nI 2) dL_law_2442 (by decide) ?_
  refine j_iadd dL_law_2443 ?_
  refine j_topi (y := nI (i6 + 2)) (nI_add _ _) ?_
  refine j_sald dL_law_2444 (by omega) (by omega) ?_
  refine j_topi (y := x2) e2 ?_
  refine j_cVp (As := [.int x1, .int x2]) (rest := []) cm_X4_bestEdge ci_X4_bestEdge cs_X4_bestEdge rfl ln_L_286 (ci := 4) rfl dL_law_2445 (d' := 6) (by decide) (by omega) h63 rfl rfl (Nat.le_of_ble_eq_true rfl) (Nat.le_of_ble_eq_true rfl) HM (fun E2 q2 => ?_)
  obtain ⟨fm2, h63b⟩ := hM _ q2
  show J g mL_law 12 bc bs 2448 [some (.ref g.1.2.1), some (.ref (ad 0)), some (.ref (ad 63)), some (.ref (ad 69)), some (.int (nI i6)), some (.int k), none, none, none] [.int b] n ad E2 Φ Ψ
  refine j_istore (L' := [some (.ref g.1.2.1), some (.ref (ad 0)), some (.ref (ad 63)), some (.ref (ad 69)), some (.int (nI i6)), some (.int k), some (.int b), none, none]) dL_law_2448 (by decide) rfl rfl ?_
  refine j_aload_n dL_law_2450 rfl ?_
  refine j_cV (As := []) (rest := []) cm_X4_thrown ci_X4_thrown cs_X4_thrown rfl ln_L_133 (ci := 4) rfl dL_law_2451 (d' := 0) (by decide) (by omega) h63b rfl rfl (Nat.le_of_ble_eq_true rfl) (Nat.le_of_ble_eq_true rfl) (s_thrown' hn h63b) ?_
  refine j_iload dL_law_2454 rfl ?_
  refine j_icmp_eq_t (tgt := 2461) dL_law_2456 (by decide) rfl ?_
  refine j_iload dL_law_2461 rfl ?_
  refine j_if_ne_t (tgt := 2478) dL_law_2463 (by decide) hk ?_
  refine j_goto (tgt := 2592) dL_law_2478 (by decide) ?_
  refine j_clr 5 ?_
  refine j_clr 6 ?_
  exact K E2 q2
set_option maxRecDepth 100000 in
set_option maxHeartbeats 4000000 in
theorem lc_bestSwap_ok {g : jG} {n : Nat} {ad : Nat → Nat} {E : Nat → va_E} {i6 bc bs : Nat} {Φ : Option Value → jR} {Ψ : String → jR} {fs fm : List Value} (hi : i6 + 6 ≤ g.1.2.2.1) (hL : g.1.2.2.1 ≤ 3072) (hn : 70 ≤ n) (h0 : E 0 = .inr (3, fs)) (h63 : E 63 = .inr (4, fm)) {x1 : Int32} (e1 : g.1.2.2.2 (i6 + 1) = x1) {v : Int32} {PC : (Nat → va_E) → Prop} {PM : (Nat → va_E) → (Nat → va_E) → Prop} (HH : HOk g mL_bestSwap 11 [.ref (ad 0), .int x1, .ref (ad 69)] n ad E v.toInt64 PC) (h69 : ∀ E1, PC E1 → E1 63 = E 63) (HM : ∀ E1 o, PC E1 → RetP g mX4_bestSwap 6 [.ref (ad 63), .int x1] n ad (va_up E1 69 (aL g 1 (vp_updL o 0 v.toInt64))) (some (.int v)) (PM (va_up E1 69 (aL g 1 (vp_updL o 0 v.toInt64))))) (hM : ∀ E1 E2, PM E1 E2 → (∃ f9, E2 63 = .inr (4, .int 0 :: f9)) ∧ E2 69 = E1 69) (K : ∀ E1 o E2, PC E1 → E1 69 = aL g 1 o → PM (va_up E1 69 (aL g 1 (vp_updL o 0 v.toInt64))) E2 → J g mL_law 12 bc bs 2592 [some (.ref g.1.2.1), some (.ref (ad 0)), some (.ref (ad 63)), some (.ref (ad 69)), some (.int (nI i6)), none, none, none, none] [] n ad E2 Φ Ψ) : J g mL_law 12 bc bs 2481 [some (.ref g.1.2.1), some (.ref (ad 0)), some (.ref (ad 63)), some (.ref (ad 69)), some (.int (nI i6)), none, none, none, none] [] n ad E Φ Ψ := by
  refine j_aload_n dL_law_2481 rfl ?_
  refine j_aload_n dL_law_2482 rfl ?_
  refine j_iload dL_law_2483 rfl ?_
  refine j_iconst (v := nI 1) dL_law_2485 (by decide) ?_
  refine j_iadd dL_law_2486 ?_
  refine j_topi (y := nI (i6 + 1)) (nI_add _ _) ?_
  refine j_sald dL_law_2487 (by omega) (by omega) ?_
  refine j_topi (y := x1) e1 ?_
  refine j_aload_n dL_law_2488 rfl ?_
  refine j_cSH (As := [.ref (ad 0), .int x1, .ref (ad 69)]) (rest := []) cm_L_bestSwap ct_L_bestSwap ln_L_287 dL_law_2489 (d' := 11) (by decide) rfl rfl (Nat.le_of_ble_eq_true rfl) (Nat.le_of_ble_eq_true rfl) HH (fun E1 o p1 ho => ?_)
  obtain h63a := h69 E1 p1
  show J g mL_law 12 bc bs 2492 [some (.ref g.1.2.1), some (.ref (ad 0)), some (.ref (ad 63)), some (.ref (ad 69)), some (.int (nI i6)), none, none, none, none] [.int 0] n ad (va_up E1 69 (aL g 1 (vp_updL o 0 v.toInt64))) Φ Ψ
  refine j_istore (L' := [some (.ref g.1.2.1), some (.ref (ad 0)), some (.ref (ad 63)), some (.ref (ad 69)), some (.int (nI i6)), some (.int 0), none, none, none]) dL_law_2492 (by decide) rfl rfl ?_
  refine j_aload_n dL_law_2494 rfl ?_
  refine j_aload_n dL_law_2495 rfl ?_
  refine j_iload dL_law_2496 rfl ?_
  refine j_iconst (v := nI 1) dL_law_2498 (by decide) ?_
  refine j_iadd dL_law_2499 ?_
  refine j_topi (y := nI (i6 + 1)) (nI_add _ _) ?_
  refine j_sald dL_law_2500 (by omega) (by omega) ?_
  refine j_topi (y := x1) e1 ?_
  refine j_cVp (As := [.int x1]) (rest := []) cm_X4_bestSwap ci_X4_bestSwap cs_X4_bestSwap rfl ln_L_289 (ci := 4) rfl dL_law_2501 (d' := 6) (by decide) (by omega) ((up_ne (by decide)).trans (h63a.trans h63)) rfl rfl (Nat.le_of_ble_eq_true rfl) (Nat.le_of_ble_eq_true rfl) (HM E1 _ p1) (fun E2 q2 => ?_)
  obtain ⟨⟨fm2, h63b⟩, h69b⟩ := hM _ _ q2
  show J g mL_law 12 bc bs 2504 [some (.ref g.1.2.1), some (.ref (ad 0)), some (.ref (ad 63)), some (.ref (ad 69)), some (.int (nI i6)), some (.int 0), none, none, none] [.int v] n ad E2 Φ Ψ
  refine j_istore (L' := [some (.ref g.1.2.1), some (.ref (ad 0)), some (.ref (ad 63)), some (.ref (ad 69)), some (.int (nI i6)), some (.int 0), some (.int v), none, none]) dL_law_2504 (by decide) rfl rfl ?_
  refine j_aload_n dL_law_2506 rfl ?_
  refine j_cV (As := []) (rest := []) cm_X4_thrown ci_X4_thrown cs_X4_thrown rfl ln_L_133 (ci := 4) rfl dL_law_2507 (d' := 0) (by decide) (by omega) h63b rfl rfl (Nat.le_of_ble_eq_true rfl) (Nat.le_of_ble_eq_true rfl) (s_thrown' hn h63b) ?_
  refine j_iload dL_law_2510 rfl ?_
  refine j_icmp_eq_t (tgt := 2517) dL_law_2512 (by decide) (by decide) ?_
  refine j_iload dL_law_2517 rfl ?_
  refine j_if_ne_f (tgt := 2534) dL_law_2519 (by decide) (by decide) ?_
  refine j_aload_n dL_law_2522 rfl ?_
  refine j_iconst (v := nI 0) dL_law_2523 (by decide) ?_
  refine j_lald dL_law_2524 (by omega) (h69b.trans up_eq) (by decide) (by omega) rfl ?_
  refine j_topl (y := v.toInt64) (if_pos rfl) ?_
  refine j_iload dL_law_2525 rfl ?_
  refine j_i2l dL_law_2527 ?_
  refine j_lcmp dL_law_2528 ?_
  refine j_topi (y := 0) (lg_self _) ?_
  refine j_if_eq_t (tgt := 2534) dL_law_2529 (by decide) (by decide) ?_
  refine j_goto (tgt := 2592) dL_law_2534 (by decide) ?_
  refine j_clr 5 ?_
  refine j_clr 6 ?_
  exact K E1 o E2 p1 ho q2
set_option maxRecDepth 100000 in
set_option maxHeartbeats 4000000 in
theorem lc_bestSwap_bad {g : jG} {n : Nat} {ad : Nat → Nat} {E : Nat → va_E} {i6 bc bs : Nat} {Φ : Option Value → jR} {Ψ : String → jR} {fs fm : List Value} (hi : i6 + 6 ≤ g.1.2.2.1) (hL : g.1.2.2.1 ≤ 3072) (hn : 70 ≤ n) (h0 : E 0 = .inr (3, fs)) (h63 : E 63 = .inr (4, fm)) {x1 : Int32} (e1 : g.1.2.2.2 (i6 + 1) = x1) {k : Int32} (hk : ¬ k = 0) {b : Int32} {PM : (Nat → va_E) → Prop} (HH : HBad g mL_bestSwap 11 [.ref (ad 0), .int x1, .ref (ad 69)] n ad E k) (HM : RetP g mX4_bestSwap 6 [.ref (ad 63), .int x1] n ad E (some (.int b)) PM) (hM : ∀ E2, PM E2 → ∃ f9, E2 63 = .inr (4, .int k :: f9)) (K : ∀ E2, PM E2 → J g mL_law 12 bc bs 2592 [some (.ref g.1.2.1), some (.ref (ad 0)), some (.ref (ad 63)), some (.ref (ad 69)), some (.int (nI i6)), none, none, none, none] [] n ad E2 Φ Ψ) : J g mL_law 12 (1 + bc) (6 + bs) 2481 [some (.ref g.1.2.1), some (.ref (ad 0)), some (.ref (ad 63)), some (.ref (ad 69)), some (.int (nI i6)), none, none, none, none] [] n ad E Φ Ψ := by
  refine j_aload_n dL_law_2481 rfl ?_
  refine j_aload_n dL_law_2482 rfl ?_
  refine j_iload dL_law_2483 rfl ?_
  refine j_iconst (v := nI 1) dL_law_2485 (by decide) ?_
  refine j_iadd dL_law_2486 ?_
  refine j_topi (y := nI (i6 + 1)) (nI_add _ _) ?_
  refine j_sald dL_law_2487 (by omega) (by omega) ?_
  refine j_topi (y := x1) e1 ?_
  refine j_aload_n dL_law_2488 rfl ?_
  refine j_cSB (As := [.ref (ad 0), .int x1, .ref (ad 69)]) (rest := []) cm_L_bestSwap ct_L_bestSwap ln_L_287 dL_law_2489 (d' := 11) (by decide) rfl rfl (Nat.le_of_ble_eq_true rfl) (Nat.le_of_ble_eq_true rfl) HH ?_
  show J g mL_law 12 bc bs 2492 [some (.ref g.1.2.1), some (.ref (ad 0)), some (.ref (ad 63)), some (.ref (ad 69)), some (.int (nI i6)), none, none, none, none] [.int k] n ad E Φ Ψ
  refine j_istore (L' := [some (.ref g.1.2.1), some (.ref (ad 0)), some (.ref (ad 63)), some (.ref (ad 69)), some (.int (nI i6)), some (.int k), none, none, none]) dL_law_2492 (by decide) rfl rfl ?_
  refine j_aload_n dL_law_2494 rfl ?_
  refine j_aload_n dL_law_2495 rfl ?_
  refine j_iload dL_law_2496 rfl ?_
  refine j_iconst (v := nI 1) dL_law_2498 (by decide) ?_
  refine j_iadd dL_law_2499 ?_
  refine j_topi (y := nI (i6 + 1)) (nI_add _ _) ?_
  refine j_sald dL_law_2500 (by omega) (by omega) ?_
  refine j_topi (y := x1) e1 ?_
  refine j_cVp (As := [.int x1]) (rest := []) cm_X4_bestSwap ci_X4_bestSwap cs_X4_bestSwap rfl ln_L_289 (ci := 4) rfl dL_law_2501 (d' := 6) (by decide) (by omega) h63 rfl rfl (Nat.le_of_ble_eq_true rfl) (Nat.le_of_ble_eq_true rfl) HM (fun E2 q2 => ?_)
  obtain ⟨fm2, h63b⟩ := hM _ q2
  show J g mL_law 12 bc bs 2504 [some (.ref g.1.2.1), some (.ref (ad 0)), some (.ref (ad 63)), some (.ref (ad 69)), some (.int (nI i6)), some (.int k), none, none, none] [.int b] n ad E2 Φ Ψ
  refine j_istore (L' := [some (.ref g.1.2.1), some (.ref (ad 0)), some (.ref (ad 63)), some (.ref (ad 69)), some (.int (nI i6)), some (.int k), some (.int b), none, none]) dL_law_2504 (by decide) rfl rfl ?_
  refine j_aload_n dL_law_2506 rfl ?_
  refine j_cV (As := []) (rest := []) cm_X4_thrown ci_X4_thrown cs_X4_thrown rfl ln_L_133 (ci := 4) rfl dL_law_2507 (d' := 0) (by decide) (by omega) h63b rfl rfl (Nat.le_of_ble_eq_true rfl) (Nat.le_of_ble_eq_true rfl) (s_thrown' hn h63b) ?_
  refine j_iload dL_law_2510 rfl ?_
  refine j_icmp_eq_t (tgt := 2517) dL_law_2512 (by decide) rfl ?_
  refine j_iload dL_law_2517 rfl ?_
  refine j_if_ne_t (tgt := 2534) dL_law_2519 (by decide) hk ?_
  refine j_goto (tgt := 2592) dL_law_2534 (by decide) ?_
  refine j_clr 5 ?_
  refine j_clr 6 ?_
  exact K E2 q2
set_option maxRecDepth 100000 in
set_option maxHeartbeats 4000000 in
theorem lc_meanLevel {g : jG} {n : Nat} {ad : Nat → Nat} {E : Nat → va_E} {i6 bc bs : Nat} {Φ : Option Value → jR} {Ψ : String → jR} {fs fm : List Value} (hi : i6 + 6 ≤ g.1.2.2.1) (hL : g.1.2.2.1 ≤ 3072) (hn : 70 ≤ n) (h0 : E 0 = .inr (3, fs)) (h63 : E 63 = .inr (4, fm)) {v : UInt64} {PC : (Nat → va_E) → Prop} {PM : (Nat → va_E) → (Nat → va_E) → Prop} (HC : RetP g mX3_meanLevel 10 [.ref (ad 0)] n ad E (some (.double v)) PC) (h69 : ∀ E1, PC E1 → E1 63 = E 63) (HM : ∀ E1, PC E1 → RetP g mX4_meanLevel 6 [.ref (ad 63)] n ad E1 (some (.double v)) (PM E1)) (K : ∀ E1 E2, PC E1 → PM E1 E2 → J g mL_law 12 bc bs 2592 [some (.ref g.1.2.1), some (.ref (ad 0)), some (.ref (ad 63)), some (.ref (ad 69)), some (.int (nI i6)), none, none, none, none] [] n ad E2 Φ Ψ) : J g mL_law 12 bc bs 2537 [some (.ref g.1.2.1), some (.ref (ad 0)), some (.ref (ad 63)), some (.ref (ad 69)), some (.int (nI i6)), none, none, none, none] [] n ad E Φ Ψ := by
  refine j_aload_n dL_law_2537 rfl ?_
  refine j_cVp (As := []) (rest := []) cm_X3_meanLevel ci_X3_meanLevel cs_X3_meanLevel rfl ln_L_290 (ci := 3) rfl dL_law_2538 (d' := 10) (by decide) (by omega) h0 rfl rfl (Nat.le_of_ble_eq_true rfl) (Nat.le_of_ble_eq_true rfl) HC (fun E1 p1 => ?_)
  obtain h63a := h69 E1 p1
  show J g mL_law 12 bc bs 2541 [some (.ref g.1.2.1), some (.ref (ad 0)), some (.ref (ad 63)), some (.ref (ad 69)), some (.int (nI i6)), none, none, none, none] [.double v] n ad E1 Φ Ψ
  refine j_dstore (L' := [some (.ref g.1.2.1), some (.ref (ad 0)), some (.ref (ad 63)), some (.ref (ad 69)), some (.int (nI i6)), some (.double v), none, none, none]) dL_law_2541 (by decide) rfl rfl ?_
  refine j_aload_n dL_law_2543 rfl ?_
  refine j_cVp (As := []) (rest := []) cm_X4_meanLevel ci_X4_meanLevel cs_X4_meanLevel rfl ln_L_294 (ci := 4) rfl dL_law_2544 (d' := 6) (by decide) (by omega) (h63a.trans h63) rfl rfl (Nat.le_of_ble_eq_true rfl) (Nat.le_of_ble_eq_true rfl) (HM E1 p1) (fun E2 q2 => ?_)
  show J g mL_law 12 bc bs 2547 [some (.ref g.1.2.1), some (.ref (ad 0)), some (.ref (ad 63)), some (.ref (ad 69)), some (.int (nI i6)), some (.double v), none, none, none] [.double v] n ad E2 Φ Ψ
  refine j_dstore (L' := [some (.ref g.1.2.1), some (.ref (ad 0)), some (.ref (ad 63)), some (.ref (ad 69)), some (.int (nI i6)), some (.double v), none, some (.double v), none]) dL_law_2547 (by decide) rfl rfl ?_
  refine j_dload dL_law_2549 rfl ?_
  refine j_dload dL_law_2551 rfl ?_
  refine j_dcmp dL_law_2553 ?_
  by_cases hd : Op.cmpValue (FP.dcmp v v) .l = 0
  · skip
    refine j_if_eq_t (tgt := 2575) dL_law_2554 (by decide) hd ?_
    refine j_goto (tgt := 2592) dL_law_2575 (by decide) ?_
    refine j_clr 5 ?_
    refine j_clr 7 ?_
    exact K E1 E2 p1 q2
  · skip
    refine j_if_eq_f (tgt := 2575) dL_law_2554 (by decide) hd ?_
    refine j_dload dL_law_2557 rfl ?_
    refine j_dload dL_law_2559 rfl ?_
    refine j_dcmp dL_law_2561 ?_
    refine j_if_eq_f (tgt := 2573) dL_law_2562 (by decide) hd ?_
    refine j_dload dL_law_2565 rfl ?_
    refine j_dload dL_law_2567 rfl ?_
    refine j_dcmp dL_law_2569 ?_
    refine j_if_ne_t (tgt := 2575) dL_law_2570 (by decide) hd ?_
    refine j_goto (tgt := 2592) dL_law_2575 (by decide) ?_
    refine j_clr 5 ?_
    refine j_clr 7 ?_
    exact K E1 E2 p1 q2
set_option maxRecDepth 100000 in
set_option maxHeartbeats 4000000 in
theorem lc_digest {g : jG} {n : Nat} {ad : Nat → Nat} {E : Nat → va_E} {i6 bc bs : Nat} {Φ : Option Value → jR} {Ψ : String → jR} {fs fm : List Value} (hi : i6 + 6 ≤ g.1.2.2.1) (hL : g.1.2.2.1 ≤ 3072) (hn : 70 ≤ n) (h0 : E 0 = .inr (3, fs)) (h63 : E 63 = .inr (4, fm)) {v : Int64} {PC : (Nat → va_E) → Prop} {PM : (Nat → va_E) → (Nat → va_E) → Prop} (HC : RetP g mX3_digest 10 [.ref (ad 0)] n ad E (some (.long v)) PC) (h69 : ∀ E1, PC E1 → E1 63 = E 63) (HM : ∀ E1, PC E1 → ∀ (Φ : Option Value → jR) (Ψ : String → jR), (∀ E2, PM E1 E2 → Φ (some (.long v)) n ad E2) → JE g mX4_digest 6 1 15 [.ref (ad 63)] n ad E1 Φ Ψ) (K : ∀ E1 E2, PC E1 → PM E1 E2 → J g mL_law 12 bc bs 2592 [some (.ref g.1.2.1), some (.ref (ad 0)), some (.ref (ad 63)), some (.ref (ad 69)), some (.int (nI i6)), none, none, none, none] [] n ad E2 Φ Ψ) : J g mL_law 12 (1 + bc) (15 + bs) 2578 [some (.ref g.1.2.1), some (.ref (ad 0)), some (.ref (ad 63)), some (.ref (ad 69)), some (.int (nI i6)), none, none, none, none] [] n ad E Φ Ψ := by
  refine j_aload_n dL_law_2578 rfl ?_
  refine j_cVp (As := []) (rest := []) cm_X3_digest ci_X3_digest cs_X3_digest rfl ln_L_295 (ci := 3) rfl dL_law_2579 (d' := 10) (by decide) (by omega) h0 rfl rfl (Nat.le_of_ble_eq_true rfl) (Nat.le_of_ble_eq_true rfl) HC (fun E1 p1 => ?_)
  obtain h63a := h69 E1 p1
  show J g mL_law 12 (1 + bc) (15 + bs) 2582 [some (.ref g.1.2.1), some (.ref (ad 0)), some (.ref (ad 63)), some (.ref (ad 69)), some (.int (nI i6)), none, none, none, none] [.long v] n ad E1 Φ Ψ
  refine j_aload_n dL_law_2582 rfl ?_
  refine j_callV (bc := bc) (bs := bs) (bc' := 1) (bs' := 15) (As := []) (rest := [.long v]) (Φ' := fun v' n' ad' E' => v' = some (.long v) ∧ n' = n ∧ ad' = ad ∧ PM E1 E') (Ψ' := fun _ _ _ _ => False) cm_X4_digest ci_X4_digest cs_X4_digest rfl ln_L_298 (ci := 4) rfl dL_law_2583 (d' := 6) (by decide) (by omega) (h63a.trans h63) rfl rfl (Nat.le_of_ble_eq_true rfl) (Nat.le_of_ble_eq_true rfl) (HM E1 p1 _ _ (fun E2 q => ⟨rfl, rfl, rfl, q⟩)) (fun v' n' ad' E2 q => ?_) (fun _ _ _ _ q => q.elim)
  obtain ⟨e1, e2, e3, q2⟩ := q
  rw [e1, e2, e3]
  show J g mL_law 12 bc bs 2586 [some (.ref g.1.2.1), some (.ref (ad 0)), some (.ref (ad 63)), some (.ref (ad 69)), some (.int (nI i6)), none, none, none, none] [.long v, .long v] n ad E2 Φ Ψ
  refine j_lcmp dL_law_2586 ?_
  refine j_topi (y := 0) (lg_self _) ?_
  refine j_if_eq_t (tgt := 2592) dL_law_2587 (by decide) (by decide) ?_
  exact K E1 E2 p1 q2
