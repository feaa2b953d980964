/-! The law's helpers: one call of the class each. -/
def HOk (g : jG) (M : jM) (d : Nat) (As : List Value) (n : Nat) (ad : Nat → Nat) (E : Nat → va_E) (v : Int64) (P : (Nat → va_E) → Prop) : Prop := ∀ (Φ : Option Value → jR) (Ψ : String → jR), (∀ E1 o, P E1 → E1 69 = aL g 1 o → Φ (some (.int 0)) n ad (va_up E1 69 (aL g 1 (vp_updL o 0 v)))) → JE g M d 0 0 As n ad E Φ Ψ
def HBad (g : jG) (M : jM) (d : Nat) (As : List Value) (n : Nat) (ad : Nat → Nat) (E : Nat → va_E) (k : Int32) : Prop := ∀ (Φ : Option Value → jR) (Ψ : String → jR), Φ (some (.int k)) n ad E → JE g M d 1 6 As n ad E Φ Ψ
theorem Ret.toP {g : jG} {M : jM} {d : Nat} {As : List Value} {n : Nat} {ad : Nat → Nat} {E E' : Nat → va_E} {v : Option Value} {P : (Nat → va_E) → Prop} (h : Ret g M d As n ad E v E') (p : P E') : RetP g M d As n ad E v P := fun Φ Ψ k => h Φ Ψ (k _ p)
set_option maxRecDepth 100000 in
set_option maxHeartbeats 4000000 in
theorem h_lay_ok {g : jG} {n : Nat} {ad : Nat → Nat} {E : Nat → va_E} {fs : List Value} (x1 x2 : Int32) (hn : 70 ≤ n) (h0 : E 0 = .inr (3, fs)) {v : Int32} {P : (Nat → va_E) → Prop} (h69 : ∀ E1, P E1 → ∃ o, E1 69 = aL g 1 o) (H : RetP g mX3_lay 10 [.ref (ad 0), .int x1, .int x2] n ad E (some (.int v)) P) : HOk g mL_lay 11 [.ref (ad 0), .int x1, .int x2, .ref (ad 69)] n ad E v.toInt64 P := by
  intro Φ Ψ h
  show J g mL_lay 11 0 0 0 [some (.ref (ad 0)), some (.int x1), some (.int x2), some (.ref (ad 69)), none] [] n ad E Φ Ψ
  refine j_aload_n dL_lay_0 rfl ?_
  refine j_iconst (v := nI 0) dL_lay_1 (by decide) ?_
  refine j_aload_n dL_lay_2 rfl ?_
  refine j_iload_n dL_lay_3 rfl ?_
  refine j_iload_n dL_lay_4 rfl ?_
  refine j_cVp (As := [.int x1, .int x2]) (rest := [.int (nI 0), .ref (ad 69)]) cm_X3_lay ci_X3_lay cs_X3_lay rfl ln_L_7 (ci := 3) rfl dL_lay_5 (d' := 10) (by decide) (by omega) h0 rfl rfl (Nat.le_of_ble_eq_true rfl) (Nat.le_of_ble_eq_true rfl) H (fun E1 q1 => ?_)
  obtain ⟨o, ho⟩ := h69 E1 q1
  show J g mL_lay 11 0 0 8 [some (.ref (ad 0)), some (.int x1), some (.int x2), some (.ref (ad 69)), none] [.int v, .int (nI 0), .ref (ad 69)] n ad E1 Φ Ψ
  refine j_i2l dL_lay_8 ?_
  refine j_last (j := 0) dL_lay_9 (by omega) ho (by decide) (by omega) ?_
  refine j_goto (tgt := 17) dL_lay_10 (by decide) ?_
  refine j_iconst (v := 0) dL_lay_17 (by decide) ?_
  exact j_iret dL_lay_18 rfl (h E1 o q1 ho)
set_option maxRecDepth 100000 in
set_option maxHeartbeats 4000000 in
theorem h_lay_iae {g : jG} {n : Nat} {ad : Nat → Nat} {E : Nat → va_E} {fs : List Value} (x1 x2 : Int32) (hn : 70 ≤ n) (h0 : E 0 = .inr (3, fs)) (H : Thr g mX3_lay 10 [.ref (ad 0), .int x1, .int x2] n ad E "java/lang/IllegalArgumentException") : HBad g mL_lay 11 [.ref (ad 0), .int x1, .int x2, .ref (ad 69)] n ad E (1 : Int32) := by
  intro Φ Ψ h
  show J g mL_lay 11 1 6 0 [some (.ref (ad 0)), some (.int x1), some (.int x2), some (.ref (ad 69)), none] [] n ad E Φ Ψ
  have hc : ∀ q : Nat, J g mL_lay 11 0 0 13 [some (.ref (ad 0)), some (.int x1), some (.int x2), some (.ref (ad 69)), none] [.ref q] n ad E Φ Ψ := by
    intro q
    refine j_astore (L' := [some (.ref (ad 0)), some (.int x1), some (.int x2), some (.ref (ad 69)), some (.ref q)]) dL_lay_13 (by decide) rfl rfl ?_
    refine j_iconst (v := 1) dL_lay_15 (by decide) ?_
    exact j_iret dL_lay_16 rfl h
  refine j_aload_n dL_lay_0 rfl ?_
  refine j_iconst (v := nI 0) dL_lay_1 (by decide) ?_
  refine j_aload_n dL_lay_2 rfl ?_
  refine j_iload_n dL_lay_3 rfl ?_
  refine j_iload_n dL_lay_4 rfl ?_
  exact j_cVx (As := [.int x1, .int x2]) (rest := [.int (nI 0), .ref (ad 69)]) cm_X3_lay ci_X3_lay cs_X3_lay rfl ln_L_7 (ci := 3) rfl dL_lay_5 (d' := 10) (by decide) (by omega) h0 rfl rfl (Nat.le_of_ble_eq_true rfl) (Nat.le_of_ble_eq_true rfl) H (Or.inr ⟨[], ⟨0, 10, 13, 13⟩, [], "java/lang/IllegalArgumentException", rfl, (fun z hz => by cases hz), by decide, by decide, cl_L_13, ca_IllegalArgumentException, fun q => hc q⟩)
set_option maxRecDepth 100000 in
set_option maxHeartbeats 4000000 in
theorem h_rain_ok {g : jG} {n : Nat} {ad : Nat → Nat} {E : Nat → va_E} {fs : List Value} (x1 x2 x3 : Int32) (hn : 70 ≤ n) (h0 : E 0 = .inr (3, fs)) {v : Int32} {P : (Nat → va_E) → Prop} (h69 : ∀ E1, P E1 → ∃ o, E1 69 = aL g 1 o) (H : RetP g mX3_rain 10 [.ref (ad 0), .int x1, .int x2, .int x3] n ad E (some (.int v)) P) : HOk g mL_rain 11 [.ref (ad 0), .int x1, .int x2, .int x3, .ref (ad 69)] n ad E v.toInt64 P := by
  intro Φ Ψ h
  show J g mL_rain 11 0 0 0 [some (.ref (ad 0)), some (.int x1), some (.int x2), some (.int x3), some (.ref (ad 69)), none] [] n ad E Φ Ψ
  refine j_aload dL_rain_0 rfl ?_
  refine j_iconst (v := nI 0) dL_rain_2 (by decide) ?_
  refine j_aload_n dL_rain_3 rfl ?_
  refine j_iload_n dL_rain_4 rfl ?_
  refine j_iload_n dL_rain_5 rfl ?_
  refine j_iload_n dL_rain_6 rfl ?_
  refine j_cVp (As := [.int x1, .int x2, .int x3]) (rest := [.int (nI 0), .ref (ad 69)]) cm_X3_rain ci_X3_rain cs_X3_rain rfl ln_L_15 (ci := 3) rfl dL_rain_7 (d' := 10) (by decide) (by omega) h0 rfl rfl (Nat.le_of_ble_eq_true rfl) (Nat.le_of_ble_eq_true rfl) H (fun E1 q1 => ?_)
  obtain ⟨o, ho⟩ := h69 E1 q1
  show J g mL_rain 11 0 0 10 [some (.ref (ad 0)), some (.int x1), some (.int x2), some (.int x3), some (.ref (ad 69)), none] [.int v, .int (nI 0), .ref (ad 69)] n ad E1 Φ Ψ
  refine j_i2l dL_rain_10 ?_
  refine j_last (j := 0) dL_rain_11 (by omega) ho (by decide) (by omega) ?_
  refine j_goto (tgt := 23) dL_rain_12 (by decide) ?_
  refine j_iconst (v := 0) dL_rain_23 (by decide) ?_
  exact j_iret dL_rain_24 rfl (h E1 o q1 ho)
set_option maxRecDepth 100000 in
set_option maxHeartbeats 4000000 in
theorem h_rain_bad {g : jG} {n : Nat} {ad : Nat → Nat} {E : Nat → va_E} {fs : List Value} (x1 x2 x3 : Int32) (hn : 70 ≤ n) (h0 : E 0 = .inr (3, fs)) (H : Thr g mX3_rain 10 [.ref (ad 0), .int x1, .int x2, .int x3] n ad E "java/lang/IndexOutOfBoundsException") : HBad g mL_rain 11 [.ref (ad 0), .int x1, .int x2, .int x3, .ref (ad 69)] n ad E (1 : Int32) := by
  intro Φ Ψ h
  show J g mL_rain 11 1 6 0 [some (.ref (ad 0)), some (.int x1), some (.int x2), some (.int x3), some (.ref (ad 69)), none] [] n ad E Φ Ψ
  have hc : ∀ q : Nat, J g mL_rain 11 0 0 15 [some (.ref (ad 0)), some (.int x1), some (.int x2), some (.int x3), some (.ref (ad 69)), none] [.ref q] n ad E Φ Ψ := by
    intro q
    refine j_astore (L' := [some (.ref (ad 0)), some (.int x1), some (.int x2), some (.int x3), some (.ref (ad 69)), some (.ref q)]) dL_rain_15 (by decide) rfl rfl ?_
    refine j_iconst (v := 1) dL_rain_17 (by decide) ?_
    exact j_iret dL_rain_18 rfl h
  refine j_aload dL_rain_0 rfl ?_
  refine j_iconst (v := nI 0) dL_rain_2 (by decide) ?_
  refine j_aload_n dL_rain_3 rfl ?_
  refine j_iload_n dL_rain_4 rfl ?_
  refine j_iload_n dL_rain_5 rfl ?_
  refine j_iload_n dL_rain_6 rfl ?_
  exact j_cVx (As := [.int x1, .int x2, .int x3]) (rest := [.int (nI 0), .ref (ad 69)]) cm_X3_rain ci_X3_rain cs_X3_rain rfl ln_L_15 (ci := 3) rfl dL_rain_7 (d' := 10) (by decide) (by omega) h0 rfl rfl (Nat.le_of_ble_eq_true rfl) (Nat.le_of_ble_eq_true rfl) H (Or.inr ⟨[], ⟨0, 12, 15, 19⟩, [⟨0, 12, 19, 13⟩], "java/lang/IndexOutOfBoundsException", rfl, (fun z hz => by cases hz), by decide, by decide, cl_L_19, ca_IndexOutOfBoundsException, fun q => hc q⟩)
set_option maxRecDepth 100000 in
set_option maxHeartbeats 4000000 in
theorem h_rain_iae {g : jG} {n : Nat} {ad : Nat → Nat} {E : Nat → va_E} {fs : List Value} (x1 x2 x3 : Int32) (hn : 70 ≤ n) (h0 : E 0 = .inr (3, fs)) (H : Thr g mX3_rain 10 [.ref (ad 0), .int x1, .int x2, .int x3] n ad E "java/lang/IllegalArgumentException") : HBad g mL_rain 11 [.ref (ad 0), .int x1, .int x2, .int x3, .ref (ad 69)] n ad E (2 : Int32) := by
  intro Φ Ψ h
  show J g mL_rain 11 1 6 0 [some (.ref (ad 0)), some (.int x1), some (.int x2), some (.int x3), some (.ref (ad 69)), none] [] n ad E Φ Ψ
  have hc : ∀ q : Nat, J g mL_rain 11 0 0 19 [some (.ref (ad 0)), some (.int x1), some (.int x2), some (.int x3), some (.ref (ad 69)), none] [.ref q] n ad E Φ Ψ := by
    intro q
    refine j_astore (L' := [some (.ref (ad 0)), some (.int x1), some (.int x2), some (.int x3), some (.ref (ad 69)), some (.ref q)]) dL_rain_19 (by decide) rfl rfl ?_
    refine j_iconst (v := 2) dL_rain_21 (by decide) ?_
    exact j_iret dL_rain_22 rfl h
  refine j_aload dL_rain_0 rfl ?_
  refine j_iconst (v := nI 0) dL_rain_2 (by decide) ?_
  refine j_aload_n dL_rain_3 rfl ?_
  refine j_iload_n dL_rain_4 rfl ?_
  refine j_iload_n dL_rain_5 rfl ?_
  refine j_iload_n dL_rain_6 rfl ?_
  exact j_cVx (As := [.int x1, .int x2, .int x3]) (rest := [.int (nI 0), .ref (ad 69)]) cm_X3_rain ci_X3_rain cs_X3_rain rfl ln_L_15 (ci := 3) rfl dL_rain_7 (d' := 10) (by decide) (by omega) h0 rfl rfl (Nat.le_of_ble_eq_true rfl) (Nat.le_of_ble_eq_true rfl) H (Or.inr ⟨[⟨0, 12, 15, 19⟩], ⟨0, 12, 19, 13⟩, [], "java/lang/IllegalArgumentException", rfl, (fun z hz => by rw [List.mem_singleton.mp hz]; exact Or.inr ⟨by decide, "java/lang/IndexOutOfBoundsException", cl_L_19, List.mem_cons_self⟩), by decide, by decide, cl_L_13, ca_IllegalArgumentException, fun q => hc q⟩)
set_option maxRecDepth 100000 in
set_option maxHeartbeats 4000000 in
theorem h_splash_ok {g : jG} {n : Nat} {ad : Nat → Nat} {E : Nat → va_E} {fs : List Value} (x1 x2 x3 x4 x5 : Int32) (hn : 70 ≤ n) (h0 : E 0 = .inr (3, fs)) {v : Int32} {P : (Nat → va_E) → Prop} (h69 : ∀ E1, P E1 → ∃ o, E1 69 = aL g 1 o) (H : RetP g mX3_splash 10 [.ref (ad 0), .int x1, .int x2, .int x3, .int x4, .int x5] n ad E (some (.int v)) P) : HOk g mL_splash 11 [.ref (ad 0), .int x1, .int x2, .int x3, .int x4, .int x5, .ref (ad 69)] n ad E v.toInt64 P := by
  intro Φ Ψ h
  show J g mL_splash 11 0 0 0 [some (.ref (ad 0)), some (.int x1), some (.int x2), some (.int x3), some (.int x4), some (.int x5), some (.ref (ad 69)), none] [] n ad E Φ Ψ
  refine j_aload dL_splash_0 rfl ?_
  refine j_iconst (v := nI 0) dL_splash_2 (by decide) ?_
  refine j_aload_n dL_splash_3 rfl ?_
  refine j_iload_n dL_splash_4 rfl ?_
  refine j_iload_n dL_splash_5 rfl ?_
  refine j_iload_n dL_splash_6 rfl ?_
  refine j_iload dL_splash_7 rfl ?_
  refine j_iload dL_splash_9 rfl ?_
  refine j_cVp (As := [.int x1, .int x2, .int x3, .int x4, .int x5]) (rest := [.int (nI 0), .ref (ad 69)]) cm_X3_splash ci_X3_splash cs_X3_splash rfl ln_L_21 (ci := 3) rfl dL_splash_11 (d' := 10) (by decide) (by omega) h0 rfl rfl (Nat.le_of_ble_eq_true rfl) (Nat.le_of_ble_eq_true rfl) H (fun E1 q1 => ?_)
  obtain ⟨o, ho⟩ := h69 E1 q1
  show J g mL_splash 11 0 0 14 [some (.ref (ad 0)), some (.int x1), some (.int x2), some (.int x3), some (.int x4), some (.int x5), some (.ref (ad 69)), none] [.int v, .int (nI 0), .ref (ad 69)] n ad E1 Φ Ψ
  refine j_i2l dL_splash_14 ?_
  refine j_last (j := 0) dL_splash_15 (by omega) ho (by decide) (by omega) ?_
  refine j_goto (tgt := 27) dL_splash_16 (by decide) ?_
  refine j_iconst (v := 0) dL_splash_27 (by decide) ?_
  exact j_iret dL_splash_28 rfl (h E1 o q1 ho)
set_option maxRecDepth 100000 in
set_option maxHeartbeats 4000000 in
theorem h_splash_bad {g : jG} {n : Nat} {ad : Nat → Nat} {E : Nat → va_E} {fs : List Value} (x1 x2 x3 x4 x5 : Int32) (hn : 70 ≤ n) (h0 : E 0 = .inr (3, fs)) (H : Thr g mX3_splash 10 [.ref (ad 0), .int x1, .int x2, .int x3, .int x4, .int x5] n ad E "java/lang/IndexOutOfBoundsException") : HBad g mL_splash 11 [.ref (ad 0), .int x1, .int x2, .int x3, .int x4, .int x5, .ref (ad 69)] n ad E (1 : Int32) := by
  intro Φ Ψ h
  show J g mL_splash 11 1 6 0 [some (.ref (ad 0)), some (.int x1), some (.int x2), some (.int x3), some (.int x4), some (.int x5), some (.ref (ad 69)), none] [] n ad E Φ Ψ
  have hc : ∀ q : Nat, J g mL_splash 11 0 0 19 [some (.ref (ad 0)), some (.int x1), some (.int x2), some (.int x3), some (.int x4), some (.int x5), some (.ref (ad 69)), none] [.ref q] n ad E Φ Ψ := by
    intro q
    refine j_astore (L' := [some (.ref (ad 0)), some (.int x1), some (.int x2), some (.int x3), some (.int x4), some (.int x5), some (.ref (ad 69)), some (.ref q)]) dL_splash_19 (by decide) rfl rfl ?_
    refine j_iconst (v := 1) dL_splash_21 (by decide) ?_
    exact j_iret dL_splash_22 rfl h
  refine j_aload dL_splash_0 rfl ?_
  refine j_iconst (v := nI 0) dL_splash_2 (by decide) ?_
  refine j_aload_n dL_splash_3 rfl ?_
  refine j_iload_n dL_splash_4 rfl ?_
  refine j_iload_n dL_splash_5 rfl ?_
  refine j_iload_n dL_splash_6 rfl ?_
  refine j_iload dL_splash_7 rfl ?_
  refine j_iload dL_splash_9 rfl ?_
  exact j_cVx (As := [.int x1, .int x2, .int x3, .int x4, .int x5]) (rest := [.int (nI 0), .ref (ad 69)]) cm_X3_splash ci_X3_splash cs_X3_splash rfl ln_L_21 (ci := 3) rfl dL_splash_11 (d' := 10) (by decide) (by omega) h0 rfl rfl (Nat.le_of_ble_eq_true rfl) (Nat.le_of_ble_eq_true rfl) H (Or.inr ⟨[], ⟨0, 16, 19, 19⟩, [⟨0, 16, 23, 13⟩], "java/lang/IndexOutOfBoundsException", rfl, (fun z hz => by cases hz), by decide, by decide, cl_L_19, ca_IndexOutOfBoundsException, fun q => hc q⟩)
set_option maxRecDepth 100000 in
set_option maxHeartbeats 4000000 in
theorem h_splash_iae {g : jG} {n : Nat} {ad : Nat → Nat} {E : Nat → va_E} {fs : List Value} (x1 x2 x3 x4 x5 : Int32) (hn : 70 ≤ n) (h0 : E 0 = .inr (3, fs)) (H : Thr g mX3_splash 10 [.ref (ad 0), .int x1, .int x2, .int x3, .int x4, .int x5] n ad E "java/lang/IllegalArgumentException") : HBad g mL_splash 11 [.ref (ad 0), .int x1, .int x2, .int x3, .int x4, .int x5, .ref (ad 69)] n ad E (2 : Int32) := by
  intro Φ Ψ h
  show J g mL_splash 11 1 6 0 [some (.ref (ad 0)), some (.int x1), some (.int x2), some (.int x3), some (.int x4), some (.int x5), some (.ref (ad 69)), none] [] n ad E Φ Ψ
  have hc : ∀ q : Nat, J g mL_splash 11 0 0 23 [some (.ref (ad 0)), some (.int x1), some (.int x2), some (.int x3), some (.int x4), some (.int x5), some (.ref (ad 69)), none] [.ref q] n ad E Φ Ψ := by
    intro q
    refine j_astore (L' := [some (.ref (ad 0)), some (.int x1), some (.int x2), some (.int x3), some (.int x4), some (.int x5), some (.ref (ad 69)), some (.ref q)]) dL_splash_23 (by decide) rfl rfl ?_
    refine j_iconst (v := 2) dL_splash_25 (by decide) ?_
    exact j_iret dL_splash_26 rfl h
  refine j_aload dL_splash_0 rfl ?_
  refine j_iconst (v := nI 0) dL_splash_2 (by decide) ?_
  refine j_aload_n dL_splash_3 rfl ?_
  refine j_iload_n dL_splash_4 rfl ?_
  refine j_iload_n dL_splash_5 rfl ?_
  refine j_iload_n dL_splash_6 rfl ?_
  refine j_iload dL_splash_7 rfl ?_
  refine j_iload dL_splash_9 rfl ?_
  exact j_cVx (As := [.int x1, .int x2, .int x3, .int x4, .int x5]) (rest := [.int (nI 0), .ref (ad 69)]) cm_X3_splash ci_X3_splash cs_X3_splash rfl ln_L_21 (ci := 3) rfl dL_splash_11 (d' := 10) (by decide) (by omega) h0 rfl rfl (Nat.le_of_ble_eq_true rfl) (Nat.le_of_ble_eq_true rfl) H (Or.inr ⟨[⟨0, 16, 19, 19⟩], ⟨0, 16, 23, 13⟩, [], "java/lang/IllegalArgumentException", rfl, (fun z hz => by rw [List.mem_singleton.mp hz]; exact Or.inr ⟨by decide, "java/lang/IndexOutOfBoundsException", cl_L_19, List.mem_cons_self⟩), by decide, by decide, cl_L_13, ca_IllegalArgumentException, fun q => hc q⟩)
set_option maxRecDepth 100000 in
set_option maxHeartbeats 4000000 in
theorem h_swap_ok {g : jG} {n : Nat} {ad : Nat → Nat} {E : Nat → va_E} {fs : List Value} (x1 x2 : Int32) (hn : 70 ≤ n) (h0 : E 0 = .inr (3, fs)) {v : Int32} {P : (Nat → va_E) → Prop} (h69 : ∀ E1, P E1 → ∃ o, E1 69 = aL g 1 o) (H : RetP g mX3_swap 10 [.ref (ad 0), .int x1, .int x2] n ad E (some (.int v)) P) : HOk g mL_swap 11 [.ref (ad 0), .int x1, .int x2, .ref (ad 69)] n ad E v.toInt64 P := by
  intro Φ Ψ h
  show J g mL_swap 11 0 0 0 [some (.ref (ad 0)), some (.int x1), some (.int x2), some (.ref (ad 69)), none] [] n ad E Φ Ψ
  refine j_aload_n dL_swap_0 rfl ?_
  refine j_iconst (v := nI 0) dL_swap_1 (by decide) ?_
  refine j_aload_n dL_swap_2 rfl ?_
  refine j_iload_n dL_swap_3 rfl ?_
  refine j_iload_n dL_swap_4 rfl ?_
  refine j_cVp (As := [.int x1, .int x2]) (rest := [.int (nI 0), .ref (ad 69)]) cm_X3_swap ci_X3_swap cs_X3_swap rfl ln_L_25 (ci := 3) rfl dL_swap_5 (d' := 10) (by decide) (by omega) h0 rfl rfl (Nat.le_of_ble_eq_true rfl) (Nat.le_of_ble_eq_true rfl) H (fun E1 q1 => ?_)
  obtain ⟨o, ho⟩ := h69 E1 q1
  show J g mL_swap 11 0 0 8 [some (.ref (ad 0)), some (.int x1), some (.int x2), some (.ref (ad 69)), none] [.int v, .int (nI 0), .ref (ad 69)] n ad E1 Φ Ψ
  refine j_i2l dL_swap_8 ?_
  refine j_last (j := 0) dL_swap_9 (by omega) ho (by decide) (by omega) ?_
  refine j_goto (tgt := 17) dL_swap_10 (by decide) ?_
  refine j_iconst (v := 0) dL_swap_17 (by decide) ?_
  exact j_iret dL_swap_18 rfl (h E1 o q1 ho)
set_option maxRecDepth 100000 in
set_option maxHeartbeats 4000000 in
theorem h_swap_bad {g : jG} {n : Nat} {ad : Nat → Nat} {E : Nat → va_E} {fs : List Value} (x1 x2 : Int32) (hn : 70 ≤ n) (h0 : E 0 = .inr (3, fs)) (H : Thr g mX3_swap 10 [.ref (ad 0), .int x1, .int x2] n ad E "java/lang/IndexOutOfBoundsException") : HBad g mL_swap 11 [.ref (ad 0), .int x1, .int x2, .ref (ad 69)] n ad E (1 : Int32) := by
  intro Φ Ψ h
  show J g mL_swap 11 1 6 0 [some (.ref (ad 0)), some (.int x1), some (.int x2), some (.ref (ad 69)), none] [] n ad E Φ Ψ
  have hc : ∀ q : Nat, J g mL_swap 11 0 0 13 [some (.ref (ad 0)), some (.int x1), some (.int x2), some (.ref (ad 69)), none] [.ref q] n ad E Φ Ψ := by
    intro q
    refine j_astore (L' := [some (.ref (ad 0)), some (.int x1), some (.int x2), some (.ref (ad 69)), some (.ref q)]) dL_swap_13 (by decide) rfl rfl ?_
    refine j_iconst (v := 1) dL_swap_15 (by decide) ?_
    exact j_iret dL_swap_16 rfl h
  refine j_aload_n dL_swap_0 rfl ?_
  refine j_iconst (v := nI 0) dL_swap_1 (by decide) ?_
  refine j_aload_n dL_swap_2 rfl ?_
  refine j_iload_n dL_swap_3 rfl ?_
  refine j_iload_n dL_swap_4 rfl ?_
  exact j_cVx (As := [.int x1, .int x2]) (rest := [.int (nI 0), .ref (ad 69)]) cm_X3_swap ci_X3_swap cs_X3_swap rfl ln_L_25 (ci := 3) rfl dL_swap_5 (d' := 10) (by decide) (by omega) h0 rfl rfl (Nat.le_of_ble_eq_true rfl) (Nat.le_of_ble_eq_true rfl) H (Or.inr ⟨[], ⟨0, 10, 13, 19⟩, [], "java/lang/IndexOutOfBoundsException", rfl, (fun z hz => by cases hz), by decide, by decide, cl_L_19, ca_IndexOutOfBoundsException, fun q => hc q⟩)
set_option maxRecDepth 100000 in
set_option maxHeartbeats 4000000 in
theorem h_turn_ok {g : jG} {n : Nat} {ad : Nat → Nat} {E : Nat → va_E} {fs : List Value} (x1 : Int32) (hn : 70 ≤ n) (h0 : E 0 = .inr (3, fs)) {v : Int32} {P : (Nat → va_E) → Prop} (h69 : ∀ E1, P E1 → ∃ o, E1 69 = aL g 1 o) (H : RetP g mX3_turn 10 [.ref (ad 0), .int x1] n ad E (some (.int v)) P) : HOk g mL_turn 11 [.ref (ad 0), .int x1, .ref (ad 69)] n ad E v.toInt64 P := by
  intro Φ Ψ h
  show J g mL_turn 11 0 0 0 [some (.ref (ad 0)), some (.int x1), some (.ref (ad 69)), none] [] n ad E Φ Ψ
  refine j_aload_n dL_turn_0 rfl ?_
  refine j_iconst (v := nI 0) dL_turn_1 (by decide) ?_
  refine j_aload_n dL_turn_2 rfl ?_
  refine j_iload_n dL_turn_3 rfl ?_
  refine j_cVp (As := [.int x1]) (rest := [.int (nI 0), .ref (ad 69)]) cm_X3_turn ci_X3_turn cs_X3_turn rfl ln_L_28 (ci := 3) rfl dL_turn_4 (d' := 10) (by decide) (by omega) h0 rfl rfl (Nat.le_of_ble_eq_true rfl) (Nat.le_of_ble_eq_true rfl) H (fun E1 q1 => ?_)
  obtain ⟨o, ho⟩ := h69 E1 q1
  show J g mL_turn 11 0 0 7 [some (.ref (ad 0)), some (.int x1), some (.ref (ad 69)), none] [.int v, .int (nI 0), .ref (ad 69)] n ad E1 Φ Ψ
  refine j_i2l dL_turn_7 ?_
  refine j_last (j := 0) dL_turn_8 (by omega) ho (by decide) (by omega) ?_
  refine j_goto (tgt := 15) dL_turn_9 (by decide) ?_
  refine j_iconst (v := 0) dL_turn_15 (by decide) ?_
  exact j_iret dL_turn_16 rfl (h E1 o q1 ho)
set_option maxRecDepth 100000 in
set_option maxHeartbeats 4000000 in
theorem h_turn_bad {g : jG} {n : Nat} {ad : Nat → Nat} {E : Nat → va_E} {fs : List Value} (x1 : Int32) (hn : 70 ≤ n) (h0 : E 0 = .inr (3, fs)) (H : Thr g mX3_turn 10 [.ref (ad 0), .int x1] n ad E "java/lang/IndexOutOfBoundsException") : HBad g mL_turn 11 [.ref (ad 0), .int x1, .ref (ad 69)] n ad E (1 : Int32) := by
  intro Φ Ψ h
  show J g mL_turn 11 1 6 0 [some (.ref (ad 0)), some (.int x1), some (.ref (ad 69)), none] [] n ad E Φ Ψ
  have hc : ∀ q : Nat, J g mL_turn 11 0 0 12 [some (.ref (ad 0)), some (.int x1), some (.ref (ad 69)), none] [.ref q] n ad E Φ Ψ := by
    intro q
    refine j_astore_n (L' := [some (.ref (ad 0)), some (.int x1), some (.ref (ad 69)), some (.ref q)]) dL_turn_12 (by decide) rfl rfl ?_
    refine j_iconst (v := 1) dL_turn_13 (by decide) ?_
    exact j_iret dL_turn_14 rfl h
  refine j_aload_n dL_turn_0 rfl ?_
  refine j_iconst (v := nI 0) dL_turn_1 (by decide) ?_
  refine j_aload_n dL_turn_2 rfl ?_
  refine j_iload_n dL_turn_3 rfl ?_
  exact j_cVx (As := [.int x1]) (rest := [.int (nI 0), .ref (ad 69)]) cm_X3_turn ci_X3_turn cs_X3_turn rfl ln_L_28 (ci := 3) rfl dL_turn_4 (d' := 10) (by decide) (by omega) h0 rfl rfl (Nat.le_of_ble_eq_true rfl) (Nat.le_of_ble_eq_true rfl) H (Or.inr ⟨[], ⟨0, 9, 12, 19⟩, [], "java/lang/IndexOutOfBoundsException", rfl, (fun z hz => by cases hz), by decide, by decide, cl_L_19, ca_IndexOutOfBoundsException, fun q => hc q⟩)
set_option maxRecDepth 100000 in
set_option maxHeartbeats 4000000 in
theorem h_bail_ok {g : jG} {n : Nat} {ad : Nat → Nat} {E : Nat → va_E} {fs : List Value} (x1 x2 : Int32) (hn : 70 ≤ n) (h0 : E 0 = .inr (3, fs)) {v : Int32} {P : (Nat → va_E) → Prop} (h69 : ∀ E1, P E1 → ∃ o, E1 69 = aL g 1 o) (H : RetP g mX3_bail 10 [.ref (ad 0), .int x1, .int x2] n ad E (some (.int v)) P) : HOk g mL_bail 11 [.ref (ad 0), .int x1, .int x2, .ref (ad 69)] n ad E v.toInt64 P := by
  intro Φ Ψ h
  show J g mL_bail 11 0 0 0 [some (.ref (ad 0)), some (.int x1), some (.int x2), some (.ref (ad 69)), none] [] n ad E Φ Ψ
  refine j_aload_n dL_bail_0 rfl ?_
  refine j_iconst (v := nI 0) dL_bail_1 (by decide) ?_
  refine j_aload_n dL_bail_2 rfl ?_
  refine j_iload_n dL_bail_3 rfl ?_
  refine j_iload_n dL_bail_4 rfl ?_
  refine j_cVp (As := [.int x1, .int x2]) (rest := [.int (nI 0), .ref (ad 69)]) cm_X3_bail ci_X3_bail cs_X3_bail rfl ln_L_32 (ci := 3) rfl dL_bail_5 (d' := 10) (by decide) (by omega) h0 rfl rfl (Nat.le_of_ble_eq_true rfl) (Nat.le_of_ble_eq_true rfl) H (fun E1 q1 => ?_)
  obtain ⟨o, ho⟩ := h69 E1 q1
  show J g mL_bail 11 0 0 8 [some (.ref (ad 0)), some (.int x1), some (.int x2), some (.ref (ad 69)), none] [.int v, .int (nI 0), .ref (ad 69)] n ad E1 Φ Ψ
  refine j_i2l dL_bail_8 ?_
  refine j_last (j := 0) dL_bail_9 (by omega) ho (by decide) (by omega) ?_
  refine j_goto (tgt := 21) dL_bail_10 (by decide) ?_
  refine j_iconst (v := 0) dL_bail_21 (by decide) ?_
  exact j_iret dL_bail_22 rfl (h E1 o q1 ho)
set_option maxRecDepth 100000 in
set_option maxHeartbeats 4000000 in
theorem h_bail_bad {g : jG} {n : Nat} {ad : Nat → Nat} {E : Nat → va_E} {fs : List Value} (x1 x2 : Int32) (hn : 70 ≤ n) (h0 : E 0 = .inr (3, fs)) (H : Thr g mX3_bail 10 [.ref (ad 0), .int x1, .int x2] n ad E "java/lang/IndexOutOfBoundsException") : HBad g mL_bail 11 [.ref (ad 0), .int x1, .int x2, .ref (ad 69)] n ad E (1 : Int32) := by
  intro Φ Ψ h
  show J g mL_bail 11 1 6 0 [some (.ref (ad 0)), some (.int x1), some (.int x2), some (.ref (ad 69)), none] [] n ad E Φ Ψ
  have hc : ∀ q : Nat, J g mL_bail 11 0 0 13 [some (.ref (ad 0)), some (.int x1), some (.int x2), some (.ref (ad 69)), none] [.ref q] n ad E Φ Ψ := by
    intro q
    refine j_astore (L' := [some (.ref (ad 0)), some (.int x1), some (.int x2), some (.ref (ad 69)), some (.ref q)]) dL_bail_13 (by decide) rfl rfl ?_
    refine j_iconst (v := 1) dL_bail_15 (by decide) ?_
    exact j_iret dL_bail_16 rfl h
  refine j_aload_n dL_bail_0 rfl ?_
  refine j_iconst (v := nI 0) dL_bail_1 (by decide) ?_
  refine j_aload_n dL_bail_2 rfl ?_
  refine j_iload_n dL_bail_3 rfl ?_
  refine j_iload_n dL_bail_4 rfl ?_
  exact j_cVx (As := [.int x1, .int x2]) (rest := [.int (nI 0), .ref (ad 69)]) cm_X3_bail ci_X3_bail cs_X3_bail rfl ln_L_32 (ci := 3) rfl dL_bail_5 (d' := 10) (by decide) (by omega) h0 rfl rfl (Nat.le_of_ble_eq_true rfl) (Nat.le_of_ble_eq_true rfl) H (Or.inr ⟨[], ⟨0, 10, 13, 19⟩, [⟨0, 10, 17, 13⟩], "java/lang/IndexOutOfBoundsException", rfl, (fun z hz => by cases hz), by decide, by decide, cl_L_19, ca_IndexOutOfBoundsException, fun q => hc q⟩)
set_option maxRecDepth 100000 in
set_option maxHeartbeats 4000000 in
theorem h_bail_iae {g : jG} {n : Nat} {ad : Nat → Nat} {E : Nat → va_E} {fs : List Value} (x1 x2 : Int32) (hn : 70 ≤ n) (h0 : E 0 = .inr (3, fs)) (H : Thr g mX3_bail 10 [.ref (ad 0), .int x1, .int x2] n ad E "java/lang/IllegalArgumentException") : HBad g mL_bail 11 [.ref (ad 0), .int x1, .int x2, .ref (ad 69)] n ad E (2 : Int32) := by
  intro Φ Ψ h
  show J g mL_bail 11 1 6 0 [some (.ref (ad 0)), some (.int x1), some (.int x2), some (.ref (ad 69)), none] [] n ad E Φ Ψ
  have hc : ∀ q : Nat, J g mL_bail 11 0 0 17 [some (.ref (ad 0)), some (.int x1), some (.int x2), some (.ref (ad 69)), none] [.ref q] n ad E Φ Ψ := by
    intro q
    refine j_astore (L' := [some (.ref (ad 0)), some (.int x1), some (.int x2), some (.ref (ad 69)), some (.ref q)]) dL_bail_17 (by decide) rfl rfl ?_
    refine j_iconst (v := 2) dL_bail_19 (by decide) ?_
    exact j_iret dL_bail_20 rfl h
  refine j_aload_n dL_bail_0 rfl ?_
  refine j_iconst (v := nI 0) dL_bail_1 (by decide) ?_
  refine j_aload_n dL_bail_2 rfl ?_
  refine j_iload_n dL_bail_3 rfl ?_
  refine j_iload_n dL_bail_4 rfl ?_
  exact j_cVx (As := [.int x1, .int x2]) (rest := [.int (nI 0), .ref (ad 69)]) cm_X3_bail ci_X3_bail cs_X3_bail rfl ln_L_32 (ci := 3) rfl dL_bail_5 (d' := 10) (by decide) (by omega) h0 rfl rfl (Nat.le_of_ble_eq_true rfl) (Nat.le_of_ble_eq_true rfl) H (Or.inr ⟨[⟨0, 10, 13, 19⟩], ⟨0, 10, 17, 13⟩, [], "java/lang/IllegalArgumentException", rfl, (fun z hz => by rw [List.mem_singleton.mp hz]; exact Or.inr ⟨by decide, "java/lang/IndexOutOfBoundsException", cl_L_19, List.mem_cons_self⟩), by decide, by decide, cl_L_13, ca_IllegalArgumentException, fun q => hc q⟩)
set_option maxRecDepth 100000 in
set_option maxHeartbeats 4000000 in
theorem h_passHours_ok {g : jG} {n : Nat} {ad : Nat → Nat} {E : Nat → va_E} {fs : List Value} (x1 : Int32) (hn : 70 ≤ n) (h0 : E 0 = .inr (3, fs)) {v : Int32} {P : (Nat → va_E) → Prop} (h69 : ∀ E1, P E1 → ∃ o, E1 69 = aL g 1 o) (H : RetP g mX3_passHours 10 [.ref (ad 0), .int x1] n ad E (some (.int v)) P) : HOk g mL_passHours 11 [.ref (ad 0), .int x1, .ref (ad 69)] n ad E v.toInt64 P := by
  intro Φ Ψ h
  show J g mL_passHours 11 0 0 0 [some (.ref (ad 0)), some (.int x1), some (.ref (ad 69)), none] [] n ad E Φ Ψ
  refine j_aload_n dL_passHours_0 rfl ?_
  refine j_iconst (v := nI 0) dL_passHours_1 (by decide) ?_
  refine j_aload_n dL_passHours_2 rfl ?_
  refine j_iload_n dL_passHours_3 rfl ?_
  refine j_cVp (As := [.int x1]) (rest := [.int (nI 0), .ref (ad 69)]) cm_X3_passHours ci_X3_passHours cs_X3_passHours rfl ln_L_35 (ci := 3) rfl dL_passHours_4 (d' := 10) (by decide) (by omega) h0 rfl rfl (Nat.le_of_ble_eq_true rfl) (Nat.le_of_ble_eq_true rfl) H (fun E1 q1 => ?_)
  obtain ⟨o, ho⟩ := h69 E1 q1
  show J g mL_passHours 11 0 0 7 [some (.ref (ad 0)), some (.int x1), some (.ref (ad 69)), none] [.int v, .int (nI 0), .ref (ad 69)] n ad E1 Φ Ψ
  refine j_i2l dL_passHours_7 ?_
  refine j_last (j := 0) dL_passHours_8 (by omega) ho (by decide) (by omega) ?_
  refine j_goto (tgt := 15) dL_passHours_9 (by decide) ?_
  refine j_iconst (v := 0) dL_passHours_15 (by decide) ?_
  exact j_iret dL_passHours_16 rfl (h E1 o q1 ho)
set_option maxRecDepth 100000 in
set_option maxHeartbeats 4000000 in
theorem h_passHours_iae {g : jG} {n : Nat} {ad : Nat → Nat} {E : Nat → va_E} {fs : List Value} (x1 : Int32) (hn : 70 ≤ n) (h0 : E 0 = .inr (3, fs)) (H : Thr g mX3_passHours 10 [.ref (ad 0), .int x1] n ad E "java/lang/IllegalArgumentException") : HBad g mL_passHours 11 [.ref (ad 0), .int x1, .ref (ad 69)] n ad E (1 : Int32) := by
  intro Φ Ψ h
  show J g mL_passHours 11 1 6 0 [some (.ref (ad 0)), some (.int x1), some (.ref (ad 69)), none] [] n ad E Φ Ψ
  have hc : ∀ q : Nat, J g mL_passHours 11 0 0 12 [some (.ref (ad 0)), some (.int x1), some (.ref (ad 69)), none] [.ref q] n ad E Φ Ψ := by
    intro q
    refine j_astore_n (L' := [some (.ref (ad 0)), some (.int x1), some (.ref (ad 69)), some (.ref q)]) dL_passHours_12 (by decide) rfl rfl ?_
    refine j_iconst (v := 1) dL_passHours_13 (by decide) ?_
    exact j_iret dL_passHours_14 rfl h
  refine j_aload_n dL_passHours_0 rfl ?_
  refine j_iconst (v := nI 0) dL_passHours_1 (by decide) ?_
  refine j_aload_n dL_passHours_2 rfl ?_
  refine j_iload_n dL_passHours_3 rfl ?_
  exact j_cVx (As := [.int x1]) (rest := [.int (nI 0), .ref (ad 69)]) cm_X3_passHours ci_X3_passHours cs_X3_passHours rfl ln_L_35 (ci := 3) rfl dL_passHours_4 (d' := 10) (by decide) (by omega) h0 rfl rfl (Nat.le_of_ble_eq_true rfl) (Nat.le_of_ble_eq_true rfl) H (Or.inr ⟨[], ⟨0, 9, 12, 13⟩, [], "java/lang/IllegalArgumentException", rfl, (fun z hz => by cases hz), by decide, by decide, cl_L_13, ca_IllegalArgumentException, fun q => hc q⟩)
set_option maxRecDepth 100000 in
set_option maxHeartbeats 4000000 in
theorem h_mark_ok {g : jG} {n : Nat} {ad : Nat → Nat} {E : Nat → va_E} {fs : List Value} (hn : 70 ≤ n) (h0 : E 0 = .inr (3, fs)) {v : Int32} {P : (Nat → va_E) → Prop} (h69 : ∀ E1, P E1 → ∃ o, E1 69 = aL g 1 o) (H : RetP g mX3_mark 10 [.ref (ad 0)] n ad E (some (.int v)) P) : HOk g mL_mark 11 [.ref (ad 0), .ref (ad 69)] n ad E v.toInt64 P := by
  intro Φ Ψ h
  show J g mL_mark 11 0 0 0 [some (.ref (ad 0)), some (.ref (ad 69)), none] [] n ad E Φ Ψ
  refine j_aload_n dL_mark_0 rfl ?_
  refine j_iconst (v := nI 0) dL_mark_1 (by decide) ?_
  refine j_aload_n dL_mark_2 rfl ?_
  refine j_cVp (As := []) (rest := [.int (nI 0), .ref (ad 69)]) cm_X3_mark ci_X3_mark cs_X3_mark rfl ln_L_38 (ci := 3) rfl dL_mark_3 (d' := 10) (by decide) (by omega) h0 rfl rfl (Nat.le_of_ble_eq_true rfl) (Nat.le_of_ble_eq_true rfl) H (fun E1 q1 => ?_)
  obtain ⟨o, ho⟩ := h69 E1 q1
  show J g mL_mark 11 0 0 6 [some (.ref (ad 0)), some (.ref (ad 69)), none] [.int v, .int (nI 0), .ref (ad 69)] n ad E1 Φ Ψ
  refine j_i2l dL_mark_6 ?_
  refine j_last (j := 0) dL_mark_7 (by omega) ho (by decide) (by omega) ?_
  refine j_goto (tgt := 14) dL_mark_8 (by decide) ?_
  refine j_iconst (v := 0) dL_mark_14 (by decide) ?_
  exact j_iret dL_mark_15 rfl (h E1 o q1 ho)
set_option maxRecDepth 100000 in
set_option maxHeartbeats 4000000 in
theorem h_mark_ise {g : jG} {n : Nat} {ad : Nat → Nat} {E : Nat → va_E} {fs : List Value} (hn : 70 ≤ n) (h0 : E 0 = .inr (3, fs)) (H : Thr g mX3_mark 10 [.ref (ad 0)] n ad E "java/lang/IllegalStateException") : HBad g mL_mark 11 [.ref (ad 0), .ref (ad 69)] n ad E (1 : Int32) := by
  intro Φ Ψ h
  show J g mL_mark 11 1 6 0 [some (.ref (ad 0)), some (.ref (ad 69)), none] [] n ad E Φ Ψ
  have hc : ∀ q : Nat, J g mL_mark 11 0 0 11 [some (.ref (ad 0)), some (.ref (ad 69)), none] [.ref q] n ad E Φ Ψ := by
    intro q
    refine j_astore_n (L' := [some (.ref (ad 0)), some (.ref (ad 69)), some (.ref q)]) dL_mark_11 (by decide) rfl rfl ?_
    refine j_iconst (v := 1) dL_mark_12 (by decide) ?_
    exact j_iret dL_mark_13 rfl h
  refine j_aload_n dL_mark_0 rfl ?_
  refine j_iconst (v := nI 0) dL_mark_1 (by decide) ?_
  refine j_aload_n dL_mark_2 rfl ?_
  exact j_cVx (As := []) (rest := [.int (nI 0), .ref (ad 69)]) cm_X3_mark ci_X3_mark cs_X3_mark rfl ln_L_38 (ci := 3) rfl dL_mark_3 (d' := 10) (by decide) (by omega) h0 rfl rfl (Nat.le_of_ble_eq_true rfl) (Nat.le_of_ble_eq_true rfl) H (Or.inr ⟨[], ⟨0, 8, 11, 42⟩, [], "java/lang/IllegalStateException", rfl, (fun z hz => by cases hz), by decide, by decide, cl_L_42, ca_IllegalStateException, fun q => hc q⟩)
set_option maxRecDepth 100000 in
set_option maxHeartbeats 4000000 in
theorem h_back_ok {g : jG} {n : Nat} {ad : Nat → Nat} {E : Nat → va_E} {fs : List Value} (x1 : Int32) (hn : 70 ≤ n) (h0 : E 0 = .inr (3, fs)) {v : Int32} {P : (Nat → va_E) → Prop} (h69 : ∀ E1, P E1 → ∃ o, E1 69 = aL g 1 o) (H : RetP g mX3_back 10 [.ref (ad 0), .int x1] n ad E (some (.int v)) P) : HOk g mL_back 11 [.ref (ad 0), .int x1, .ref (ad 69)] n ad E v.toInt64 P := by
  intro Φ Ψ h
  show J g mL_back 11 0 0 0 [some (.ref (ad 0)), some (.int x1), some (.ref (ad 69)), none] [] n ad E Φ Ψ
  refine j_aload_n dL_back_0 rfl ?_
  refine j_iconst (v := nI 0) dL_back_1 (by decide) ?_
  refine j_aload_n dL_back_2 rfl ?_
  refine j_iload_n dL_back_3 rfl ?_
  refine j_cVp (As := [.int x1]) (rest := [.int (nI 0), .ref (ad 69)]) cm_X3_back ci_X3_back cs_X3_back rfl ln_L_44 (ci := 3) rfl dL_back_4 (d' := 10) (by decide) (by omega) h0 rfl rfl (Nat.le_of_ble_eq_true rfl) (Nat.le_of_ble_eq_true rfl) H (fun E1 q1 => ?_)
  obtain ⟨o, ho⟩ := h69 E1 q1
  show J g mL_back 11 0 0 7 [some (.ref (ad 0)), some (.int x1), some (.ref (ad 69)), none] [.int v, .int (nI 0), .ref (ad 69)] n ad E1 Φ Ψ
  refine j_i2l dL_back_7 ?_
  refine j_last (j := 0) dL_back_8 (by omega) ho (by decide) (by omega) ?_
  refine j_goto (tgt := 15) dL_back_9 (by decide) ?_
  refine j_iconst (v := 0) dL_back_15 (by decide) ?_
  exact j_iret dL_back_16 rfl (h E1 o q1 ho)
set_option maxRecDepth 100000 in
set_option maxHeartbeats 4000000 in
theorem h_back_bad {g : jG} {n : Nat} {ad : Nat → Nat} {E : Nat → va_E} {fs : List Value} (x1 : Int32) (hn : 70 ≤ n) (h0 : E 0 = .inr (3, fs)) (H : Thr g mX3_back 10 [.ref (ad 0), .int x1] n ad E "java/lang/IndexOutOfBoundsException") : HBad g mL_back 11 [.ref (ad 0), .int x1, .ref (ad 69)] n ad E (1 : Int32) := by
  intro Φ Ψ h
  show J g mL_back 11 1 6 0 [some (.ref (ad 0)), some (.int x1), some (.ref (ad 69)), none] [] n ad E Φ Ψ
  have hc : ∀ q : Nat, J g mL_back 11 0 0 12 [some (.ref (ad 0)), some (.int x1), some (.ref (ad 69)), none] [.ref q] n ad E Φ Ψ := by
    intro q
    refine j_astore_n (L' := [some (.ref (ad 0)), some (.int x1), some (.ref (ad 69)), some (.ref q)]) dL_back_12 (by decide) rfl rfl ?_
    refine j_iconst (v := 1) dL_back_13 (by decide) ?_
    exact j_iret dL_back_14 rfl h
  refine j_aload_n dL_back_0 rfl ?_
  refine j_iconst (v := nI 0) dL_back_1 (by decide) ?_
  refine j_aload_n dL_back_2 rfl ?_
  refine j_iload_n dL_back_3 rfl ?_
  exact j_cVx (As := [.int x1]) (rest := [.int (nI 0), .ref (ad 69)]) cm_X3_back ci_X3_back cs_X3_back rfl ln_L_44 (ci := 3) rfl dL_back_4 (d' := 10) (by decide) (by omega) h0 rfl rfl (Nat.le_of_ble_eq_true rfl) (Nat.le_of_ble_eq_true rfl) H (Or.inr ⟨[], ⟨0, 9, 12, 19⟩, [], "java/lang/IndexOutOfBoundsException", rfl, (fun z hz => by cases hz), by decide, by decide, cl_L_19, ca_IndexOutOfBoundsException, fun q => hc q⟩)
set_option maxRecDepth 100000 in
set_option maxHeartbeats 4000000 in
theorem h_undo_ok {g : jG} {n : Nat} {ad : Nat → Nat} {E : Nat → va_E} {fs : List Value} (hn : 70 ≤ n) (h0 : E 0 = .inr (3, fs)) {v : Int32} {P : (Nat → va_E) → Prop} (h69 : ∀ E1, P E1 → ∃ o, E1 69 = aL g 1 o) (H : RetP g mX3_undo 10 [.ref (ad 0)] n ad E (some (.int v)) P) : HOk g mL_undo 11 [.ref (ad 0), .ref (ad 69)] n ad E v.toInt64 P := by
  intro Φ Ψ h
  show J g mL_undo 11 0 0 0 [some (.ref (ad 0)), some (.ref (ad 69)), none] [] n ad E Φ Ψ
  refine j_aload_n dL_undo_0 rfl ?_
  refine j_iconst (v := nI 0) dL_undo_1 (by decide) ?_
  refine j_aload_n dL_undo_2 rfl ?_
  refine j_cVp (As := []) (rest := [.int (nI 0), .ref (ad 69)]) cm_X3_undo ci_X3_undo cs_X3_undo rfl ln_L_47 (ci := 3) rfl dL_undo_3 (d' := 10) (by decide) (by omega) h0 rfl rfl (Nat.le_of_ble_eq_true rfl) (Nat.le_of_ble_eq_true rfl) H (fun E1 q1 => ?_)
  obtain ⟨o, ho⟩ := h69 E1 q1
  show J g mL_undo 11 0 0 6 [some (.ref (ad 0)), some (.ref (ad 69)), none] [.int v, .int (nI 0), .ref (ad 69)] n ad E1 Φ Ψ
  refine j_i2l dL_undo_6 ?_
  refine j_last (j := 0) dL_undo_7 (by omega) ho (by decide) (by omega) ?_
  refine j_goto (tgt := 14) dL_undo_8 (by decide) ?_
  refine j_iconst (v := 0) dL_undo_14 (by decide) ?_
  exact j_iret dL_undo_15 rfl (h E1 o q1 ho)
set_option maxRecDepth 100000 in
set_option maxHeartbeats 4000000 in
theorem h_undo_ise {g : jG} {n : Nat} {ad : Nat → Nat} {E : Nat → va_E} {fs : List Value} (hn : 70 ≤ n) (h0 : E 0 = .inr (3, fs)) (H : Thr g mX3_undo 10 [.ref (ad 0)] n ad E "java/lang/IllegalStateException") : HBad g mL_undo 11 [.ref (ad 0), .ref (ad 69)] n ad E (1 : Int32) := by
  intro Φ Ψ h
  show J g mL_undo 11 1 6 0 [some (.ref (ad 0)), some (.ref (ad 69)), none] [] n ad E Φ Ψ
  have hc : ∀ q : Nat, J g mL_undo 11 0 0 11 [some (.ref (ad 0)), some (.ref (ad 69)), none] [.ref q] n ad E Φ Ψ := by
    intro q
    refine j_astore_n (L' := [some (.ref (ad 0)), some (.ref (ad 69)), some (.ref q)]) dL_undo_11 (by decide) rfl rfl ?_
    refine j_iconst (v := 1) dL_undo_12 (by decide) ?_
    exact j_iret dL_undo_13 rfl h
  refine j_aload_n dL_undo_0 rfl ?_
  refine j_iconst (v := nI 0) dL_undo_1 (by decide) ?_
  refine j_aload_n dL_undo_2 rfl ?_
  exact j_cVx (As := []) (rest := [.int (nI 0), .ref (ad 69)]) cm_X3_undo ci_X3_undo cs_X3_undo rfl ln_L_47 (ci := 3) rfl dL_undo_3 (d' := 10) (by decide) (by omega) h0 rfl rfl (Nat.le_of_ble_eq_true rfl) (Nat.le_of_ble_eq_true rfl) H (Or.inr ⟨[], ⟨0, 8, 11, 42⟩, [], "java/lang/IllegalStateException", rfl, (fun z hz => by cases hz), by decide, by decide, cl_L_42, ca_IllegalStateException, fun q => hc q⟩)
set_option maxRecDepth 100000 in
set_option maxHeartbeats 4000000 in
theorem h_setSun_ok {g : jG} {n : Nat} {ad : Nat → Nat} {E : Nat → va_E} {fs : List Value} (x1 : Int32) (hn : 70 ≤ n) (h0 : E 0 = .inr (3, fs)) {v : Int32} {P : (Nat → va_E) → Prop} (h69 : ∀ E1, P E1 → ∃ o, E1 69 = aL g 1 o) (H : RetP g mX3_setSun 10 [.ref (ad 0), .int x1] n ad E (some (.int v)) P) : HOk g mL_setSun 11 [.ref (ad 0), .int x1, .ref (ad 69)] n ad E v.toInt64 P := by
  intro Φ Ψ h
  show J g mL_setSun 11 0 0 0 [some (.ref (ad 0)), some (.int x1), some (.ref (ad 69)), none] [] n ad E Φ Ψ
  refine j_aload_n dL_setSun_0 rfl ?_
  refine j_iconst (v := nI 0) dL_setSun_1 (by decide) ?_
  refine j_aload_n dL_setSun_2 rfl ?_
  refine j_iload_n dL_setSun_3 rfl ?_
  refine j_cVp (As := [.int x1]) (rest := [.int (nI 0), .ref (ad 69)]) cm_X3_setSun ci_X3_setSun cs_X3_setSun rfl ln_L_50 (ci := 3) rfl dL_setSun_4 (d' := 10) (by decide) (by omega) h0 rfl rfl (Nat.le_of_ble_eq_true rfl) (Nat.le_of_ble_eq_true rfl) H (fun E1 q1 => ?_)
  obtain ⟨o, ho⟩ := h69 E1 q1
  show J g mL_setSun 11 0 0 7 [some (.ref (ad 0)), some (.int x1), some (.ref (ad 69)), none] [.int v, .int (nI 0), .ref (ad 69)] n ad E1 Φ Ψ
  refine j_i2l dL_setSun_7 ?_
  refine j_last (j := 0) dL_setSun_8 (by omega) ho (by decide) (by omega) ?_
  refine j_goto (tgt := 15) dL_setSun_9 (by decide) ?_
  refine j_iconst (v := 0) dL_setSun_15 (by decide) ?_
  exact j_iret dL_setSun_16 rfl (h E1 o q1 ho)
set_option maxRecDepth 100000 in
set_option maxHeartbeats 4000000 in
theorem h_setSun_iae {g : jG} {n : Nat} {ad : Nat → Nat} {E : Nat → va_E} {fs : List Value} (x1 : Int32) (hn : 70 ≤ n) (h0 : E 0 = .inr (3, fs)) (H : Thr g mX3_setSun 10 [.ref (ad 0), .int x1] n ad E "java/lang/IllegalArgumentException") : HBad g mL_setSun 11 [.ref (ad 0), .int x1, .ref (ad 69)] n ad E (1 : Int32) := by
  intro Φ Ψ h
  show J g mL_setSun 11 1 6 0 [some (.ref (ad 0)), some (.int x1), some (.ref (ad 69)), none] [] n ad E Φ Ψ
  have hc : ∀ q : Nat, J g mL_setSun 11 0 0 12 [some (.ref (ad 0)), some (.int x1), some (.ref (ad 69)), none] [.ref q] n ad E Φ Ψ := by
    intro q
    refine j_astore_n (L' := [some (.ref (ad 0)), some (.int x1), some (.ref (ad 69)), some (.ref q)]) dL_setSun_12 (by decide) rfl rfl ?_
    refine j_iconst (v := 1) dL_setSun_13 (by decide) ?_
    exact j_iret dL_setSun_14 rfl h
  refine j_aload_n dL_setSun_0 rfl ?_
  refine j_iconst (v := nI 0) dL_setSun_1 (by decide) ?_
  refine j_aload_n dL_setSun_2 rfl ?_
  refine j_iload_n dL_setSun_3 rfl ?_
  exact j_cVx (As := [.int x1]) (rest := [.int (nI 0), .ref (ad 69)]) cm_X3_setSun ci_X3_setSun cs_X3_setSun rfl ln_L_50 (ci := 3) rfl dL_setSun_4 (d' := 10) (by decide) (by omega) h0 rfl rfl (Nat.le_of_ble_eq_true rfl) (Nat.le_of_ble_eq_true rfl) H (Or.inr ⟨[], ⟨0, 9, 12, 13⟩, [], "java/lang/IllegalArgumentException", rfl, (fun z hz => by cases hz), by decide, by decide, cl_L_13, ca_IllegalArgumentException, fun q => hc q⟩)
set_option maxRecDepth 100000 in
set_option maxHeartbeats 4000000 in
theorem h_setEdge_ok {g : jG} {n : Nat} {ad : Nat → Nat} {E : Nat → va_E} {fs : List Value} (x1 x2 : Int32) (hn : 70 ≤ n) (h0 : E 0 = .inr (3, fs)) {v : Int32} {P : (Nat → va_E) → Prop} (h69 : ∀ E1, P E1 → ∃ o, E1 69 = aL g 1 o) (H : RetP g mX3_setEdge 10 [.ref (ad 0), .int x1, .int x2] n ad E (some (.int v)) P) : HOk g mL_setEdge 11 [.ref (ad 0), .int x1, .int x2, .ref (ad 69)] n ad E v.toInt64 P := by
  intro Φ Ψ h
  show J g mL_setEdge 11 0 0 0 [some (.ref (ad 0)), some (.int x1), some (.int x2), some (.ref (ad 69)), none] [] n ad E Φ Ψ
  refine j_aload_n dL_setEdge_0 rfl ?_
  refine j_iconst (v := nI 0) dL_setEdge_1 (by decide) ?_
  refine j_aload_n dL_setEdge_2 rfl ?_
  refine j_iload_n dL_setEdge_3 rfl ?_
  refine j_iload_n dL_setEdge_4 rfl ?_
  refine j_cVp (As := [.int x1, .int x2]) (rest := [.int (nI 0), .ref (ad 69)]) cm_X3_setEdge ci_X3_setEdge cs_X3_setEdge rfl ln_L_53 (ci := 3) rfl dL_setEdge_5 (d' := 10) (by decide) (by omega) h0 rfl rfl (Nat.le_of_ble_eq_true rfl) (Nat.le_of_ble_eq_true rfl) H (fun E1 q1 => ?_)
  obtain ⟨o, ho⟩ := h69 E1 q1
  show J g mL_setEdge 11 0 0 8 [some (.ref (ad 0)), some (.int x1), some (.int x2), some (.ref (ad 69)), none] [.int v, .int (nI 0), .ref (ad 69)] n ad E1 Φ Ψ
  refine j_i2l dL_setEdge_8 ?_
  refine j_last (j := 0) dL_setEdge_9 (by omega) ho (by decide) (by omega) ?_
  refine j_goto (tgt := 21) dL_setEdge_10 (by decide) ?_
  refine j_iconst (v := 0) dL_setEdge_21 (by decide) ?_
  exact j_iret dL_setEdge_22 rfl (h E1 o q1 ho)
set_option maxRecDepth 100000 in
set_option maxHeartbeats 4000000 in
theorem h_setEdge_bad {g : jG} {n : Nat} {ad : Nat → Nat} {E : Nat → va_E} {fs : List Value} (x1 x2 : Int32) (hn : 70 ≤ n) (h0 : E 0 = .inr (3, fs)) (H : Thr g mX3_setEdge 10 [.ref (ad 0), .int x1, .int x2] n ad E "java/lang/IndexOutOfBoundsException") : HBad g mL_setEdge 11 [.ref (ad 0), .int x1, .int x2, .ref (ad 69)] n ad E (1 : Int32) := by
  intro Φ Ψ h
  show J g mL_setEdge 11 1 6 0 [some (.ref (ad 0)), some (.int x1), some (.int x2), some (.ref (ad 69)), none] [] n ad E Φ Ψ
  have hc : ∀ q : Nat, J g mL_setEdge 11 0 0 13 [some (.ref (ad 0)), some (.int x1), some (.int x2), some (.ref (ad 69)), none] [.ref q] n ad E Φ Ψ := by
    intro q
    refine j_astore (L' := [some (.ref (ad 0)), some (.int x1), some (.int x2), some (.ref (ad 69)), some (.ref q)]) dL_setEdge_13 (by decide) rfl rfl ?_
    refine j_iconst (v := 1) dL_setEdge_15 (by decide) ?_
    exact j_iret dL_setEdge_16 rfl h
  refine j_aload_n dL_setEdge_0 rfl ?_
  refine j_iconst (v := nI 0) dL_setEdge_1 (by decide) ?_
  refine j_aload_n dL_setEdge_2 rfl ?_
  refine j_iload_n dL_setEdge_3 rfl ?_
  refine j_iload_n dL_setEdge_4 rfl ?_
  exact j_cVx (As := [.int x1, .int x2]) (rest := [.int (nI 0), .ref (ad 69)]) cm_X3_setEdge ci_X3_setEdge cs_X3_setEdge rfl ln_L_53 (ci := 3) rfl dL_setEdge_5 (d' := 10) (by decide) (by omega) h0 rfl rfl (Nat.le_of_ble_eq_true rfl) (Nat.le_of_ble_eq_true rfl) H (Or.inr ⟨[], ⟨0, 10, 13, 19⟩, [⟨0, 10, 17, 13⟩], "java/lang/IndexOutOfBoundsException", rfl, (fun z hz => by cases hz), by decide, by decide, cl_L_19, ca_IndexOutOfBoundsException, fun q => hc q⟩)
set_option maxRecDepth 100000 in
set_option maxHeartbeats 4000000 in
theorem h_setEdge_iae {g : jG} {n : Nat} {ad : Nat → Nat} {E : Nat → va_E} {fs : List Value} (x1 x2 : Int32) (hn : 70 ≤ n) (h0 : E 0 = .inr (3, fs)) (H : Thr g mX3_setEdge 10 [.ref (ad 0), .int x1, .int x2] n ad E "java/lang/IllegalArgumentException") : HBad g mL_setEdge 11 [.ref (ad 0), .int x1, .int x2, .ref (ad 69)] n ad E (2 : Int32) := by
  intro Φ Ψ h
  show J g mL_setEdge 11 1 6 0 [some (.ref (ad 0)), some (.int x1), some (.int x2), some (.ref (ad 69)), none] [] n ad E Φ Ψ
  have hc : ∀ q : Nat, J g mL_setEdge 11 0 0 17 [some (.ref (ad 0)), some (.int x1), some (.int x2), some (.ref (ad 69)), none] [.ref q] n ad E Φ Ψ := by
    intro q
    refine j_astore (L' := [some (.ref (ad 0)), some (.int x1), some (.int x2), some (.ref (ad 69)), some (.ref q)]) dL_setEdge_17 (by decide) rfl rfl ?_
    refine j_iconst (v := 2) dL_setEdge_19 (by decide) ?_
    exact j_iret dL_setEdge_20 rfl h
  refine j_aload_n dL_setEdge_0 rfl ?_
  refine j_iconst (v := nI 0) dL_setEdge_1 (by decide) ?_
  refine j_aload_n dL_setEdge_2 rfl ?_
  refine j_iload_n dL_setEdge_3 rfl ?_
  refine j_iload_n dL_setEdge_4 rfl ?_
  exact j_cVx (As := [.int x1, .int x2]) (rest := [.int (nI 0), .ref (ad 69)]) cm_X3_setEdge ci_X3_setEdge cs_X3_setEdge rfl ln_L_53 (ci := 3) rfl dL_setEdge_5 (d' := 10) (by decide) (by omega) h0 rfl rfl (Nat.le_of_ble_eq_true rfl) (Nat.le_of_ble_eq_true rfl) H (Or.inr ⟨[⟨0, 10, 13, 19⟩], ⟨0, 10, 17, 13⟩, [], "java/lang/IllegalArgumentException", rfl, (fun z hz => by rw [List.mem_singleton.mp hz]; exact Or.inr ⟨by decide, "java/lang/IndexOutOfBoundsException", cl_L_19, List.mem_cons_self⟩), by decide, by decide, cl_L_13, ca_IllegalArgumentException, fun q => hc q⟩)
set_option maxRecDepth 100000 in
set_option maxHeartbeats 4000000 in
theorem h_edgeOf_ok {g : jG} {n : Nat} {ad : Nat → Nat} {E : Nat → va_E} {fs : List Value} (x1 : Int32) (hn : 70 ≤ n) (h0 : E 0 = .inr (3, fs)) {v : Int32} {P : (Nat → va_E) → Prop} (h69 : ∀ E1, P E1 → ∃ o, E1 69 = aL g 1 o) (H : RetP g mX3_edgeOf 10 [.ref (ad 0), .int x1] n ad E (some (.int v)) P) : HOk g mL_edgeOf 11 [.ref (ad 0), .int x1, .ref (ad 69)] n ad E v.toInt64 P := by
  intro Φ Ψ h
  show J g mL_edgeOf 11 0 0 0 [some (.ref (ad 0)), some (.int x1), some (.ref (ad 69)), none] [] n ad E Φ Ψ
  refine j_aload_n dL_edgeOf_0 rfl ?_
  refine j_iconst (v := nI 0) dL_edgeOf_1 (by decide) ?_
  refine j_aload_n dL_edgeOf_2 rfl ?_
  refine j_iload_n dL_edgeOf_3 rfl ?_
  refine j_cVp (As := [.int x1]) (rest := [.int (nI 0), .ref (ad 69)]) cm_X3_edgeOf ci_X3_edgeOf cs_X3_edgeOf rfl ln_L_56 (ci := 3) rfl dL_edgeOf_4 (d' := 10) (by decide) (by omega) h0 rfl rfl (Nat.le_of_ble_eq_true rfl) (Nat.le_of_ble_eq_true rfl) H (fun E1 q1 => ?_)
  obtain ⟨o, ho⟩ := h69 E1 q1
  show J g mL_edgeOf 11 0 0 7 [some (.ref (ad 0)), some (.int x1), some (.ref (ad 69)), none] [.int v, .int (nI 0), .ref (ad 69)] n ad E1 Φ Ψ
  refine j_i2l dL_edgeOf_7 ?_
  refine j_last (j := 0) dL_edgeOf_8 (by omega) ho (by decide) (by omega) ?_
  refine j_goto (tgt := 15) dL_edgeOf_9 (by decide) ?_
  refine j_iconst (v := 0) dL_edgeOf_15 (by decide) ?_
  exact j_iret dL_edgeOf_16 rfl (h E1 o q1 ho)
set_option maxRecDepth 100000 in
set_option maxHeartbeats 4000000 in
theorem h_edgeOf_bad {g : jG} {n : Nat} {ad : Nat → Nat} {E : Nat → va_E} {fs : List Value} (x1 : Int32) (hn : 70 ≤ n) (h0 : E 0 = .inr (3, fs)) (H : Thr g mX3_edgeOf 10 [.ref (ad 0), .int x1] n ad E "java/lang/IndexOutOfBoundsException") : HBad g mL_edgeOf 11 [.ref (ad 0), .int x1, .ref (ad 69)] n ad E (1 : Int32) := by
  intro Φ Ψ h
  show J g mL_edgeOf 11 1 6 0 [some (.ref (ad 0)), some (.int x1), some (.ref (ad 69)), none] [] n ad E Φ Ψ
  have hc : ∀ q : Nat, J g mL_edgeOf 11 0 0 12 [some (.ref (ad 0)), some (.int x1), some (.ref (ad 69)), none] [.ref q] n ad E Φ Ψ := by
    intro q
    refine j_astore_n (L' := [some (.ref (ad 0)), some (.int x1), some (.ref (ad 69)), some (.ref q)]) dL_edgeOf_12 (by decide) rfl rfl ?_
    refine j_iconst (v := 1) dL_edgeOf_13 (by decide) ?_
    exact j_iret dL_edgeOf_14 rfl h
  refine j_aload_n dL_edgeOf_0 rfl ?_
  refine j_iconst (v := nI 0) dL_edgeOf_1 (by decide) ?_
  refine j_aload_n dL_edgeOf_2 rfl ?_
  refine j_iload_n dL_edgeOf_3 rfl ?_
  exact j_cVx (As := [.int x1]) (rest := [.int (nI 0), .ref (ad 69)]) cm_X3_edgeOf ci_X3_edgeOf cs_X3_edgeOf rfl ln_L_56 (ci := 3) rfl dL_edgeOf_4 (d' := 10) (by decide) (by omega) h0 rfl rfl (Nat.le_of_ble_eq_true rfl) (Nat.le_of_ble_eq_true rfl) H (Or.inr ⟨[], ⟨0, 9, 12, 19⟩, [], "java/lang/IndexOutOfBoundsException", rfl, (fun z hz => by cases hz), by decide, by decide, cl_L_19, ca_IndexOutOfBoundsException, fun q => hc q⟩)
set_option maxRecDepth 100000 in
set_option maxHeartbeats 4000000 in
theorem h_levelAt_ok {g : jG} {n : Nat} {ad : Nat → Nat} {E : Nat → va_E} {fs : List Value} (x1 x2 : Int32) (hn : 70 ≤ n) (h0 : E 0 = .inr (3, fs)) {v : Int32} {P : (Nat → va_E) → Prop} (h69 : ∀ E1, P E1 → ∃ o, E1 69 = aL g 1 o) (H : RetP g mX3_levelAt 10 [.ref (ad 0), .int x1, .int x2] n ad E (some (.int v)) P) : HOk g mL_levelAt 11 [.ref (ad 0), .int x1, .int x2, .ref (ad 69)] n ad E v.toInt64 P := by
  intro Φ Ψ h
  show J g mL_levelAt 11 0 0 0 [some (.ref (ad 0)), some (.int x1), some (.int x2), some (.ref (ad 69)), none] [] n ad E Φ Ψ
  refine j_aload_n dL_levelAt_0 rfl ?_
  refine j_iconst (v := nI 0) dL_levelAt_1 (by decide) ?_
  refine j_aload_n dL_levelAt_2 rfl ?_
  refine j_iload_n dL_levelAt_3 rfl ?_
  refine j_iload_n dL_levelAt_4 rfl ?_
  refine j_cVp (As := [.int x1, .int x2]) (rest := [.int (nI 0), .ref (ad 69)]) cm_X3_levelAt ci_X3_levelAt cs_X3_levelAt rfl ln_L_59 (ci := 3) rfl dL_levelAt_5 (d' := 10) (by decide) (by omega) h0 rfl rfl (Nat.le_of_ble_eq_true rfl) (Nat.le_of_ble_eq_true rfl) H (fun E1 q1 => ?_)
  obtain ⟨o, ho⟩ := h69 E1 q1
  show J g mL_levelAt 11 0 0 8 [some (.ref (ad 0)), some (.int x1), some (.int x2), some (.ref (ad 69)), none] [.int v, .int (nI 0), .ref (ad 69)] n ad E1 Φ Ψ
  refine j_i2l dL_levelAt_8 ?_
  refine j_last (j := 0) dL_levelAt_9 (by omega) ho (by decide) (by omega) ?_
  refine j_goto (tgt := 17) dL_levelAt_10 (by decide) ?_
  refine j_iconst (v := 0) dL_levelAt_17 (by decide) ?_
  exact j_iret dL_levelAt_18 rfl (h E1 o q1 ho)
set_option maxRecDepth 100000 in
set_option maxHeartbeats 4000000 in
theorem h_levelAt_bad {g : jG} {n : Nat} {ad : Nat → Nat} {E : Nat → va_E} {fs : List Value} (x1 x2 : Int32) (hn : 70 ≤ n) (h0 : E 0 = .inr (3, fs)) (H : Thr g mX3_levelAt 10 [.ref (ad 0), .int x1, .int x2] n ad E "java/lang/IndexOutOfBoundsException") : HBad g mL_levelAt 11 [.ref (ad 0), .int x1, .int x2, .ref (ad 69)] n ad E (1 : Int32) := by
  intro Φ Ψ h
  show J g mL_levelAt 11 1 6 0 [some (.ref (ad 0)), some (.int x1), some (.int x2), some (.ref (ad 69)), none] [] n ad E Φ Ψ
  have hc : ∀ q : Nat, J g mL_levelAt 11 0 0 13 [some (.ref (ad 0)), some (.int x1), some (.int x2), some (.ref (ad 69)), none] [.ref q] n ad E Φ Ψ := by
    intro q
    refine j_astore (L' := [some (.ref (ad 0)), some (.int x1), some (.int x2), some (.ref (ad 69)), some (.ref q)]) dL_levelAt_13 (by decide) rfl rfl ?_
    refine j_iconst (v := 1) dL_levelAt_15 (by decide) ?_
    exact j_iret dL_levelAt_16 rfl h
  refine j_aload_n dL_levelAt_0 rfl ?_
  refine j_iconst (v := nI 0) dL_levelAt_1 (by decide) ?_
  refine j_aload_n dL_levelAt_2 rfl ?_
  refine j_iload_n dL_levelAt_3 rfl ?_
  refine j_iload_n dL_levelAt_4 rfl ?_
  exact j_cVx (As := [.int x1, .int x2]) (rest := [.int (nI 0), .ref (ad 69)]) cm_X3_levelAt ci_X3_levelAt cs_X3_levelAt rfl ln_L_59 (ci := 3) rfl dL_levelAt_5 (d' := 10) (by decide) (by omega) h0 rfl rfl (Nat.le_of_ble_eq_true rfl) (Nat.le_of_ble_eq_true rfl) H (Or.inr ⟨[], ⟨0, 10, 13, 19⟩, [], "java/lang/IndexOutOfBoundsException", rfl, (fun z hz => by cases hz), by decide, by decide, cl_L_19, ca_IndexOutOfBoundsException, fun q => hc q⟩)
set_option maxRecDepth 100000 in
set_option maxHeartbeats 4000000 in
theorem h_sumOf_ok {g : jG} {n : Nat} {ad : Nat → Nat} {E : Nat → va_E} {fs : List Value} (x1 x2 x3 x4 : Int32) (hn : 70 ≤ n) (h0 : E 0 = .inr (3, fs)) {v : Int64} {P : (Nat → va_E) → Prop} (h69 : ∀ E1, P E1 → ∃ o, E1 69 = aL g 1 o) (H : RetP g mX3_sumOf 10 [.ref (ad 0), .int x1, .int x2, .int x3, .int x4] n ad E (some (.long v)) P) : HOk g mL_sumOf 11 [.ref (ad 0), .int x1, .int x2, .int x3, .int x4, .ref (ad 69)] n ad E v P := by
  intro Φ Ψ h
  show J g mL_sumOf 11 0 0 0 [some (.ref (ad 0)), some (.int x1), some (.int x2), some (.int x3), some (.int x4), some (.ref (ad 69)), none] [] n ad E Φ Ψ
  refine j_aload dL_sumOf_0 rfl ?_
  refine j_iconst (v := nI 0) dL_sumOf_2 (by decide) ?_
  refine j_aload_n dL_sumOf_3 rfl ?_
  refine j_iload_n dL_sumOf_4 rfl ?_
  refine j_iload_n dL_sumOf_5 rfl ?_
  refine j_iload_n dL_sumOf_6 rfl ?_
  refine j_iload dL_sumOf_7 rfl ?_
  refine j_cVp (As := [.int x1, .int x2, .int x3, .int x4]) (rest := [.int (nI 0), .ref (ad 69)]) cm_X3_sumOf ci_X3_sumOf cs_X3_sumOf rfl ln_L_62 (ci := 3) rfl dL_sumOf_9 (d' := 10) (by decide) (by omega) h0 rfl rfl (Nat.le_of_ble_eq_true rfl) (Nat.le_of_ble_eq_true rfl) H (fun E1 q1 => ?_)
  obtain ⟨o, ho⟩ := h69 E1 q1
  show J g mL_sumOf 11 0 0 12 [some (.ref (ad 0)), some (.int x1), some (.int x2), some (.int x3), some (.int x4), some (.ref (ad 69)), none] [.long v, .int (nI 0), .ref (ad 69)] n ad E1 Φ Ψ
  refine j_last (j := 0) dL_sumOf_12 (by omega) ho (by decide) (by omega) ?_
  refine j_goto (tgt := 24) dL_sumOf_13 (by decide) ?_
  refine j_iconst (v := 0) dL_sumOf_24 (by decide) ?_
  exact j_iret dL_sumOf_25 rfl (h E1 o q1 ho)
set_option maxRecDepth 100000 in
set_option maxHeartbeats 4000000 in
theorem h_sumOf_bad {g : jG} {n : Nat} {ad : Nat → Nat} {E : Nat → va_E} {fs : List Value} (x1 x2 x3 x4 : Int32) (hn : 70 ≤ n) (h0 : E 0 = .inr (3, fs)) (H : Thr g mX3_sumOf 10 [.ref (ad 0), .int x1, .int x2, .int x3, .int x4] n ad E "java/lang/IndexOutOfBoundsException") : HBad g mL_sumOf 11 [.ref (ad 0), .int x1, .int x2, .int x3, .int x4, .ref (ad 69)] n ad E (1 : Int32) := by
  intro Φ Ψ h
  show J g mL_sumOf 11 1 6 0 [some (.ref (ad 0)), some (.int x1), some (.int x2), some (.int x3), some (.int x4), some (.ref (ad 69)), none] [] n ad E Φ Ψ
  have hc : ∀ q : Nat, J g mL_sumOf 11 0 0 16 [some (.ref (ad 0)), some (.int x1), some (.int x2), some (.int x3), some (.int x4), some (.ref (ad 69)), none] [.ref q] n ad E Φ Ψ := by
    intro q
    refine j_astore (L' := [some (.ref (ad 0)), some (.int x1), some (.int x2), some (.int x3), some (.int x4), some (.ref (ad 69)), some (.ref q)]) dL_sumOf_16 (by decide) rfl rfl ?_
    refine j_iconst (v := 1) dL_sumOf_18 (by decide) ?_
    exact j_iret dL_sumOf_19 rfl h
  refine j_aload dL_sumOf_0 rfl ?_
  refine j_iconst (v := nI 0) dL_sumOf_2 (by decide) ?_
  refine j_aload_n dL_sumOf_3 rfl ?_
  refine j_iload_n dL_sumOf_4 rfl ?_
  refine j_iload_n dL_sumOf_5 rfl ?_
  refine j_iload_n dL_sumOf_6 rfl ?_
  refine j_iload dL_sumOf_7 rfl ?_
  exact j_cVx (As := [.int x1, .int x2, .int x3, .int x4]) (rest := [.int (nI 0), .ref (ad 69)]) cm_X3_sumOf ci_X3_sumOf cs_X3_sumOf rfl ln_L_62 (ci := 3) rfl dL_sumOf_9 (d' := 10) (by decide) (by omega) h0 rfl rfl (Nat.le_of_ble_eq_true rfl) (Nat.le_of_ble_eq_true rfl) H (Or.inr ⟨[], ⟨0, 13, 16, 19⟩, [⟨0, 13, 20, 13⟩], "java/lang/IndexOutOfBoundsException", rfl, (fun z hz => by cases hz), by decide, by decide, cl_L_19, ca_IndexOutOfBoundsException, fun q => hc q⟩)
set_option maxRecDepth 100000 in
set_option maxHeartbeats 4000000 in
theorem h_sumOf_iae {g : jG} {n : Nat} {ad : Nat → Nat} {E : Nat → va_E} {fs : List Value} (x1 x2 x3 x4 : Int32) (hn : 70 ≤ n) (h0 : E 0 = .inr (3, fs)) (H : Thr g mX3_sumOf 10 [.ref (ad 0), .int x1, .int x2, .int x3, .int x4] n ad E "java/lang/IllegalArgumentException") : HBad g mL_sumOf 11 [.ref (ad 0), .int x1, .int x2, .int x3, .int x4, .ref (ad 69)] n ad E (2 : Int32) := by
  intro Φ Ψ h
  show J g mL_sumOf 11 1 6 0 [some (.ref (ad 0)), some (.int x1), some (.int x2), some (.int x3), some (.int x4), some (.ref (ad 69)), none] [] n ad E Φ Ψ
  have hc : ∀ q : Nat, J g mL_sumOf 11 0 0 20 [some (.ref (ad 0)), some (.int x1), some (.int x2), some (.int x3), some (.int x4), some (.ref (ad 69)), none] [.ref q] n ad E Φ Ψ := by
    intro q
    refine j_astore (L' := [some (.ref (ad 0)), some (.int x1), some (.int x2), some (.int x3), some (.int x4), some (.ref (ad 69)), some (.ref q)]) dL_sumOf_20 (by decide) rfl rfl ?_
    refine j_iconst (v := 2) dL_sumOf_22 (by decide) ?_
    exact j_iret dL_sumOf_23 rfl h
  refine j_aload dL_sumOf_0 rfl ?_
  refine j_iconst (v := nI 0) dL_sumOf_2 (by decide) ?_
  refine j_aload_n dL_sumOf_3 rfl ?_
  refine j_iload_n dL_sumOf_4 rfl ?_
  refine j_iload_n dL_sumOf_5 rfl ?_
  refine j_iload_n dL_sumOf_6 rfl ?_
  refine j_iload dL_sumOf_7 rfl ?_
  exact j_cVx (As := [.int x1, .int x2, .int x3, .int x4]) (rest := [.int (nI 0), .ref (ad 69)]) cm_X3_sumOf ci_X3_sumOf cs_X3_sumOf rfl ln_L_62 (ci := 3) rfl dL_sumOf_9 (d' := 10) (by decide) (by omega) h0 rfl rfl (Nat.le_of_ble_eq_true rfl) (Nat.le_of_ble_eq_true rfl) H (Or.inr ⟨[⟨0, 13, 16, 19⟩], ⟨0, 13, 20, 13⟩, [], "java/lang/IllegalArgumentException", rfl, (fun z hz => by rw [List.mem_singleton.mp hz]; exact Or.inr ⟨by decide, "java/lang/IndexOutOfBoundsException", cl_L_19, List.mem_cons_self⟩), by decide, by decide, cl_L_13, ca_IllegalArgumentException, fun q => hc q⟩)
set_option maxRecDepth 100000 in
set_option maxHeartbeats 4000000 in
theorem h_sumTo_ok {g : jG} {n : Nat} {ad : Nat → Nat} {E : Nat → va_E} {fs : List Value} (x1 x2 : Int32) (hn : 70 ≤ n) (h0 : E 0 = .inr (3, fs)) {v : Int64} {P : (Nat → va_E) → Prop} (h69 : ∀ E1, P E1 → ∃ o, E1 69 = aL g 1 o) (H : RetP g mX3_sumTo 10 [.ref (ad 0), .int x1, .int x2] n ad E (some (.long v)) P) : HOk g mL_sumTo 11 [.ref (ad 0), .int x1, .int x2, .ref (ad 69)] n ad E v P := by
  intro Φ Ψ h
  show J g mL_sumTo 11 0 0 0 [some (.ref (ad 0)), some (.int x1), some (.int x2), some (.ref (ad 69)), none] [] n ad E Φ Ψ
  refine j_aload_n dL_sumTo_0 rfl ?_
  refine j_iconst (v := nI 0) dL_sumTo_1 (by decide) ?_
  refine j_aload_n dL_sumTo_2 rfl ?_
  refine j_iload_n dL_sumTo_3 rfl ?_
  refine j_iload_n dL_sumTo_4 rfl ?_
  refine j_cVp (As := [.int x1, .int x2]) (rest := [.int (nI 0), .ref (ad 69)]) cm_X3_sumTo ci_X3_sumTo cs_X3_sumTo rfl ln_L_66 (ci := 3) rfl dL_sumTo_5 (d' := 10) (by decide) (by omega) h0 rfl rfl (Nat.le_of_ble_eq_true rfl) (Nat.le_of_ble_eq_true rfl) H (fun E1 q1 => ?_)
  obtain ⟨o, ho⟩ := h69 E1 q1
  show J g mL_sumTo 11 0 0 8 [some (.ref (ad 0)), some (.int x1), some (.int x2), some (.ref (ad 69)), none] [.long v, .int (nI 0), .ref (ad 69)] n ad E1 Φ Ψ
  refine j_last (j := 0) dL_sumTo_8 (by omega) ho (by decide) (by omega) ?_
  refine j_goto (tgt := 16) dL_sumTo_9 (by decide) ?_
  refine j_iconst (v := 0) dL_sumTo_16 (by decide) ?_
  exact j_iret dL_sumTo_17 rfl (h E1 o q1 ho)
set_option maxRecDepth 100000 in
set_option maxHeartbeats 4000000 in
theorem h_sumTo_bad {g : jG} {n : Nat} {ad : Nat → Nat} {E : Nat → va_E} {fs : List Value} (x1 x2 : Int32) (hn : 70 ≤ n) (h0 : E 0 = .inr (3, fs)) (H : Thr g mX3_sumTo 10 [.ref (ad 0), .int x1, .int x2] n ad E "java/lang/IndexOutOfBoundsException") : HBad g mL_sumTo 11 [.ref (ad 0), .int x1, .int x2, .ref (ad 69)] n ad E (1 : Int32) := by
  intro Φ Ψ h
  show J g mL_sumTo 11 1 6 0 [some (.ref (ad 0)), some (.int x1), some (.int x2), some (.ref (ad 69)), none] [] n ad E Φ Ψ
  have hc : ∀ q : Nat, J g mL_sumTo 11 0 0 12 [some (.ref (ad 0)), some (.int x1), some (.int x2), some (.ref (ad 69)), none] [.ref q] n ad E Φ Ψ := by
    intro q
    refine j_astore (L' := [some (.ref (ad 0)), some (.int x1), some (.int x2), some (.ref (ad 69)), some (.ref q)]) dL_sumTo_12 (by decide) rfl rfl ?_
    refine j_iconst (v := 1) dL_sumTo_14 (by decide) ?_
    exact j_iret dL_sumTo_15 rfl h
  refine j_aload_n dL_sumTo_0 rfl ?_
  refine j_iconst (v := nI 0) dL_sumTo_1 (by decide) ?_
  refine j_aload_n dL_sumTo_2 rfl ?_
  refine j_iload_n dL_sumTo_3 rfl ?_
  refine j_iload_n dL_sumTo_4 rfl ?_
  exact j_cVx (As := [.int x1, .int x2]) (rest := [.int (nI 0), .ref (ad 69)]) cm_X3_sumTo ci_X3_sumTo cs_X3_sumTo rfl ln_L_66 (ci := 3) rfl dL_sumTo_5 (d' := 10) (by decide) (by omega) h0 rfl rfl (Nat.le_of_ble_eq_true rfl) (Nat.le_of_ble_eq_true rfl) H (Or.inr ⟨[], ⟨0, 9, 12, 19⟩, [], "java/lang/IndexOutOfBoundsException", rfl, (fun z hz => by cases hz), by decide, by decide, cl_L_19, ca_IndexOutOfBoundsException, fun q => hc q⟩)
set_option maxRecDepth 100000 in
set_option maxHeartbeats 4000000 in
theorem h_flightSum_ok {g : jG} {n : Nat} {ad : Nat → Nat} {E : Nat → va_E} {fs : List Value} (x1 : Int32) (hn : 70 ≤ n) (h0 : E 0 = .inr (3, fs)) {v : Int64} {P : (Nat → va_E) → Prop} (h69 : ∀ E1, P E1 → ∃ o, E1 69 = aL g 1 o) (H : RetP g mX3_flightSum 10 [.ref (ad 0), .int x1] n ad E (some (.long v)) P) : HOk g mL_flightSum 11 [.ref (ad 0), .int x1, .ref (ad 69)] n ad E v P := by
  intro Φ Ψ h
  show J g mL_flightSum 11 0 0 0 [some (.ref (ad 0)), some (.int x1), some (.ref (ad 69)), none] [] n ad E Φ Ψ
  refine j_aload_n dL_flightSum_0 rfl ?_
  refine j_iconst (v := nI 0) dL_flightSum_1 (by decide) ?_
  refine j_aload_n dL_flightSum_2 rfl ?_
  refine j_iload_n dL_flightSum_3 rfl ?_
  refine j_cVp (As := [.int x1]) (rest := [.int (nI 0), .ref (ad 69)]) cm_X3_flightSum ci_X3_flightSum cs_X3_flightSum rfl ln_L_70 (ci := 3) rfl dL_flightSum_4 (d' := 10) (by decide) (by omega) h0 rfl rfl (Nat.le_of_ble_eq_true rfl) (Nat.le_of_ble_eq_true rfl) H (fun E1 q1 => ?_)
  obtain ⟨o, ho⟩ := h69 E1 q1
  show J g mL_flightSum 11 0 0 7 [some (.ref (ad 0)), some (.int x1), some (.ref (ad 69)), none] [.long v, .int (nI 0), .ref (ad 69)] n ad E1 Φ Ψ
  refine j_last (j := 0) dL_flightSum_7 (by omega) ho (by decide) (by omega) ?_
  refine j_goto (tgt := 14) dL_flightSum_8 (by decide) ?_
  refine j_iconst (v := 0) dL_flightSum_14 (by decide) ?_
  exact j_iret dL_flightSum_15 rfl (h E1 o q1 ho)
set_option maxRecDepth 100000 in
set_option maxHeartbeats 4000000 in
theorem h_flightSum_bad {g : jG} {n : Nat} {ad : Nat → Nat} {E : Nat → va_E} {fs : List Value} (x1 : Int32) (hn : 70 ≤ n) (h0 : E 0 = .inr (3, fs)) (H : Thr g mX3_flightSum 10 [.ref (ad 0), .int x1] n ad E "java/lang/IndexOutOfBoundsException") : HBad g mL_flightSum 11 [.ref (ad 0), .int x1, .ref (ad 69)] n ad E (1 : Int32) := by
  intro Φ Ψ h
  show J g mL_flightSum 11 1 6 0 [some (.ref (ad 0)), some (.int x1), some (.ref (ad 69)), none] [] n ad E Φ Ψ
  have hc : ∀ q : Nat, J g mL_flightSum 11 0 0 11 [some (.ref (ad 0)), some (.int x1), some (.ref (ad 69)), none] [.ref q] n ad E Φ Ψ := by
    intro q
    refine j_astore_n (L' := [some (.ref (ad 0)), some (.int x1), some (.ref (ad 69)), some (.ref q)]) dL_flightSum_11 (by decide) rfl rfl ?_
    refine j_iconst (v := 1) dL_flightSum_12 (by decide) ?_
    exact j_iret dL_flightSum_13 rfl h
  refine j_aload_n dL_flightSum_0 rfl ?_
  refine j_iconst (v := nI 0) dL_flightSum_1 (by decide) ?_
  refine j_aload_n dL_flightSum_2 rfl ?_
  refine j_iload_n dL_flightSum_3 rfl ?_
  exact j_cVx (As := [.int x1]) (rest := [.int (nI 0), .ref (ad 69)]) cm_X3_flightSum ci_X3_flightSum cs_X3_flightSum rfl ln_L_70 (ci := 3) rfl dL_flightSum_4 (d' := 10) (by decide) (by omega) h0 rfl rfl (Nat.le_of_ble_eq_true rfl) (Nat.le_of_ble_eq_true rfl) H (Or.inr ⟨[], ⟨0, 8, 11, 19⟩, [], "java/lang/IndexOutOfBoundsException", rfl, (fun z hz => by cases hz), by decide, by decide, cl_L_19, ca_IndexOutOfBoundsException, fun q => hc q⟩)
set_option maxRecDepth 100000 in
set_option maxHeartbeats 4000000 in
theorem h_stepSum_ok {g : jG} {n : Nat} {ad : Nat → Nat} {E : Nat → va_E} {fs : List Value} (x1 : Int32) (hn : 70 ≤ n) (h0 : E 0 = .inr (3, fs)) {v : Int64} {P : (Nat → va_E) → Prop} (h69 : ∀ E1, P E1 → ∃ o, E1 69 = aL g 1 o) (H : RetP g mX3_stepSum 10 [.ref (ad 0), .int x1] n ad E (some (.long v)) P) : HOk g mL_stepSum 11 [.ref (ad 0), .int x1, .ref (ad 69)] n ad E v P := by
  intro Φ Ψ h
  show J g mL_stepSum 11 0 0 0 [some (.ref (ad 0)), some (.int x1), some (.ref (ad 69)), none] [] n ad E Φ Ψ
  refine j_aload_n dL_stepSum_0 rfl ?_
  refine j_iconst (v := nI 0) dL_stepSum_1 (by decide) ?_
  refine j_aload_n dL_stepSum_2 rfl ?_
  refine j_iload_n dL_stepSum_3 rfl ?_
  refine j_cVp (As := [.int x1]) (rest := [.int (nI 0), .ref (ad 69)]) cm_X3_stepSum ci_X3_stepSum cs_X3_stepSum rfl ln_L_74 (ci := 3) rfl dL_stepSum_4 (d' := 10) (by decide) (by omega) h0 rfl rfl (Nat.le_of_ble_eq_true rfl) (Nat.le_of_ble_eq_true rfl) H (fun E1 q1 => ?_)
  obtain ⟨o, ho⟩ := h69 E1 q1
  show J g mL_stepSum 11 0 0 7 [some (.ref (ad 0)), some (.int x1), some (.ref (ad 69)), none] [.long v, .int (nI 0), .ref (ad 69)] n ad E1 Φ Ψ
  refine j_last (j := 0) dL_stepSum_7 (by omega) ho (by decide) (by omega) ?_
  refine j_goto (tgt := 14) dL_stepSum_8 (by decide) ?_
  refine j_iconst (v := 0) dL_stepSum_14 (by decide) ?_
  exact j_iret dL_stepSum_15 rfl (h E1 o q1 ho)
set_option maxRecDepth 100000 in
set_option maxHeartbeats 4000000 in
theorem h_stepSum_bad {g : jG} {n : Nat} {ad : Nat → Nat} {E : Nat → va_E} {fs : List Value} (x1 : Int32) (hn : 70 ≤ n) (h0 : E 0 = .inr (3, fs)) (H : Thr g mX3_stepSum 10 [.ref (ad 0), .int x1] n ad E "java/lang/IndexOutOfBoundsException") : HBad g mL_stepSum 11 [.ref (ad 0), .int x1, .ref (ad 69)] n ad E (1 : Int32) := by
  intro Φ Ψ h
  show J g mL_stepSum 11 1 6 0 [some (.ref (ad 0)), some (.int x1), some (.ref (ad 69)), none] [] n ad E Φ Ψ
  have hc : ∀ q : Nat, J g mL_stepSum 11 0 0 11 [some (.ref (ad 0)), some (.int x1), some (.ref (ad 69)), none] [.ref q] n ad E Φ Ψ := by
    intro q
    refine j_astore_n (L' := [some (.ref (ad 0)), some (.int x1), some (.ref (ad 69)), some (.ref q)]) dL_stepSum_11 (by decide) rfl rfl ?_
    refine j_iconst (v := 1) dL_stepSum_12 (by decide) ?_
    exact j_iret dL_stepSum_13 rfl h
  refine j_aload_n dL_stepSum_0 rfl ?_
  refine j_iconst (v := nI 0) dL_stepSum_1 (by decide) ?_
  refine j_aload_n dL_stepSum_2 rfl ?_
  refine j_iload_n dL_stepSum_3 rfl ?_
  exact j_cVx (As := [.int x1]) (rest := [.int (nI 0), .ref (ad 69)]) cm_X3_stepSum ci_X3_stepSum cs_X3_stepSum rfl ln_L_74 (ci := 3) rfl dL_stepSum_4 (d' := 10) (by decide) (by omega) h0 rfl rfl (Nat.le_of_ble_eq_true rfl) (Nat.le_of_ble_eq_true rfl) H (Or.inr ⟨[], ⟨0, 8, 11, 19⟩, [], "java/lang/IndexOutOfBoundsException", rfl, (fun z hz => by cases hz), by decide, by decide, cl_L_19, ca_IndexOutOfBoundsException, fun q => hc q⟩)
set_option maxRecDepth 100000 in
set_option maxHeartbeats 4000000 in
theorem h_firstReaching_ok {g : jG} {n : Nat} {ad : Nat → Nat} {E : Nat → va_E} {fs : List Value} (x1 x2 : Int32) (hn : 70 ≤ n) (h0 : E 0 = .inr (3, fs)) {v : Int32} {P : (Nat → va_E) → Prop} (h69 : ∀ E1, P E1 → ∃ o, E1 69 = aL g 1 o) (H : RetP g mX3_firstReaching 10 [.ref (ad 0), .int x1, .int x2] n ad E (some (.int v)) P) : HOk g mL_firstReaching 11 [.ref (ad 0), .int x1, .int x2, .ref (ad 69)] n ad E v.toInt64 P := by
  intro Φ Ψ h
  show J g mL_firstReaching 11 0 0 0 [some (.ref (ad 0)), some (.int x1), some (.int x2), some (.ref (ad 69)), none] [] n ad E Φ Ψ
  refine j_aload_n dL_firstReaching_0 rfl ?_
  refine j_iconst (v := nI 0) dL_firstReaching_1 (by decide) ?_
  refine j_aload_n dL_firstReaching_2 rfl ?_
  refine j_iload_n dL_firstReaching_3 rfl ?_
  refine j_iload_n dL_firstReaching_4 rfl ?_
  refine j_cVp (As := [.int x1, .int x2]) (rest := [.int (nI 0), .ref (ad 69)]) cm_X3_firstReaching ci_X3_firstReaching cs_X3_firstReaching rfl ln_L_77 (ci := 3) rfl dL_firstReaching_5 (d' := 10) (by decide) (by omega) h0 rfl rfl (Nat.le_of_ble_eq_true rfl) (Nat.le_of_ble_eq_true rfl) H (fun E1 q1 => ?_)
  obtain ⟨o, ho⟩ := h69 E1 q1
  show J g mL_firstReaching 11 0 0 8 [some (.ref (ad 0)), some (.int x1), some (.int x2), some (.ref (ad 69)), none] [.int v, .int (nI 0), .ref (ad 69)] n ad E1 Φ Ψ
  refine j_i2l dL_firstReaching_8 ?_
  refine j_last (j := 0) dL_firstReaching_9 (by omega) ho (by decide) (by omega) ?_
  refine j_goto (tgt := 17) dL_firstReaching_10 (by decide) ?_
  refine j_iconst (v := 0) dL_firstReaching_17 (by decide) ?_
  exact j_iret dL_firstReaching_18 rfl (h E1 o q1 ho)
set_option maxRecDepth 100000 in
set_option maxHeartbeats 4000000 in
theorem h_firstReaching_bad {g : jG} {n : Nat} {ad : Nat → Nat} {E : Nat → va_E} {fs : List Value} (x1 x2 : Int32) (hn : 70 ≤ n) (h0 : E 0 = .inr (3, fs)) (H : Thr g mX3_firstReaching 10 [.ref (ad 0), .int x1, .int x2] n ad E "java/lang/IndexOutOfBoundsException") : HBad g mL_firstReaching 11 [.ref (ad 0), .int x1, .int x2, .ref (ad 69)] n ad E (1 : Int32) := by
  intro Φ Ψ h
  show J g mL_firstReaching 11 1 6 0 [some (.ref (ad 0)), some (.int x1), some (.int x2), some (.ref (ad 69)), none] [] n ad E Φ Ψ
  have hc : ∀ q : Nat, J g mL_firstReaching 11 0 0 13 [some (.ref (ad 0)), some (.int x1), some (.int x2), some (.ref (ad 69)), none] [.ref q] n ad E Φ Ψ := by
    intro q
    refine j_astore (L' := [some (.ref (ad 0)), some (.int x1), some (.int x2), some (.ref (ad 69)), some (.ref q)]) dL_firstReaching_13 (by decide) rfl rfl ?_
    refine j_iconst (v := 1) dL_firstReaching_15 (by decide) ?_
    exact j_iret dL_firstReaching_16 rfl h
  refine j_aload_n dL_firstReaching_0 rfl ?_
  refine j_iconst (v := nI 0) dL_firstReaching_1 (by decide) ?_
  refine j_aload_n dL_firstReaching_2 rfl ?_
  refine j_iload_n dL_firstReaching_3 rfl ?_
  refine j_iload_n dL_firstReaching_4 rfl ?_
  exact j_cVx (As := [.int x1, .int x2]) (rest := [.int (nI 0), .ref (ad 69)]) cm_X3_firstReaching ci_X3_firstReaching cs_X3_firstReaching rfl ln_L_77 (ci := 3) rfl dL_firstReaching_5 (d' := 10) (by decide) (by omega) h0 rfl rfl (Nat.le_of_ble_eq_true rfl) (Nat.le_of_ble_eq_true rfl) H (Or.inr ⟨[], ⟨0, 10, 13, 19⟩, [], "java/lang/IndexOutOfBoundsException", rfl, (fun z hz => by cases hz), by decide, by decide, cl_L_19, ca_IndexOutOfBoundsException, fun q => hc q⟩)
set_option maxRecDepth 100000 in
set_option maxHeartbeats 4000000 in
theorem h_bestRun_ok {g : jG} {n : Nat} {ad : Nat → Nat} {E : Nat → va_E} {fs : List Value} (x1 : Int32) (hn : 70 ≤ n) (h0 : E 0 = .inr (3, fs)) {v : Int64} {P : (Nat → va_E) → Prop} (h69 : ∀ E1, P E1 → ∃ o, E1 69 = aL g 1 o) (H : RetP g mX3_bestRun 10 [.ref (ad 0), .int x1] n ad E (some (.long v)) P) : HOk g mL_bestRun 11 [.ref (ad 0), .int x1, .ref (ad 69)] n ad E v P := by
  intro Φ Ψ h
  show J g mL_bestRun 11 0 0 0 [some (.ref (ad 0)), some (.int x1), some (.ref (ad 69)), none] [] n ad E Φ Ψ
  refine j_aload_n dL_bestRun_0 rfl ?_
  refine j_iconst (v := nI 0) dL_bestRun_1 (by decide) ?_
  refine j_aload_n dL_bestRun_2 rfl ?_
  refine j_iload_n dL_bestRun_3 rfl ?_
  refine j_cVp (As := [.int x1]) (rest := [.int (nI 0), .ref (ad 69)]) cm_X3_bestRun ci_X3_bestRun cs_X3_bestRun rfl ln_L_80 (ci := 3) rfl dL_bestRun_4 (d' := 10) (by decide) (by omega) h0 rfl rfl (Nat.le_of_ble_eq_true rfl) (Nat.le_of_ble_eq_true rfl) H (fun E1 q1 => ?_)
  obtain ⟨o, ho⟩ := h69 E1 q1
  show J g mL_bestRun 11 0 0 7 [some (.ref (ad 0)), some (.int x1), some (.ref (ad 69)), none] [.long v, .int (nI 0), .ref (ad 69)] n ad E1 Φ Ψ
  refine j_last (j := 0) dL_bestRun_7 (by omega) ho (by decide) (by omega) ?_
  refine j_goto (tgt := 14) dL_bestRun_8 (by decide) ?_
  refine j_iconst (v := 0) dL_bestRun_14 (by decide) ?_
  exact j_iret dL_bestRun_15 rfl (h E1 o q1 ho)
set_option maxRecDepth 100000 in
set_option maxHeartbeats 4000000 in
theorem h_bestRun_bad {g : jG} {n : Nat} {ad : Nat → Nat} {E : Nat → va_E} {fs : List Value} (x1 : Int32) (hn : 70 ≤ n) (h0 : E 0 = .inr (3, fs)) (H : Thr g mX3_bestRun 10 [.ref (ad 0), .int x1] n ad E "java/lang/IndexOutOfBoundsException") : HBad g mL_bestRun 11 [.ref (ad 0), .int x1, .ref (ad 69)] n ad E (1 : Int32) := by
  intro Φ Ψ h
  show J g mL_bestRun 11 1 6 0 [some (.ref (ad 0)), some (.int x1), some (.ref (ad 69)), none] [] n ad E Φ Ψ
  have hc : ∀ q : Nat, J g mL_bestRun 11 0 0 11 [some (.ref (ad 0)), some (.int x1), some (.ref (ad 69)), none] [.ref q] n ad E Φ Ψ := by
    intro q
    refine j_astore_n (L' := [some (.ref (ad 0)), some (.int x1), some (.ref (ad 69)), some (.ref q)]) dL_bestRun_11 (by decide) rfl rfl ?_
    refine j_iconst (v := 1) dL_bestRun_12 (by decide) ?_
    exact j_iret dL_bestRun_13 rfl h
  refine j_aload_n dL_bestRun_0 rfl ?_
  refine j_iconst (v := nI 0) dL_bestRun_1 (by decide) ?_
  refine j_aload_n dL_bestRun_2 rfl ?_
  refine j_iload_n dL_bestRun_3 rfl ?_
  exact j_cVx (As := [.int x1]) (rest := [.int (nI 0), .ref (ad 69)]) cm_X3_bestRun ci_X3_bestRun cs_X3_bestRun rfl ln_L_80 (ci := 3) rfl dL_bestRun_4 (d' := 10) (by decide) (by omega) h0 rfl rfl (Nat.le_of_ble_eq_true rfl) (Nat.le_of_ble_eq_true rfl) H (Or.inr ⟨[], ⟨0, 8, 11, 19⟩, [], "java/lang/IndexOutOfBoundsException", rfl, (fun z hz => by cases hz), by decide, by decide, cl_L_19, ca_IndexOutOfBoundsException, fun q => hc q⟩)
set_option maxRecDepth 100000 in
set_option maxHeartbeats 4000000 in
theorem h_dryIn_ok {g : jG} {n : Nat} {ad : Nat → Nat} {E : Nat → va_E} {fs : List Value} (x1 x2 x3 x4 : Int32) (hn : 70 ≤ n) (h0 : E 0 = .inr (3, fs)) {v : Int32} {P : (Nat → va_E) → Prop} (h69 : ∀ E1, P E1 → ∃ o, E1 69 = aL g 1 o) (H : RetP g mX3_dryIn 10 [.ref (ad 0), .int x1, .int x2, .int x3, .int x4] n ad E (some (.int v)) P) : HOk g mL_dryIn 11 [.ref (ad 0), .int x1, .int x2, .int x3, .int x4, .ref (ad 69)] n ad E v.toInt64 P := by
  intro Φ Ψ h
  show J g mL_dryIn 11 0 0 0 [some (.ref (ad 0)), some (.int x1), some (.int x2), some (.int x3), some (.int x4), some (.ref (ad 69)), none] [] n ad E Φ Ψ
  refine j_aload dL_dryIn_0 rfl ?_
  refine j_iconst (v := nI 0) dL_dryIn_2 (by decide) ?_
  refine j_aload_n dL_dryIn_3 rfl ?_
  refine j_iload_n dL_dryIn_4 rfl ?_
  refine j_iload_n dL_dryIn_5 rfl ?_
  refine j_iload_n dL_dryIn_6 rfl ?_
  refine j_iload dL_dryIn_7 rfl ?_
  refine j_cVp (As := [.int x1, .int x2, .int x3, .int x4]) (rest := [.int (nI 0), .ref (ad 69)]) cm_X3_dryIn ci_X3_dryIn cs_X3_dryIn rfl ln_L_83 (ci := 3) rfl dL_dryIn_9 (d' := 10) (by decide) (by omega) h0 rfl rfl (Nat.le_of_ble_eq_true rfl) (Nat.le_of_ble_eq_true rfl) H (fun E1 q1 => ?_)
  obtain ⟨o, ho⟩ := h69 E1 q1
  show J g mL_dryIn 11 0 0 12 [some (.ref (ad 0)), some (.int x1), some (.int x2), some (.int x3), some (.int x4), some (.ref (ad 69)), none] [.int v, .int (nI 0), .ref (ad 69)] n ad E1 Φ Ψ
  refine j_i2l dL_dryIn_12 ?_
  refine j_last (j := 0) dL_dryIn_13 (by omega) ho (by decide) (by omega) ?_
  refine j_goto (tgt := 25) dL_dryIn_14 (by decide) ?_
  refine j_iconst (v := 0) dL_dryIn_25 (by decide) ?_
  exact j_iret dL_dryIn_26 rfl (h E1 o q1 ho)
set_option maxRecDepth 100000 in
set_option maxHeartbeats 4000000 in
theorem h_dryIn_bad {g : jG} {n : Nat} {ad : Nat → Nat} {E : Nat → va_E} {fs : List Value} (x1 x2 x3 x4 : Int32) (hn : 70 ≤ n) (h0 : E 0 = .inr (3, fs)) (H : Thr g mX3_dryIn 10 [.ref (ad 0), .int x1, .int x2, .int x3, .int x4] n ad E "java/lang/IndexOutOfBoundsException") : HBad g mL_dryIn 11 [.ref (ad 0), .int x1, .int x2, .int x3, .int x4, .ref (ad 69)] n ad E (1 : Int32) := by
  intro Φ Ψ h
  show J g mL_dryIn 11 1 6 0 [some (.ref (ad 0)), some (.int x1), some (.int x2), some (.int x3), some (.int x4), some (.ref (ad 69)), none] [] n ad E Φ Ψ
  have hc : ∀ q : Nat, J g mL_dryIn 11 0 0 17 [some (.ref (ad 0)), some (.int x1), some (.int x2), some (.int x3), some (.int x4), some (.ref (ad 69)), none] [.ref q] n ad E Φ Ψ := by
    intro q
    refine j_astore (L' := [some (.ref (ad 0)), some (.int x1), some (.int x2), some (.int x3), some (.int x4), some (.ref (ad 69)), some (.ref q)]) dL_dryIn_17 (by decide) rfl rfl ?_
    refine j_iconst (v := 1) dL_dryIn_19 (by decide) ?_
    exact j_iret dL_dryIn_20 rfl h
  refine j_aload dL_dryIn_0 rfl ?_
  refine j_iconst (v := nI 0) dL_dryIn_2 (by decide) ?_
  refine j_aload_n dL_dryIn_3 rfl ?_
  refine j_iload_n dL_dryIn_4 rfl ?_
  refine j_iload_n dL_dryIn_5 rfl ?_
  refine j_iload_n dL_dryIn_6 rfl ?_
  refine j_iload dL_dryIn_7 rfl ?_
  exact j_cVx (As := [.int x1, .int x2, .int x3, .int x4]) (rest := [.int (nI 0), .ref (ad 69)]) cm_X3_dryIn ci_X3_dryIn cs_X3_dryIn rfl ln_L_83 (ci := 3) rfl dL_dryIn_9 (d' := 10) (by decide) (by omega) h0 rfl rfl (Nat.le_of_ble_eq_true rfl) (Nat.le_of_ble_eq_true rfl) H (Or.inr ⟨[], ⟨0, 14, 17, 19⟩, [⟨0, 14, 21, 13⟩], "java/lang/IndexOutOfBoundsException", rfl, (fun z hz => by cases hz), by decide, by decide, cl_L_19, ca_IndexOutOfBoundsException, fun q => hc q⟩)
set_option maxRecDepth 100000 in
set_option maxHeartbeats 4000000 in
theorem h_dryIn_iae {g : jG} {n : Nat} {ad : Nat → Nat} {E : Nat → va_E} {fs : List Value} (x1 x2 x3 x4 : Int32) (hn : 70 ≤ n) (h0 : E 0 = .inr (3, fs)) (H : Thr g mX3_dryIn 10 [.ref (ad 0), .int x1, .int x2, .int x3, .int x4] n ad E "java/lang/IllegalArgumentException") : HBad g mL_dryIn 11 [.ref (ad 0), .int x1, .int x2, .int x3, .int x4, .ref (ad 69)] n ad E (2 : Int32) := by
  intro Φ Ψ h
  show J g mL_dryIn 11 1 6 0 [some (.ref (ad 0)), some (.int x1), some (.int x2), some (.int x3), some (.int x4), some (.ref (ad 69)), none] [] n ad E Φ Ψ
  have hc : ∀ q : Nat, J g mL_dryIn 11 0 0 21 [some (.ref (ad 0)), some (.int x1), some (.int x2), some (.int x3), some (.int x4), some (.ref (ad 69)), none] [.ref q] n ad E Φ Ψ := by
    intro q
    refine j_astore (L' := [some (.ref (ad 0)), some (.int x1), some (.int x2), some (.int x3), some (.int x4), some (.ref (ad 69)), some (.ref q)]) dL_dryIn_21 (by decide) rfl rfl ?_
    refine j_iconst (v := 2) dL_dryIn_23 (by decide) ?_
    exact j_iret dL_dryIn_24 rfl h
  refine j_aload dL_dryIn_0 rfl ?_
  refine j_iconst (v := nI 0) dL_dryIn_2 (by decide) ?_
  refine j_aload_n dL_dryIn_3 rfl ?_
  refine j_iload_n dL_dryIn_4 rfl ?_
  refine j_iload_n dL_dryIn_5 rfl ?_
  refine j_iload_n dL_dryIn_6 rfl ?_
  refine j_iload dL_dryIn_7 rfl ?_
  exact j_cVx (As := [.int x1, .int x2, .int x3, .int x4]) (rest := [.int (nI 0), .ref (ad 69)]) cm_X3_dryIn ci_X3_dryIn cs_X3_dryIn rfl ln_L_83 (ci := 3) rfl dL_dryIn_9 (d' := 10) (by decide) (by omega) h0 rfl rfl (Nat.le_of_ble_eq_true rfl) (Nat.le_of_ble_eq_true rfl) H (Or.inr ⟨[⟨0, 14, 17, 19⟩], ⟨0, 14, 21, 13⟩, [], "java/lang/IllegalArgumentException", rfl, (fun z hz => by rw [List.mem_singleton.mp hz]; exact Or.inr ⟨by decide, "java/lang/IndexOutOfBoundsException", cl_L_19, List.mem_cons_self⟩), by decide, by decide, cl_L_13, ca_IllegalArgumentException, fun q => hc q⟩)
set_option maxRecDepth 100000 in
set_option maxHeartbeats 4000000 in
theorem h_dryAt_ok {g : jG} {n : Nat} {ad : Nat → Nat} {E : Nat → va_E} {fs : List Value} (x1 : Int32) (hn : 70 ≤ n) (h0 : E 0 = .inr (3, fs)) {v : Int32} {P : (Nat → va_E) → Prop} (h69 : ∀ E1, P E1 → ∃ o, E1 69 = aL g 1 o) (H : RetP g mX3_dryAt 10 [.ref (ad 0), .int x1] n ad E (some (.int v)) P) : HOk g mL_dryAt 11 [.ref (ad 0), .int x1, .ref (ad 69)] n ad E v.toInt64 P := by
  intro Φ Ψ h
  show J g mL_dryAt 11 0 0 0 [some (.ref (ad 0)), some (.int x1), some (.ref (ad 69)), none] [] n ad E Φ Ψ
  refine j_aload_n dL_dryAt_0 rfl ?_
  refine j_iconst (v := nI 0) dL_dryAt_1 (by decide) ?_
  refine j_aload_n dL_dryAt_2 rfl ?_
  refine j_iload_n dL_dryAt_3 rfl ?_
  refine j_cVp (As := [.int x1]) (rest := [.int (nI 0), .ref (ad 69)]) cm_X3_dryAt ci_X3_dryAt cs_X3_dryAt rfl ln_L_87 (ci := 3) rfl dL_dryAt_4 (d' := 10) (by decide) (by omega) h0 rfl rfl (Nat.le_of_ble_eq_true rfl) (Nat.le_of_ble_eq_true rfl) H (fun E1 q1 => ?_)
  obtain ⟨o, ho⟩ := h69 E1 q1
  show J g mL_dryAt 11 0 0 7 [some (.ref (ad 0)), some (.int x1), some (.ref (ad 69)), none] [.int v, .int (nI 0), .ref (ad 69)] n ad E1 Φ Ψ
  refine j_i2l dL_dryAt_7 ?_
  refine j_last (j := 0) dL_dryAt_8 (by omega) ho (by decide) (by omega) ?_
  refine j_goto (tgt := 15) dL_dryAt_9 (by decide) ?_
  refine j_iconst (v := 0) dL_dryAt_15 (by decide) ?_
  exact j_iret dL_dryAt_16 rfl (h E1 o q1 ho)
set_option maxRecDepth 100000 in
set_option maxHeartbeats 4000000 in
theorem h_dryAt_bad {g : jG} {n : Nat} {ad : Nat → Nat} {E : Nat → va_E} {fs : List Value} (x1 : Int32) (hn : 70 ≤ n) (h0 : E 0 = .inr (3, fs)) (H : Thr g mX3_dryAt 10 [.ref (ad 0), .int x1] n ad E "java/lang/IndexOutOfBoundsException") : HBad g mL_dryAt 11 [.ref (ad 0), .int x1, .ref (ad 69)] n ad E (1 : Int32) := by
  intro Φ Ψ h
  show J g mL_dryAt 11 1 6 0 [some (.ref (ad 0)), some (.int x1), some (.ref (ad 69)), none] [] n ad E Φ Ψ
  have hc : ∀ q : Nat, J g mL_dryAt 11 0 0 12 [some (.ref (ad 0)), some (.int x1), some (.ref (ad 69)), none] [.ref q] n ad E Φ Ψ := by
    intro q
    refine j_astore_n (L' := [some (.ref (ad 0)), some (.int x1), some (.ref (ad 69)), some (.ref q)]) dL_dryAt_12 (by decide) rfl rfl ?_
    refine j_iconst (v := 1) dL_dryAt_13 (by decide) ?_
    exact j_iret dL_dryAt_14 rfl h
  refine j_aload_n dL_dryAt_0 rfl ?_
  refine j_iconst (v := nI 0) dL_dryAt_1 (by decide) ?_
  refine j_aload_n dL_dryAt_2 rfl ?_
  refine j_iload_n dL_dryAt_3 rfl ?_
  exact j_cVx (As := [.int x1]) (rest := [.int (nI 0), .ref (ad 69)]) cm_X3_dryAt ci_X3_dryAt cs_X3_dryAt rfl ln_L_87 (ci := 3) rfl dL_dryAt_4 (d' := 10) (by decide) (by omega) h0 rfl rfl (Nat.le_of_ble_eq_true rfl) (Nat.le_of_ble_eq_true rfl) H (Or.inr ⟨[], ⟨0, 9, 12, 19⟩, [], "java/lang/IndexOutOfBoundsException", rfl, (fun z hz => by cases hz), by decide, by decide, cl_L_19, ca_IndexOutOfBoundsException, fun q => hc q⟩)
set_option maxRecDepth 100000 in
set_option maxHeartbeats 4000000 in
theorem h_longestDry_ok {g : jG} {n : Nat} {ad : Nat → Nat} {E : Nat → va_E} {fs : List Value} (x1 : Int32) (hn : 70 ≤ n) (h0 : E 0 = .inr (3, fs)) {v : Int32} {P : (Nat → va_E) → Prop} (h69 : ∀ E1, P E1 → ∃ o, E1 69 = aL g 1 o) (H : RetP g mX3_longestDry 10 [.ref (ad 0), .int x1] n ad E (some (.int v)) P) : HOk g mL_longestDry 11 [.ref (ad 0), .int x1, .ref (ad 69)] n ad E v.toInt64 P := by
  intro Φ Ψ h
  show J g mL_longestDry 11 0 0 0 [some (.ref (ad 0)), some (.int x1), some (.ref (ad 69)), none] [] n ad E Φ Ψ
  refine j_aload_n dL_longestDry_0 rfl ?_
  refine j_iconst (v := nI 0) dL_longestDry_1 (by decide) ?_
  refine j_aload_n dL_longestDry_2 rfl ?_
  refine j_iload_n dL_longestDry_3 rfl ?_
  refine j_cVp (As := [.int x1]) (rest := [.int (nI 0), .ref (ad 69)]) cm_X3_longestDry ci_X3_longestDry cs_X3_longestDry rfl ln_L_90 (ci := 3) rfl dL_longestDry_4 (d' := 10) (by decide) (by omega) h0 rfl rfl (Nat.le_of_ble_eq_true rfl) (Nat.le_of_ble_eq_true rfl) H (fun E1 q1 => ?_)
  obtain ⟨o, ho⟩ := h69 E1 q1
  show J g mL_longestDry 11 0 0 7 [some (.ref (ad 0)), some (.int x1), some (.ref (ad 69)), none] [.int v, .int (nI 0), .ref (ad 69)] n ad E1 Φ Ψ
  refine j_i2l dL_longestDry_7 ?_
  refine j_last (j := 0) dL_longestDry_8 (by omega) ho (by decide) (by omega) ?_
  refine j_goto (tgt := 15) dL_longestDry_9 (by decide) ?_
  refine j_iconst (v := 0) dL_longestDry_15 (by decide) ?_
  exact j_iret dL_longestDry_16 rfl (h E1 o q1 ho)
set_option maxRecDepth 100000 in
set_option maxHeartbeats 4000000 in
theorem h_longestDry_bad {g : jG} {n : Nat} {ad : Nat → Nat} {E : Nat → va_E} {fs : List Value} (x1 : Int32) (hn : 70 ≤ n) (h0 : E 0 = .inr (3, fs)) (H : Thr g mX3_longestDry 10 [.ref (ad 0), .int x1] n ad E "java/lang/IndexOutOfBoundsException") : HBad g mL_longestDry 11 [.ref (ad 0), .int x1, .ref (ad 69)] n ad E (1 : Int32) := by
  intro Φ Ψ h
  show J g mL_longestDry 11 1 6 0 [some (.ref (ad 0)), some (.int x1), some (.ref (ad 69)), none] [] n ad E Φ Ψ
  have hc : ∀ q : Nat, J g mL_longestDry 11 0 0 12 [some (.ref (ad 0)), some (.int x1), some (.ref (ad 69)), none] [.ref q] n ad E Φ Ψ := by
    intro q
    refine j_astore_n (L' := [some (.ref (ad 0)), some (.int x1), some (.ref (ad 69)), some (.ref q)]) dL_longestDry_12 (by decide) rfl rfl ?_
    refine j_iconst (v := 1) dL_longestDry_13 (by decide) ?_
    exact j_iret dL_longestDry_14 rfl h
  refine j_aload_n dL_longestDry_0 rfl ?_
  refine j_iconst (v := nI 0) dL_longestDry_1 (by decide) ?_
  refine j_aload_n dL_longestDry_2 rfl ?_
  refine j_iload_n dL_longestDry_3 rfl ?_
  exact j_cVx (As := [.int x1]) (rest := [.int (nI 0), .ref (ad 69)]) cm_X3_longestDry ci_X3_longestDry cs_X3_longestDry rfl ln_L_90 (ci := 3) rfl dL_longestDry_4 (d' := 10) (by decide) (by omega) h0 rfl rfl (Nat.le_of_ble_eq_true rfl) (Nat.le_of_ble_eq_true rfl) H (Or.inr ⟨[], ⟨0, 9, 12, 19⟩, [], "java/lang/IndexOutOfBoundsException", rfl, (fun z hz => by cases hz), by decide, by decide, cl_L_19, ca_IndexOutOfBoundsException, fun q => hc q⟩)
set_option maxRecDepth 100000 in
set_option maxHeartbeats 4000000 in
theorem h_lowestIn_ok {g : jG} {n : Nat} {ad : Nat → Nat} {E : Nat → va_E} {fs : List Value} (x1 x2 x3 x4 : Int32) (hn : 70 ≤ n) (h0 : E 0 = .inr (3, fs)) {v : Int32} {P : (Nat → va_E) → Prop} (h69 : ∀ E1, P E1 → ∃ o, E1 69 = aL g 1 o) (H : RetP g mX3_lowestIn 10 [.ref (ad 0), .int x1, .int x2, .int x3, .int x4] n ad E (some (.int v)) P) : HOk g mL_lowestIn 11 [.ref (ad 0), .int x1, .int x2, .int x3, .int x4, .ref (ad 69)] n ad E v.toInt64 P := by
  intro Φ Ψ h
  show J g mL_lowestIn 11 0 0 0 [some (.ref (ad 0)), some (.int x1), some (.int x2), some (.int x3), some (.int x4), some (.ref (ad 69)), none] [] n ad E Φ Ψ
  refine j_aload dL_lowestIn_0 rfl ?_
  refine j_iconst (v := nI 0) dL_lowestIn_2 (by decide) ?_
  refine j_aload_n dL_lowestIn_3 rfl ?_
  refine j_iload_n dL_lowestIn_4 rfl ?_
  refine j_iload_n dL_lowestIn_5 rfl ?_
  refine j_iload_n dL_lowestIn_6 rfl ?_
  refine j_iload dL_lowestIn_7 rfl ?_
  refine j_cVp (As := [.int x1, .int x2, .int x3, .int x4]) (rest := [.int (nI 0), .ref (ad 69)]) cm_X3_lowestIn ci_X3_lowestIn cs_X3_lowestIn rfl ln_L_93 (ci := 3) rfl dL_lowestIn_9 (d' := 10) (by decide) (by omega) h0 rfl rfl (Nat.le_of_ble_eq_true rfl) (Nat.le_of_ble_eq_true rfl) H (fun E1 q1 => ?_)
  obtain ⟨o, ho⟩ := h69 E1 q1
  show J g mL_lowestIn 11 0 0 12 [some (.ref (ad 0)), some (.int x1), some (.int x2), some (.int x3), some (.int x4), some (.ref (ad 69)), none] [.int v, .int (nI 0), .ref (ad 69)] n ad E1 Φ Ψ
  refine j_i2l dL_lowestIn_12 ?_
  refine j_last (j := 0) dL_lowestIn_13 (by omega) ho (by decide) (by omega) ?_
  refine j_goto (tgt := 25) dL_lowestIn_14 (by decide) ?_
  refine j_iconst (v := 0) dL_lowestIn_25 (by decide) ?_
  exact j_iret dL_lowestIn_26 rfl (h E1 o q1 ho)
set_option maxRecDepth 100000 in
set_option maxHeartbeats 4000000 in
theorem h_lowestIn_bad {g : jG} {n : Nat} {ad : Nat → Nat} {E : Nat → va_E} {fs : List Value} (x1 x2 x3 x4 : Int32) (hn : 70 ≤ n) (h0 : E 0 = .inr (3, fs)) (H : Thr g mX3_lowestIn 10 [.ref (ad 0), .int x1, .int x2, .int x3, .int x4] n ad E "java/lang/IndexOutOfBoundsException") : HBad g mL_lowestIn 11 [.ref (ad 0), .int x1, .int x2, .int x3, .int x4, .ref (ad 69)] n ad E (1 : Int32) := by
  intro Φ Ψ h
  show J g mL_lowestIn 11 1 6 0 [some (.ref (ad 0)), some (.int x1), some (.int x2), some (.int x3), some (.int x4), some (.ref (ad 69)), none] [] n ad E Φ Ψ
  have hc : ∀ q : Nat, J g mL_lowestIn 11 0 0 17 [some (.ref (ad 0)), some (.int x1), some (.int x2), some (.int x3), some (.int x4), some (.ref (ad 69)), none] [.ref q] n ad E Φ Ψ := by
    intro q
    refine j_astore (L' := [some (.ref (ad 0)), some (.int x1), some (.int x2), some (.int x3), some (.int x4), some (.ref (ad 69)), some (.ref q)]) dL_lowestIn_17 (by decide) rfl rfl ?_
    refine j_iconst (v := 1) dL_lowestIn_19 (by decide) ?_
    exact j_iret dL_lowestIn_20 rfl h
  refine j_aload dL_lowestIn_0 rfl ?_
  refine j_iconst (v := nI 0) dL_lowestIn_2 (by decide) ?_
  refine j_aload_n dL_lowestIn_3 rfl ?_
  refine j_iload_n dL_lowestIn_4 rfl ?_
  refine j_iload_n dL_lowestIn_5 rfl ?_
  refine j_iload_n dL_lowestIn_6 rfl ?_
  refine j_iload dL_lowestIn_7 rfl ?_
  exact j_cVx (As := [.int x1, .int x2, .int x3, .int x4]) (rest := [.int (nI 0), .ref (ad 69)]) cm_X3_lowestIn ci_X3_lowestIn cs_X3_lowestIn rfl ln_L_93 (ci := 3) rfl dL_lowestIn_9 (d' := 10) (by decide) (by omega) h0 rfl rfl (Nat.le_of_ble_eq_true rfl) (Nat.le_of_ble_eq_true rfl) H (Or.inr ⟨[], ⟨0, 14, 17, 19⟩, [⟨0, 14, 21, 13⟩], "java/lang/IndexOutOfBoundsException", rfl, (fun z hz => by cases hz), by decide, by decide, cl_L_19, ca_IndexOutOfBoundsException, fun q => hc q⟩)
set_option maxRecDepth 100000 in
set_option maxHeartbeats 4000000 in
theorem h_lowestIn_iae {g : jG} {n : Nat} {ad : Nat → Nat} {E : Nat → va_E} {fs : List Value} (x1 x2 x3 x4 : Int32) (hn : 70 ≤ n) (h0 : E 0 = .inr (3, fs)) (H : Thr g mX3_lowestIn 10 [.ref (ad 0), .int x1, .int x2, .int x3, .int x4] n ad E "java/lang/IllegalArgumentException") : HBad g mL_lowestIn 11 [.ref (ad 0), .int x1, .int x2, .int x3, .int x4, .ref (ad 69)] n ad E (2 : Int32) := by
  intro Φ Ψ h
  show J g mL_lowestIn 11 1 6 0 [some (.ref (ad 0)), some (.int x1), some (.int x2), some (.int x3), some (.int x4), some (.ref (ad 69)), none] [] n ad E Φ Ψ
  have hc : ∀ q : Nat, J g mL_lowestIn 11 0 0 21 [some (.ref (ad 0)), some (.int x1), some (.int x2), some (.int x3), some (.int x4), some (.ref (ad 69)), none] [.ref q] n ad E Φ Ψ := by
    intro q
    refine j_astore (L' := [some (.ref (ad 0)), some (.int x1), some (.int x2), some (.int x3), some (.int x4), some (.ref (ad 69)), some (.ref q)]) dL_lowestIn_21 (by decide) rfl rfl ?_
    refine j_iconst (v := 2) dL_lowestIn_23 (by decide) ?_
    exact j_iret dL_lowestIn_24 rfl h
  refine j_aload dL_lowestIn_0 rfl ?_
  refine j_iconst (v := nI 0) dL_lowestIn_2 (by decide) ?_
  refine j_aload_n dL_lowestIn_3 rfl ?_
  refine j_iload_n dL_lowestIn_4 rfl ?_
  refine j_iload_n dL_lowestIn_5 rfl ?_
  refine j_iload_n dL_lowestIn_6 rfl ?_
  refine j_iload dL_lowestIn_7 rfl ?_
  exact j_cVx (As := [.int x1, .int x2, .int x3, .int x4]) (rest := [.int (nI 0), .ref (ad 69)]) cm_X3_lowestIn ci_X3_lowestIn cs_X3_lowestIn rfl ln_L_93 (ci := 3) rfl dL_lowestIn_9 (d' := 10) (by decide) (by omega) h0 rfl rfl (Nat.le_of_ble_eq_true rfl) (Nat.le_of_ble_eq_true rfl) H (Or.inr ⟨[⟨0, 14, 17, 19⟩], ⟨0, 14, 21, 13⟩, [], "java/lang/IllegalArgumentException", rfl, (fun z hz => by rw [List.mem_singleton.mp hz]; exact Or.inr ⟨by decide, "java/lang/IndexOutOfBoundsException", cl_L_19, List.mem_cons_self⟩), by decide, by decide, cl_L_13, ca_IllegalArgumentException, fun q => hc q⟩)
set_option maxRecDepth 100000 in
set_option maxHeartbeats 4000000 in
theorem h_highestAt_ok {g : jG} {n : Nat} {ad : Nat → Nat} {E : Nat → va_E} {fs : List Value} (x1 : Int32) (hn : 70 ≤ n) (h0 : E 0 = .inr (3, fs)) {v : Int32} {P : (Nat → va_E) → Prop} (h69 : ∀ E1, P E1 → ∃ o, E1 69 = aL g 1 o) (H : RetP g mX3_highestAt 10 [.ref (ad 0), .int x1] n ad E (some (.int v)) P) : HOk g mL_highestAt 11 [.ref (ad 0), .int x1, .ref (ad 69)] n ad E v.toInt64 P := by
  intro Φ Ψ h
  show J g mL_highestAt 11 0 0 0 [some (.ref (ad 0)), some (.int x1), some (.ref (ad 69)), none] [] n ad E Φ Ψ
  refine j_aload_n dL_highestAt_0 rfl ?_
  refine j_iconst (v := nI 0) dL_highestAt_1 (by decide) ?_
  refine j_aload_n dL_highestAt_2 rfl ?_
  refine j_iload_n dL_highestAt_3 rfl ?_
  refine j_cVp (As := [.int x1]) (rest := [.int (nI 0), .ref (ad 69)]) cm_X3_highestAt ci_X3_highestAt cs_X3_highestAt rfl ln_L_96 (ci := 3) rfl dL_highestAt_4 (d' := 10) (by decide) (by omega) h0 rfl rfl (Nat.le_of_ble_eq_true rfl) (Nat.le_of_ble_eq_true rfl) H (fun E1 q1 => ?_)
  obtain ⟨o, ho⟩ := h69 E1 q1
  show J g mL_highestAt 11 0 0 7 [some (.ref (ad 0)), some (.int x1), some (.ref (ad 69)), none] [.int v, .int (nI 0), .ref (ad 69)] n ad E1 Φ Ψ
  refine j_i2l dL_highestAt_7 ?_
  refine j_last (j := 0) dL_highestAt_8 (by omega) ho (by decide) (by omega) ?_
  refine j_goto (tgt := 15) dL_highestAt_9 (by decide) ?_
  refine j_iconst (v := 0) dL_highestAt_15 (by decide) ?_
  exact j_iret dL_highestAt_16 rfl (h E1 o q1 ho)
set_option maxRecDepth 100000 in
set_option maxHeartbeats 4000000 in
theorem h_highestAt_bad {g : jG} {n : Nat} {ad : Nat → Nat} {E : Nat → va_E} {fs : List Value} (x1 : Int32) (hn : 70 ≤ n) (h0 : E 0 = .inr (3, fs)) (H : Thr g mX3_highestAt 10 [.ref (ad 0), .int x1] n ad E "java/lang/IndexOutOfBoundsException") : HBad g mL_highestAt 11 [.ref (ad 0), .int x1, .ref (ad 69)] n ad E (1 : Int32) := by
  intro Φ Ψ h
  show J g mL_highestAt 11 1 6 0 [some (.ref (ad 0)), some (.int x1), some (.ref (ad 69)), none] [] n ad E Φ Ψ
  have hc : ∀ q : Nat, J g mL_highestAt 11 0 0 12 [some (.ref (ad 0)), some (.int x1), some (.ref (ad 69)), none] [.ref q] n ad E Φ Ψ := by
    intro q
    refine j_astore_n (L' := [some (.ref (ad 0)), some (.int x1), some (.ref (ad 69)), some (.ref q)]) dL_highestAt_12 (by decide) rfl rfl ?_
    refine j_iconst (v := 1) dL_highestAt_13 (by decide) ?_
    exact j_iret dL_highestAt_14 rfl h
  refine j_aload_n dL_highestAt_0 rfl ?_
  refine j_iconst (v := nI 0) dL_highestAt_1 (by decide) ?_
  refine j_aload_n dL_highestAt_2 rfl ?_
  refine j_iload_n dL_highestAt_3 rfl ?_
  exact j_cVx (As := [.int x1]) (rest := [.int (nI 0), .ref (ad 69)]) cm_X3_highestAt ci_X3_highestAt cs_X3_highestAt rfl ln_L_96 (ci := 3) rfl dL_highestAt_4 (d' := 10) (by decide) (by omega) h0 rfl rfl (Nat.le_of_ble_eq_true rfl) (Nat.le_of_ble_eq_true rfl) H (Or.inr ⟨[], ⟨0, 9, 12, 19⟩, [], "java/lang/IndexOutOfBoundsException", rfl, (fun z hz => by cases hz), by decide, by decide, cl_L_19, ca_IndexOutOfBoundsException, fun q => hc q⟩)
set_option maxRecDepth 100000 in
set_option maxHeartbeats 4000000 in
theorem h_levelInOrder_ok {g : jG} {n : Nat} {ad : Nat → Nat} {E : Nat → va_E} {fs : List Value} (x1 : Int32) (hn : 70 ≤ n) (h0 : E 0 = .inr (3, fs)) {v : Int32} {P : (Nat → va_E) → Prop} (h69 : ∀ E1, P E1 → ∃ o, E1 69 = aL g 1 o) (H : RetP g mX3_levelInOrder 10 [.ref (ad 0), .int x1] n ad E (some (.int v)) P) : HOk g mL_levelInOrder 11 [.ref (ad 0), .int x1, .ref (ad 69)] n ad E v.toInt64 P := by
  intro Φ Ψ h
  show J g mL_levelInOrder 11 0 0 0 [some (.ref (ad 0)), some (.int x1), some (.ref (ad 69)), none] [] n ad E Φ Ψ
  refine j_aload_n dL_levelInOrder_0 rfl ?_
  refine j_iconst (v := nI 0) dL_levelInOrder_1 (by decide) ?_
  refine j_aload_n dL_levelInOrder_2 rfl ?_
  refine j_iload_n dL_levelInOrder_3 rfl ?_
  refine j_cVp (As := [.int x1]) (rest := [.int (nI 0), .ref (ad 69)]) cm_X3_levelInOrder ci_X3_levelInOrder cs_X3_levelInOrder rfl ln_L_99 (ci := 3) rfl dL_levelInOrder_4 (d' := 10) (by decide) (by omega) h0 rfl rfl (Nat.le_of_ble_eq_true rfl) (Nat.le_of_ble_eq_true rfl) H (fun E1 q1 => ?_)
  obtain ⟨o, ho⟩ := h69 E1 q1
  show J g mL_levelInOrder 11 0 0 7 [some (.ref (ad 0)), some (.int x1), some (.ref (ad 69)), none] [.int v, .int (nI 0), .ref (ad 69)] n ad E1 Φ Ψ
  refine j_i2l dL_levelInOrder_7 ?_
  refine j_last (j := 0) dL_levelInOrder_8 (by omega) ho (by decide) (by omega) ?_
  refine j_goto (tgt := 15) dL_levelInOrder_9 (by decide) ?_
  refine j_iconst (v := 0) dL_levelInOrder_15 (by decide) ?_
  exact j_iret dL_levelInOrder_16 rfl (h E1 o q1 ho)
set_option maxRecDepth 100000 in
set_option maxHeartbeats 4000000 in
theorem h_levelInOrder_bad {g : jG} {n : Nat} {ad : Nat → Nat} {E : Nat → va_E} {fs : List Value} (x1 : Int32) (hn : 70 ≤ n) (h0 : E 0 = .inr (3, fs)) (H : Thr g mX3_levelInOrder 10 [.ref (ad 0), .int x1] n ad E "java/lang/IndexOutOfBoundsException") : HBad g mL_levelInOrder 11 [.ref (ad 0), .int x1, .ref (ad 69)] n ad E (1 : Int32) := by
  intro Φ Ψ h
  show J g mL_levelInOrder 11 1 6 0 [some (.ref (ad 0)), some (.int x1), some (.ref (ad 69)), none] [] n ad E Φ Ψ
  have hc : ∀ q : Nat, J g mL_levelInOrder 11 0 0 12 [some (.ref (ad 0)), some (.int x1), some (.ref (ad 69)), none] [.ref q] n ad E Φ Ψ := by
    intro q
    refine j_astore_n (L' := [some (.ref (ad 0)), some (.int x1), some (.ref (ad 69)), some (.ref q)]) dL_levelInOrder_12 (by decide) rfl rfl ?_
    refine j_iconst (v := 1) dL_levelInOrder_13 (by decide) ?_
    exact j_iret dL_levelInOrder_14 rfl h
  refine j_aload_n dL_levelInOrder_0 rfl ?_
  refine j_iconst (v := nI 0) dL_levelInOrder_1 (by decide) ?_
  refine j_aload_n dL_levelInOrder_2 rfl ?_
  refine j_iload_n dL_levelInOrder_3 rfl ?_
  exact j_cVx (As := [.int x1]) (rest := [.int (nI 0), .ref (ad 69)]) cm_X3_levelInOrder ci_X3_levelInOrder cs_X3_levelInOrder rfl ln_L_99 (ci := 3) rfl dL_levelInOrder_4 (d' := 10) (by decide) (by omega) h0 rfl rfl (Nat.le_of_ble_eq_true rfl) (Nat.le_of_ble_eq_true rfl) H (Or.inr ⟨[], ⟨0, 9, 12, 19⟩, [], "java/lang/IndexOutOfBoundsException", rfl, (fun z hz => by cases hz), by decide, by decide, cl_L_19, ca_IndexOutOfBoundsException, fun q => hc q⟩)
set_option maxRecDepth 100000 in
set_option maxHeartbeats 4000000 in
theorem h_alike_ok {g : jG} {n : Nat} {ad : Nat → Nat} {E : Nat → va_E} {fs : List Value} (x1 x2 : Int32) (hn : 70 ≤ n) (h0 : E 0 = .inr (3, fs)) {v : Int32} {P : (Nat → va_E) → Prop} (h69 : ∀ E1, P E1 → ∃ o, E1 69 = aL g 1 o) (H : RetP g mX3_alike 10 [.ref (ad 0), .int x1, .int x2] n ad E (some (.int v)) P) : HOk g mL_alike 11 [.ref (ad 0), .int x1, .int x2, .ref (ad 69)] n ad E v.toInt64 P := by
  intro Φ Ψ h
  show J g mL_alike 11 0 0 0 [some (.ref (ad 0)), some (.int x1), some (.int x2), some (.ref (ad 69)), none] [] n ad E Φ Ψ
  refine j_aload_n dL_alike_0 rfl ?_
  refine j_iconst (v := nI 0) dL_alike_1 (by decide) ?_
  refine j_aload_n dL_alike_2 rfl ?_
  refine j_iload_n dL_alike_3 rfl ?_
  refine j_iload_n dL_alike_4 rfl ?_
  refine j_cVp (As := [.int x1, .int x2]) (rest := [.int (nI 0), .ref (ad 69)]) cm_X3_alike ci_X3_alike cs_X3_alike rfl ln_L_102 (ci := 3) rfl dL_alike_5 (d' := 10) (by decide) (by omega) h0 rfl rfl (Nat.le_of_ble_eq_true rfl) (Nat.le_of_ble_eq_true rfl) H (fun E1 q1 => ?_)
  obtain ⟨o, ho⟩ := h69 E1 q1
  show J g mL_alike 11 0 0 8 [some (.ref (ad 0)), some (.int x1), some (.int x2), some (.ref (ad 69)), none] [.int v, .int (nI 0), .ref (ad 69)] n ad E1 Φ Ψ
  refine j_i2l dL_alike_8 ?_
  refine j_last (j := 0) dL_alike_9 (by omega) ho (by decide) (by omega) ?_
  refine j_goto (tgt := 17) dL_alike_10 (by decide) ?_
  refine j_iconst (v := 0) dL_alike_17 (by decide) ?_
  exact j_iret dL_alike_18 rfl (h E1 o q1 ho)
set_option maxRecDepth 100000 in
set_option maxHeartbeats 4000000 in
theorem h_alike_bad {g : jG} {n : Nat} {ad : Nat → Nat} {E : Nat → va_E} {fs : List Value} (x1 x2 : Int32) (hn : 70 ≤ n) (h0 : E 0 = .inr (3, fs)) (H : Thr g mX3_alike 10 [.ref (ad 0), .int x1, .int x2] n ad E "java/lang/IndexOutOfBoundsException") : HBad g mL_alike 11 [.ref (ad 0), .int x1, .int x2, .ref (ad 69)] n ad E (1 : Int32) := by
  intro Φ Ψ h
  show J g mL_alike 11 1 6 0 [some (.ref (ad 0)), some (.int x1), some (.int x2), some (.ref (ad 69)), none] [] n ad E Φ Ψ
  have hc : ∀ q : Nat, J g mL_alike 11 0 0 13 [some (.ref (ad 0)), some (.int x1), some (.int x2), some (.ref (ad 69)), none] [.ref q] n ad E Φ Ψ := by
    intro q
    refine j_astore (L' := [some (.ref (ad 0)), some (.int x1), some (.int x2), some (.ref (ad 69)), some (.ref q)]) dL_alike_13 (by decide) rfl rfl ?_
    refine j_iconst (v := 1) dL_alike_15 (by decide) ?_
    exact j_iret dL_alike_16 rfl h
  refine j_aload_n dL_alike_0 rfl ?_
  refine j_iconst (v := nI 0) dL_alike_1 (by decide) ?_
  refine j_aload_n dL_alike_2 rfl ?_
  refine j_iload_n dL_alike_3 rfl ?_
  refine j_iload_n dL_alike_4 rfl ?_
  exact j_cVx (As := [.int x1, .int x2]) (rest := [.int (nI 0), .ref (ad 69)]) cm_X3_alike ci_X3_alike cs_X3_alike rfl ln_L_102 (ci := 3) rfl dL_alike_5 (d' := 10) (by decide) (by omega) h0 rfl rfl (Nat.le_of_ble_eq_true rfl) (Nat.le_of_ble_eq_true rfl) H (Or.inr ⟨[], ⟨0, 10, 13, 19⟩, [], "java/lang/IndexOutOfBoundsException", rfl, (fun z hz => by cases hz), by decide, by decide, cl_L_19, ca_IndexOutOfBoundsException, fun q => hc q⟩)
set_option maxRecDepth 100000 in
set_option maxHeartbeats 4000000 in
theorem h_changedSince_ok {g : jG} {n : Nat} {ad : Nat → Nat} {E : Nat → va_E} {fs : List Value} (x1 : Int32) (hn : 70 ≤ n) (h0 : E 0 = .inr (3, fs)) {v : Int32} {P : (Nat → va_E) → Prop} (h69 : ∀ E1, P E1 → ∃ o, E1 69 = aL g 1 o) (H : RetP g mX3_changedSince 10 [.ref (ad 0), .int x1] n ad E (some (.int v)) P) : HOk g mL_changedSince 11 [.ref (ad 0), .int x1, .ref (ad 69)] n ad E v.toInt64 P := by
  intro Φ Ψ h
  show J g mL_changedSince 11 0 0 0 [some (.ref (ad 0)), some (.int x1), some (.ref (ad 69)), none] [] n ad E Φ Ψ
  refine j_aload_n dL_changedSince_0 rfl ?_
  refine j_iconst (v := nI 0) dL_changedSince_1 (by decide) ?_
  refine j_aload_n dL_changedSince_2 rfl ?_
  refine j_iload_n dL_changedSince_3 rfl ?_
  refine j_cVp (As := [.int x1]) (rest := [.int (nI 0), .ref (ad 69)]) cm_X3_changedSince ci_X3_changedSince cs_X3_changedSince rfl ln_L_105 (ci := 3) rfl dL_changedSince_4 (d' := 10) (by decide) (by omega) h0 rfl rfl (Nat.le_of_ble_eq_true rfl) (Nat.le_of_ble_eq_true rfl) H (fun E1 q1 => ?_)
  obtain ⟨o, ho⟩ := h69 E1 q1
  show J g mL_changedSince 11 0 0 7 [some (.ref (ad 0)), some (.int x1), some (.ref (ad 69)), none] [.int v, .int (nI 0), .ref (ad 69)] n ad E1 Φ Ψ
  refine j_i2l dL_changedSince_7 ?_
  refine j_last (j := 0) dL_changedSince_8 (by omega) ho (by decide) (by omega) ?_
  refine j_goto (tgt := 15) dL_changedSince_9 (by decide) ?_
  refine j_iconst (v := 0) dL_changedSince_15 (by decide) ?_
  exact j_iret dL_changedSince_16 rfl (h E1 o q1 ho)
set_option maxRecDepth 100000 in
set_option maxHeartbeats 4000000 in
theorem h_changedSince_bad {g : jG} {n : Nat} {ad : Nat → Nat} {E : Nat → va_E} {fs : List Value} (x1 : Int32) (hn : 70 ≤ n) (h0 : E 0 = .inr (3, fs)) (H : Thr g mX3_changedSince 10 [.ref (ad 0), .int x1] n ad E "java/lang/IndexOutOfBoundsException") : HBad g mL_changedSince 11 [.ref (ad 0), .int x1, .ref (ad 69)] n ad E (1 : Int32) := by
  intro Φ Ψ h
  show J g mL_changedSince 11 1 6 0 [some (.ref (ad 0)), some (.int x1), some (.ref (ad 69)), none] [] n ad E Φ Ψ
  have hc : ∀ q : Nat, J g mL_changedSince 11 0 0 12 [some (.ref (ad 0)), some (.int x1), some (.ref (ad 69)), none] [.ref q] n ad E Φ Ψ := by
    intro q
    refine j_astore_n (L' := [some (.ref (ad 0)), some (.int x1), some (.ref (ad 69)), some (.ref q)]) dL_changedSince_12 (by decide) rfl rfl ?_
    refine j_iconst (v := 1) dL_changedSince_13 (by decide) ?_
    exact j_iret dL_changedSince_14 rfl h
  refine j_aload_n dL_changedSince_0 rfl ?_
  refine j_iconst (v := nI 0) dL_changedSince_1 (by decide) ?_
  refine j_aload_n dL_changedSince_2 rfl ?_
  refine j_iload_n dL_changedSince_3 rfl ?_
  exact j_cVx (As := [.int x1]) (rest := [.int (nI 0), .ref (ad 69)]) cm_X3_changedSince ci_X3_changedSince cs_X3_changedSince rfl ln_L_105 (ci := 3) rfl dL_changedSince_4 (d' := 10) (by decide) (by omega) h0 rfl rfl (Nat.le_of_ble_eq_true rfl) (Nat.le_of_ble_eq_true rfl) H (Or.inr ⟨[], ⟨0, 9, 12, 19⟩, [], "java/lang/IndexOutOfBoundsException", rfl, (fun z hz => by cases hz), by decide, by decide, cl_L_19, ca_IndexOutOfBoundsException, fun q => hc q⟩)
set_option maxRecDepth 100000 in
set_option maxHeartbeats 4000000 in
theorem h_totalIn_ok {g : jG} {n : Nat} {ad : Nat → Nat} {E : Nat → va_E} {fs : List Value} (x1 : Int32) (hn : 70 ≤ n) (h0 : E 0 = .inr (3, fs)) {v : Int64} {P : (Nat → va_E) → Prop} (h69 : ∀ E1, P E1 → ∃ o, E1 69 = aL g 1 o) (H : RetP g mX3_totalIn 10 [.ref (ad 0), .int x1] n ad E (some (.long v)) P) : HOk g mL_totalIn 11 [.ref (ad 0), .int x1, .ref (ad 69)] n ad E v P := by
  intro Φ Ψ h
  show J g mL_totalIn 11 0 0 0 [some (.ref (ad 0)), some (.int x1), some (.ref (ad 69)), none] [] n ad E Φ Ψ
  refine j_aload_n dL_totalIn_0 rfl ?_
  refine j_iconst (v := nI 0) dL_totalIn_1 (by decide) ?_
  refine j_aload_n dL_totalIn_2 rfl ?_
  refine j_iload_n dL_totalIn_3 rfl ?_
  refine j_cVp (As := [.int x1]) (rest := [.int (nI 0), .ref (ad 69)]) cm_X3_totalIn ci_X3_totalIn cs_X3_totalIn rfl ln_L_108 (ci := 3) rfl dL_totalIn_4 (d' := 10) (by decide) (by omega) h0 rfl rfl (Nat.le_of_ble_eq_true rfl) (Nat.le_of_ble_eq_true rfl) H (fun E1 q1 => ?_)
  obtain ⟨o, ho⟩ := h69 E1 q1
  show J g mL_totalIn 11 0 0 7 [some (.ref (ad 0)), some (.int x1), some (.ref (ad 69)), none] [.long v, .int (nI 0), .ref (ad 69)] n ad E1 Φ Ψ
  refine j_last (j := 0) dL_totalIn_7 (by omega) ho (by decide) (by omega) ?_
  refine j_goto (tgt := 14) dL_totalIn_8 (by decide) ?_
  refine j_iconst (v := 0) dL_totalIn_14 (by decide) ?_
  exact j_iret dL_totalIn_15 rfl (h E1 o q1 ho)
set_option maxRecDepth 100000 in
set_option maxHeartbeats 4000000 in
theorem h_totalIn_iae {g : jG} {n : Nat} {ad : Nat → Nat} {E : Nat → va_E} {fs : List Value} (x1 : Int32) (hn : 70 ≤ n) (h0 : E 0 = .inr (3, fs)) (H : Thr g mX3_totalIn 10 [.ref (ad 0), .int x1] n ad E "java/lang/IllegalArgumentException") : HBad g mL_totalIn 11 [.ref (ad 0), .int x1, .ref (ad 69)] n ad E (1 : Int32) := by
  intro Φ Ψ h
  show J g mL_totalIn 11 1 6 0 [some (.ref (ad 0)), some (.int x1), some (.ref (ad 69)), none] [] n ad E Φ Ψ
  have hc : ∀ q : Nat, J g mL_totalIn 11 0 0 11 [some (.ref (ad 0)), some (.int x1), some (.ref (ad 69)), none] [.ref q] n ad E Φ Ψ := by
    intro q
    refine j_astore_n (L' := [some (.ref (ad 0)), some (.int x1), some (.ref (ad 69)), some (.ref q)]) dL_totalIn_11 (by decide) rfl rfl ?_
    refine j_iconst (v := 1) dL_totalIn_12 (by decide) ?_
    exact j_iret dL_totalIn_13 rfl h
  refine j_aload_n dL_totalIn_0 rfl ?_
  refine j_iconst (v := nI 0) dL_totalIn_1 (by decide) ?_
  refine j_aload_n dL_totalIn_2 rfl ?_
  refine j_iload_n dL_totalIn_3 rfl ?_
  exact j_cVx (As := [.int x1]) (rest := [.int (nI 0), .ref (ad 69)]) cm_X3_totalIn ci_X3_totalIn cs_X3_totalIn rfl ln_L_108 (ci := 3) rfl dL_totalIn_4 (d' := 10) (by decide) (by omega) h0 rfl rfl (Nat.le_of_ble_eq_true rfl) (Nat.le_of_ble_eq_true rfl) H (Or.inr ⟨[], ⟨0, 8, 11, 13⟩, [], "java/lang/IllegalArgumentException", rfl, (fun z hz => by cases hz), by decide, by decide, cl_L_13, ca_IllegalArgumentException, fun q => hc q⟩)
set_option maxRecDepth 100000 in
set_option maxHeartbeats 4000000 in
theorem h_goneIn_ok {g : jG} {n : Nat} {ad : Nat → Nat} {E : Nat → va_E} {fs : List Value} (x1 : Int32) (hn : 70 ≤ n) (h0 : E 0 = .inr (3, fs)) {v : Int32} {P : (Nat → va_E) → Prop} (h69 : ∀ E1, P E1 → ∃ o, E1 69 = aL g 1 o) (H : RetP g mX3_goneIn 10 [.ref (ad 0), .int x1] n ad E (some (.int v)) P) : HOk g mL_goneIn 11 [.ref (ad 0), .int x1, .ref (ad 69)] n ad E v.toInt64 P := by
  intro Φ Ψ h
  show J g mL_goneIn 11 0 0 0 [some (.ref (ad 0)), some (.int x1), some (.ref (ad 69)), none] [] n ad E Φ Ψ
  refine j_aload_n dL_goneIn_0 rfl ?_
  refine j_iconst (v := nI 0) dL_goneIn_1 (by decide) ?_
  refine j_aload_n dL_goneIn_2 rfl ?_
  refine j_iload_n dL_goneIn_3 rfl ?_
  refine j_cVp (As := [.int x1]) (rest := [.int (nI 0), .ref (ad 69)]) cm_X3_goneIn ci_X3_goneIn cs_X3_goneIn rfl ln_L_111 (ci := 3) rfl dL_goneIn_4 (d' := 10) (by decide) (by omega) h0 rfl rfl (Nat.le_of_ble_eq_true rfl) (Nat.le_of_ble_eq_true rfl) H (fun E1 q1 => ?_)
  obtain ⟨o, ho⟩ := h69 E1 q1
  show J g mL_goneIn 11 0 0 7 [some (.ref (ad 0)), some (.int x1), some (.ref (ad 69)), none] [.int v, .int (nI 0), .ref (ad 69)] n ad E1 Φ Ψ
  refine j_i2l dL_goneIn_7 ?_
  refine j_last (j := 0) dL_goneIn_8 (by omega) ho (by decide) (by omega) ?_
  refine j_goto (tgt := 15) dL_goneIn_9 (by decide) ?_
  refine j_iconst (v := 0) dL_goneIn_15 (by decide) ?_
  exact j_iret dL_goneIn_16 rfl (h E1 o q1 ho)
set_option maxRecDepth 100000 in
set_option maxHeartbeats 4000000 in
theorem h_goneIn_iae {g : jG} {n : Nat} {ad : Nat → Nat} {E : Nat → va_E} {fs : List Value} (x1 : Int32) (hn : 70 ≤ n) (h0 : E 0 = .inr (3, fs)) (H : Thr g mX3_goneIn 10 [.ref (ad 0), .int x1] n ad E "java/lang/IllegalArgumentException") : HBad g mL_goneIn 11 [.ref (ad 0), .int x1, .ref (ad 69)] n ad E (1 : Int32) := by
  intro Φ Ψ h
  show J g mL_goneIn 11 1 6 0 [some (.ref (ad 0)), some (.int x1), some (.ref (ad 69)), none] [] n ad E Φ Ψ
  have hc : ∀ q : Nat, J g mL_goneIn 11 0 0 12 [some (.ref (ad 0)), some (.int x1), some (.ref (ad 69)), none] [.ref q] n ad E Φ Ψ := by
    intro q
    refine j_astore_n (L' := [some (.ref (ad 0)), some (.int x1), some (.ref (ad 69)), some (.ref q)]) dL_goneIn_12 (by decide) rfl rfl ?_
    refine j_iconst (v := 1) dL_goneIn_13 (by decide) ?_
    exact j_iret dL_goneIn_14 rfl h
  refine j_aload_n dL_goneIn_0 rfl ?_
  refine j_iconst (v := nI 0) dL_goneIn_1 (by decide) ?_
  refine j_aload_n dL_goneIn_2 rfl ?_
  refine j_iload_n dL_goneIn_3 rfl ?_
  exact j_cVx (As := [.int x1]) (rest := [.int (nI 0), .ref (ad 69)]) cm_X3_goneIn ci_X3_goneIn cs_X3_goneIn rfl ln_L_111 (ci := 3) rfl dL_goneIn_4 (d' := 10) (by decide) (by omega) h0 rfl rfl (Nat.le_of_ble_eq_true rfl) (Nat.le_of_ble_eq_true rfl) H (Or.inr ⟨[], ⟨0, 9, 12, 13⟩, [], "java/lang/IllegalArgumentException", rfl, (fun z hz => by cases hz), by decide, by decide, cl_L_13, ca_IllegalArgumentException, fun q => hc q⟩)
set_option maxRecDepth 100000 in
set_option maxHeartbeats 4000000 in
theorem h_sunWanted_ok {g : jG} {n : Nat} {ad : Nat → Nat} {E : Nat → va_E} {fs : List Value} (x1 : Int32) (hn : 70 ≤ n) (h0 : E 0 = .inr (3, fs)) {v : Int32} {P : (Nat → va_E) → Prop} (h69 : ∀ E1, P E1 → ∃ o, E1 69 = aL g 1 o) (H : RetP g mX3_sunWanted 10 [.ref (ad 0), .int x1] n ad E (some (.int v)) P) : HOk g mL_sunWanted 11 [.ref (ad 0), .int x1, .ref (ad 69)] n ad E v.toInt64 P := by
  intro Φ Ψ h
  show J g mL_sunWanted 11 0 0 0 [some (.ref (ad 0)), some (.int x1), some (.ref (ad 69)), none] [] n ad E Φ Ψ
  refine j_aload_n dL_sunWanted_0 rfl ?_
  refine j_iconst (v := nI 0) dL_sunWanted_1 (by decide) ?_
  refine j_aload_n dL_sunWanted_2 rfl ?_
  refine j_iload_n dL_sunWanted_3 rfl ?_
  refine j_cVp (As := [.int x1]) (rest := [.int (nI 0), .ref (ad 69)]) cm_X3_sunWanted ci_X3_sunWanted cs_X3_sunWanted rfl ln_L_114 (ci := 3) rfl dL_sunWanted_4 (d' := 10) (by decide) (by omega) h0 rfl rfl (Nat.le_of_ble_eq_true rfl) (Nat.le_of_ble_eq_true rfl) H (fun E1 q1 => ?_)
  obtain ⟨o, ho⟩ := h69 E1 q1
  show J g mL_sunWanted 11 0 0 7 [some (.ref (ad 0)), some (.int x1), some (.ref (ad 69)), none] [.int v, .int (nI 0), .ref (ad 69)] n ad E1 Φ Ψ
  refine j_i2l dL_sunWanted_7 ?_
  refine j_last (j := 0) dL_sunWanted_8 (by omega) ho (by decide) (by omega) ?_
  refine j_goto (tgt := 15) dL_sunWanted_9 (by decide) ?_
  refine j_iconst (v := 0) dL_sunWanted_15 (by decide) ?_
  exact j_iret dL_sunWanted_16 rfl (h E1 o q1 ho)
set_option maxRecDepth 100000 in
set_option maxHeartbeats 4000000 in
theorem h_sunWanted_iae {g : jG} {n : Nat} {ad : Nat → Nat} {E : Nat → va_E} {fs : List Value} (x1 : Int32) (hn : 70 ≤ n) (h0 : E 0 = .inr (3, fs)) (H : Thr g mX3_sunWanted 10 [.ref (ad 0), .int x1] n ad E "java/lang/IllegalArgumentException") : HBad g mL_sunWanted 11 [.ref (ad 0), .int x1, .ref (ad 69)] n ad E (1 : Int32) := by
  intro Φ Ψ h
  show J g mL_sunWanted 11 1 6 0 [some (.ref (ad 0)), some (.int x1), some (.ref (ad 69)), none] [] n ad E Φ Ψ
  have hc : ∀ q : Nat, J g mL_sunWanted 11 0 0 12 [some (.ref (ad 0)), some (.int x1), some (.ref (ad 69)), none] [.ref q] n ad E Φ Ψ := by
    intro q
    refine j_astore_n (L' := [some (.ref (ad 0)), some (.int x1), some (.ref (ad 69)), some (.ref q)]) dL_sunWanted_12 (by decide) rfl rfl ?_
    refine j_iconst (v := 1) dL_sunWanted_13 (by decide) ?_
    exact j_iret dL_sunWanted_14 rfl h
  refine j_aload_n dL_sunWanted_0 rfl ?_
  refine j_iconst (v := nI 0) dL_sunWanted_1 (by decide) ?_
  refine j_aload_n dL_sunWanted_2 rfl ?_
  refine j_iload_n dL_sunWanted_3 rfl ?_
  exact j_cVx (As := [.int x1]) (rest := [.int (nI 0), .ref (ad 69)]) cm_X3_sunWanted ci_X3_sunWanted cs_X3_sunWanted rfl ln_L_114 (ci := 3) rfl dL_sunWanted_4 (d' := 10) (by decide) (by omega) h0 rfl rfl (Nat.le_of_ble_eq_true rfl) (Nat.le_of_ble_eq_true rfl) H (Or.inr ⟨[], ⟨0, 9, 12, 13⟩, [], "java/lang/IllegalArgumentException", rfl, (fun z hz => by cases hz), by decide, by decide, cl_L_13, ca_IllegalArgumentException, fun q => hc q⟩)
set_option maxRecDepth 100000 in
set_option maxHeartbeats 4000000 in
theorem h_bestEdge_ok {g : jG} {n : Nat} {ad : Nat → Nat} {E : Nat → va_E} {fs : List Value} (x1 x2 : Int32) (hn : 70 ≤ n) (h0 : E 0 = .inr (3, fs)) {v : Int32} {P : (Nat → va_E) → Prop} (h69 : ∀ E1, P E1 → ∃ o, E1 69 = aL g 1 o) (H : RetP g mX3_bestEdge 10 [.ref (ad 0), .int x1, .int x2] n ad E (some (.int v)) P) : HOk g mL_bestEdge 11 [.ref (ad 0), .int x1, .int x2, .ref (ad 69)] n ad E v.toInt64 P := by
  intro Φ Ψ h
  show J g mL_bestEdge 11 0 0 0 [some (.ref (ad 0)), some (.int x1), some (.int x2), some (.ref (ad 69)), none] [] n ad E Φ Ψ
  refine j_aload_n dL_bestEdge_0 rfl ?_
  refine j_iconst (v := nI 0) dL_bestEdge_1 (by decide) ?_
  refine j_aload_n dL_bestEdge_2 rfl ?_
  refine j_iload_n dL_bestEdge_3 rfl ?_
  refine j_iload_n dL_bestEdge_4 rfl ?_
  refine j_cVp (As := [.int x1, .int x2]) (rest := [.int (nI 0), .ref (ad 69)]) cm_X3_bestEdge ci_X3_bestEdge cs_X3_bestEdge rfl ln_L_117 (ci := 3) rfl dL_bestEdge_5 (d' := 10) (by decide) (by omega) h0 rfl rfl (Nat.le_of_ble_eq_true rfl) (Nat.le_of_ble_eq_true rfl) H (fun E1 q1 => ?_)
  obtain ⟨o, ho⟩ := h69 E1 q1
  show J g mL_bestEdge 11 0 0 8 [some (.ref (ad 0)), some (.int x1), some (.int x2), some (.ref (ad 69)), none] [.int v, .int (nI 0), .ref (ad 69)] n ad E1 Φ Ψ
  refine j_i2l dL_bestEdge_8 ?_
  refine j_last (j := 0) dL_bestEdge_9 (by omega) ho (by decide) (by omega) ?_
  refine j_goto (tgt := 21) dL_bestEdge_10 (by decide) ?_
  refine j_iconst (v := 0) dL_bestEdge_21 (by decide) ?_
  exact j_iret dL_bestEdge_22 rfl (h E1 o q1 ho)
set_option maxRecDepth 100000 in
set_option maxHeartbeats 4000000 in
theorem h_bestEdge_bad {g : jG} {n : Nat} {ad : Nat → Nat} {E : Nat → va_E} {fs : List Value} (x1 x2 : Int32) (hn : 70 ≤ n) (h0 : E 0 = .inr (3, fs)) (H : Thr g mX3_bestEdge 10 [.ref (ad 0), .int x1, .int x2] n ad E "java/lang/IndexOutOfBoundsException") : HBad g mL_bestEdge 11 [.ref (ad 0), .int x1, .int x2, .ref (ad 69)] n ad E (1 : Int32) := by
  intro Φ Ψ h
  show J g mL_bestEdge 11 1 6 0 [some (.ref (ad 0)), some (.int x1), some (.int x2), some (.ref (ad 69)), none] [] n ad E Φ Ψ
  have hc : ∀ q : Nat, J g mL_bestEdge 11 0 0 13 [some (.ref (ad 0)), some (.int x1), some (.int x2), some (.ref (ad 69)), none] [.ref q] n ad E Φ Ψ := by
    intro q
    refine j_astore (L' := [some (.ref (ad 0)), some (.int x1), some (.int x2), some (.ref (ad 69)), some (.ref q)]) dL_bestEdge_13 (by decide) rfl rfl ?_
    refine j_iconst (v := 1) dL_bestEdge_15 (by decide) ?_
    exact j_iret dL_bestEdge_16 rfl h
  refine j_aload_n dL_bestEdge_0 rfl ?_
  refine j_iconst (v := nI 0) dL_bestEdge_1 (by decide) ?_
  refine j_aload_n dL_bestEdge_2 rfl ?_
  refine j_iload_n dL_bestEdge_3 rfl ?_
  refine j_iload_n dL_bestEdge_4 rfl ?_
  exact j_cVx (As := [.int x1, .int x2]) (rest := [.int (nI 0), .ref (ad 69)]) cm_X3_bestEdge ci_X3_bestEdge cs_X3_bestEdge rfl ln_L_117 (ci := 3) rfl dL_bestEdge_5 (d' := 10) (by decide) (by omega) h0 rfl rfl (Nat.le_of_ble_eq_true rfl) (Nat.le_of_ble_eq_true rfl) H (Or.inr ⟨[], ⟨0, 10, 13, 19⟩, [⟨0, 10, 17, 13⟩], "java/lang/IndexOutOfBoundsException", rfl, (fun z hz => by cases hz), by decide, by decide, cl_L_19, ca_IndexOutOfBoundsException, fun q => hc q⟩)
set_option maxRecDepth 100000 in
set_option maxHeartbeats 4000000 in
theorem h_bestEdge_iae {g : jG} {n : Nat} {ad : Nat → Nat} {E : Nat → va_E} {fs : List Value} (x1 x2 : Int32) (hn : 70 ≤ n) (h0 : E 0 = .inr (3, fs)) (H : Thr g mX3_bestEdge 10 [.ref (ad 0), .int x1, .int x2] n ad E "java/lang/IllegalArgumentException") : HBad g mL_bestEdge 11 [.ref (ad 0), .int x1, .int x2, .ref (ad 69)] n ad E (2 : Int32) := by
  intro Φ Ψ h
  show J g mL_bestEdge 11 1 6 0 [some (.ref (ad 0)), some (.int x1), some (.int x2), some (.ref (ad 69)), none] [] n ad E Φ Ψ
  have hc : ∀ q : Nat, J g mL_bestEdge 11 0 0 17 [some (.ref (ad 0)), some (.int x1), some (.int x2), some (.ref (ad 69)), none] [.ref q] n ad E Φ Ψ := by
    intro q
    refine j_astore (L' := [some (.ref (ad 0)), some (.int x1), some (.int x2), some (.ref (ad 69)), some (.ref q)]) dL_bestEdge_17 (by decide) rfl rfl ?_
    refine j_iconst (v := 2) dL_bestEdge_19 (by decide) ?_
    exact j_iret dL_bestEdge_20 rfl h
  refine j_aload_n dL_bestEdge_0 rfl ?_
  refine j_iconst (v := nI 0) dL_bestEdge_1 (by decide) ?_
  refine j_aload_n dL_bestEdge_2 rfl ?_
  refine j_iload_n dL_bestEdge_3 rfl ?_
  refine j_iload_n dL_bestEdge_4 rfl ?_
  exact j_cVx (As := [.int x1, .int x2]) (rest := [.int (nI 0), .ref (ad 69)]) cm_X3_bestEdge ci_X3_bestEdge cs_X3_bestEdge rfl ln_L_117 (ci := 3) rfl dL_bestEdge_5 (d' := 10) (by decide) (by omega) h0 rfl rfl (Nat.le_of_ble_eq_true rfl) (Nat.le_of_ble_eq_true rfl) H (Or.inr ⟨[⟨0, 10, 13, 19⟩], ⟨0, 10, 17, 13⟩, [], "java/lang/IllegalArgumentException", rfl, (fun z hz => by rw [List.mem_singleton.mp hz]; exact Or.inr ⟨by decide, "java/lang/IndexOutOfBoundsException", cl_L_19, List.mem_cons_self⟩), by decide, by decide, cl_L_13, ca_IllegalArgumentException, fun q => hc q⟩)
set_option maxRecDepth 100000 in
set_option maxHeartbeats 4000000 in
theorem h_bestSwap_ok {g : jG} {n : Nat} {ad : Nat → Nat} {E : Nat → va_E} {fs : List Value} (x1 : Int32) (hn : 70 ≤ n) (h0 : E 0 = .inr (3, fs)) {v : Int32} {P : (Nat → va_E) → Prop} (h69 : ∀ E1, P E1 → ∃ o, E1 69 = aL g 1 o) (H : RetP g mX3_bestSwap 10 [.ref (ad 0), .int x1] n ad E (some (.int v)) P) : HOk g mL_bestSwap 11 [.ref (ad 0), .int x1, .ref (ad 69)] n ad E v.toInt64 P := by
  intro Φ Ψ h
  show J g mL_bestSwap 11 0 0 0 [some (.ref (ad 0)), some (.int x1), some (.ref (ad 69)), none] [] n ad E Φ Ψ
  refine j_aload_n dL_bestSwap_0 rfl ?_
  refine j_iconst (v := nI 0) dL_bestSwap_1 (by decide) ?_
  refine j_aload_n dL_bestSwap_2 rfl ?_
  refine j_iload_n dL_bestSwap_3 rfl ?_
  refine j_cVp (As := [.int x1]) (rest := [.int (nI 0), .ref (ad 69)]) cm_X3_bestSwap ci_X3_bestSwap cs_X3_bestSwap rfl ln_L_120 (ci := 3) rfl dL_bestSwap_4 (d' := 10) (by decide) (by omega) h0 rfl rfl (Nat.le_of_ble_eq_true rfl) (Nat.le_of_ble_eq_true rfl) H (fun E1 q1 => ?_)
  obtain ⟨o, ho⟩ := h69 E1 q1
  show J g mL_bestSwap 11 0 0 7 [some (.ref (ad 0)), some (.int x1), some (.ref (ad 69)), none] [.int v, .int (nI 0), .ref (ad 69)] n ad E1 Φ Ψ
  refine j_i2l dL_bestSwap_7 ?_
  refine j_last (j := 0) dL_bestSwap_8 (by omega) ho (by decide) (by omega) ?_
  refine j_goto (tgt := 15) dL_bestSwap_9 (by decide) ?_
  refine j_iconst (v := 0) dL_bestSwap_15 (by decide) ?_
  exact j_iret dL_bestSwap_16 rfl (h E1 o q1 ho)
set_option maxRecDepth 100000 in
set_option maxHeartbeats 4000000 in
theorem h_bestSwap_bad {g : jG} {n : Nat} {ad : Nat → Nat} {E : Nat → va_E} {fs : List Value} (x1 : Int32) (hn : 70 ≤ n) (h0 : E 0 = .inr (3, fs)) (H : Thr g mX3_bestSwap 10 [.ref (ad 0), .int x1] n ad E "java/lang/IndexOutOfBoundsException") : HBad g mL_bestSwap 11 [.ref (ad 0), .int x1, .ref (ad 69)] n ad E (1 : Int32) := by
  intro Φ Ψ h
  show J g mL_bestSwap 11 1 6 0 [some (.ref (ad 0)), some (.int x1), some (.ref (ad 69)), none] [] n ad E Φ Ψ
  have hc : ∀ q : Nat, J g mL_bestSwap 11 0 0 12 [some (.ref (ad 0)), some (.int x1), some (.ref (ad 69)), none] [.ref q] n ad E Φ Ψ := by
    intro q
    refine j_astore_n (L' := [some (.ref (ad 0)), some (.int x1), some (.ref (ad 69)), some (.ref q)]) dL_bestSwap_12 (by decide) rfl rfl ?_
    refine j_iconst (v := 1) dL_bestSwap_13 (by decide) ?_
    exact j_iret dL_bestSwap_14 rfl h
  refine j_aload_n dL_bestSwap_0 rfl ?_
  refine j_iconst (v := nI 0) dL_bestSwap_1 (by decide) ?_
  refine j_aload_n dL_bestSwap_2 rfl ?_
  refine j_iload_n dL_bestSwap_3 rfl ?_
  exact j_cVx (As := [.int x1]) (rest := [.int (nI 0), .ref (ad 69)]) cm_X3_bestSwap ci_X3_bestSwap cs_X3_bestSwap rfl ln_L_120 (ci := 3) rfl dL_bestSwap_4 (d' := 10) (by decide) (by omega) h0 rfl rfl (Nat.le_of_ble_eq_true rfl) (Nat.le_of_ble_eq_true rfl) H (Or.inr ⟨[], ⟨0, 9, 12, 19⟩, [], "java/lang/IndexOutOfBoundsException", rfl, (fun z hz => by cases hz), by decide, by decide, cl_L_19, ca_IndexOutOfBoundsException, fun q => hc q⟩)
