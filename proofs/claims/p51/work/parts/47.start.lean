/-! The law from its entry to its end. -/
set_option maxRecDepth 100000 in
set_option maxHeartbeats 4000000 in
theorem lw_all {g : jG} {n : Nat} {ad : Nat → Nat} {E : Nat → va_E} {i : Nat} (Q : AS i g n ad E) (hi : i ≤ 40) (hL : g.1.2.2.1 ≤ 260) {Φ : Option Value → jR} {Ψ : String → jR} (hΦ : ∀ n ad E, Φ (some (.int 1)) n ad E) : J g mL_law 13 (500 * (4 - 0)) (9000 * (4 - 0)) 22 [some (.ref g.1.2.1), some (.ref (ad 0)), some (.ref (ad 63)), some (.int (nI 0)), none, none, none, none, none, none, none, none, none, none, none, none, none, none, none, none, none, none, none, none, none, none, none, none, none, none, none, none, none, none, none, none, none, none, none, none, none, none] [] n ad E Φ Ψ := by
  suffices hall : ∀ (i9 n9 : Nat) (a9 : Nat → Nat) (E9 : Nat → va_E), i9 ≤ 40 + 15 * 0 → AS i9 g n9 a9 E9 → J g mL_law 13 (500 * (4 - 0)) (9000 * (4 - 0)) 22 [some (.ref g.1.2.1), some (.ref (a9 0)), some (.ref (a9 63)), some (.int (nI 0)), none, none, none, none, none, none, none, none, none, none, none, none, none, none, none, none, none, none, none, none, none, none, none, none, none, none, none, none, none, none, none, none, none, none, none, none, none, none] [] n9 a9 E9 Φ Ψ from hall i n ad E hi Q
  refine up_ind (P := fun (t : Nat) => ∀ (i9 n9 : Nat) (a9 : Nat → Nat) (E9 : Nat → va_E), i9 ≤ 40 + 15 * t → AS i9 g n9 a9 E9 → J g mL_law 13 (500 * (4 - t)) (9000 * (4 - t)) 22 [some (.ref g.1.2.1), some (.ref (a9 0)), some (.ref (a9 63)), some (.int (nI t)), none, none, none, none, none, none, none, none, none, none, none, none, none, none, none, none, none, none, none, none, none, none, none, none, none, none, none, none, none, none, none, none, none, none, none, none, none, none] [] n9 a9 E9 Φ Ψ) (N := 4) 0 ?_ 4 (by omega) ?_
  · intro t ht0 ht ih i9 n9 a9 E9 hi9 Q9
    refine j_bud (bc' := 500 * (4 - (t + 1)) + 500) (bs' := 9000 * (4 - (t + 1)) + 9000) (by omega) (by omega) ?_
    refine lw_round Q9 (by omega) hL ht (fun i8 n8 a8 E8 hi8 hn8 g8 Q8 => ?_)
    show J g mL_law 13 (500 * (4 - (t + 1))) (9000 * (4 - (t + 1))) 1349 [some (.ref g.1.2.1), some (.ref (a8 0)), some (.ref (a8 63)), some (.int (nI t)), none, none, none, none, none, none, none, none, none, none, none, none, none, none, none, none, none, none, none, none, none, none, none, none, none, none, none, none, none, none, none, none, none, none, none, none, none, none] [] n8 a8 E8 Φ Ψ
    refine j_iinc (v := nI (t + 1)) (L' := [some (.ref g.1.2.1), some (.ref (a8 0)), some (.ref (a8 63)), some (.int (nI (t + 1))), none, none, none, none, none, none, none, none, none, none, none, none, none, none, none, none, none, none, none, none, none, none, none, none, none, none, none, none, none, none, none, none, none, none, none, none, none, none]) dL_law_1349 (by decide) rfl (nI_1 _) rfl rfl ?_
    refine j_goto (tgt := 22) dL_law_1352 (by decide) ?_
    exact ih i8 n8 a8 E8 (by omega) Q8
  · intro i9 n9 a9 E9 hi9 Q9
    obtain ⟨F, S, hrs, su, gone, lv, ed, old, cnt, dr, mc, mr, m, e, A, B, C, R, L⟩ := Q9
    obtain ⟨hF8, hS16, hF1, hS1, hold, hcn, hmc, hN, hn63⟩ := C.bd
    obtain ⟨iL0, iE0, r0, ia0, im0, V0, -⟩ := id R
    show J g mL_law 13 (500 * (4 - 4)) (9000 * (4 - 4)) 22 [some (.ref g.1.2.1), some (.ref (a9 0)), some (.ref (a9 63)), some (.int (nI 4)), none, none, none, none, none, none, none, none, none, none, none, none, none, none, none, none, none, none, none, none, none, none, none, none, none, none, none, none, none, none, none, none, none, none, none, none, none, none] [] n9 a9 E9 Φ Ψ
    refine j_iload_n dL_law_22 rfl ?_
    refine j_iconst (v := nI 4) dL_law_23 (by decide) ?_
    refine j_icmp_ge_t (tgt := 1355) dL_law_24 (by decide) (nI_le' (by omega) (by omega) (by omega)) ?_
    refine j_aload_n dL_law_1355 rfl ?_
    refine j_aload_n dL_law_1356 rfl ?_
    refine j_cV (As := [.ref (a9 0)]) (rest := []) cm_X4_isSame ci_X4_isSame cs_X4_isSame rfl ln_L_223 (ci := 4) rfl dL_law_1357 (d' := 10) (by decide) V0.1.1 V0.2.2.2.1 rfl rfl (Nat.le_of_ble_eq_true rfl) (Nat.le_of_ble_eq_true rfl) (s_X4_isSame C R L) ?_
    exact j_zret dL_law_1360 rfl rfl (hΦ _ _ _)
set_option maxRecDepth 100000 in
set_option maxHeartbeats 4000000 in
theorem law_start {g : jG} {ad : Nat → Nat} {E : Nat → va_E} {Φ : Option Value → jR} {Ψ : String → jR} (hL : g.1.2.2.1 ≤ 260) (hΦ : ∀ n ad E, Φ (some (.int 1)) n ad E) : J g mL_law 13 600086 7301442 0 [some (.ref g.1.2.1), none, none, none, none, none, none, none, none, none, none, none, none, none, none, none, none, none, none, none, none, none, none, none, none, none, none, none, none, none, none, none, none, none, none, none, none, none, none, none, none, none] [] 0 ad E Φ Ψ := by
  refine j_bud (bc' := 5000 + 1) (bs' := 90000 + 7) (by decide) (by decide) ?_
  refine j_new (ci := 3) (bc := 5000) (bs := 90000) (fs := [.null, .null, .null, .null, .null, .int 0, .long 0]) rfl wcl_X3 fp_X3 cl_L_30 in_X3 iz_X3 (fun j hj => by rcases (by omega : j = 0 ∨ j = 1 ∨ j = 2 ∨ j = 3 ∨ j = 4 ∨ j = 5 ∨ j = 6) with rfl | rfl | rfl | rfl | rfl | rfl | rfl <;> rfl) dL_law_0 (fun a1 g1 => ?_)
  refine j_dup dL_law_3 rfl ?_
  refine j_bud (bc' := 62 + 4900) (bs' := 5796 + 84000) (by decide) (by decide) ?_
  refine j_callI (As := []) (rest := [.ref (a1 0)]) (bc := 4900) (bs := 84000) cm_X3_init rfl rfl ci_X3_init rfl (Or.inl ln_L_113) dL_law_4 (d' := 9) (by decide) rfl rfl (Nat.le_of_ble_eq_true rfl) (Nat.le_of_ble_eq_true rfl) (c_X3_init up_eq (fun _ _ _ _ => False)) (fun v n' a2 E2 q => ?_) (fun _ _ _ _ q => q.elim)
  obtain ⟨hv, hn', hz, C⟩ := q
  subst hv
  subst hn'
  rw [← hz]
  show J g mL_law 13 4900 84000 7 [some (.ref g.1.2.1), none, none, none, none, none, none, none, none, none, none, none, none, none, none, none, none, none, none, none, none, none, none, none, none, none, none, none, none, none, none, none, none, none, none, none, none, none, none, none, none, none] [.ref (a2 0)] 63 a2 E2 Φ Ψ
  refine j_astore_n (L' := [some (.ref g.1.2.1), some (.ref (a2 0)), none, none, none, none, none, none, none, none, none, none, none, none, none, none, none, none, none, none, none, none, none, none, none, none, none, none, none, none, none, none, none, none, none, none, none, none, none, none, none, none]) dL_law_7 (by decide) rfl rfl ?_
  refine j_aload_n dL_law_8 rfl ?_
  refine j_aload_n dL_law_9 rfl ?_
  refine j_bud (bc' := 2100 + 2000) (bs' := 44000 + 36000) (by decide) (by decide) ?_
  refine j_callS (As := [.ref (a2 0), .ref g.1.2.1]) (rest := []) (d' := 12) (Φ' := OB g a2) (Ψ' := fun _ _ _ _ => False) cm_L_build ct_L_build ln_L_114 dL_law_10 (by decide) rfl rfl (Nat.le_of_ble_eq_true rfl) (Nat.le_of_ble_eq_true rfl) (c_build C hL _) (fun v3 n3 a3 E3 q3 => ?_) (fun _ _ _ _ q => q.elim)
  obtain ⟨rfl, hn3, g3, i, hi, Q⟩ := q3
  rw [← g3 0 (by decide)]
  show J g mL_law 13 2000 36000 13 [some (.ref g.1.2.1), some (.ref (a3 0)), none, none, none, none, none, none, none, none, none, none, none, none, none, none, none, none, none, none, none, none, none, none, none, none, none, none, none, none, none, none, none, none, none, none, none, none, none, none, none, none] [.ref (a3 63)] n3 a3 E3 Φ Ψ
  refine j_astore_n (L' := [some (.ref g.1.2.1), some (.ref (a3 0)), some (.ref (a3 63)), none, none, none, none, none, none, none, none, none, none, none, none, none, none, none, none, none, none, none, none, none, none, none, none, none, none, none, none, none, none, none, none, none, none, none, none, none, none, none]) dL_law_13 (by decide) rfl rfl ?_
  refine j_aload_n dL_law_14 rfl ?_
  refine j_ifnonnull (tgt := 20) dL_law_15 (by decide) ?_
  refine j_iconst (v := nI 0) dL_law_20 (by decide) ?_
  refine j_istore_n (L' := [some (.ref g.1.2.1), some (.ref (a3 0)), some (.ref (a3 63)), some (.int (nI 0)), none, none, none, none, none, none, none, none, none, none, none, none, none, none, none, none, none, none, none, none, none, none, none, none, none, none, none, none, none, none, none, none, none, none, none, none, none, none]) dL_law_21 (by decide) rfl rfl ?_
  exact lw_all Q hi hL hΦ
