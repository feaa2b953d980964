/-! Constructors. -/
def O2 (g : jG) (w n : Nat) (ad : Nat → Nat) (E : Nat → va_E) : Option Value → jR := fun v n' ad' E' => v = none ∧ n' = n + 2 ∧ (∀ i, i < n → ad' i = ad i) ∧ (∀ k, k < n → k ≠ w → E' k = E k) ∧ E' w = .inr (2, [.ref (ad' n), .ref (ad' (n + 1)), .int 0, .int 0, .int 0]) ∧ E' n = aI g 128 (fun _ => 0) ∧ E' (n + 1) = aI g 16 (fun _ => 0)
def O1 (g : jG) (w lim n : Nat) (ad : Nat → Nat) (E : Nat → va_E) : Option Value → jR := fun v n' ad' E' => v = none ∧ n' = n + 1 + lim ∧ (∀ i, i < n → ad' i = ad i) ∧ (∀ k, k < n → k ≠ w → E' k = E k) ∧ E' w = .inr (1, [.ref (ad' n), .int 0, .int 0]) ∧ E' n = aO g lim (fun i => if i < lim then some (ad' (n + 1 + i)) else none) ∧ ∀ i, i < lim → E' (n + 1 + i) = aI g 128 (fun _ => 0)
def O0 (g : jG) (w n : Nat) (ad : Nat → Nat) (E : Nat → va_E) : Option Value → jR := fun v n' ad' E' => v = none ∧ n' = n + 1 + 8 ∧ (∀ i, i < n → ad' i = ad i) ∧ (∀ k, k < n → k ≠ w → E' k = E k) ∧ E' w = .inr (0, [.ref (ad' n), .int 0]) ∧ E' n = aO g 8 (fun i => if i < 8 then some (ad' (n + 1 + i)) else none) ∧ ∀ i, i < 8 → E' (n + 1 + i) = aI g 8 (fun _ => 0)
set_option maxRecDepth 100000 in
set_option maxHeartbeats 4000000 in
theorem c_X2_init {g : jG} {n w : Nat} {ad : Nat → Nat} {E : Nat → va_E} (hw : w < n) (h : E w = .inr (2, [.null, .null, .int 0, .int 0, .int 0])) (Ψ : String → jR) : JE g mX2_init 2 2 144 [.ref (ad w)] n ad E (O2 g w n ad E) Ψ := by
  show J g mX2_init 2 2 144 0 [some (.ref (ad w))] [] n ad E (O2 g w n ad E) Ψ
  refine j_aload_n dX2_init_0 rfl ?_
  refine j_objInit ln_X2_3 ji_obj jc_obj dX2_init_1 (by decide) (Nat.le_of_ble_eq_true rfl) ?_
  refine j_aload_n dX2_init_4 rfl ?_
  refine j_sipush (v := nI 128) dX2_init_5 (by decide) ?_
  refine j_newI (bc := 1) (bs := 16) (N := 128) ac_int (by decide) dX2_init_8 (fun a1 g1 => ?_)
  rw [← g1 w hw]
  refine j_put fl_X2_9 fp_X2 dX2_init_10 (by omega) ((up_ne (Ne.symm (Nat.ne_of_gt hw))).trans h) (Or.inr ⟨rfl, rfl, tt_of 39 (by decide +kernel) rfl, rfl⟩) rfl rfl (Nat.le_of_ble_eq_true rfl) ?_
  refine j_aload_n dX2_init_13 rfl ?_
  refine j_bipush (v := nI 16) dX2_init_14 (by decide) ?_
  refine j_newI (bc := 0) (bs := 0) (N := 16) ac_int (by decide) dX2_init_16 (fun a2 g2 => ?_)
  rw [← g2 w (by omega), ← g2 n (by omega)]
  refine j_put fl_X2_15 fp_X2 dX2_init_18 (by omega) ((up_ne (by omega)).trans up_eq) (Or.inr ⟨rfl, rfl, tt_of 42 (by decide +kernel) rfl, rfl⟩) rfl rfl (Nat.le_of_ble_eq_true rfl) ?_
  refine j_E (E' := va_up (va_up (va_up E n (aI g 128 (fun _ => 0))) (n + 1) (aI g 16 (fun _ => 0))) w (.inr (2, [.ref (a2 n), .ref (a2 (n + 1)), .int 0, .int 0, .int 0]))) (by funext j9; simp only [va_up]; split <;> simp_all) ?_
  exact j_vret dX2_init_21 rfl ⟨rfl, rfl, fun i hi => (g2 i (by omega)).trans (g1 i hi), fun k hk hne => (up_ne hne).trans ((up_ne (by omega)).trans (up_ne (by omega))), up_eq, (up_ne (by omega)).trans ((up_ne (by omega)).trans up_eq), (up_ne (by omega)).trans up_eq⟩
set_option maxRecDepth 100000 in
set_option maxHeartbeats 4000000 in
theorem c_X1_init {g : jG} {n w : Nat} {ad : Nat → Nat} {E : Nat → va_E} (hw : w < n) {lim : Nat} (hl : lim ≤ 30) (hm : (if (1 : Int32) < nI lim then nI lim else 1) = nI lim) (h : E w = .inr (1, [.null, .int 0, .int 0])) (Ψ : String → jR) : JE g mX1_init 2 (0 + 1 + lim) (0 + lim + lim * 128) [.ref (ad w), .int (nI lim)] n ad E (O1 g w lim n ad E) Ψ := by
  show J g mX1_init 2 (0 + 1 + lim) (0 + lim + lim * 128) 0 [some (.ref (ad w)), some (.int (nI lim))] [] n ad E (O1 g w lim n ad E) Ψ
  refine j_aload_n dX1_init_0 rfl ?_
  refine j_objInit ln_X1_3 ji_obj jc_obj dX1_init_1 (by decide) (Nat.le_of_ble_eq_true rfl) ?_
  refine j_aload_n dX1_init_4 rfl ?_
  refine j_iconst (v := 1) dX1_init_5 (by decide) ?_
  refine j_iload_n dX1_init_6 rfl ?_
  refine j_mmax ln_X1_9 js_max iz_java_lang_Math jc_max dX1_init_7 (by decide) (Nat.le_of_ble_eq_true rfl) ?_
  refine j_topi (y := nI lim) hm ?_
  refine j_sipush (v := nI 128) dX1_init_10 (by decide) ?_
  refine j_newII (N := lim) (K0 := 128) ac_int cl_X1_15 (by omega) (by decide) dX1_init_13 (fun a1 g1 => ?_)
  rw [← g1 w hw]
  generalize hG : (fun k => if k < n then E k else if k = n then aO g lim (fun i => if i < lim then some (a1 (n + 1 + i)) else none) else aI g 128 (fun _ => 0)) = G1
  have hGw : G1 w = .inr (1, [.null, .int 0, .int 0]) := by rw [← hG]; exact (if_pos hw).trans h
  show J g mX1_init 2 0 0 17 [some (.ref (a1 w)), some (.int (nI lim))] [.ref (a1 n), .ref (a1 w)] (n + 1 + lim) a1 G1 (O1 g w lim n ad E) Ψ
  refine j_put fl_X1_17 fp_X1 dX1_init_17 (by omega) hGw (Or.inr ⟨rfl, rfl, tt_of 75 (by decide +kernel) rfl, rfl⟩) rfl rfl (Nat.le_of_ble_eq_true rfl) ?_
  exact j_vret dX1_init_20 rfl ⟨rfl, rfl, fun i hi => g1 i hi, fun k hk hne => (up_ne hne).trans (by rw [← hG]; exact if_pos hk), up_eq, (up_ne (by omega)).trans (by rw [← hG]; exact (if_neg (Nat.lt_irrefl n)).trans (if_pos rfl)), fun i hi => (up_ne (by omega)).trans (by rw [← hG]; exact (if_neg (by omega)).trans (if_neg (by omega)))⟩
set_option maxRecDepth 100000 in
set_option maxHeartbeats 4000000 in
theorem c_X0_init {g : jG} {n w : Nat} {ad : Nat → Nat} {E : Nat → va_E} (hw : w < n) (h : E w = .inr (0, [.null, .int 0])) (Ψ : String → jR) : JE g mX0_init 2 (0 + 1 + 8) (0 + 8 + 8 * 8) [.ref (ad w)] n ad E (O0 g w n ad E) Ψ := by
  show J g mX0_init 2 (0 + 1 + 8) (0 + 8 + 8 * 8) 0 [some (.ref (ad w))] [] n ad E (O0 g w n ad E) Ψ
  refine j_aload_n dX0_init_0 rfl ?_
  refine j_objInit ln_X0_3 ji_obj jc_obj dX0_init_1 (by decide) (Nat.le_of_ble_eq_true rfl) ?_
  refine j_aload_n dX0_init_4 rfl ?_
  refine j_bipush (v := nI 8) dX0_init_5 (by decide) ?_
  refine j_bipush (v := nI 8) dX0_init_7 (by decide) ?_
  refine j_newII (N := 8) (K0 := 8) ac_int cl_X0_9 (by omega) (by decide) dX0_init_9 (fun a1 g1 => ?_)
  rw [← g1 w hw]
  generalize hG : (fun k => if k < n then E k else if k = n then aO g 8 (fun i => if i < 8 then some (a1 (n + 1 + i)) else none) else aI g 8 (fun _ => 0)) = G1
  have hGw : G1 w = .inr (0, [.null, .int 0]) := by rw [← hG]; exact (if_pos hw).trans h
  show J g mX0_init 2 0 0 13 [some (.ref (a1 w))] [.ref (a1 n), .ref (a1 w)] (n + 1 + 8) a1 G1 (O0 g w n ad E) Ψ
  refine j_put fl_X0_11 fp_X0 dX0_init_13 (by omega) hGw (Or.inr ⟨rfl, rfl, tt_of 93 (by decide +kernel) rfl, rfl⟩) rfl rfl (Nat.le_of_ble_eq_true rfl) ?_
  exact j_vret dX0_init_16 rfl ⟨rfl, rfl, fun i hi => g1 i hi, fun k hk hne => (up_ne hne).trans (by rw [← hG]; exact if_pos hk), up_eq, (up_ne (by omega)).trans (by rw [← hG]; exact (if_neg (Nat.lt_irrefl n)).trans (if_pos rfl)), fun i hi => (up_ne (by omega)).trans (by rw [← hG]; exact (if_neg (by omega)).trans (if_neg (by omega)))⟩
