/-! The two large constructors. -/
theorem wat.tr {g : jG} {n n' : Nat} {ad ad' : Nat → Nat} {E E' : Nat → va_E} {w iL iE F S : Nat} {su : Int32} {lv ed : Nat → Int32} (W : wat g n ad E w iL iE F S su lv ed) (hn : n ≤ n') (ha : ∀ i, i < n → ad' i = ad i) (hE : ∀ k, k < n → k ≠ 0 → E' k = E k) (hp : w ≠ 0 ∧ iL ≠ 0 ∧ iE ≠ 0) : wat g n' ad' E' w iL iE F S su lv ed := by
  obtain ⟨⟨a, b, c⟩, d, e, f, h, r⟩ := W
  exact ⟨⟨by omega, by omega, by omega⟩, d, ((hE w a hp.1).trans e).trans (by rw [ha iL b, ha iE c]), (hE iL b hp.2.1).trans f, (hE iE c hp.2.2).trans h, r⟩
theorem rws.tr {g : jG} {n n' : Nat} {ad ad' : Nat → Nat} {E E' : Nat → va_E} {rw' iO base lim old cnt : Nat} {rows : Nat → Nat → Int32} (Z : rws g n ad E rw' iO base lim old cnt rows) (hn : n ≤ n') (ha : ∀ i, i < n → ad' i = ad i) (hE : ∀ k, k < n → k ≠ 0 → E' k = E k) (hp : rw' ≠ 0 ∧ iO ≠ 0 ∧ base ≠ 0) : rws g n' ad' E' rw' iO base lim old cnt rows := by
  obtain ⟨⟨a, b, c⟩, d, e, f, h, r⟩ := Z
  refine ⟨⟨by omega, by omega, by omega⟩, d, ((hE rw' a hp.1).trans e).trans (by rw [ha iO b]), ((hE iO b hp.2.1).trans f).trans ?_, fun i hi => (hE _ (by omega) (by omega)).trans (h i hi), r⟩
  congr 1
  funext i
  by_cases q : i < lim
  · rw [if_pos q, if_pos q, ha (base + i) (by omega)]
  · rw [if_neg q, if_neg q]
theorem frs.tr {g : jG} {n n' : Nat} {ad ad' : Nat → Nat} {E E' : Nat → va_E} {fp iH base fc : Nat} {Hm : Nat → Nat → Int32} (Z : frs g n ad E fp iH base fc Hm) (hn : n ≤ n') (ha : ∀ i, i < n → ad' i = ad i) (hE : ∀ k, k < n → k ≠ 0 → E' k = E k) (hp : fp ≠ 0 ∧ iH ≠ 0 ∧ base ≠ 0) : frs g n' ad' E' fp iH base fc Hm := by
  obtain ⟨⟨a, b, c⟩, d, e, f, h, r⟩ := Z
  refine ⟨⟨by omega, by omega, by omega⟩, d, ((hE fp a hp.1).trans e).trans (by rw [ha iH b]), ((hE iH b hp.2.1).trans f).trans ?_, fun i hi => (hE _ (by omega) (by omega)).trans (h i hi), r⟩
  congr 1
  funext i
  by_cases q : i < 8
  · rw [if_pos q, if_pos q, ha (base + i) (by omega)]
  · rw [if_neg q, if_neg q]
def O3 (g : jG) (ad : Nat → Nat) : Option Value → jR := fun v n' ad' E' => v = none ∧ n' = 63 ∧ ad' 0 = ad 0 ∧ CR g 63 ad' E' 4 8 0 1 0 (cpyN (fun _ => 0) (fun _ => 0) 128) (cpyN (fun _ => 50) (fun _ => 0) 16) 0 0 (fun _ _ => 0) 0 (fun _ _ => 0)
set_option maxRecDepth 100000 in
set_option maxHeartbeats 4000000 in
theorem c_X3_init {g : jG} {ad : Nat → Nat} {E : Nat → va_E} (h : E 0 = .inr (3, [.null, .null, .null, .null, .null, .int 0, .long 0])) (Ψ : String → jR) : JE g mX3_init 9 62 5796 [.ref (ad 0)] 1 ad E (O3 g ad) Ψ := by
  show J g mX3_init 9 62 5796 0 [some (.ref (ad 0))] [] 1 ad E (O3 g ad) Ψ
  refine j_aload_n dX3_init_0 rfl ?_
  refine j_objInit ln_X3_3 ji_obj jc_obj dX3_init_1 (by decide) (Nat.le_of_ble_eq_true rfl) ?_
  show J g mX3_init 9 62 5796 4 [some (.ref (ad 0))] [] 1 ad E (O3 g ad) Ψ
  refine j_aload_n dX3_init_4 rfl ?_
  refine j_new (ci := 2) (bc := 61) (bs := 5791) (fs := [.null, .null, .int 0, .int 0, .int 0]) rfl wcl_X2 fp_X2 cl_X3_9 in_X2 iz_X2 (fun j hj => by rcases (by omega : j = 0 ∨ j = 1 ∨ j = 2 ∨ j = 3 ∨ j = 4) with rfl | rfl | rfl | rfl | rfl <;> rfl) dX3_init_5 (fun b0 g0 => ?_)
  rw [← g0 0 (by decide)]
  show J g mX3_init 9 61 5791 8 [some (.ref (b0 0))] [.ref (b0 1), .ref (b0 0)] 2 b0 (va_up E 1 (.inr (2, [.null, .null, .int 0, .int 0, .int 0]))) (O3 g ad) Ψ
  refine j_dup dX3_init_8 rfl ?_
  refine j_bud (bc' := 2 + 59) (bs' := 144 + 5647) (by decide) (by decide) ?_
  refine j_callI (As := []) (rest := [.ref (b0 1), .ref (b0 0)]) (bc := 59) (bs := 5647) cm_X2_init rfl rfl ci_X2_init rfl (Or.inr ln_X3_11) dX3_init_9 (d' := 2) (by decide) rfl rfl (Nat.le_of_ble_eq_true rfl) (Nat.le_of_ble_eq_true rfl) (c_X2_init (w := 1) (n := 2) (by decide) up_eq (fun _ _ _ _ => False)) (fun v n' c0 F0 q => ?_) (fun _ _ _ _ q => q.elim)
  obtain ⟨hv0, hn0, k0, fE0, fa0, fb0, fc0⟩ := q
  subst hv0
  subst hn0
  rw [← k0 0 (by decide), ← k0 1 (by decide)]
  have t0 : F0 0 = .inr (3, [.null, .null, .null, .null, .null, .int 0, .long 0]) := by have z := (fE0 0 (by decide) (by decide)).trans ((up_ne (by decide)).trans h); exact z
  show J g mX3_init 9 59 5647 12 [some (.ref (c0 0))] [.ref (c0 1), .ref (c0 0)] 4 c0 F0 (O3 g ad) Ψ
  refine j_put fl_X3_12 fp_X3 dX3_init_12 (by decide) t0 (Or.inr ⟨rfl, rfl, tt_of 108 (by decide +kernel) rfl, rfl⟩) rfl rfl (Nat.le_of_ble_eq_true rfl) ?_
  generalize hG0 : va_up F0 0 _ = G0
  have top0 : G0 0 = .inr (3, [.ref (c0 1), .null, .null, .null, .null, .int 0, .long 0]) := by rw [← hG0]; exact up_eq
  have pE0 : ∀ k, k < 1 → k ≠ 0 → G0 k = E k := fun k h1 h2 => by rw [← hG0]; exact (up_ne h2).trans ((fE0 k (by omega) (by omega)).trans (up_ne (by omega)))
  have pA0 : ∀ i, i < 1 → c0 i = ad i := fun i hi => (k0 i (by omega)).trans (g0 i hi)
  have Q0 : wat g 4 c0 G0 1 2 3 0 0 0 (fun _ => 0) (fun _ => 0) := ⟨by decide, by decide, (by rw [← hG0]; exact (up_ne (by decide)).trans fa0), (by rw [← hG0]; exact (up_ne (by decide)).trans fb0), (by rw [← hG0]; exact (up_ne (by decide)).trans fc0), by decide, by decide⟩
  show J g mX3_init 9 59 5647 15 [some (.ref (c0 0))] [] 4 c0 G0 (O3 g ad) Ψ
  refine j_aload_n dX3_init_15 rfl ?_
  refine j_new (ci := 2) (bc := 58) (bs := 5642) (fs := [.null, .null, .int 0, .int 0, .int 0]) rfl wcl_X2 fp_X2 cl_X3_9 in_X2 iz_X2 (fun j hj => by rcases (by omega : j = 0 ∨ j = 1 ∨ j = 2 ∨ j = 3 ∨ j = 4) with rfl | rfl | rfl | rfl | rfl <;> rfl) dX3_init_16 (fun b1 g1 => ?_)
  rw [← g1 0 (by decide)]
  show J g mX3_init 9 58 5642 19 [some (.ref (b1 0))] [.ref (b1 4), .ref (b1 0)] 5 b1 (va_up G0 4 (.inr (2, [.null, .null, .int 0, .int 0, .int 0]))) (O3 g ad) Ψ
  refine j_dup dX3_init_19 rfl ?_
  refine j_bud (bc' := 2 + 56) (bs' := 144 + 5498) (by decide) (by decide) ?_
  refine j_callI (As := []) (rest := [.ref (b1 4), .ref (b1 0)]) (bc := 56) (bs := 5498) cm_X2_init rfl rfl ci_X2_init rfl (Or.inr ln_X3_11) dX3_init_20 (d' := 2) (by decide) rfl rfl (Nat.le_of_ble_eq_true rfl) (Nat.le_of_ble_eq_true rfl) (c_X2_init (w := 4) (n := 5) (by decide) up_eq (fun _ _ _ _ => False)) (fun v n' c1 F1 q => ?_) (fun _ _ _ _ q => q.elim)
  obtain ⟨hv1, hn1, k1, fE1, fa1, fb1, fc1⟩ := q
  subst hv1
  subst hn1
  rw [← k1 0 (by decide), ← k1 4 (by decide)]
  have t1 : F1 0 = .inr (3, [.ref (c1 1), .null, .null, .null, .null, .int 0, .long 0]) := by have z := (fE1 0 (by decide) (by decide)).trans ((up_ne (by decide)).trans top0); rw [← g1 1 (by decide), ← k1 1 (by decide)] at z; exact z
  show J g mX3_init 9 56 5498 23 [some (.ref (c1 0))] [.ref (c1 4), .ref (c1 0)] 7 c1 F1 (O3 g ad) Ψ
  refine j_put fl_X3_16 fp_X3 dX3_init_23 (by decide) t1 (Or.inr ⟨rfl, rfl, tt_of 109 (by decide +kernel) rfl, rfl⟩) rfl rfl (Nat.le_of_ble_eq_true rfl) ?_
  generalize hG1 : va_up F1 0 _ = G1
  have top1 : G1 0 = .inr (3, [.ref (c1 1), .ref (c1 4), .null, .null, .null, .int 0, .long 0]) := by rw [← hG1]; exact up_eq
  have pE1 : ∀ k, k < 4 → k ≠ 0 → G1 k = G0 k := fun k h1 h2 => by rw [← hG1]; exact (up_ne h2).trans ((fE1 k (by omega) (by omega)).trans (up_ne (by omega)))
  have pA1 : ∀ i, i < 4 → c1 i = c0 i := fun i hi => (k1 i (by omega)).trans (g1 i hi)
  have Q0_1 := wat.tr Q0 (show 4 ≤ 7 by decide) pA1 pE1 (by decide)
  have Q1 : wat g 7 c1 G1 4 5 6 0 0 0 (fun _ => 0) (fun _ => 0) := ⟨by decide, by decide, (by rw [← hG1]; exact (up_ne (by decide)).trans fa1), (by rw [← hG1]; exact (up_ne (by decide)).trans fb1), (by rw [← hG1]; exact (up_ne (by decide)).trans fc1), by decide, by decide⟩
  show J g mX3_init 9 56 5498 26 [some (.ref (c1 0))] [] 7 c1 G1 (O3 g ad) Ψ
  refine j_aload_n dX3_init_26 rfl ?_
  refine j_new (ci := 1) (bc := 55) (bs := 5495) (fs := [.null, .int 0, .int 0]) rfl wcl_X1 fp_X1 cl_X3_19 in_X1 iz_X1 (fun j hj => by rcases (by omega : j = 0 ∨ j = 1 ∨ j = 2) with rfl | rfl | rfl <;> rfl) dX3_init_27 (fun b2 g2 => ?_)
  rw [← g2 0 (by decide)]
  show J g mX3_init 9 55 5495 30 [some (.ref (b2 0))] [.ref (b2 7), .ref (b2 0)] 8 b2 (va_up G1 7 (.inr (1, [.null, .int 0, .int 0]))) (O3 g ad) Ψ
  refine j_dup dX3_init_30 rfl ?_
  refine j_bipush (v := nI 30) dX3_init_31 (by decide) ?_
  refine j_bud (bc' := (0 + 1 + 30) + 24) (bs' := (0 + 30 + 30 * 128) + 1625) (by decide) (by decide) ?_
  refine j_callI (As := [.int (nI 30)]) (rest := [.ref (b2 7), .ref (b2 0)]) (bc := 24) (bs := 1625) cm_X1_init rfl rfl ci_X1_init rfl (Or.inl ln_X3_21) dX3_init_33 (d' := 2) (by decide) rfl rfl (Nat.le_of_ble_eq_true rfl) (Nat.le_of_ble_eq_true rfl) (c_X1_init (w := 7) (n := 8) (lim := 30) (by decide) (by decide) (by decide) up_eq (fun _ _ _ _ => False)) (fun v n' c2 F2 q => ?_) (fun _ _ _ _ q => q.elim)
  obtain ⟨hv2, hn2, k2, fE2, fa2, fb2, fc2⟩ := q
  subst hv2
  subst hn2
  rw [← k2 0 (by decide), ← k2 7 (by decide)]
  have t2 : F2 0 = .inr (3, [.ref (c2 1), .ref (c2 4), .null, .null, .null, .int 0, .long 0]) := by have z := (fE2 0 (by decide) (by decide)).trans ((up_ne (by decide)).trans top1); rw [← g2 1 (by decide), ← k2 1 (by decide)] at z; rw [← g2 4 (by decide), ← k2 4 (by decide)] at z; exact z
  show J g mX3_init 9 24 1625 36 [some (.ref (c2 0))] [.ref (c2 7), .ref (c2 0)] 39 c2 F2 (O3 g ad) Ψ
  refine j_put fl_X3_24 fp_X3 dX3_init_36 (by decide) t2 (Or.inr ⟨rfl, rfl, tt_of 110 (by decide +kernel) rfl, rfl⟩) rfl rfl (Nat.le_of_ble_eq_true rfl) ?_
  generalize hG2 : va_up F2 0 _ = G2
  have top2 : G2 0 = .inr (3, [.ref (c2 1), .ref (c2 4), .ref (c2 7), .null, .null, .int 0, .long 0]) := by rw [← hG2]; exact up_eq
  have pE2 : ∀ k, k < 7 → k ≠ 0 → G2 k = G1 k := fun k h1 h2 => by rw [← hG2]; exact (up_ne h2).trans ((fE2 k (by omega) (by omega)).trans (up_ne (by omega)))
  have pA2 : ∀ i, i < 7 → c2 i = c1 i := fun i hi => (k2 i (by omega)).trans (g2 i hi)
  have Q0_1_2 := wat.tr Q0_1 (show 7 ≤ 39 by decide) pA2 pE2 (by decide)
  have Q1_2 := wat.tr Q1 (show 7 ≤ 39 by decide) pA2 pE2 (by decide)
  have Q2 : rws g 39 c2 G2 7 8 9 30 0 0 (fun _ _ => 0) := ⟨by decide, ⟨by decide, fun i hi => ⟨by omega, by omega⟩⟩, (by rw [← hG2]; exact (up_ne (by decide)).trans fa2), (by rw [← hG2]; exact (up_ne (by decide)).trans fb2), (fun i hi => by rw [← hG2]; exact (up_ne (by omega)).trans (fc2 i hi)), by decide, by decide, by decide, by decide⟩
  show J g mX3_init 9 24 1625 39 [some (.ref (c2 0))] [] 39 c2 G2 (O3 g ad) Ψ
  refine j_aload_n dX3_init_39 rfl ?_
  refine j_new (ci := 1) (bc := 23) (bs := 1622) (fs := [.null, .int 0, .int 0]) rfl wcl_X1 fp_X1 cl_X3_19 in_X1 iz_X1 (fun j hj => by rcases (by omega : j = 0 ∨ j = 1 ∨ j = 2) with rfl | rfl | rfl <;> rfl) dX3_init_40 (fun b3 g3 => ?_)
  rw [← g3 0 (by decide)]
  show J g mX3_init 9 23 1622 43 [some (.ref (b3 0))] [.ref (b3 39), .ref (b3 0)] 40 b3 (va_up G2 39 (.inr (1, [.null, .int 0, .int 0]))) (O3 g ad) Ψ
  refine j_dup dX3_init_43 rfl ?_
  refine j_bipush (v := nI 12) dX3_init_44 (by decide) ?_
  refine j_bud (bc' := (0 + 1 + 12) + 10) (bs' := (0 + 12 + 12 * 128) + 74) (by decide) (by decide) ?_
  refine j_callI (As := [.int (nI 12)]) (rest := [.ref (b3 39), .ref (b3 0)]) (bc := 10) (bs := 74) cm_X1_init rfl rfl ci_X1_init rfl (Or.inl ln_X3_21) dX3_init_46 (d' := 2) (by decide) rfl rfl (Nat.le_of_ble_eq_true rfl) (Nat.le_of_ble_eq_true rfl) (c_X1_init (w := 39) (n := 40) (lim := 12) (by decide) (by decide) (by decide) up_eq (fun _ _ _ _ => False)) (fun v n' c3 F3 q => ?_) (fun _ _ _ _ q => q.elim)
  obtain ⟨hv3, hn3, k3, fE3, fa3, fb3, fc3⟩ := q
  subst hv3
  subst hn3
  rw [← k3 0 (by decide), ← k3 39 (by decide)]
  have t3 : F3 0 = .inr (3, [.ref (c3 1), .ref (c3 4), .ref (c3 7), .null, .null, .int 0, .long 0]) := by have z := (fE3 0 (by decide) (by decide)).trans ((up_ne (by decide)).trans top2); rw [← g3 1 (by decide), ← k3 1 (by decide)] at z; rw [← g3 4 (by decide), ← k3 4 (by decide)] at z; rw [← g3 7 (by decide), ← k3 7 (by decide)] at z; exact z
  show J g mX3_init 9 10 74 49 [some (.ref (c3 0))] [.ref (c3 39), .ref (c3 0)] 53 c3 F3 (O3 g ad) Ψ
  refine j_put fl_X3_28 fp_X3 dX3_init_49 (by decide) t3 (Or.inr ⟨rfl, rfl, tt_of 111 (by decide +kernel) rfl, rfl⟩) rfl rfl (Nat.le_of_ble_eq_true rfl) ?_
  generalize hG3 : va_up F3 0 _ = G3
  have top3 : G3 0 = .inr (3, [.ref (c3 1), .ref (c3 4), .ref (c3 7), .ref (c3 39), .null, .int 0, .long 0]) := by rw [← hG3]; exact up_eq
  have pE3 : ∀ k, k < 39 → k ≠ 0 → G3 k = G2 k := fun k h1 h2 => by rw [← hG3]; exact (up_ne h2).trans ((fE3 k (by omega) (by omega)).trans (up_ne (by omega)))
  have pA3 : ∀ i, i < 39 → c3 i = c2 i := fun i hi => (k3 i (by omega)).trans (g3 i hi)
  have Q0_1_2_3 := wat.tr Q0_1_2 (show 39 ≤ 53 by decide) pA3 pE3 (by decide)
  have Q1_2_3 := wat.tr Q1_2 (show 39 ≤ 53 by decide) pA3 pE3 (by decide)
  have Q2_3 := rws.tr Q2 (show 39 ≤ 53 by decide) pA3 pE3 (by decide)
  have Q3 : rws g 53 c3 G3 39 40 41 12 0 0 (fun _ _ => 0) := ⟨by decide, ⟨by decide, fun i hi => ⟨by omega, by omega⟩⟩, (by rw [← hG3]; exact (up_ne (by decide)).trans fa3), (by rw [← hG3]; exact (up_ne (by decide)).trans fb3), (fun i hi => by rw [← hG3]; exact (up_ne (by omega)).trans (fc3 i hi)), by decide, by decide, by decide, by decide⟩
  show J g mX3_init 9 10 74 52 [some (.ref (c3 0))] [] 53 c3 G3 (O3 g ad) Ψ
  refine j_aload_n dX3_init_52 rfl ?_
  refine j_new (ci := 0) (bc := 9) (bs := 72) (fs := [.null, .int 0]) rfl wcl_X0 fp_X0 cl_X3_31 in_X0 iz_X0 (fun j hj => by rcases (by omega : j = 0 ∨ j = 1) with rfl | rfl <;> rfl) dX3_init_53 (fun b4 g4 => ?_)
  rw [← g4 0 (by decide)]
  show J g mX3_init 9 9 72 56 [some (.ref (b4 0))] [.ref (b4 53), .ref (b4 0)] 54 b4 (va_up G3 53 (.inr (0, [.null, .int 0]))) (O3 g ad) Ψ
  refine j_dup dX3_init_56 rfl ?_
  refine j_bud (bc' := (0 + 1 + 8) + 0) (bs' := (0 + 8 + 8 * 8) + 0) (by decide) (by decide) ?_
  refine j_callI (As := []) (rest := [.ref (b4 53), .ref (b4 0)]) (bc := 0) (bs := 0) cm_X0_init rfl rfl ci_X0_init rfl (Or.inr ln_X3_33) dX3_init_57 (d' := 2) (by decide) rfl rfl (Nat.le_of_ble_eq_true rfl) (Nat.le_of_ble_eq_true rfl) (c_X0_init (w := 53) (n := 54) (by decide) up_eq (fun _ _ _ _ => False)) (fun v n' c4 F4 q => ?_) (fun _ _ _ _ q => q.elim)
  obtain ⟨hv4, hn4, k4, fE4, fa4, fb4, fc4⟩ := q
  subst hv4
  subst hn4
  rw [← k4 0 (by decide), ← k4 53 (by decide)]
  have t4 : F4 0 = .inr (3, [.ref (c4 1), .ref (c4 4), .ref (c4 7), .ref (c4 39), .null, .int 0, .long 0]) := by have z := (fE4 0 (by decide) (by decide)).trans ((up_ne (by decide)).trans top3); rw [← g4 1 (by decide), ← k4 1 (by decide)] at z; rw [← g4 4 (by decide), ← k4 4 (by decide)] at z; rw [← g4 7 (by decide), ← k4 7 (by decide)] at z; rw [← g4 39 (by decide), ← k4 39 (by decide)] at z; exact z
  show J g mX3_init 9 0 0 60 [some (.ref (c4 0))] [.ref (c4 53), .ref (c4 0)] 63 c4 F4 (O3 g ad) Ψ
  refine j_put fl_X3_34 fp_X3 dX3_init_60 (by decide) t4 (Or.inr ⟨rfl, rfl, tt_of 112 (by decide +kernel) rfl, rfl⟩) rfl rfl (Nat.le_of_ble_eq_true rfl) ?_
  generalize hG4 : va_up F4 0 _ = G4
  have top4 : G4 0 = .inr (3, [.ref (c4 1), .ref (c4 4), .ref (c4 7), .ref (c4 39), .ref (c4 53), .int 0, .long 0]) := by rw [← hG4]; exact up_eq
  have pE4 : ∀ k, k < 53 → k ≠ 0 → G4 k = G3 k := fun k h1 h2 => by rw [← hG4]; exact (up_ne h2).trans ((fE4 k (by omega) (by omega)).trans (up_ne (by omega)))
  have pA4 : ∀ i, i < 53 → c4 i = c3 i := fun i hi => (k4 i (by omega)).trans (g4 i hi)
  have Q0_1_2_3_4 := wat.tr Q0_1_2_3 (show 53 ≤ 63 by decide) pA4 pE4 (by decide)
  have Q1_2_3_4 := wat.tr Q1_2_3 (show 53 ≤ 63 by decide) pA4 pE4 (by decide)
  have Q2_3_4 := rws.tr Q2_3 (show 53 ≤ 63 by decide) pA4 pE4 (by decide)
  have Q3_4 := rws.tr Q3 (show 53 ≤ 63 by decide) pA4 pE4 (by decide)
  have Q4 : frs g 63 c4 G4 53 54 55 0 (fun _ _ => 0) := ⟨by decide, ⟨by decide, fun i hi => ⟨by omega, by omega⟩⟩, (by rw [← hG4]; exact (up_ne (by decide)).trans fa4), (by rw [← hG4]; exact (up_ne (by decide)).trans fb4), (fun i hi => by rw [← hG4]; exact (up_ne (by omega)).trans (fc4 i hi)), by decide⟩
  obtain ⟨-, -, hw, -⟩ := id Q0_1_2_3_4
  show J g mX3_init 9 0 0 63 [some (.ref (c4 0))] [] 63 c4 G4 (O3 g ad) Ψ
  refine j_aload_n dX3_init_63 rfl ?_
  refine j_get fl_X3_12 dX3_init_64 (by omega) top4 rfl ?_
  refine j_iconst (v := 1) dX3_init_67 (by decide) ?_
  refine j_put fl_X3_38 fp_X2 dX3_init_68 (by omega) hw (Or.inl rfl) rfl rfl (Nat.le_of_ble_eq_true rfl) ?_
  refine j_aload_n dX3_init_71 rfl ?_
  refine j_get fl_X3_12 dX3_init_72 (by omega) ((up_ne (by decide)).trans top4) rfl ?_
  refine j_iconst (v := nI 4) dX3_init_75 (by decide) ?_
  refine j_bipush (v := nI 8) dX3_init_76 (by decide) ?_
  refine j_cV (As := [.int (nI 4), .int (nI 8)]) (rest := []) cm_X2_layDry ci_X2_layDry cs_X2_layDry rfl ln_X3_42 (ci := 2) rfl dX3_init_78 (d' := 1) (by decide) (by omega) up_eq rfl rfl (Nat.le_of_ble_eq_true rfl) (Nat.le_of_ble_eq_true rfl) (s_X2_layDry (wat.setW Q0_1_2_3_4 (by decide) (by decide)) 4 8 (by decide) (by decide) (by decide) (by decide)) ?_
  rw [up_up]
  exact j_vret dX3_init_81 rfl ⟨rfl, rfl, (pA4 0 (by decide)).trans ((pA3 0 (by decide)).trans ((pA2 0 (by decide)).trans ((pA1 0 (by decide)).trans (pA0 0 (by decide))))), (up_ne (by decide)).trans ((up_ne (by decide)).trans ((up_ne (by decide)).trans top4)), wat.setE (wat.setL (wat.setW Q0_1_2_3_4 (by decide) (by decide))), ⟨_, _, _, _, _, (wat.up (wat.up (wat.up Q1_2_3_4 (by decide) (by decide) (by decide)) (by decide) (by decide) (by decide)) (by decide) (by decide) (by decide))⟩, (rws.up (rws.up (rws.up Q2_3_4 (by decide) (by decide) (fun i hi => by omega)) (by decide) (by decide) (fun i hi => by omega)) (by decide) (by decide) (fun i hi => by omega)), (rws.up (rws.up (rws.up Q3_4 (by decide) (by decide) (fun i hi => by omega)) (by decide) (by decide) (fun i hi => by omega)) (by decide) (by decide) (fun i hi => by omega)), ⟨_, _, (frs.up (frs.up (frs.up Q4 (by decide) (by decide) (fun i hi => by omega)) (by decide) (by decide) (fun i hi => by omega)) (by decide) (by decide) (fun i hi => by omega))⟩, by decide, by decide, by decide⟩
