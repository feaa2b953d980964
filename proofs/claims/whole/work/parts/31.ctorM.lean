/-! The model's constructor, and the law from its entry. -/
def O4 (g : jG) (ad : Nat → Nat) (E : Nat → va_E) : Option Value → jR := fun v n' ad' E' => v = none ∧ n' = 69 ∧ (∀ i, i < 64 → ad' i = ad i) ∧ (∀ k, k < 63 → E' k = E k) ∧ MR g 69 ad' E' 0 4 8 0 1 0 (cpyN (fun _ => 0) (fun _ => 0) 128) (cpyN (fun _ => 50) (fun _ => 0) 16) 0 0 (fun _ => 0) 0 (fun _ => 0)
set_option maxRecDepth 100000 in
set_option maxHeartbeats 4000000 in
theorem c_X4_init {g : jG} {ad : Nat → Nat} {E : Nat → va_E} (h : E 63 = .inr (4, [.int 0, .int 0, .int 0, .int 0, .int 0, .long 0, .null, .null, .null, .int 0, .int 0, .null, .int 0, .null])) (Ψ : String → jR) : JE g mX4_init 3 5 5648 [.ref (ad 63)] 64 ad E (O4 g ad E) Ψ := by
  show J g mX4_init 3 5 5648 0 [some (.ref (ad 63))] [] 64 ad E (O4 g ad E) Ψ
  refine j_aload_n dX4_init_0 rfl ?_
  refine j_objInit ln_X4_3 ji_obj jc_obj dX4_init_1 (by decide) (Nat.le_of_ble_eq_true rfl) ?_
  refine j_aload_n dX4_init_4 rfl ?_
  refine j_iconst (v := nI 4) dX4_init_5 (by decide) ?_
  refine j_put fl_X4_9 fp_X4 dX4_init_6 (by omega) h (Or.inl rfl) rfl rfl (Nat.le_of_ble_eq_true rfl) ?_
  refine j_aload_n dX4_init_9 rfl ?_
  refine j_bipush (v := nI 8) dX4_init_10 (by decide) ?_
  refine j_put fl_X4_13 fp_X4 dX4_init_12 (by omega) up_eq (Or.inl rfl) rfl rfl (Nat.le_of_ble_eq_true rfl) ?_
  refine j_E up_up ?_
  refine j_aload_n dX4_init_15 rfl ?_
  refine j_iconst (v := 1) dX4_init_16 (by decide) ?_
  refine j_put fl_X4_16 fp_X4 dX4_init_17 (by omega) up_eq (Or.inl rfl) rfl rfl (Nat.le_of_ble_eq_true rfl) ?_
  refine j_E up_up ?_
  refine j_aload_n dX4_init_20 rfl ?_
  refine j_bipush (v := nI 16) dX4_init_21 (by decide) ?_
  refine j_newI (bc := 4) (bs := 5632) (N := 16) ac_int (by decide) dX4_init_23 (fun a0 g0 => ?_)
  rw [← g0 63 (by decide)]
  show J g mX4_init 3 4 5632 25 [some (.ref (a0 63))] [.ref (a0 64), .ref (a0 63)] 65 a0 (va_up (va_up E 63 (.inr (4, [.int 0, .int (nI 4), .int (nI 8), .int 0, .int 1, .long 0, .null, .null, .null, .int 0, .int 0, .null, .int 0, .null]))) 64 (aI g 16 (fun _ => 0))) (O4 g ad E) Ψ
  refine j_put fl_X4_19 fp_X4 dX4_init_25 (by omega) ((up_ne (by decide)).trans up_eq) (Or.inr ⟨rfl, rfl, tt_of 779 (by decide +kernel) rfl, rfl⟩) rfl rfl (Nat.le_of_ble_eq_true rfl) ?_
  refine j_E (E' := va_up (va_up E 64 (aI g 16 (fun _ => 0))) 63 (.inr (4, [.int 0, .int (nI 4), .int (nI 8), .int 0, .int 1, .long 0, .ref (a0 64), .null, .null, .int 0, .int 0, .null, .int 0, .null]))) (by funext j9; simp only [va_up]; split <;> simp_all) ?_
  refine j_aload_n dX4_init_28 rfl ?_
  refine j_sipush (v := nI 128) dX4_init_29 (by decide) ?_
  refine j_newI (bc := 3) (bs := 5504) (N := 128) ac_int (by decide) dX4_init_32 (fun a1 g1 => ?_)
  rw [← g1 63 (by decide), ← g1 64 (by decide)]
  show J g mX4_init 3 3 5504 34 [some (.ref (a1 63))] [.ref (a1 65), .ref (a1 63)] 66 a1 (va_up (va_up (va_up E 64 (aI g 16 (fun _ => 0))) 63 (.inr (4, [.int 0, .int (nI 4), .int (nI 8), .int 0, .int 1, .long 0, .ref (a1 64), .null, .null, .int 0, .int 0, .null, .int 0, .null]))) 65 (aI g 128 (fun _ => 0))) (O4 g ad E) Ψ
  refine j_put fl_X4_23 fp_X4 dX4_init_34 (by omega) ((up_ne (by decide)).trans up_eq) (Or.inr ⟨rfl, rfl, tt_of 780 (by decide +kernel) rfl, rfl⟩) rfl rfl (Nat.le_of_ble_eq_true rfl) ?_
  refine j_E (E' := va_up (va_up (va_up E 64 (aI g 16 (fun _ => 0))) 65 (aI g 128 (fun _ => 0))) 63 (.inr (4, [.int 0, .int (nI 4), .int (nI 8), .int 0, .int 1, .long 0, .ref (a1 64), .ref (a1 65), .null, .int 0, .int 0, .null, .int 0, .null]))) (by funext j9; simp only [va_up]; split <;> simp_all) ?_
  refine j_aload_n dX4_init_37 rfl ?_
  refine j_sipush (v := nI 3840) dX4_init_38 (by decide) ?_
  refine j_newI (bc := 2) (bs := 1664) (N := 3840) ac_int (by decide) dX4_init_41 (fun a2 g2 => ?_)
  rw [← g2 63 (by decide), ← g2 64 (by decide), ← g2 65 (by decide)]
  show J g mX4_init 3 2 1664 43 [some (.ref (a2 63))] [.ref (a2 66), .ref (a2 63)] 67 a2 (va_up (va_up (va_up (va_up E 64 (aI g 16 (fun _ => 0))) 65 (aI g 128 (fun _ => 0))) 63 (.inr (4, [.int 0, .int (nI 4), .int (nI 8), .int 0, .int 1, .long 0, .ref (a2 64), .ref (a2 65), .null, .int 0, .int 0, .null, .int 0, .null]))) 66 (aI g 3840 (fun _ => 0))) (O4 g ad E) Ψ
  refine j_put fl_X4_26 fp_X4 dX4_init_43 (by omega) ((up_ne (by decide)).trans up_eq) (Or.inr ⟨rfl, rfl, tt_of 781 (by decide +kernel) rfl, rfl⟩) rfl rfl (Nat.le_of_ble_eq_true rfl) ?_
  refine j_E (E' := va_up (va_up (va_up (va_up E 64 (aI g 16 (fun _ => 0))) 65 (aI g 128 (fun _ => 0))) 66 (aI g 3840 (fun _ => 0))) 63 (.inr (4, [.int 0, .int (nI 4), .int (nI 8), .int 0, .int 1, .long 0, .ref (a2 64), .ref (a2 65), .ref (a2 66), .int 0, .int 0, .null, .int 0, .null]))) (by funext j9; simp only [va_up]; split <;> simp_all) ?_
  refine j_aload_n dX4_init_46 rfl ?_
  refine j_sipush (v := nI 1536) dX4_init_47 (by decide) ?_
  refine j_newI (bc := 1) (bs := 128) (N := 1536) ac_int (by decide) dX4_init_50 (fun a3 g3 => ?_)
  rw [← g3 63 (by decide), ← g3 64 (by decide), ← g3 65 (by decide), ← g3 66 (by decide)]
  show J g mX4_init 3 1 128 52 [some (.ref (a3 63))] [.ref (a3 67), .ref (a3 63)] 68 a3 (va_up (va_up (va_up (va_up (va_up E 64 (aI g 16 (fun _ => 0))) 65 (aI g 128 (fun _ => 0))) 66 (aI g 3840 (fun _ => 0))) 63 (.inr (4, [.int 0, .int (nI 4), .int (nI 8), .int 0, .int 1, .long 0, .ref (a3 64), .ref (a3 65), .ref (a3 66), .int 0, .int 0, .null, .int 0, .null]))) 67 (aI g 1536 (fun _ => 0))) (O4 g ad E) Ψ
  refine j_put fl_X4_29 fp_X4 dX4_init_52 (by omega) ((up_ne (by decide)).trans up_eq) (Or.inr ⟨rfl, rfl, tt_of 784 (by decide +kernel) rfl, rfl⟩) rfl rfl (Nat.le_of_ble_eq_true rfl) ?_
  refine j_E (E' := va_up (va_up (va_up (va_up (va_up E 64 (aI g 16 (fun _ => 0))) 65 (aI g 128 (fun _ => 0))) 66 (aI g 3840 (fun _ => 0))) 67 (aI g 1536 (fun _ => 0))) 63 (.inr (4, [.int 0, .int (nI 4), .int (nI 8), .int 0, .int 1, .long 0, .ref (a3 64), .ref (a3 65), .ref (a3 66), .int 0, .int 0, .ref (a3 67), .int 0, .null]))) (by funext j9; simp only [va_up]; split <;> simp_all) ?_
  refine j_aload_n dX4_init_55 rfl ?_
  refine j_sipush (v := nI 128) dX4_init_56 (by decide) ?_
  refine j_newI (bc := 0) (bs := 0) (N := 128) ac_int (by decide) dX4_init_59 (fun a4 g4 => ?_)
  rw [← g4 63 (by decide), ← g4 64 (by decide), ← g4 65 (by decide), ← g4 66 (by decide), ← g4 67 (by decide)]
  show J g mX4_init 3 0 0 61 [some (.ref (a4 63))] [.ref (a4 68), .ref (a4 63)] 69 a4 (va_up (va_up (va_up (va_up (va_up (va_up E 64 (aI g 16 (fun _ => 0))) 65 (aI g 128 (fun _ => 0))) 66 (aI g 3840 (fun _ => 0))) 67 (aI g 1536 (fun _ => 0))) 63 (.inr (4, [.int 0, .int (nI 4), .int (nI 8), .int 0, .int 1, .long 0, .ref (a4 64), .ref (a4 65), .ref (a4 66), .int 0, .int 0, .ref (a4 67), .int 0, .null]))) 68 (aI g 128 (fun _ => 0))) (O4 g ad E) Ψ
  refine j_put fl_X4_32 fp_X4 dX4_init_61 (by omega) ((up_ne (by decide)).trans up_eq) (Or.inr ⟨rfl, rfl, tt_of 786 (by decide +kernel) rfl, rfl⟩) rfl rfl (Nat.le_of_ble_eq_true rfl) ?_
  refine j_E (E' := va_up (va_up (va_up (va_up (va_up (va_up E 64 (aI g 16 (fun _ => 0))) 65 (aI g 128 (fun _ => 0))) 66 (aI g 3840 (fun _ => 0))) 67 (aI g 1536 (fun _ => 0))) 68 (aI g 128 (fun _ => 0))) 63 (.inr (4, [.int 0, .int (nI 4), .int (nI 8), .int 0, .int 1, .long 0, .ref (a4 64), .ref (a4 65), .ref (a4 66), .int 0, .int 0, .ref (a4 67), .int 0, .ref (a4 68)]))) (by funext j9; simp only [va_up]; split <;> simp_all) ?_
  refine j_aload_n dX4_init_64 rfl ?_
  refine j_cVp (As := []) (rest := []) cm_X4_anew ci_X4_anew cs_X4_anew rfl ln_X4_35 (ci := 4) rfl dX4_init_65 (d' := 0) (by decide) (by omega) up_eq rfl rfl (Nat.le_of_ble_eq_true rfl) (Nat.le_of_ble_eq_true rfl) (s_X4_anew (⟨up_eq, ((up_ne (by decide)).trans ((up_ne (by decide)).trans ((up_ne (by decide)).trans ((up_ne (by decide)).trans ((up_ne (by decide)).trans up_eq))))), ((up_ne (by decide)).trans ((up_ne (by decide)).trans ((up_ne (by decide)).trans ((up_ne (by decide)).trans up_eq)))), ((up_ne (by decide)).trans ((up_ne (by decide)).trans ((up_ne (by decide)).trans up_eq))), ((up_ne (by decide)).trans ((up_ne (by decide)).trans up_eq)), ⟨_, ((up_ne (by decide)).trans up_eq)⟩, by decide, by decide, by decide, by decide, by decide, by decide, by decide, by decide⟩ : MR g 69 a4 (va_up (va_up (va_up (va_up (va_up (va_up E 64 (aI g 16 (fun _ => 0))) 65 (aI g 128 (fun _ => 0))) 66 (aI g 3840 (fun _ => 0))) 67 (aI g 1536 (fun _ => 0))) 68 (aI g 128 (fun _ => 0))) 63 (.inr (4, [.int 0, .int (nI 4), .int (nI 8), .int 0, .int 1, .long 0, .ref (a4 64), .ref (a4 65), .ref (a4 66), .int 0, .int 0, .ref (a4 67), .int 0, .ref (a4 68)]))) 0 4 8 0 1 0 (fun _ => 0) (fun _ => 0) 0 0 (fun _ => 0) 0 (fun _ => 0))) (fun E1 q1 => ?_)
  show J g mX4_init 3 0 0 68 [some (.ref (a4 63))] [] 69 a4 E1 (O4 g ad E) Ψ
  exact j_vret dX4_init_68 rfl ⟨rfl, rfl, fun i hi => ((g4 i (by omega)).trans ((g3 i (by omega)).trans ((g2 i (by omega)).trans ((g1 i (by omega)).trans (g0 i hi))))), fun k hk => (q1.2 k (Or.inl hk)).trans ((up_ne (by omega)).trans ((up_ne (by omega)).trans ((up_ne (by omega)).trans ((up_ne (by omega)).trans ((up_ne (by omega)).trans ((up_ne (by omega)).trans rfl)))))), q1.1⟩
theorem CR.tr {g : jG} {n n' : Nat} {ad ad' : Nat → Nat} {E E' : Nat → va_E} {F S : Nat} {hrs su : Int32} {gone : Int64} {lv ed : Nat → Int32} {old cnt : Nat} {dr : Nat → Nat → Int32} {mc : Nat} {mr : Nat → Nat → Int32} (C : CR g n ad E F S hrs su gone lv ed old cnt dr mc mr) (hn : n ≤ n') (ha : ∀ i, i < n → ad' i = ad i) (hE : ∀ k, k < n → E' k = E k) : CR g n' ad' E' F S hrs su gone lv ed old cnt dr mc mr := by
  obtain ⟨h0, W, ⟨F4, S4, su4, lv4, ed4, T⟩, Z, Y, ⟨fc, Hm, P⟩, h1, h2, h3⟩ := C
  have hE' : ∀ k, k < n → k ≠ 0 → E' k = E k := fun k hk _ => hE k hk
  exact ⟨((hE 0 (by omega)).trans h0).trans (by rw [ha 1 (by omega), ha 4 (by omega), ha 7 (by omega), ha 39 (by omega), ha 53 (by omega)]), W.tr hn ha hE' (by decide), ⟨_, _, _, _, _, T.tr hn ha hE' (by decide)⟩, Z.tr hn ha hE' (by decide), Y.tr hn ha hE' (by decide), ⟨_, _, P.tr hn ha hE' (by decide)⟩, h1, h2, by omega⟩
set_option maxRecDepth 100000 in
set_option maxHeartbeats 4000000 in
theorem law_start {g : jG} {ad : Nat → Nat} {E : Nat → va_E} {Φ : Option Value → jR} {Ψ : String → jR} (hL : g.1.2.2.1 ≤ 3072) (hΦ : ∀ n ad E, Φ (some (.int 1)) n ad E) : J g mL_law 12 601024 7293034 0 [some (.ref g.1.2.1), none, none, none, none, none, none, none, none] [] 0 ad E Φ Ψ := by
  refine j_bud (bc' := 2000 + 1) (bs' := 30000 + 7) (by decide) (by decide) ?_
  refine j_new (ci := 3) (bc := 2000) (bs := 30000) (fs := [.null, .null, .null, .null, .null, .int 0, .long 0]) rfl wcl_X3 fp_X3 cl_L_8 in_X3 iz_X3 (fun j hj => by rcases (by omega : j = 0 ∨ j = 1 ∨ j = 2 ∨ j = 3 ∨ j = 4 ∨ j = 5 ∨ j = 6) with rfl | rfl | rfl | rfl | rfl | rfl | rfl <;> rfl) dL_law_0 (fun a1 g1 => ?_)
  refine j_dup dL_law_3 rfl ?_
  refine j_bud (bc' := 62 + 1900) (bs' := 5796 + 20000) (by decide) (by decide) ?_
  refine j_callI (As := []) (rest := [.ref (a1 0)]) (bc := 1900) (bs := 20000) cm_X3_init rfl rfl ci_X3_init rfl (Or.inl ln_L_123) dL_law_4 (d' := 9) (by decide) rfl rfl (Nat.le_of_ble_eq_true rfl) (Nat.le_of_ble_eq_true rfl) (c_X3_init up_eq (fun _ _ _ _ => False)) (fun v n' a2 E2 q => ?_) (fun _ _ _ _ q => q.elim)
  obtain ⟨hv, hn', hz, C⟩ := q
  subst hv
  subst hn'
  rw [← hz]
  show J g mL_law 12 1900 20000 7 [some (.ref g.1.2.1), none, none, none, none, none, none, none, none] [.ref (a2 0)] 63 a2 E2 Φ Ψ
  refine j_astore_n (L' := [some (.ref g.1.2.1), some (.ref (a2 0)), none, none, none, none, none, none, none]) dL_law_7 (by decide) rfl rfl ?_
  refine j_bud (bc' := 1800 + 1) (bs' := 19000 + 14) (by decide) (by decide) ?_
  refine j_new (ci := 4) (bc := 1800) (bs := 19000) (fs := [.int 0, .int 0, .int 0, .int 0, .int 0, .long 0, .null, .null, .null, .int 0, .int 0, .null, .int 0, .null]) rfl wcl_X4 fp_X4 cl_L_124 in_X4 iz_X4 (fun j hj => by rcases (by omega : j = 0 ∨ j = 1 ∨ j = 2 ∨ j = 3 ∨ j = 4 ∨ j = 5 ∨ j = 6 ∨ j = 7 ∨ j = 8 ∨ j = 9 ∨ j = 10 ∨ j = 11 ∨ j = 12 ∨ j = 13) with rfl | rfl | rfl | rfl | rfl | rfl | rfl | rfl | rfl | rfl | rfl | rfl | rfl | rfl <;> rfl) dL_law_8 (fun a3 g3 => ?_)
  rw [← g3 0 (by decide)]
  refine j_dup dL_law_11 rfl ?_
  refine j_bud (bc' := 5 + 1700) (bs' := 5648 + 13000) (by decide) (by decide) ?_
  refine j_callI (As := []) (rest := [.ref (a3 63)]) (bc := 1700) (bs := 13000) cm_X4_init rfl rfl ci_X4_init rfl (Or.inl ln_L_126) dL_law_12 (d' := 3) (by decide) rfl rfl (Nat.le_of_ble_eq_true rfl) (Nat.le_of_ble_eq_true rfl) (c_X4_init up_eq (fun _ _ _ _ => False)) (fun v n' a4 E4 q => ?_) (fun _ _ _ _ q => q.elim)
  obtain ⟨hv, hn', k4, f4, M4⟩ := q
  subst hv
  subst hn'
  rw [← k4 0 (by decide), ← k4 63 (by decide)]
  show J g mL_law 12 1700 13000 15 [some (.ref g.1.2.1), some (.ref (a4 0)), none, none, none, none, none, none, none] [.ref (a4 63)] 69 a4 E4 Φ Ψ
  refine j_astore_n (L' := [some (.ref g.1.2.1), some (.ref (a4 0)), some (.ref (a4 63)), none, none, none, none, none, none]) dL_law_15 (by decide) rfl rfl ?_
  refine j_iconst (v := nI 1) dL_law_16 (by decide) ?_
  refine j_bud (bc' := 1600 + 1) (bs' := 12000 + 1) (by decide) (by decide) ?_
  refine j_newL (bc := 1600) (bs := 12000) (N := 1) ac_long (by decide) dL_law_17 (fun a5 g5 => ?_)
  rw [← g5 0 (by decide), ← g5 63 (by decide)]
  refine j_astore_n (L' := [some (.ref g.1.2.1), some (.ref (a5 0)), some (.ref (a5 63)), some (.ref (a5 69)), none, none, none, none, none]) dL_law_19 (by decide) rfl rfl ?_
  refine j_iconst (v := nI 0) dL_law_20 (by decide) ?_
  refine j_istore (L' := [some (.ref g.1.2.1), some (.ref (a5 0)), some (.ref (a5 63)), some (.ref (a5 69)), some (.int (nI 0)), none, none, none, none]) dL_law_21 (by decide) rfl rfl ?_
  refine j_bud (bc' := g.1.2.2.1 / 6) (bs' := 15 * (g.1.2.2.1 / 6)) (by omega) (by omega) ?_
  refine law_loop hL (fun E => hΦ 70 a5 E) rfl _ ⟨0, 4, 8, 0, 1, 0, (cpyN (fun _ => 0) (fun _ => 0) 128), (cpyN (fun _ => 50) (fun _ => 0) 16), 0, 0, (fun _ _ => 0), 0, (fun _ _ => 0), (cpyN (fun _ => 0) (fun _ => 0) 128), (cpyN (fun _ => 50) (fun _ => 0) 16), (fun _ => 0), (fun _ => 0), ?_, ?_, ⟨_, up_eq⟩, by decide, ⟨fun _ _ => rfl, fun _ _ => rfl, fun k hk => by rw [cpyN_lt (by omega), z_i]; omega, fun s hs => by rw [cpyN_lt (by omega)]; decide, by decide, by decide, fun p hp => absurd hp (Nat.not_lt_zero p), fun p hp => absurd hp (Nat.not_lt_zero p)⟩⟩
  · exact CR.tr C (by decide) (fun i hi => (g5 i (by omega)).trans ((k4 i (by omega)).trans (g3 i hi))) (fun k hk => (up_ne (by omega)).trans ((f4 k hk).trans (up_ne (by omega))))
  · exact MR.kept (MR.more (MR.addr M4 (fun k hk => g5 k hk)) (Nat.le_succ 69)) (fun k h1 h2 => up_ne (by omega))
