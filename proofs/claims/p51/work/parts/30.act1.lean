/-! act: sun, edge, hours, lay. -/
theorem SX.fr {g : jG} {n : Nat} {ad : Nat → Nat} {E E' : Nat → va_E} {iL iE : Nat} {r : Nat → Nat} {ia im F S : Nat} {sun hrs sun' hrs' : Int32} {gone gone' : Int64} {m m' : Nat → Nat → Int32} {e e' : Nat → Int32} {c mc : Nat} {A B : Nat → Nat → Nat → Int32} (X : SX g n ad E iL iE r ia im F S sun hrs gone m e c A mc B) (V : SV g n ad E' 63 iL iE r F S sun' hrs' gone' m' e' (.ref (ad ia)) (.ref (ad im))) (h : Fr 63 iL iE F r E E') : SX g n ad E' iL iE r ia im F S sun' hrs' gone' m' e' c A mc B :=
  ⟨V, X.2.1, X.2.2.1.tr (Nat.le_refl _) (fun _ _ => rfl) (fun k _ hX => h k (fun z => hX (Or.inl z))) (fun _ _ q => q), X.2.2.2.tr (Nat.le_refl _) (fun _ _ => rfl) (fun k _ hX => h k (fun z => hX (Or.inl z))) (fun _ _ q => q)⟩
theorem Fr.low {iL iE F : Nat} {r : Nat → Nat} {E E' : Nat → va_E} (h : Fr 63 iL iE F r E E') (h1 : 63 ≤ iL) (h2 : 63 ≤ iE) (h3 : ∀ f, f < F → 63 ≤ r f) : ∀ k, k < 63 → E' k = E k := fun k hk => h k (fun z => by
  rcases z with z | z | z | ⟨f, hf, z⟩
  · omega
  · omega
  · omega
  · have := h3 f hf
    omega)
theorem CR.fr {g : jG} {n : Nat} {ad : Nat → Nat} {E E' : Nat → va_E} {F S : Nat} {hrs su : Int32} {gone : Int64} {lv ed : Nat → Int32} {old cnt : Nat} {dr : Nat → Nat → Int32} {mc : Nat} {mr : Nat → Nat → Int32} {iL iE F9 : Nat} {r : Nat → Nat} (C : CR g n ad E F S hrs su gone lv ed old cnt dr mc mr) (h : Fr 63 iL iE F9 r E E') (h1 : 63 ≤ iL) (h2 : 63 ≤ iE) (h3 : ∀ f, f < F9 → 63 ≤ r f) : CR g n ad E' F S hrs su gone lv ed old cnt dr mc mr := C.kept (h.low h1 h2 h3)
theorem nn_i {k c : Nat} (h : k < c) (hc : c ≤ 1000) : ¬ nI k < 0 ∧ 0 ≤ (nI k).toInt ∧ (nI k).toInt ≤ (c : Int) - 1 := by
  have e := nI_toInt (show k < 2 ^ 31 by omega)
  refine ⟨nI_pos (by omega), ?_, ?_⟩ <;> rw [e] <;> omega
theorem to64_add {x y : Int32} (h1 : -2147483648 ≤ x.toInt + y.toInt) (h2 : x.toInt + y.toInt < 2147483648) : (x + y).toInt64 = x.toInt64 + y.toInt64 := by
  rw [← Int64.toInt_inj, Int64.toInt_add, Int32.toInt_toInt64, Int32.toInt_toInt64, Int32.toInt_toInt64, add_i h1 h2, Int.bmod_eq_of_le]
  · omega
  · omega
/-- hours, what is gone, and the water, after t rounds -/
theorem passN_top {sun : Int32} {e ed : Nat → Int32} {F S t : Nat} {m : Nat → Nat → Int32} {lv : Nat → Int32} {hrs : Int32} {gone : Int64} {lo hi : Int} (ht : t ≤ 40) (hF : 1 ≤ F) (hS : 1 ≤ S) (hN : F * S ≤ 128) (h0 : 0 ≤ sun.toInt) (h9 : sun.toInt ≤ 9) (hb : EB S ed) (he : ∀ s, s < S → ed s = e s) (hl : ∀ k, k < F * S → lv k = flS m S k) (hlo : lo ≤ 0) (hlo2 : -1000000 ≤ lo) (hhi : 999 ≤ hi) (hhi2 : hi ≤ 52000) (h : BD lo hi (F * S) lv) : (passN sun e F S t m hrs gone).2.2.1 = hrs + nI t ∧ (passN sun e F S t m hrs gone).2.2.2 = gone + (flowR sun ed F S t lv).1.toInt64 := by
  have key := lpf_relI (R := fun (k : Nat) (a : Int32 × (Nat → Int32)) (y : Int32 × (Nat → Nat → Int32) × Int32 × Int64) => (∀ j, j < F * S → a.2 j = flS y.2.1 S j) ∧ 0 ≤ a.1.toInt ∧ a.1.toInt ≤ (k : Int) * 6656000 ∧ BD lo hi (F * S) a.2 ∧ y.2.2.1 = hrs + nI k ∧ y.2.2.2 = gone + a.1.toInt64) (b := fun _ a => (a.1 + (hourR sun ed F S a.2).1, (hourR sun ed F S a.2).2)) (b' := fun _ y => (y.1 + (passS sun e F S y.2.1).1, (passS sun e F S y.2.1).2, y.2.2.1 + 1, y.2.2.2 + ((passS sun e F S y.2.1).1).toInt64)) t 0 (0, lv) (0, m, hrs, gone) (fun k a y _ hk r => ?_) ⟨hl, by show 0 ≤ (0 : Int32).toInt; rw [z_i]; omega, by show (0 : Int32).toInt ≤ _; rw [z_i]; omega, h, (Int32.add_zero _).symm, (Int64.add_zero _).symm⟩
  · rw [Nat.zero_add] at key
    exact ⟨key.2.2.2.2.1, key.2.2.2.2.2⟩
  · obtain ⟨r1, r2, r3, r4, r5, r6⟩ := r
    have q := hour_bd hS hN h0 h9 hb hlo hlo2 hhi hhi2 r4
    have p := pass_eq (sun := sun) hF hS h0 h9 he r1
    have e1 : (a.1 + (hourR sun ed F S a.2).1).toInt = a.1.toInt + (hourR sun ed F S a.2).1.toInt := add_i (by omega) (by omega)
    refine ⟨p.2, ?_, ?_, q.2.2, ?_, ?_⟩
    · show 0 ≤ (a.1 + (hourR sun ed F S a.2).1).toInt
      omega
    · show (a.1 + (hourR sun ed F S a.2).1).toInt ≤ ((k + 1 : Nat) : Int) * 6656000
      omega
    · show y.2.2.1 + 1 = hrs + nI (k + 1)
      rw [r5, ← nI_1, Int32.add_assoc]
    · show y.2.2.2 + ((passS sun e F S y.2.1).1).toInt64 = gone + (a.1 + (hourR sun ed F S a.2).1).toInt64
      rw [r6, to64_add (by omega) (by omega), ← p.1, Int64.add_assoc]
theorem int_add_one {i : Nat} : ((i : Int) + 1) = ((i + 1 : Nat) : Int) := rfl
set_option maxRecDepth 100000 in
set_option maxHeartbeats 4000000 in
theorem ac_setSun {g : jG} {n : Nat} {ad : Nat → Nat} {E : Nat → va_E} {i F S : Nat} {hrs su : Int32} {gone : Int64} {lv ed : Nat → Int32} {old cnt : Nat} {dr : Nat → Nat → Int32} {mc : Nat} {mr : Nat → Nat → Int32} {m : Nat → Nat → Int32} {e : Nat → Int32} {A B : Nat → Nat → Nat → Int32} (C : CR g n ad E F S hrs su gone lv ed old cnt dr mc mr) (R : SR g n ad E F S su hrs gone m e cnt A mc B) (L : RS i F S su lv ed old cnt dr mc mr m e A B) (hi : i ≤ 500) (x : Int32) (f s : Nat) (hf : f < F) (hs : s < S) (dp : Int32) (hd1 : ¬ dp < -99) (hd2 : dp ≤ 99) {Φ : Option Value → jR} {Ψ : String → jR} (K : ∀ (n9 : Nat) (a9 : Nat → Nat) (E9 : Nat → va_E), n ≤ n9 → (∀ k, k < n → a9 k = ad k) → AS (i + 1) g n9 a9 E9 → Φ (some (.int 1)) n9 a9 E9) : J g mL_act 11 60 1200 1032 [some (.ref (ad 0)), some (.ref (ad 63)), some (.int x), some (.int (nI F)), some (.int (nI S)), some (.int (nI f)), some (.int (nI s)), some (.int dp), some (.int 1), none, none, none, none] [] n ad E Φ Ψ := by
  obtain ⟨hF8, hS16, hF1, hS1, hold, hcn, hmc, hN, hn63⟩ := C.bd
  obtain ⟨iL0, iE0, r0, ia0, im0, X0⟩ := id R
  replace X0 : SX g n ad E iL0 iE0 r0 ia0 im0 F S su hrs gone m e cnt A mc B := X0
  obtain ⟨V0, ⟨lL0, lE0, lr0⟩, K10, K20⟩ := id X0
  obtain ⟨⟨hwn0, hLn0, hEn0, hrn0⟩, ⟨hwL0, hwE0, hLE0, hrA0⟩, hri0, hw0, hL0, hE0, hR0, -⟩ := id V0
  show J g mL_act 11 60 1200 1032 [some (.ref (ad 0)), some (.ref (ad 63)), some (.int x), some (.int (nI F)), some (.int (nI S)), some (.int (nI f)), some (.int (nI s)), some (.int dp), some (.int 1), none, none, none, none] [] n ad E Φ Ψ
  refine j_aload_n dL_act_1032 rfl ?_
  refine j_get fl_L_86 dL_act_1033 hwn0 hw0 rfl ?_
  refine j_istore (L' := [some (.ref (ad 0)), some (.ref (ad 63)), some (.int x), some (.int (nI F)), some (.int (nI S)), some (.int (nI f)), some (.int (nI s)), some (.int dp), some (.int 1), some (.int su), none, none, none]) dL_act_1036 (by decide) rfl rfl ?_
  refine j_aload_n dL_act_1038 rfl ?_
  refine j_iload_n dL_act_1039 rfl ?_
  refine j_iconst (v := 5) dL_act_1040 (by decide) ?_
  refine j_ishr dL_act_1041 ?_
  refine j_bipush (v := nI 10) dL_act_1042 (by decide) ?_
  refine j_cS (As := [.int (x >>> (5 &&& 31)), .int (nI 10)]) (rest := [.ref (ad 63)]) cm_L_below ct_L_below ln_L_19 dL_act_1044 (d' := 0) (by decide) rfl rfl (Nat.le_of_ble_eq_true rfl) (Nat.le_of_ble_eq_true rfl) (s_L_below (x >>> (5 &&& 31)) 10 (by omega) (by omega)) ?_
  have hby : bl (x >>> (5 &&& 31)) 10 < 10 := bl_lt _ (by omega)
  generalize bl (x >>> (5 &&& 31)) 10 = y at hby ⊢
  refine j_put fl_L_86 fp_X4 dL_act_1047 hwn0 hw0 (Or.inl rfl) rfl rfl (Nat.le_of_ble_eq_true rfl) ?_
  show J g mL_act 11 60 1200 1050 [some (.ref (ad 0)), some (.ref (ad 63)), some (.int x), some (.int (nI F)), some (.int (nI S)), some (.int (nI f)), some (.int (nI s)), some (.int dp), some (.int 1), some (.int su), none, none, none] [] n ad (va_up E 63 (.inr (4, [.ref (ad iL0), .ref (ad iE0), .int (nI y), .int hrs, .long gone, .ref (ad ia0), .ref (ad im0)]))) Φ Ψ
  have Y1 := X0.top (sun' := nI y) (hrs' := hrs) (gone' := gone)
  have D1 : CR g n ad (va_up E 63 (.inr (4, [.ref (ad iL0), .ref (ad iE0), .int (nI y), .int hrs, .long gone, .ref (ad ia0), .ref (ad im0)]))) F S hrs su gone lv ed old cnt dr mc mr := C.kept (fun k hk => up_ne (by omega))
  generalize va_up E 63 (.inr (4, [.ref (ad iL0), .ref (ad iE0), .int (nI y), .int hrs, .long gone, .ref (ad ia0), .ref (ad im0)])) = E1 at Y1 D1 ⊢
  have X1 := Y1
  obtain ⟨V1, ⟨lL1, lE1, lr1⟩, K11, K21⟩ := id X1
  obtain ⟨⟨hwn1, hLn1, hEn1, hrn1⟩, ⟨hwL1, hwE1, hLE1, hrA1⟩, hri1, hw1, hL1, hE1, hR1, -⟩ := id V1
  show J g mL_act 11 60 1200 1050 [some (.ref (ad 0)), some (.ref (ad 63)), some (.int x), some (.int (nI F)), some (.int (nI S)), some (.int (nI f)), some (.int (nI s)), some (.int dp), some (.int 1), some (.int su), none, none, none] [] n ad E1 Φ Ψ
  refine j_aload_n dL_act_1050 rfl ?_
  refine j_aload_n dL_act_1051 rfl ?_
  refine j_get fl_L_86 dL_act_1052 hwn1 hw1 rfl ?_
  refine j_cVp (As := [.int (nI y)]) (rest := []) cm_X3_setSun ci_X3_setSun cs_X3_setSun rfl ln_L_90 (ci := 3) rfl dL_act_1055 (d' := 7) (by decide) (by omega) D1.1 rfl rfl (Nat.le_of_ble_eq_true rfl) (Nat.le_of_ble_eq_true rfl) (s_X3_setSun D1 (nI y) (nn_i hby (by decide)).1 (show nI y ≤ nI 9 from nI_le' (by omega) (by omega) (by omega))) (fun E3 q3 => ?_)
  show J g mL_act 11 60 1200 1058 [some (.ref (ad 0)), some (.ref (ad 63)), some (.int x), some (.int (nI F)), some (.int (nI S)), some (.int (nI f)), some (.int (nI s)), some (.int dp), some (.int 1), some (.int su), none, none, none] [.int su] n ad E3 Φ Ψ
  have X3 := X1.tr (Nat.le_refl _) (fun _ _ => rfl) (fun k hk _ => q3.2 k hk)
  obtain ⟨V3, ⟨lL3, lE3, lr3⟩, K13, K23⟩ := id X3
  obtain ⟨⟨hwn3, hLn3, hEn3, hrn3⟩, ⟨hwL3, hwE3, hLE3, hrA3⟩, hri3, hw3, hL3, hE3, hR3, -⟩ := id V3
  refine j_iload dL_act_1058 rfl ?_
  refine j_icmp_ne_f (tgt := 1067) dL_act_1060 (by decide) rfl ?_
  refine j_iconst (v := 1) dL_act_1063 (by decide) ?_
  refine j_goto (tgt := 1068) dL_act_1064 (by decide) ?_
  exact j_zret dL_act_1068 rfl rfl (K _ _ _ (Nat.le_refl _) (fun _ _ => rfl) ⟨F, S, hrs, nI y, gone, lv, ed, old, cnt, dr, mc, mr, m, e, A, B, q3.1, X3.sr, L.sun (nn_i hby (by decide)).2.1 (nn_i hby (by decide)).2.2⟩)
set_option maxRecDepth 100000 in
set_option maxHeartbeats 4000000 in
theorem ac_setEdge {g : jG} {n : Nat} {ad : Nat → Nat} {E : Nat → va_E} {i F S : Nat} {hrs su : Int32} {gone : Int64} {lv ed : Nat → Int32} {old cnt : Nat} {dr : Nat → Nat → Int32} {mc : Nat} {mr : Nat → Nat → Int32} {m : Nat → Nat → Int32} {e : Nat → Int32} {A B : Nat → Nat → Nat → Int32} (C : CR g n ad E F S hrs su gone lv ed old cnt dr mc mr) (R : SR g n ad E F S su hrs gone m e cnt A mc B) (L : RS i F S su lv ed old cnt dr mc mr m e A B) (hi : i ≤ 500) (x : Int32) (f s : Nat) (hf : f < F) (hs : s < S) (dp : Int32) (hd1 : ¬ dp < -99) (hd2 : dp ≤ 99) {Φ : Option Value → jR} {Ψ : String → jR} (K : ∀ (n9 : Nat) (a9 : Nat → Nat) (E9 : Nat → va_E), n ≤ n9 → (∀ k, k < n → a9 k = ad k) → AS (i + 1) g n9 a9 E9 → Φ (some (.int 1)) n9 a9 E9) : J g mL_act 11 60 1200 1069 [some (.ref (ad 0)), some (.ref (ad 63)), some (.int x), some (.int (nI F)), some (.int (nI S)), some (.int (nI f)), some (.int (nI s)), some (.int dp), some (.int 1), none, none, none, none] [] n ad E Φ Ψ := by
  obtain ⟨hF8, hS16, hF1, hS1, hold, hcn, hmc, hN, hn63⟩ := C.bd
  obtain ⟨iL0, iE0, r0, ia0, im0, X0⟩ := id R
  replace X0 : SX g n ad E iL0 iE0 r0 ia0 im0 F S su hrs gone m e cnt A mc B := X0
  obtain ⟨V0, ⟨lL0, lE0, lr0⟩, K10, K20⟩ := id X0
  obtain ⟨⟨hwn0, hLn0, hEn0, hrn0⟩, ⟨hwL0, hwE0, hLE0, hrA0⟩, hri0, hw0, hL0, hE0, hR0, -⟩ := id V0
  show J g mL_act 11 60 1200 1069 [some (.ref (ad 0)), some (.ref (ad 63)), some (.int x), some (.int (nI F)), some (.int (nI S)), some (.int (nI f)), some (.int (nI s)), some (.int dp), some (.int 1), none, none, none, none] [] n ad E Φ Ψ
  refine j_aload_n dL_act_1069 rfl ?_
  refine j_get fl_L_15 dL_act_1070 hwn0 hw0 rfl ?_
  refine j_iload dL_act_1073 rfl ?_
  refine j_iald dL_act_1075 hEn0 hE0 (by omega) hs rfl ?_
  refine j_istore (L' := [some (.ref (ad 0)), some (.ref (ad 63)), some (.int x), some (.int (nI F)), some (.int (nI S)), some (.int (nI f)), some (.int (nI s)), some (.int dp), some (.int 1), some (.int (e s)), none, none, none]) dL_act_1076 (by decide) rfl rfl ?_
  refine j_aload_n dL_act_1078 rfl ?_
  refine j_get fl_L_15 dL_act_1079 hwn0 hw0 rfl ?_
  refine j_iload dL_act_1082 rfl ?_
  refine j_iload_n dL_act_1084 rfl ?_
  refine j_bipush (v := 6) dL_act_1085 (by decide) ?_
  refine j_ishr dL_act_1087 ?_
  refine j_iload_n dL_act_1088 rfl ?_
  refine j_bipush (v := 8) dL_act_1089 (by decide) ?_
  refine j_ishr dL_act_1091 ?_
  refine j_iconst (v := nI 3) dL_act_1092 (by decide) ?_
  refine j_cS (As := [.int (x >>> (8 &&& 31)), .int (nI 3)]) (rest := [.int (x >>> (6 &&& 31)), .int (nI s), .ref (ad iE0)]) cm_L_below ct_L_below ln_L_19 dL_act_1093 (d' := 0) (by decide) rfl rfl (Nat.le_of_ble_eq_true rfl) (Nat.le_of_ble_eq_true rfl) (s_L_below (x >>> (8 &&& 31)) 3 (by omega) (by omega)) ?_
  have hbz : bl (x >>> (8 &&& 31)) 3 < 3 := bl_lt _ (by omega)
  generalize bl (x >>> (8 &&& 31)) 3 = z at hbz ⊢
  by_cases hz : z = 0
  · skip
    refine j_if_ne_f (tgt := 1105) dL_act_1096 (by decide) (nI_eq' (by omega)) ?_
    refine j_sipush (v := nI 1000) dL_act_1099 (by decide) ?_
    refine j_goto (tgt := 1107) dL_act_1102 (by decide) ?_
    refine j_cS (As := [.int (x >>> (6 &&& 31)), .int (nI 1000)]) (rest := [.int (nI s), .ref (ad iE0)]) cm_L_below ct_L_below ln_L_19 dL_act_1107 (d' := 0) (by decide) rfl rfl (Nat.le_of_ble_eq_true rfl) (Nat.le_of_ble_eq_true rfl) (s_L_below (x >>> (6 &&& 31)) 1000 (by omega) (by omega)) ?_
    have hby : bl (x >>> (6 &&& 31)) 1000 < 1000 := bl_lt _ (by omega)
    generalize bl (x >>> (6 &&& 31)) 1000 = y at hby ⊢
    have hy : y < 1000 := by omega
    refine j_iast (j := s) dL_act_1110 hEn0 hE0 (by omega) hs ?_
    show J g mL_act 11 60 1200 1111 [some (.ref (ad 0)), some (.ref (ad 63)), some (.int x), some (.int (nI F)), some (.int (nI S)), some (.int (nI f)), some (.int (nI s)), some (.int dp), some (.int 1), some (.int (e s)), none, none, none] [] n ad (va_up E iE0 (aI g S (upd e s (nI y)))) Φ Ψ
    have Y1 := X0.edge (e' := upd e s (nI y))
    have D1 : CR g n ad (va_up E iE0 (aI g S (upd e s (nI y)))) F S hrs su gone lv ed old cnt dr mc mr := C.kept (fun k hk => up_ne (by omega))
    generalize va_up E iE0 (aI g S (upd e s (nI y))) = E1 at Y1 D1 ⊢
    have X1 := Y1
    obtain ⟨V1, ⟨lL1, lE1, lr1⟩, K11, K21⟩ := id X1
    obtain ⟨⟨hwn1, hLn1, hEn1, hrn1⟩, ⟨hwL1, hwE1, hLE1, hrA1⟩, hri1, hw1, hL1, hE1, hR1, -⟩ := id V1
    show J g mL_act 11 60 1200 1111 [some (.ref (ad 0)), some (.ref (ad 63)), some (.int x), some (.int (nI F)), some (.int (nI S)), some (.int (nI f)), some (.int (nI s)), some (.int dp), some (.int 1), some (.int (e s)), none, none, none] [] n ad E1 Φ Ψ
    refine j_aload_n dL_act_1111 rfl ?_
    refine j_iload dL_act_1112 rfl ?_
    refine j_aload_n dL_act_1114 rfl ?_
    refine j_get fl_L_15 dL_act_1115 hwn1 hw1 rfl ?_
    refine j_iload dL_act_1118 rfl ?_
    refine j_iald dL_act_1120 hEn1 hE1 (by omega) hs rfl ?_
    refine j_topi (y := nI y) (by show upd e s (nI y) s = nI y; exact if_pos rfl) ?_
    refine j_cVp (As := [.int (nI s), .int (nI y)]) (rest := []) cm_X3_setEdge ci_X3_setEdge cs_X3_setEdge rfl ln_L_93 (ci := 3) rfl dL_act_1121 (d' := 8) (by decide) (by omega) D1.1 rfl rfl (Nat.le_of_ble_eq_true rfl) (Nat.le_of_ble_eq_true rfl) (s_X3_setEdge D1 s hs (nI y) (nn_i hy (by decide)).1 (show nI y ≤ nI 999 from nI_le' (by omega) (by omega) (by omega))) (fun E3 q3 => ?_)
    show J g mL_act 11 60 1200 1124 [some (.ref (ad 0)), some (.ref (ad 63)), some (.int x), some (.int (nI F)), some (.int (nI S)), some (.int (nI f)), some (.int (nI s)), some (.int dp), some (.int 1), some (.int (e s)), none, none, none] [.int (ed s)] n ad E3 Φ Ψ
    have X3 := X1.tr (Nat.le_refl _) (fun _ _ => rfl) (fun k hk _ => q3.2 k hk)
    obtain ⟨V3, ⟨lL3, lE3, lr3⟩, K13, K23⟩ := id X3
    obtain ⟨⟨hwn3, hLn3, hEn3, hrn3⟩, ⟨hwL3, hwE3, hLE3, hrA3⟩, hri3, hw3, hL3, hE3, hR3, -⟩ := id V3
    refine j_iload dL_act_1124 rfl ?_
    refine j_icmp_ne_f (tgt := 1133) dL_act_1126 (by decide) (L.2.1 s hs) ?_
    refine j_iconst (v := 1) dL_act_1129 (by decide) ?_
    refine j_goto (tgt := 1134) dL_act_1130 (by decide) ?_
    exact j_zret dL_act_1134 rfl rfl (K _ _ _ (Nat.le_refl _) (fun _ _ => rfl) ⟨F, S, hrs, su, gone, lv, upd ed s (nI y), old, cnt, dr, mc, mr, m, upd e s (nI y), A, B, q3.1, X3.sr, L.edge (nn_i hy (by decide)).2.1 (nn_i hy (by decide)).2.2⟩)
  · skip
    refine j_if_ne_t (tgt := 1105) dL_act_1096 (by decide) (nI_ne0 (by omega) (by omega)) ?_
    refine j_bipush (v := nI 60) dL_act_1105 (by decide) ?_
    refine j_cS (As := [.int (x >>> (6 &&& 31)), .int (nI 60)]) (rest := [.int (nI s), .ref (ad iE0)]) cm_L_below ct_L_below ln_L_19 dL_act_1107 (d' := 0) (by decide) rfl rfl (Nat.le_of_ble_eq_true rfl) (Nat.le_of_ble_eq_true rfl) (s_L_below (x >>> (6 &&& 31)) 60 (by omega) (by omega)) ?_
    have hby : bl (x >>> (6 &&& 31)) 60 < 60 := bl_lt _ (by omega)
    generalize bl (x >>> (6 &&& 31)) 60 = y at hby ⊢
    have hy : y < 1000 := by omega
    refine j_iast (j := s) dL_act_1110 hEn0 hE0 (by omega) hs ?_
    show J g mL_act 11 60 1200 1111 [some (.ref (ad 0)), some (.ref (ad 63)), some (.int x), some (.int (nI F)), some (.int (nI S)), some (.int (nI f)), some (.int (nI s)), some (.int dp), some (.int 1), some (.int (e s)), none, none, none] [] n ad (va_up E iE0 (aI g S (upd e s (nI y)))) Φ Ψ
    have Y1 := X0.edge (e' := upd e s (nI y))
    have D1 : CR g n ad (va_up E iE0 (aI g S (upd e s (nI y)))) F S hrs su gone lv ed old cnt dr mc mr := C.kept (fun k hk => up_ne (by omega))
    generalize va_up E iE0 (aI g S (upd e s (nI y))) = E1 at Y1 D1 ⊢
    have X1 := Y1
    obtain ⟨V1, ⟨lL1, lE1, lr1⟩, K11, K21⟩ := id X1
    obtain ⟨⟨hwn1, hLn1, hEn1, hrn1⟩, ⟨hwL1, hwE1, hLE1, hrA1⟩, hri1, hw1, hL1, hE1, hR1, -⟩ := id V1
    show J g mL_act 11 60 1200 1111 [some (.ref (ad 0)), some (.ref (ad 63)), some (.int x), some (.int (nI F)), some (.int (nI S)), some (.int (nI f)), some (.int (nI s)), some (.int dp), some (.int 1), some (.int (e s)), none, none, none] [] n ad E1 Φ Ψ
    refine j_aload_n dL_act_1111 rfl ?_
    refine j_iload dL_act_1112 rfl ?_
    refine j_aload_n dL_act_1114 rfl ?_
    refine j_get fl_L_15 dL_act_1115 hwn1 hw1 rfl ?_
    refine j_iload dL_act_1118 rfl ?_
    refine j_iald dL_act_1120 hEn1 hE1 (by omega) hs rfl ?_
    refine j_topi (y := nI y) (by show upd e s (nI y) s = nI y; exact if_pos rfl) ?_
    refine j_cVp (As := [.int (nI s), .int (nI y)]) (rest := []) cm_X3_setEdge ci_X3_setEdge cs_X3_setEdge rfl ln_L_93 (ci := 3) rfl dL_act_1121 (d' := 8) (by decide) (by omega) D1.1 rfl rfl (Nat.le_of_ble_eq_true rfl) (Nat.le_of_ble_eq_true rfl) (s_X3_setEdge D1 s hs (nI y) (nn_i hy (by decide)).1 (show nI y ≤ nI 999 from nI_le' (by omega) (by omega) (by omega))) (fun E3 q3 => ?_)
    show J g mL_act 11 60 1200 1124 [some (.ref (ad 0)), some (.ref (ad 63)), some (.int x), some (.int (nI F)), some (.int (nI S)), some (.int (nI f)), some (.int (nI s)), some (.int dp), some (.int 1), some (.int (e s)), none, none, none] [.int (ed s)] n ad E3 Φ Ψ
    have X3 := X1.tr (Nat.le_refl _) (fun _ _ => rfl) (fun k hk _ => q3.2 k hk)
    obtain ⟨V3, ⟨lL3, lE3, lr3⟩, K13, K23⟩ := id X3
    obtain ⟨⟨hwn3, hLn3, hEn3, hrn3⟩, ⟨hwL3, hwE3, hLE3, hrA3⟩, hri3, hw3, hL3, hE3, hR3, -⟩ := id V3
    refine j_iload dL_act_1124 rfl ?_
    refine j_icmp_ne_f (tgt := 1133) dL_act_1126 (by decide) (L.2.1 s hs) ?_
    refine j_iconst (v := 1) dL_act_1129 (by decide) ?_
    refine j_goto (tgt := 1134) dL_act_1130 (by decide) ?_
    exact j_zret dL_act_1134 rfl rfl (K _ _ _ (Nat.le_refl _) (fun _ _ => rfl) ⟨F, S, hrs, su, gone, lv, upd ed s (nI y), old, cnt, dr, mc, mr, m, upd e s (nI y), A, B, q3.1, X3.sr, L.edge (nn_i hy (by decide)).2.1 (nn_i hy (by decide)).2.2⟩)
set_option maxRecDepth 100000 in
set_option maxHeartbeats 4000000 in
theorem ac_passHours {g : jG} {n : Nat} {ad : Nat → Nat} {E : Nat → va_E} {i F S : Nat} {hrs su : Int32} {gone : Int64} {lv ed : Nat → Int32} {old cnt : Nat} {dr : Nat → Nat → Int32} {mc : Nat} {mr : Nat → Nat → Int32} {m : Nat → Nat → Int32} {e : Nat → Int32} {A B : Nat → Nat → Nat → Int32} (C : CR g n ad E F S hrs su gone lv ed old cnt dr mc mr) (R : SR g n ad E F S su hrs gone m e cnt A mc B) (L : RS i F S su lv ed old cnt dr mc mr m e A B) (hi : i ≤ 500) (x : Int32) (f s : Nat) (hf : f < F) (hs : s < S) (dp : Int32) (hd1 : ¬ dp < -99) (hd2 : dp ≤ 99) {Φ : Option Value → jR} {Ψ : String → jR} (K : ∀ (n9 : Nat) (a9 : Nat → Nat) (E9 : Nat → va_E), n ≤ n9 → (∀ k, k < n → a9 k = ad k) → AS (i + 1) g n9 a9 E9 → Φ (some (.int 1)) n9 a9 E9) : J g mL_act 11 60 1200 1135 [some (.ref (ad 0)), some (.ref (ad 63)), some (.int x), some (.int (nI F)), some (.int (nI S)), some (.int (nI f)), some (.int (nI s)), some (.int dp), some (.int 1), none, none, none, none] [] n ad E Φ Ψ := by
  obtain ⟨hF8, hS16, hF1, hS1, hold, hcn, hmc, hN, hn63⟩ := C.bd
  obtain ⟨iL0, iE0, r0, ia0, im0, X0⟩ := id R
  replace X0 : SX g n ad E iL0 iE0 r0 ia0 im0 F S su hrs gone m e cnt A mc B := X0
  obtain ⟨V0, ⟨lL0, lE0, lr0⟩, K10, K20⟩ := id X0
  obtain ⟨⟨hwn0, hLn0, hEn0, hrn0⟩, ⟨hwL0, hwE0, hLE0, hrA0⟩, hri0, hw0, hL0, hE0, hR0, -⟩ := id V0
  show J g mL_act 11 60 1200 1135 [some (.ref (ad 0)), some (.ref (ad 63)), some (.int x), some (.int (nI F)), some (.int (nI S)), some (.int (nI f)), some (.int (nI s)), some (.int dp), some (.int 1), none, none, none, none] [] n ad E Φ Ψ
  refine j_iconst (v := nI 1) dL_act_1135 (by decide) ?_
  refine j_iload_n dL_act_1136 rfl ?_
  refine j_bipush (v := 6) dL_act_1137 (by decide) ?_
  refine j_ishr dL_act_1139 ?_
  refine j_iload_n dL_act_1140 rfl ?_
  refine j_bipush (v := 8) dL_act_1141 (by decide) ?_
  refine j_ishr dL_act_1143 ?_
  refine j_iconst (v := nI 4) dL_act_1144 (by decide) ?_
  refine j_cS (As := [.int (x >>> (8 &&& 31)), .int (nI 4)]) (rest := [.int (x >>> (6 &&& 31)), .int (nI 1)]) cm_L_below ct_L_below ln_L_19 dL_act_1145 (d' := 0) (by decide) rfl rfl (Nat.le_of_ble_eq_true rfl) (Nat.le_of_ble_eq_true rfl) (s_L_below (x >>> (8 &&& 31)) 4 (by omega) (by omega)) ?_
  have hbz : bl (x >>> (8 &&& 31)) 4 < 4 := bl_lt _ (by omega)
  generalize bl (x >>> (8 &&& 31)) 4 = z at hbz ⊢
  by_cases hz : z = 0
  · skip
    refine j_if_ne_f (tgt := 1156) dL_act_1148 (by decide) (nI_eq' (by omega)) ?_
    refine j_bipush (v := nI 40) dL_act_1151 (by decide) ?_
    refine j_goto (tgt := 1157) dL_act_1153 (by decide) ?_
    refine j_cS (As := [.int (x >>> (6 &&& 31)), .int (nI 40)]) (rest := [.int (nI 1)]) cm_L_below ct_L_below ln_L_19 dL_act_1157 (d' := 0) (by decide) rfl rfl (Nat.le_of_ble_eq_true rfl) (Nat.le_of_ble_eq_true rfl) (s_L_below (x >>> (6 &&& 31)) 40 (by omega) (by omega)) ?_
    have hby : bl (x >>> (6 &&& 31)) 40 < 40 := bl_lt _ (by omega)
    generalize bl (x >>> (6 &&& 31)) 40 = y at hby ⊢
    have hy : y < 40 := by omega
    refine j_iadd dL_act_1160 ?_
    refine j_topi (y := nI (1 + y)) (nI_add _ _) ?_
    refine j_istore (L' := [some (.ref (ad 0)), some (.ref (ad 63)), some (.int x), some (.int (nI F)), some (.int (nI S)), some (.int (nI f)), some (.int (nI s)), some (.int dp), some (.int 1), some (.int (nI (1 + y))), none, none, none]) dL_act_1161 (by decide) rfl rfl ?_
    refine j_aload_n dL_act_1163 rfl ?_
    refine j_bud (bc' := F + 1 + (1 + 0) + 50) (bs' := F * S + F + (31 + 0) + 1000) (by omega) (by omega) ?_
    refine j_callV (As := []) (rest := []) (d' := 4) (Φ' := OS n ad E (fun n9 a9 E9 => SR g n9 a9 E9 F S su hrs gone m e (keC cnt) (keA cnt A m) mc B)) (Ψ' := fun _ _ _ _ => False) cm_X4_keep ci_X4_keep cs_X4_keep rfl ln_L_33 (ci := 4) rfl dL_act_1164 (by decide) hwn0 hw0 rfl rfl (Nat.le_of_ble_eq_true rfl) (Nat.le_of_ble_eq_true rfl) (c_X4_keep R hcn _) (fun v1 n1 a1 E1 q1 => ?_) (fun _ _ _ _ q => q.elim)
    obtain ⟨hv1, hn1, g1, e1, R1⟩ := q1
    subst hv1
    rw [keC_eq hcn] at R1
    rw [← g1 0 (by omega), ← g1 63 (by omega)]
    have C1 := C.tr63 (n' := n1) (ad' := a1) (E' := E1) (by omega) (fun k hk => g1 k (by omega)) (fun k hk => e1 k (by omega) (by omega))
    obtain ⟨iL1, iE1, r1, ia1, im1, X1⟩ := id R1
    replace X1 : SX g n1 a1 E1 iL1 iE1 r1 ia1 im1 F S su hrs gone m e (kCnt cnt) (keA cnt A m) mc B := X1
    obtain ⟨V1, ⟨lL1, lE1, lr1⟩, K11, K21⟩ := id X1
    obtain ⟨⟨hwn1, hLn1, hEn1, hrn1⟩, ⟨hwL1, hwE1, hLE1, hrA1⟩, hri1, hw1, hL1, hE1, hR1, -⟩ := id V1
    show J g mL_act 11 50 1000 1167 [some (.ref (a1 0)), some (.ref (a1 63)), some (.int x), some (.int (nI F)), some (.int (nI S)), some (.int (nI f)), some (.int (nI s)), some (.int dp), some (.int 1), some (.int (nI (1 + y))), none, none, none] [] n1 a1 E1 Φ Ψ
    refine j_aload_n dL_act_1167 rfl ?_
    refine j_iload dL_act_1168 rfl ?_
    refine j_cVp (As := [.int (nI (1 + y))]) (rest := []) cm_X3_passHours ci_X3_passHours cs_X3_passHours rfl ln_L_96 (ci := 3) rfl dL_act_1170 (d' := 7) (by decide) (by omega) C1.1 rfl rfl (Nat.le_of_ble_eq_true rfl) (Nat.le_of_ble_eq_true rfl) (s_X3_passHours C1 (1 + y) (by omega) (by omega)) (fun E3 q3 => ?_)
    show J g mL_act 11 50 1000 1173 [some (.ref (a1 0)), some (.ref (a1 63)), some (.int x), some (.int (nI F)), some (.int (nI S)), some (.int (nI f)), some (.int (nI s)), some (.int dp), some (.int 1), some (.int (nI (1 + y))), none, none, none] [.int ((flowR su ed F S (1 + y) lv).1)] n1 a1 E3 Φ Ψ
    have X3 := X1.tr (Nat.le_refl _) (fun _ _ => rfl) (fun k hk _ => q3.2 k hk)
    obtain ⟨V3, ⟨lL3, lE3, lr3⟩, K13, K23⟩ := id X3
    obtain ⟨⟨hwn3, hLn3, hEn3, hrn3⟩, ⟨hwL3, hwE3, hLE3, hrA3⟩, hri3, hw3, hL3, hE3, hR3, -⟩ := id V3
    refine j_aload_n dL_act_1173 rfl ?_
    refine j_iload dL_act_1174 rfl ?_
    refine j_cVp (As := [.int (nI (1 + y))]) (rest := [.int ((flowR su ed F S (1 + y) lv).1)]) cm_X4_pass_ ci_X4_pass_ cs_X4_pass_ rfl ln_L_99 (ci := 4) rfl dL_act_1176 (d' := 1) (by decide) hwn3 hw3 rfl rfl (Nat.le_of_ble_eq_true rfl) (Nat.le_of_ble_eq_true rfl) (s_X4_pass_ V3 (1 + y) (by omega)) (fun E4 q4 => ?_)
    show J g mL_act 11 50 1000 1179 [some (.ref (a1 0)), some (.ref (a1 63)), some (.int x), some (.int (nI F)), some (.int (nI S)), some (.int (nI f)), some (.int (nI s)), some (.int dp), some (.int 1), some (.int (nI (1 + y))), none, none, none] [.int ((passN su e F S (1 + y) m hrs gone).1), .int ((flowR su ed F S (1 + y) lv).1)] n1 a1 E4 Φ Ψ
    have X4 := X3.fr q4.1 q4.2
    have D4 := q3.1.fr q4.2 lL3 lE3 lr3
    obtain ⟨V4, ⟨lL4, lE4, lr4⟩, K14, K24⟩ := id X4
    obtain ⟨⟨hwn4, hLn4, hEn4, hrn4⟩, ⟨hwL4, hwE4, hLE4, hrA4⟩, hri4, hw4, hL4, hE4, hR4, -⟩ := id V4
    have pe := passN_eq (sun := su) (1 + y) (hrs := hrs) (gone := gone) hF1 hS1 L.2.2.2.2.1 L.2.2.2.2.2.1 L.2.1 L.1
    have pt := passN_top (hrs := hrs) (gone := gone) (show 1 + y ≤ 40 by omega) hF1 hS1 hN L.2.2.2.2.1 L.2.2.2.2.2.1 L.2.2.2.1 L.2.1 L.1 (by omega) (by omega) (by omega) (by omega) L.2.2.1
    rw [pt.1, pt.2] at X4
    refine j_icmp_ne_f (tgt := 1186) dL_act_1179 (by decide) pe.1 ?_
    refine j_iconst (v := 1) dL_act_1182 (by decide) ?_
    refine j_goto (tgt := 1187) dL_act_1183 (by decide) ?_
    exact j_zret dL_act_1187 rfl rfl (K _ _ _ hn1 g1 ⟨F, S, hrs + nI (1 + y), su, gone + (flowR su ed F S (1 + y) lv).1.toInt64, (flowR su ed F S (1 + y) lv).2, ed, kOld old cnt, kCnt cnt, rowUp dr (kSlot old cnt) (cpyN lv (dr (kSlot old cnt)) (F * S)), mc, mr, (passN su e F S (1 + y) m hrs gone).2.1, e, keA cnt A m, B, D4, X4.sr, L.keep hold hcn pe.2 ((flow_bd (by omega) hS1 hN L.2.2.2.2.1 L.2.2.2.2.2.1 L.2.2.2.1 (by omega) (by omega) (by omega) (by omega) L.2.2.1).2.le (by omega) (by omega))⟩)
  · skip
    refine j_if_ne_t (tgt := 1156) dL_act_1148 (by decide) (nI_ne0 (by omega) (by omega)) ?_
    refine j_iconst (v := nI 4) dL_act_1156 (by decide) ?_
    refine j_cS (As := [.int (x >>> (6 &&& 31)), .int (nI 4)]) (rest := [.int (nI 1)]) cm_L_below ct_L_below ln_L_19 dL_act_1157 (d' := 0) (by decide) rfl rfl (Nat.le_of_ble_eq_true rfl) (Nat.le_of_ble_eq_true rfl) (s_L_below (x >>> (6 &&& 31)) 4 (by omega) (by omega)) ?_
    have hby : bl (x >>> (6 &&& 31)) 4 < 4 := bl_lt _ (by omega)
    generalize bl (x >>> (6 &&& 31)) 4 = y at hby ⊢
    have hy : y < 40 := by omega
    refine j_iadd dL_act_1160 ?_
    refine j_topi (y := nI (1 + y)) (nI_add _ _) ?_
    refine j_istore (L' := [some (.ref (ad 0)), some (.ref (ad 63)), some (.int x), some (.int (nI F)), some (.int (nI S)), some (.int (nI f)), some (.int (nI s)), some (.int dp), some (.int 1), some (.int (nI (1 + y))), none, none, none]) dL_act_1161 (by decide) rfl rfl ?_
    refine j_aload_n dL_act_1163 rfl ?_
    refine j_bud (bc' := F + 1 + (1 + 0) + 50) (bs' := F * S + F + (31 + 0) + 1000) (by omega) (by omega) ?_
    refine j_callV (As := []) (rest := []) (d' := 4) (Φ' := OS n ad E (fun n9 a9 E9 => SR g n9 a9 E9 F S su hrs gone m e (keC cnt) (keA cnt A m) mc B)) (Ψ' := fun _ _ _ _ => False) cm_X4_keep ci_X4_keep cs_X4_keep rfl ln_L_33 (ci := 4) rfl dL_act_1164 (by decide) hwn0 hw0 rfl rfl (Nat.le_of_ble_eq_true rfl) (Nat.le_of_ble_eq_true rfl) (c_X4_keep R hcn _) (fun v1 n1 a1 E1 q1 => ?_) (fun _ _ _ _ q => q.elim)
    obtain ⟨hv1, hn1, g1, e1, R1⟩ := q1
    subst hv1
    rw [keC_eq hcn] at R1
    rw [← g1 0 (by omega), ← g1 63 (by omega)]
    have C1 := C.tr63 (n' := n1) (ad' := a1) (E' := E1) (by omega) (fun k hk => g1 k (by omega)) (fun k hk => e1 k (by omega) (by omega))
    obtain ⟨iL1, iE1, r1, ia1, im1, X1⟩ := id R1
    replace X1 : SX g n1 a1 E1 iL1 iE1 r1 ia1 im1 F S su hrs gone m e (kCnt cnt) (keA cnt A m) mc B := X1
    obtain ⟨V1, ⟨lL1, lE1, lr1⟩, K11, K21⟩ := id X1
    obtain ⟨⟨hwn1, hLn1, hEn1, hrn1⟩, ⟨hwL1, hwE1, hLE1, hrA1⟩, hri1, hw1, hL1, hE1, hR1, -⟩ := id V1
    show J g mL_act 11 50 1000 1167 [some (.ref (a1 0)), some (.ref (a1 63)), some (.int x), some (.int (nI F)), some (.int (nI S)), some (.int (nI f)), some (.int (nI s)), some (.int dp), some (.int 1), some (.int (nI (1 + y))), none, none, none] [] n1 a1 E1 Φ Ψ
    refine j_aload_n dL_act_1167 rfl ?_
    refine j_iload dL_act_1168 rfl ?_
    refine j_cVp (As := [.int (nI (1 + y))]) (rest := []) cm_X3_passHours ci_X3_passHours cs_X3_passHours rfl ln_L_96 (ci := 3) rfl dL_act_1170 (d' := 7) (by decide) (by omega) C1.1 rfl rfl (Nat.le_of_ble_eq_true rfl) (Nat.le_of_ble_eq_true rfl) (s_X3_passHours C1 (1 + y) (by omega) (by omega)) (fun E3 q3 => ?_)
    show J g mL_act 11 50 1000 1173 [some (.ref (a1 0)), some (.ref (a1 63)), some (.int x), some (.int (nI F)), some (.int (nI S)), some (.int (nI f)), some (.int (nI s)), some (.int dp), some (.int 1), some (.int (nI (1 + y))), none, none, none] [.int ((flowR su ed F S (1 + y) lv).1)] n1 a1 E3 Φ Ψ
    have X3 := X1.tr (Nat.le_refl _) (fun _ _ => rfl) (fun k hk _ => q3.2 k hk)
    obtain ⟨V3, ⟨lL3, lE3, lr3⟩, K13, K23⟩ := id X3
    obtain ⟨⟨hwn3, hLn3, hEn3, hrn3⟩, ⟨hwL3, hwE3, hLE3, hrA3⟩, hri3, hw3, hL3, hE3, hR3, -⟩ := id V3
    refine j_aload_n dL_act_1173 rfl ?_
    refine j_iload dL_act_1174 rfl ?_
    refine j_cVp (As := [.int (nI (1 + y))]) (rest := [.int ((flowR su ed F S (1 + y) lv).1)]) cm_X4_pass_ ci_X4_pass_ cs_X4_pass_ rfl ln_L_99 (ci := 4) rfl dL_act_1176 (d' := 1) (by decide) hwn3 hw3 rfl rfl (Nat.le_of_ble_eq_true rfl) (Nat.le_of_ble_eq_true rfl) (s_X4_pass_ V3 (1 + y) (by omega)) (fun E4 q4 => ?_)
    show J g mL_act 11 50 1000 1179 [some (.ref (a1 0)), some (.ref (a1 63)), some (.int x), some (.int (nI F)), some (.int (nI S)), some (.int (nI f)), some (.int (nI s)), some (.int dp), some (.int 1), some (.int (nI (1 + y))), none, none, none] [.int ((passN su e F S (1 + y) m hrs gone).1), .int ((flowR su ed F S (1 + y) lv).1)] n1 a1 E4 Φ Ψ
    have X4 := X3.fr q4.1 q4.2
    have D4 := q3.1.fr q4.2 lL3 lE3 lr3
    obtain ⟨V4, ⟨lL4, lE4, lr4⟩, K14, K24⟩ := id X4
    obtain ⟨⟨hwn4, hLn4, hEn4, hrn4⟩, ⟨hwL4, hwE4, hLE4, hrA4⟩, hri4, hw4, hL4, hE4, hR4, -⟩ := id V4
    have pe := passN_eq (sun := su) (1 + y) (hrs := hrs) (gone := gone) hF1 hS1 L.2.2.2.2.1 L.2.2.2.2.2.1 L.2.1 L.1
    have pt := passN_top (hrs := hrs) (gone := gone) (show 1 + y ≤ 40 by omega) hF1 hS1 hN L.2.2.2.2.1 L.2.2.2.2.2.1 L.2.2.2.1 L.2.1 L.1 (by omega) (by omega) (by omega) (by omega) L.2.2.1
    rw [pt.1, pt.2] at X4
    refine j_icmp_ne_f (tgt := 1186) dL_act_1179 (by decide) pe.1 ?_
    refine j_iconst (v := 1) dL_act_1182 (by decide) ?_
    refine j_goto (tgt := 1187) dL_act_1183 (by decide) ?_
    exact j_zret dL_act_1187 rfl rfl (K _ _ _ hn1 g1 ⟨F, S, hrs + nI (1 + y), su, gone + (flowR su ed F S (1 + y) lv).1.toInt64, (flowR su ed F S (1 + y) lv).2, ed, kOld old cnt, kCnt cnt, rowUp dr (kSlot old cnt) (cpyN lv (dr (kSlot old cnt)) (F * S)), mc, mr, (passN su e F S (1 + y) m hrs gone).2.1, e, keA cnt A m, B, D4, X4.sr, L.keep hold hcn pe.2 ((flow_bd (by omega) hS1 hN L.2.2.2.2.1 L.2.2.2.2.2.1 L.2.2.2.1 (by omega) (by omega) (by omega) (by omega) L.2.2.1).2.le (by omega) (by omega))⟩)
theorem nI_nle_iff {k : Nat} (h : k < 2 ^ 31) : (nI k ≤ 0) = (k = 0) := by
  rw [Int32.le_iff_toInt_le, nI_toInt h, z_i]
  exact propext ⟨fun q => by omega, fun q => by omega⟩
set_option maxRecDepth 100000 in
set_option maxHeartbeats 4000000 in
theorem ac_lay {g : jG} {n : Nat} {ad : Nat → Nat} {E : Nat → va_E} {i F S : Nat} {hrs su : Int32} {gone : Int64} {lv ed : Nat → Int32} {old cnt : Nat} {dr : Nat → Nat → Int32} {mc : Nat} {mr : Nat → Nat → Int32} {m : Nat → Nat → Int32} {e : Nat → Int32} {A B : Nat → Nat → Nat → Int32} (C : CR g n ad E F S hrs su gone lv ed old cnt dr mc mr) (R : SR g n ad E F S su hrs gone m e cnt A mc B) (L : RS i F S su lv ed old cnt dr mc mr m e A B) (hi : i ≤ 500) (x : Int32) (f s : Nat) (hf : f < F) (hs : s < S) (dp : Int32) (hd1 : ¬ dp < -99) (hd2 : dp ≤ 99) {Φ : Option Value → jR} {Ψ : String → jR} (K : ∀ (n9 : Nat) (a9 : Nat → Nat) (E9 : Nat → va_E), n ≤ n9 → (∀ k, k < n → a9 k = ad k) → AS (i + 1) g n9 a9 E9 → Φ (some (.int 1)) n9 a9 E9) : J g mL_act 11 60 1200 176 [some (.ref (ad 0)), some (.ref (ad 63)), some (.int x), some (.int (nI F)), some (.int (nI S)), some (.int (nI f)), some (.int (nI s)), some (.int dp), some (.int 1), none, none, none, none] [] n ad E Φ Ψ := by
  obtain ⟨hF8, hS16, hF1, hS1, hold, hcn, hmc, hN, hn63⟩ := C.bd
  obtain ⟨iL0, iE0, r0, ia0, im0, X0⟩ := id R
  replace X0 : SX g n ad E iL0 iE0 r0 ia0 im0 F S su hrs gone m e cnt A mc B := X0
  obtain ⟨V0, ⟨lL0, lE0, lr0⟩, K10, K20⟩ := id X0
  obtain ⟨⟨hwn0, hLn0, hEn0, hrn0⟩, ⟨hwL0, hwE0, hLE0, hrA0⟩, hri0, hw0, hL0, hE0, hR0, -⟩ := id V0
  show J g mL_act 11 60 1200 176 [some (.ref (ad 0)), some (.ref (ad 63)), some (.int x), some (.int (nI F)), some (.int (nI S)), some (.int (nI f)), some (.int (nI s)), some (.int dp), some (.int 1), none, none, none, none] [] n ad E Φ Ψ
  refine j_iload_n dL_act_176 rfl ?_
  refine j_iconst (v := 5) dL_act_177 (by decide) ?_
  refine j_ishr dL_act_178 ?_
  refine j_iconst (v := nI 5) dL_act_179 (by decide) ?_
  refine j_cS (As := [.int (x >>> (5 &&& 31)), .int (nI 5)]) (rest := []) cm_L_below ct_L_below ln_L_19 dL_act_180 (d' := 0) (by decide) rfl rfl (Nat.le_of_ble_eq_true rfl) (Nat.le_of_ble_eq_true rfl) (s_L_below (x >>> (5 &&& 31)) 5 (by omega) (by omega)) ?_
  have hbz : bl (x >>> (5 &&& 31)) 5 < 5 := bl_lt _ (by omega)
  generalize bl (x >>> (5 &&& 31)) 5 = z at hbz ⊢
  by_cases hz : 0 < z
  · skip
    refine j_if_le_f (tgt := 188) dL_act_183 (by decide) (by rw [nI_nle_iff (by omega)]; omega) ?_
    refine j_iconst (v := 1) dL_act_186 (by decide) ?_
    exact j_zret dL_act_187 rfl rfl (K _ _ _ (Nat.le_refl _) (fun _ _ => rfl) ⟨F, S, hrs, su, gone, lv, ed, old, cnt, dr, mc, mr, m, e, A, B, C, R, L.le⟩)
  · skip
    refine j_if_le_t (tgt := 188) dL_act_183 (by decide) (by rw [nI_nle_iff (by omega)]; omega) ?_
    refine j_iconst (v := nI 1) dL_act_188 (by decide) ?_
    refine j_iload_n dL_act_189 rfl ?_
    refine j_iconst (v := 3) dL_act_190 (by decide) ?_
    refine j_ishr dL_act_191 ?_
    refine j_bipush (v := nI 8) dL_act_192 (by decide) ?_
    refine j_cS (As := [.int (x >>> (3 &&& 31)), .int (nI 8)]) (rest := [.int (nI 1)]) cm_L_below ct_L_below ln_L_19 dL_act_194 (d' := 0) (by decide) rfl rfl (Nat.le_of_ble_eq_true rfl) (Nat.le_of_ble_eq_true rfl) (s_L_below (x >>> (3 &&& 31)) 8 (by omega) (by omega)) ?_
    have hby1 : bl (x >>> (3 &&& 31)) 8 < 8 := bl_lt _ (by omega)
    generalize bl (x >>> (3 &&& 31)) 8 = y1 at hby1 ⊢
    refine j_iadd dL_act_197 ?_
    refine j_topi (y := nI (1 + y1)) (nI_add _ _) ?_
    refine j_istore (L' := [some (.ref (ad 0)), some (.ref (ad 63)), some (.int x), some (.int (nI F)), some (.int (nI S)), some (.int (nI f)), some (.int (nI s)), some (.int dp), some (.int 1), some (.int (nI (1 + y1))), none, none, none]) dL_act_198 (by decide) rfl rfl ?_
    refine j_iconst (v := nI 1) dL_act_200 (by decide) ?_
    refine j_iload_n dL_act_201 rfl ?_
    refine j_bipush (v := 6) dL_act_202 (by decide) ?_
    refine j_ishr dL_act_204 ?_
    refine j_bipush (v := nI 16) dL_act_205 (by decide) ?_
    refine j_cS (As := [.int (x >>> (6 &&& 31)), .int (nI 16)]) (rest := [.int (nI 1)]) cm_L_below ct_L_below ln_L_19 dL_act_207 (d' := 0) (by decide) rfl rfl (Nat.le_of_ble_eq_true rfl) (Nat.le_of_ble_eq_true rfl) (s_L_below (x >>> (6 &&& 31)) 16 (by omega) (by omega)) ?_
    have hby2 : bl (x >>> (6 &&& 31)) 16 < 16 := bl_lt _ (by omega)
    generalize bl (x >>> (6 &&& 31)) 16 = y2 at hby2 ⊢
    refine j_iadd dL_act_210 ?_
    refine j_topi (y := nI (1 + y2)) (nI_add _ _) ?_
    refine j_istore (L' := [some (.ref (ad 0)), some (.ref (ad 63)), some (.int x), some (.int (nI F)), some (.int (nI S)), some (.int (nI f)), some (.int (nI s)), some (.int dp), some (.int 1), some (.int (nI (1 + y1))), some (.int (nI (1 + y2))), none, none]) dL_act_211 (by decide) rfl rfl ?_
    have ha1 : 1 ≤ 1 + y1 ∧ 1 + y1 ≤ 8 := by omega
    have hb1 : 1 ≤ 1 + y2 ∧ 1 + y2 ≤ 16 := by omega
    generalize 1 + y1 = a at ha1 ⊢
    generalize 1 + y2 = b at hb1 ⊢
    have hab : a * b ≤ 128 := fs128 ha1.2 hb1.2
    show J g mL_act 11 60 1200 213 [some (.ref (ad 0)), some (.ref (ad 63)), some (.int x), some (.int (nI F)), some (.int (nI S)), some (.int (nI f)), some (.int (nI s)), some (.int dp), some (.int 1), some (.int (nI a)), some (.int (nI b)), none, none] [] n ad E Φ Ψ
    refine j_aload_n dL_act_213 rfl ?_
    refine j_iload dL_act_214 rfl ?_
    refine j_iload dL_act_216 rfl ?_
    refine j_bud (bc' := 3 + 1 + a + 40) (bs' := 0 + b + a + a * b + 900) (by omega) (by omega) ?_
    refine j_callV (As := [.int (nI a), .int (nI b)]) (rest := []) (d' := 1) (Φ' := OS n ad E (fun n9 a9 E9 => SR g n9 a9 E9 a b su hrs gone (fun _ _ => 0) (fifty b b) 0 A 0 B)) (Ψ' := fun _ _ _ _ => False) cm_X4_lay ci_X4_lay cs_X4_lay rfl ln_L_25 (ci := 4) rfl dL_act_218 (by decide) hwn0 hw0 rfl rfl (Nat.le_of_ble_eq_true rfl) (Nat.le_of_ble_eq_true rfl) (c_X4_lay R ha1.1 ha1.2 hb1.1 hb1.2 _) (fun v1 n1 a1 E1 q1 => ?_) (fun _ _ _ _ q => q.elim)
    obtain ⟨hv1, hn1, g1, e1, R1⟩ := q1
    subst hv1
    rw [← g1 0 (by omega), ← g1 63 (by omega)]
    have C1 := C.tr63 (n' := n1) (ad' := a1) (E' := E1) (by omega) (fun k hk => g1 k (by omega)) (fun k hk => e1 k (by omega) (by omega))
    obtain ⟨iL1, iE1, r1, ia1, im1, X1⟩ := id R1
    replace X1 : SX g n1 a1 E1 iL1 iE1 r1 ia1 im1 a b su hrs gone (fun _ _ => 0) (fifty b b) 0 A 0 B := X1
    obtain ⟨V1, ⟨lL1, lE1, lr1⟩, K11, K21⟩ := id X1
    obtain ⟨⟨hwn1, hLn1, hEn1, hrn1⟩, ⟨hwL1, hwE1, hLE1, hrA1⟩, hri1, hw1, hL1, hE1, hR1, -⟩ := id V1
    show J g mL_act 11 40 900 221 [some (.ref (a1 0)), some (.ref (a1 63)), some (.int x), some (.int (nI F)), some (.int (nI S)), some (.int (nI f)), some (.int (nI s)), some (.int dp), some (.int 1), some (.int (nI a)), some (.int (nI b)), none, none] [] n1 a1 E1 Φ Ψ
    refine j_aload_n dL_act_221 rfl ?_
    refine j_iload dL_act_222 rfl ?_
    refine j_iload dL_act_224 rfl ?_
    refine j_cVp (As := [.int (nI a), .int (nI b)]) (rest := []) cm_X3_lay ci_X3_lay cs_X3_lay rfl ln_L_29 (ci := 3) rfl dL_act_226 (d' := 7) (by decide) (by omega) C1.1 rfl rfl (Nat.le_of_ble_eq_true rfl) (Nat.le_of_ble_eq_true rfl) (s_X3_lay C1 a b ha1.1 ha1.2 hb1.1 hb1.2) (fun E3 q3 => ?_)
    show J g mL_act 11 40 900 229 [some (.ref (a1 0)), some (.ref (a1 63)), some (.int x), some (.int (nI F)), some (.int (nI S)), some (.int (nI f)), some (.int (nI s)), some (.int dp), some (.int 1), some (.int (nI a)), some (.int (nI b)), none, none] [.int (nI (a * b))] n1 a1 E3 Φ Ψ
    have X3 := X1.tr (Nat.le_refl _) (fun _ _ => rfl) (fun k hk _ => q3.2 k hk)
    obtain ⟨V3, ⟨lL3, lE3, lr3⟩, K13, K23⟩ := id X3
    obtain ⟨⟨hwn3, hLn3, hEn3, hrn3⟩, ⟨hwL3, hwE3, hLE3, hrA3⟩, hri3, hw3, hL3, hE3, hR3, -⟩ := id V3
    refine j_iload dL_act_229 rfl ?_
    refine j_iload dL_act_231 rfl ?_
    refine j_imul dL_act_233 ?_
    refine j_topi (y := nI (a * b)) (pk_mul _ _) ?_
    refine j_icmp_ne_f (tgt := 241) dL_act_234 (by decide) (nI_eq' (by omega)) ?_
    refine j_iconst (v := 1) dL_act_237 (by decide) ?_
    refine j_goto (tgt := 242) dL_act_238 (by decide) ?_
    exact j_zret dL_act_242 rfl rfl (K _ _ _ hn1 g1 ⟨a, b, hrs, su, gone, cpyN (fun _ => 0) lv 128, cpyN (fun _ => 50) ed 16, 0, 0, dr, 0, mr, fun _ _ => 0, fifty b b, A, B, q3.1, X3.sr, L.lay ha1.2 hb1.2⟩)
