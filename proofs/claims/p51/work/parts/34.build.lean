/-! build: a staircase chosen, and deeds on it. -/
theorem RS.fresh {a b i : Nat} {lv ed : Nat → Int32} {dr mr : Nat → Nat → Int32} {A B : Nat → Nat → Nat → Int32} (ha : a ≤ 8) (hb : b ≤ 16) : RS i a b 1 (cpyN (fun _ => 0) lv 128) (cpyN (fun _ => 50) ed 16) 0 0 dr 0 mr (fun _ _ => 0) (fifty b b) A B := by
  have hab := fs128 ha hb
  have z5 : (50 : Int32).toInt = 50 := by decide
  refine ⟨fun k hk => ?_, fun s hs => ?_, fun k hk => ?_, fun s hs => ?_, by decide, by decide, fun p hp => absurd hp (Nat.not_lt_zero p), fun p hp => absurd hp (Nat.not_lt_zero p)⟩
  · rw [cpyN_lt (by omega)]
    rfl
  · rw [cpyN_lt (by omega)]
    exact (if_pos hs).symm
  · rw [cpyN_lt (by omega), z_i]
    omega
  · rw [cpyN_lt (by omega), z5]
    omega
/-- the Sim as its constructor leaves it -/
theorem SR.init {g : jG} {ad : Nat → Nat} {E : Nat → va_E} {n' : Nat} {ad' : Nat → Nat} {E' : Nat → va_E} {v : Option Value} {A B : Nat → Nat → Nat → Int32} (q : OI g 63 64 ad E v n' ad' E') : ∃ e, SR g n' ad' E' 4 8 1 0 0 (fun _ _ => 0) e 0 A 0 B := by
  obtain ⟨-, rfl, x1, x2, x3, x4, x5, ⟨h, x6⟩, x7, x8⟩ := q
  have nX : ∀ k, 70 ≤ k → ¬ (Mu 63 64 69 4 (fun f => 65 + f) k ∨ k < 63) := fun k hk z => by
    rcases z with (z | z | z | ⟨f, hf, z⟩) | z <;> first | omega | (dsimp only at z; omega)
  exact ⟨h, 64, 69, fun f => 65 + f, 70, 71, ⟨⟨by decide, by decide, by decide, fun f hf => (show 65 + f < 72 by omega)⟩, ⟨by decide, by decide, by decide, fun f hf => ⟨(show 65 + f ≠ 63 by omega), (show 65 + f ≠ 64 by omega), (show 65 + f ≠ 69 by omega)⟩⟩, fun f f' _ _ q => (by have : 65 + f = 65 + f' := q; omega), x3, x4, x6, fun f hf => x5 f hf, ⟨by decide, by decide⟩, by decide, by decide⟩, ⟨by decide, by decide, fun f hf => (show 63 ≤ 65 + f by omega)⟩, ⟨⟨by decide, nX _ (by decide)⟩, fun _ => 0, fun _ _ => 0, x7.trans (aP_cg (funext fun k => (if_neg (Nat.not_lt_zero k)).symm)), fun k hk => absurd hk (Nat.not_lt_zero k)⟩, ⟨⟨by decide, nX _ (by decide)⟩, fun _ => 0, fun _ _ => 0, x8.trans (aP_cg (funext fun k => (if_neg (Nat.not_lt_zero k)).symm)), fun k hk => absurd hk (Nat.not_lt_zero k)⟩⟩
/-- one deed, as a call of act -/
def OAct (i n : Nat) (ad : Nat → Nat) (g : jG) : Option Value → jR := fun v n' ad' E' => v = some (.int 1) ∧ n ≤ n' ∧ (∀ k, k < n → ad' k = ad k) ∧ AS (i + 1) g n' ad' E'
theorem c_actO {g : jG} {n : Nat} {ad : Nat → Nat} {E : Nat → va_E} {i : Nat} (Q : AS i g n ad E) (hi : i ≤ 500) (x : Int32) (Ψ : String → jR) : JE g mL_act 11 60 1200 [.ref (ad 0), .ref (ad 63), .int x] n ad E (OAct i n ad g) Ψ := c_act Q hi x (fun n9 a9 E9 h1 h2 h3 => ⟨rfl, h1, h2, h3⟩)
theorem AS.n64 {g : jG} {n : Nat} {ad : Nat → Nat} {E : Nat → va_E} {i : Nat} (Q : AS i g n ad E) : 63 < n := by
  obtain ⟨F, S, hrs, su, gone, lv, ed, old, cnt, dr, mc, mr, m, e, A, B, C, ⟨iL, iE, r, ia, im, V, -⟩, L⟩ := Q
  exact V.1.1
def OB (g : jG) (ad : Nat → Nat) : Option Value → jR := fun v n' ad' E' => v = some (.ref (ad' 63)) ∧ 63 < n' ∧ (∀ k, k < 63 → ad' k = ad k) ∧ ∃ i, i ≤ 40 ∧ AS i g n' ad' E'
set_option maxRecDepth 100000 in
set_option maxHeartbeats 4000000 in
theorem c_build {g : jG} {ad : Nat → Nat} {E : Nat → va_E} {lv ed : Nat → Int32} {old cnt : Nat} {dr : Nat → Nat → Int32} {mc : Nat} {mr : Nat → Nat → Int32} (C : CR g 63 ad E 4 8 0 1 0 lv ed old cnt dr mc mr) (hL : g.1.2.2.1 ≤ 260) (Ψ : String → jR) : JE g mL_build 12 2100 44000 [.ref (ad 0), .ref g.1.2.1] 63 ad E (OB g ad) Ψ := by
  show J g mL_build 12 2100 44000 0 [some (.ref (ad 0)), some (.ref g.1.2.1), none, none, none, none, none, none] [] 63 ad E (OB g ad) Ψ
  refine j_bud (bc' := 2000 + 1) (bs' := 43000 + 7) (by decide) (by decide) ?_
  refine j_new (bc := 2000) (bs := 43000) (fs := [.null, .null, .int 0, .int 0, .long 0, .null, .null]) (C0 := RX4) (T0 := TX4) (N0 := 7) (ci := 4) rfl wcl_X4 fp_X4 cl_L_10 in_X4 iz_X4 (fun j hj => by match j, hj with | 0, _ => rfl | 1, _ => rfl | 2, _ => rfl | 3, _ => rfl | 4, _ => rfl | 5, _ => rfl | 6, _ => rfl) dL_build_0 (fun a1 g1 => ?_)
  rw [← g1 0 (by decide)]
  refine j_dup dL_build_3 rfl ?_
  refine j_bud (bc' := 3 + 1 + 4 + 1900) (bs' := 8 + 4 + 4 * 8 + 42000) (by decide) (by decide) ?_
  refine j_callI (k := 63) (As := []) (rest := [.ref (a1 63)]) (d' := 2) (Φ' := OI g 63 64 a1 (va_up E 63 (.inr (4, [.null, .null, .int 0, .int 0, .long 0, .null, .null])))) (Ψ' := fun _ _ _ _ => False) cm_X4_init rfl rfl ci_X4_init rfl (Or.inr ln_L_104) dL_build_4 (by decide) rfl rfl (Nat.le_of_ble_eq_true rfl) (Nat.le_of_ble_eq_true rfl) (c_X4_init (by decide) up_eq _) (fun v n2 a2 E2 q => ?_) (fun _ _ _ _ q => q.elim)
  obtain ⟨e2, R2⟩ := SR.init (A := fun _ _ _ => 0) (B := fun _ _ _ => 0) q
  obtain ⟨rfl, rfl, x1, x2, -⟩ := q
  rw [← x1 0 (by decide), ← x1 63 (by decide)]
  have C2 := C.tr63 (n' := 72) (ad' := a2) (E' := E2) (by decide) (fun k hk => (x1 k (by omega)).trans (g1 k hk)) (fun k hk => (x2 k (by omega) (by omega)).trans (up_ne (by omega)))
  have hwn : 63 < 72 := by decide
  show J g mL_build 12 1900 42000 7 [some (.ref (a2 0)), some (.ref g.1.2.1), none, none, none, none, none, none] [.ref (a2 63)] 72 a2 E2 (OB g ad) Ψ
  refine j_astore_n (L' := [some (.ref (a2 0)), some (.ref g.1.2.1), some (.ref (a2 63)), none, none, none, none, none]) dL_build_7 (by decide) rfl rfl ?_
  refine j_iconst (v := nI 1) dL_build_8 (by decide) ?_
  refine j_aload_n dL_build_9 rfl ?_
  refine j_iconst (v := nI 0) dL_build_10 (by decide) ?_
  refine j_cS (As := [.ref g.1.2.1, .int (nI 0)]) (rest := [.int (nI 1)]) cm_L_cell ct_L_cell ln_L_105 dL_build_11 (d' := 0) (by decide) rfl rfl (Nat.le_of_ble_eq_true rfl) (Nat.le_of_ble_eq_true rfl) (s_L_cell 0 (by omega) hL) ?_
  refine j_bipush (v := nI 8) dL_build_14 (by decide) ?_
  refine j_cS (As := [.int (clv g 0), .int (nI 8)]) (rest := [.int (nI 1)]) cm_L_below ct_L_below ln_L_19 dL_build_16 (d' := 0) (by decide) rfl rfl (Nat.le_of_ble_eq_true rfl) (Nat.le_of_ble_eq_true rfl) (s_L_below (clv g 0) 8 (by omega) (by omega)) ?_
  have hby1 : bl (clv g 0) 8 < 8 := bl_lt _ (by omega)
  generalize bl (clv g 0) 8 = y1 at hby1 ⊢
  refine j_iadd dL_build_19 ?_
  refine j_topi (y := nI (1 + y1)) (nI_add _ _) ?_
  refine j_istore_n (L' := [some (.ref (a2 0)), some (.ref g.1.2.1), some (.ref (a2 63)), some (.int (nI (1 + y1))), none, none, none, none]) dL_build_20 (by decide) rfl rfl ?_
  refine j_iconst (v := nI 1) dL_build_21 (by decide) ?_
  refine j_aload_n dL_build_22 rfl ?_
  refine j_iconst (v := nI 0) dL_build_23 (by decide) ?_
  refine j_cS (As := [.ref g.1.2.1, .int (nI 0)]) (rest := [.int (nI 1)]) cm_L_cell ct_L_cell ln_L_105 dL_build_24 (d' := 0) (by decide) rfl rfl (Nat.le_of_ble_eq_true rfl) (Nat.le_of_ble_eq_true rfl) (s_L_cell 0 (by omega) hL) ?_
  refine j_iconst (v := 4) dL_build_27 (by decide) ?_
  refine j_ishr dL_build_28 ?_
  refine j_bipush (v := nI 16) dL_build_29 (by decide) ?_
  refine j_cS (As := [.int ((clv g 0) >>> (4 &&& 31)), .int (nI 16)]) (rest := [.int (nI 1)]) cm_L_below ct_L_below ln_L_19 dL_build_31 (d' := 0) (by decide) rfl rfl (Nat.le_of_ble_eq_true rfl) (Nat.le_of_ble_eq_true rfl) (s_L_below ((clv g 0) >>> (4 &&& 31)) 16 (by omega) (by omega)) ?_
  have hby2 : bl ((clv g 0) >>> (4 &&& 31)) 16 < 16 := bl_lt _ (by omega)
  generalize bl ((clv g 0) >>> (4 &&& 31)) 16 = y2 at hby2 ⊢
  refine j_iadd dL_build_34 ?_
  refine j_topi (y := nI (1 + y2)) (nI_add _ _) ?_
  refine j_istore (L' := [some (.ref (a2 0)), some (.ref g.1.2.1), some (.ref (a2 63)), some (.int (nI (1 + y1))), some (.int (nI (1 + y2))), none, none, none]) dL_build_35 (by decide) rfl rfl ?_
  have ha1 : 1 ≤ 1 + y1 ∧ 1 + y1 ≤ 8 := by omega
  have hb1 : 1 ≤ 1 + y2 ∧ 1 + y2 ≤ 16 := by omega
  generalize 1 + y1 = a at ha1 ⊢
  generalize 1 + y2 = b at hb1 ⊢
  have hab : a * b ≤ 128 := fs128 ha1.2 hb1.2
  show J g mL_build 12 1900 42000 37 [some (.ref (a2 0)), some (.ref g.1.2.1), some (.ref (a2 63)), some (.int (nI a)), some (.int (nI b)), none, none, none] [] 72 a2 E2 (OB g ad) Ψ
  refine j_aload_n dL_build_37 rfl ?_
  refine j_iload_n dL_build_38 rfl ?_
  refine j_iload dL_build_39 rfl ?_
  refine j_bud (bc' := 3 + 1 + a + 1850) (bs' := 0 + b + a + a * b + 41000) (by omega) (by omega) ?_
  obtain ⟨iL0, iE0, r0, ia0, im0, V0, -⟩ := id R2
  refine j_callV (As := [.int (nI a), .int (nI b)]) (rest := []) (d' := 1) (Φ' := OS 72 a2 E2 (fun n9 a9 E9 => SR g n9 a9 E9 a b 1 0 0 (fun _ _ => 0) (fifty b b) 0 (fun _ _ _ => 0) 0 (fun _ _ _ => 0))) (Ψ' := fun _ _ _ _ => False) cm_X4_lay ci_X4_lay cs_X4_lay rfl ln_L_25 (ci := 4) rfl dL_build_41 (by decide) hwn V0.2.2.2.1 rfl rfl (Nat.le_of_ble_eq_true rfl) (Nat.le_of_ble_eq_true rfl) (c_X4_lay R2 ha1.1 ha1.2 hb1.1 hb1.2 _) (fun v3 n3 a3 E3 q3 => ?_) (fun _ _ _ _ q => q.elim)
  obtain ⟨hv3, hn3, g3, e3, R3⟩ := q3
  subst hv3
  rw [← g3 0 (by omega), ← g3 63 (by omega)]
  have C3 := C2.tr63 (n' := n3) (ad' := a3) (E' := E3) (by omega) (fun k hk => g3 k (by omega)) (fun k hk => e3 k (by omega) (by omega))
  show J g mL_build 12 1850 41000 44 [some (.ref (a3 0)), some (.ref g.1.2.1), some (.ref (a3 63)), some (.int (nI a)), some (.int (nI b)), none, none, none] [] n3 a3 E3 (OB g ad) Ψ
  refine j_aload_n dL_build_44 rfl ?_
  refine j_iload_n dL_build_45 rfl ?_
  refine j_iload dL_build_46 rfl ?_
  refine j_cVp (As := [.int (nI a), .int (nI b)]) (rest := []) cm_X3_lay ci_X3_lay cs_X3_lay rfl ln_L_29 (ci := 3) rfl dL_build_48 (d' := 7) (by decide) (by omega) C3.1 rfl rfl (Nat.le_of_ble_eq_true rfl) (Nat.le_of_ble_eq_true rfl) (s_X3_lay C3 a b ha1.1 ha1.2 hb1.1 hb1.2) (fun E4 q4 => ?_)
  show J g mL_build 12 1850 41000 51 [some (.ref (a3 0)), some (.ref g.1.2.1), some (.ref (a3 63)), some (.int (nI a)), some (.int (nI b)), none, none, none] [.int (nI (a * b))] n3 a3 E4 (OB g ad) Ψ
  have R4 := R3.tr (Nat.le_refl _) (fun _ _ => rfl) (fun k hk _ => q4.2 k hk)
  have Q4 : AS 0 g n3 a3 E4 := ⟨a, b, 0, 1, 0, _, _, 0, 0, _, 0, _, _, _, _, _, q4.1, R4, RS.fresh ha1.2 hb1.2⟩
  refine j_iload_n dL_build_51 rfl ?_
  refine j_iload dL_build_52 rfl ?_
  refine j_imul dL_build_54 ?_
  refine j_topi (y := nI (a * b)) (pk_mul _ _) ?_
  refine j_icmp_eq_t (tgt := 60) dL_build_55 (by decide) rfl ?_
  refine j_bipush (v := nI 6) dL_build_60 (by decide) ?_
  refine j_aload_n dL_build_62 rfl ?_
  refine j_iconst (v := nI 0) dL_build_63 (by decide) ?_
  refine j_cS (As := [.ref g.1.2.1, .int (nI 0)]) (rest := [.int (nI 6)]) cm_L_cell ct_L_cell ln_L_105 dL_build_64 (d' := 0) (by decide) rfl rfl (Nat.le_of_ble_eq_true rfl) (Nat.le_of_ble_eq_true rfl) (s_L_cell 0 (by omega) hL) ?_
  refine j_bipush (v := 7) dL_build_67 (by decide) ?_
  refine j_ishr dL_build_69 ?_
  refine j_bipush (v := nI 24) dL_build_70 (by decide) ?_
  refine j_cS (As := [.int ((clv g 0) >>> (7 &&& 31)), .int (nI 24)]) (rest := [.int (nI 6)]) cm_L_below ct_L_below ln_L_19 dL_build_72 (d' := 0) (by decide) rfl rfl (Nat.le_of_ble_eq_true rfl) (Nat.le_of_ble_eq_true rfl) (s_L_below ((clv g 0) >>> (7 &&& 31)) 24 (by omega) (by omega)) ?_
  have hby3 : bl ((clv g 0) >>> (7 &&& 31)) 24 < 24 := bl_lt _ (by omega)
  generalize bl ((clv g 0) >>> (7 &&& 31)) 24 = y3 at hby3 ⊢
  refine j_iadd dL_build_75 ?_
  refine j_topi (y := nI (6 + y3)) (nI_add _ _) ?_
  have hN : 6 + y3 ≤ 30 := by omega
  generalize 6 + y3 = N9 at hN ⊢
  show J g mL_build 12 1850 41000 76 [some (.ref (a3 0)), some (.ref g.1.2.1), some (.ref (a3 63)), some (.int (nI a)), some (.int (nI b)), none, none, none] [.int (nI N9)] n3 a3 E4 (OB g ad) Ψ
  refine j_istore (L' := [some (.ref (a3 0)), some (.ref g.1.2.1), some (.ref (a3 63)), some (.int (nI a)), some (.int (nI b)), some (.int (nI N9)), none, none]) dL_build_76 (by decide) rfl rfl ?_
  refine j_iconst (v := nI 0) dL_build_78 (by decide) ?_
  refine j_istore (L' := [some (.ref (a3 0)), some (.ref g.1.2.1), some (.ref (a3 63)), some (.int (nI a)), some (.int (nI b)), some (.int (nI N9)), some (.int (nI 0)), none]) dL_build_79 (by decide) rfl rfl ?_
  refine j_bud (bc' := 60 * (N9 - 0)) (bs' := 1200 * (N9 - 0)) (by omega) (by omega) ?_
  suffices hall : ∀ (n9 : Nat) (a9 : Nat → Nat) (E9 : Nat → va_E), (∀ k, k < 63 → a9 k = ad k) → AS 0 g n9 a9 E9 → J g mL_build 12 (60 * (N9 - 0)) (1200 * (N9 - 0)) 81 [some (.ref (a9 0)), some (.ref g.1.2.1), some (.ref (a9 63)), some (.int (nI a)), some (.int (nI b)), some (.int (nI N9)), some (.int (nI 0)), none] [] n9 a9 E9 (OB g ad) Ψ from hall n3 a3 E4 (fun k hk => (g3 k (by omega)).trans ((x1 k (by omega)).trans (g1 k hk))) Q4
  refine up_ind (P := fun (k : Nat) => ∀ (n9 : Nat) (a9 : Nat → Nat) (E9 : Nat → va_E), (∀ k, k < 63 → a9 k = ad k) → AS k g n9 a9 E9 → J g mL_build 12 (60 * (N9 - k)) (1200 * (N9 - k)) 81 [some (.ref (a9 0)), some (.ref g.1.2.1), some (.ref (a9 63)), some (.int (nI a)), some (.int (nI b)), some (.int (nI N9)), some (.int (nI k)), none] [] n9 a9 E9 (OB g ad) Ψ) (N := N9) 0 ?_ N9 (by omega) ?_
  · intro k hk0 hk ih n9 a9 E9 hA Q
    have hn9 := Q.n64
    refine j_bud (bc' := 60 + 60 * (N9 - (k + 1))) (bs' := 1200 + 1200 * (N9 - (k + 1))) (by omega) (by omega) ?_
    show J g mL_build 12 (60 + 60 * (N9 - (k + 1))) (1200 + 1200 * (N9 - (k + 1))) 81 [some (.ref (a9 0)), some (.ref g.1.2.1), some (.ref (a9 63)), some (.int (nI a)), some (.int (nI b)), some (.int (nI N9)), some (.int (nI k)), none] [] n9 a9 E9 (OB g ad) Ψ
    refine j_iload dL_build_81 rfl ?_
    refine j_iload dL_build_83 rfl ?_
    refine j_icmp_ge_f (tgt := 166) dL_build_85 (by decide) (nI_nle' (by omega) (by omega) (by omega)) ?_
    refine j_aload_n dL_build_88 rfl ?_
    refine j_iconst (v := nI 1) dL_build_89 (by decide) ?_
    refine j_iload dL_build_90 rfl ?_
    refine j_bipush (v := nI 15) dL_build_92 (by decide) ?_
    refine j_irem dL_build_94 (nI_ne0 (by omega) (by omega)) ?_
    refine j_topi (y := nI (k % 15)) (pk_rem (by omega) (by omega) (by omega)) ?_
    refine j_iadd dL_build_95 ?_
    refine j_topi (y := nI (1 + (k % 15))) (nI_add _ _) ?_
    refine j_cS (As := [.ref g.1.2.1, .int (nI (1 + (k % 15)))]) (rest := []) cm_L_cell ct_L_cell ln_L_105 dL_build_96 (d' := 0) (by decide) rfl rfl (Nat.le_of_ble_eq_true rfl) (Nat.le_of_ble_eq_true rfl) (s_L_cell (1 + (k % 15)) (by omega) hL) ?_
    refine j_iload dL_build_99 rfl ?_
    refine j_bipush (v := nI 15) dL_build_101 (by decide) ?_
    refine j_idiv dL_build_103 (nI_ne0 (by omega) (by omega)) ?_
    refine j_topi (y := nI (k / 15)) (pk_div (by omega) (by omega) (by omega)) ?_
    refine j_iconst (v := nI 3) dL_build_104 (by decide) ?_
    refine j_imul dL_build_105 ?_
    refine j_topi (y := nI ((k / 15) * 3)) (pk_mul _ _) ?_
    refine j_ishr dL_build_106 ?_
    refine j_bipush (v := nI 37) dL_build_107 (by decide) ?_
    refine j_iload dL_build_109 rfl ?_
    refine j_imul dL_build_111 ?_
    refine j_topi (y := nI (37 * k)) (pk_mul _ _) ?_
    refine j_iadd dL_build_112 ?_
    generalize ((clv g (1 + (k % 15))) >>> ((nI ((k / 15) * 3)) &&& 31)) + (nI (37 * k)) = x9
    show J g mL_build 12 (60 + 60 * (N9 - (k + 1))) (1200 + 1200 * (N9 - (k + 1))) 113 [some (.ref (a9 0)), some (.ref g.1.2.1), some (.ref (a9 63)), some (.int (nI a)), some (.int (nI b)), some (.int (nI N9)), some (.int (nI k)), none] [.int x9] n9 a9 E9 (OB g ad) Ψ
    refine j_istore (L' := [some (.ref (a9 0)), some (.ref g.1.2.1), some (.ref (a9 63)), some (.int (nI a)), some (.int (nI b)), some (.int (nI N9)), some (.int (nI k)), some (.int x9)]) dL_build_113 (by decide) rfl rfl ?_
    refine j_aload_n dL_build_115 rfl ?_
    refine j_aload_n dL_build_116 rfl ?_
    refine j_iload dL_build_117 rfl ?_
    refine j_iconst (v := nI 4) dL_build_119 (by decide) ?_
    refine j_irem dL_build_120 (nI_ne0 (by omega) (by omega)) ?_
    refine j_topi (y := nI (k % 4)) (pk_rem (by omega) (by omega) (by omega)) ?_
    refine j_iconst (v := nI 3) dL_build_121 (by decide) ?_
    by_cases hq : k % 4 < 3
    · skip
      refine j_icmp_ge_f (tgt := 150) dL_build_122 (by decide) (nI_nle' (by omega) (by omega) (by omega)) ?_
      refine j_iload dL_build_125 rfl ?_
      refine j_iload dL_build_127 rfl ?_
      refine j_bipush (v := nI 20) dL_build_129 (by decide) ?_
      refine j_cS (As := [.int x9, .int (nI 20)]) (rest := [.int x9, .ref (a9 63), .ref (a9 0)]) cm_L_below ct_L_below ln_L_19 dL_build_131 (d' := 0) (by decide) rfl rfl (Nat.le_of_ble_eq_true rfl) (Nat.le_of_ble_eq_true rfl) (s_L_below x9 20 (by omega) (by omega)) ?_
      have hby5 : bl x9 20 < 20 := bl_lt _ (by omega)
      generalize bl x9 20 = y5 at hby5 ⊢
      refine j_isub dL_build_134 ?_
      refine j_iconst (v := 1) dL_build_135 (by decide) ?_
      refine j_iadd dL_build_136 ?_
      refine j_iload dL_build_137 rfl ?_
      refine j_iconst (v := 5) dL_build_139 (by decide) ?_
      refine j_ishr dL_build_140 ?_
      refine j_bipush (v := nI 7) dL_build_141 (by decide) ?_
      refine j_cS (As := [.int (x9 >>> (5 &&& 31)), .int (nI 7)]) (rest := [.int ((x9 - (nI y5)) + 1), .ref (a9 63), .ref (a9 0)]) cm_L_below ct_L_below ln_L_19 dL_build_143 (d' := 0) (by decide) rfl rfl (Nat.le_of_ble_eq_true rfl) (Nat.le_of_ble_eq_true rfl) (s_L_below (x9 >>> (5 &&& 31)) 7 (by omega) (by omega)) ?_
      have hby6 : bl (x9 >>> (5 &&& 31)) 7 < 7 := bl_lt _ (by omega)
      generalize bl (x9 >>> (5 &&& 31)) 7 = y6 at hby6 ⊢
      refine j_iadd dL_build_146 ?_
      refine j_goto (tgt := 152) dL_build_147 (by decide) ?_
      generalize ((x9 - (nI y5)) + 1) + (nI y6) = x8
      refine j_callS (As := [.ref (a9 0), .ref (a9 63), .int x8]) (rest := []) (d' := 11) (Φ' := OAct k n9 a9 g) (Ψ' := fun _ _ _ _ => False) cm_L_act ct_L_act ln_L_109 dL_build_152 (by decide) rfl rfl (Nat.le_of_ble_eq_true rfl) (Nat.le_of_ble_eq_true rfl) (c_actO Q (by omega) x8 _) (fun v7 n7 a7 E7 q7 => ?_) (fun _ _ _ _ q => q.elim)
      obtain ⟨rfl, hn7, g7, Q7⟩ := q7
      rw [← g7 0 (by omega), ← g7 63 (by omega)]
      refine j_clr 7 ?_
      show J g mL_build 12 (60 * (N9 - (k + 1))) (1200 * (N9 - (k + 1))) 155 [some (.ref (a7 0)), some (.ref g.1.2.1), some (.ref (a7 63)), some (.int (nI a)), some (.int (nI b)), some (.int (nI N9)), some (.int (nI k)), none] [.int 1] n7 a7 E7 (OB g ad) Ψ
      refine j_if_ne_t (tgt := 160) dL_build_155 (by decide) (by decide) ?_
      refine j_iinc (v := nI (k + 1)) (L' := [some (.ref (a7 0)), some (.ref g.1.2.1), some (.ref (a7 63)), some (.int (nI a)), some (.int (nI b)), some (.int (nI N9)), some (.int (nI (k + 1))), none]) dL_build_160 (by decide) rfl (nI_1 _) rfl rfl ?_
      refine j_goto (tgt := 81) dL_build_163 (by decide) ?_
      exact ih n7 a7 E7 (fun j hj => (g7 j (by omega)).trans (hA j hj)) Q7
    · skip
      refine j_icmp_ge_t (tgt := 150) dL_build_122 (by decide) (nI_le' (by omega) (by omega) (by omega)) ?_
      refine j_iload dL_build_150 rfl ?_
      refine j_callS (As := [.ref (a9 0), .ref (a9 63), .int x9]) (rest := []) (d' := 11) (Φ' := OAct k n9 a9 g) (Ψ' := fun _ _ _ _ => False) cm_L_act ct_L_act ln_L_109 dL_build_152 (by decide) rfl rfl (Nat.le_of_ble_eq_true rfl) (Nat.le_of_ble_eq_true rfl) (c_actO Q (by omega) x9 _) (fun v7 n7 a7 E7 q7 => ?_) (fun _ _ _ _ q => q.elim)
      obtain ⟨rfl, hn7, g7, Q7⟩ := q7
      rw [← g7 0 (by omega), ← g7 63 (by omega)]
      refine j_clr 7 ?_
      show J g mL_build 12 (60 * (N9 - (k + 1))) (1200 * (N9 - (k + 1))) 155 [some (.ref (a7 0)), some (.ref g.1.2.1), some (.ref (a7 63)), some (.int (nI a)), some (.int (nI b)), some (.int (nI N9)), some (.int (nI k)), none] [.int 1] n7 a7 E7 (OB g ad) Ψ
      refine j_if_ne_t (tgt := 160) dL_build_155 (by decide) (by decide) ?_
      refine j_iinc (v := nI (k + 1)) (L' := [some (.ref (a7 0)), some (.ref g.1.2.1), some (.ref (a7 63)), some (.int (nI a)), some (.int (nI b)), some (.int (nI N9)), some (.int (nI (k + 1))), none]) dL_build_160 (by decide) rfl (nI_1 _) rfl rfl ?_
      refine j_goto (tgt := 81) dL_build_163 (by decide) ?_
      exact ih n7 a7 E7 (fun j hj => (g7 j (by omega)).trans (hA j hj)) Q7
  · intro n9 a9 E9 hA Q
    have hn9 := Q.n64
    show J g mL_build 12 (60 * (N9 - N9)) (1200 * (N9 - N9)) 81 [some (.ref (a9 0)), some (.ref g.1.2.1), some (.ref (a9 63)), some (.int (nI a)), some (.int (nI b)), some (.int (nI N9)), some (.int (nI N9)), none] [] n9 a9 E9 (OB g ad) Ψ
    refine j_iload dL_build_81 rfl ?_
    refine j_iload dL_build_83 rfl ?_
    refine j_icmp_ge_t (tgt := 166) dL_build_85 (by decide) (nI_le' (by omega) (by omega) (by omega)) ?_
    refine j_aload_n dL_build_166 rfl ?_
    exact j_rret dL_build_167 rfl (Or.inr ⟨_, rfl⟩) ⟨rfl, hn9, hA, N9, by omega, Q⟩
