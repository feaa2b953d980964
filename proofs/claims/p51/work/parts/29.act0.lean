/-! act: one deed on both sides. -/
theorem CR.bd {g : jG} {n : Nat} {ad : Nat → Nat} {E : Nat → va_E} {F S : Nat} {hrs su : Int32} {gone : Int64} {lv ed : Nat → Int32} {old cnt : Nat} {dr : Nat → Nat → Int32} {mc : Nat} {mr : Nat → Nat → Int32} (C : CR g n ad E F S hrs su gone lv ed old cnt dr mc mr) : F ≤ 8 ∧ S ≤ 16 ∧ 1 ≤ F ∧ 1 ≤ S ∧ old < 30 ∧ cnt ≤ 30 ∧ mc ≤ 12 ∧ F * S ≤ 128 ∧ 63 ≤ n := by
  obtain ⟨-, W, -, Z, Y, -, h1, h2, h3⟩ := C
  obtain ⟨-, -, -, -, -, hF, hS⟩ := W
  obtain ⟨-, -, -, -, -, -, -, ho, hc⟩ := Z
  obtain ⟨-, -, -, -, -, -, -, -, hm⟩ := Y
  exact ⟨hF, hS, h1, h2, ho, hc, hm, fs128 hF hS, h3⟩
theorem CR.to63 {g : jG} {n : Nat} {ad : Nat → Nat} {E : Nat → va_E} {F S : Nat} {hrs su : Int32} {gone : Int64} {lv ed : Nat → Int32} {old cnt : Nat} {dr : Nat → Nat → Int32} {mc : Nat} {mr : Nat → Nat → Int32} (C : CR g n ad E F S hrs su gone lv ed old cnt dr mc mr) : CR g 63 ad E F S hrs su gone lv ed old cnt dr mc mr := by
  obtain ⟨h0, ⟨-, W⟩, ⟨_, _, _, _, _, ⟨-, T⟩⟩, ⟨-, Z⟩, ⟨-, Y⟩, ⟨_, _, ⟨-, P⟩⟩, r1, r2, r3⟩ := C
  exact ⟨h0, ⟨⟨by decide, by decide, by decide⟩, W⟩, ⟨_, _, _, _, _, ⟨by decide, by decide, by decide⟩, T⟩, ⟨⟨by decide, by decide, by decide⟩, Z⟩, ⟨⟨by decide, by decide, by decide⟩, Y⟩, ⟨_, _, ⟨by decide, by decide, by decide⟩, P⟩, r1, r2, by decide⟩
theorem wat.tr0 {g : jG} {n n' : Nat} {ad ad' : Nat → Nat} {E E' : Nat → va_E} {w iL iE F S : Nat} {su : Int32} {lv ed : Nat → Int32} (W : wat g n ad E w iL iE F S su lv ed) (hn : n ≤ n') (ha : ∀ i, i < n → ad' i = ad i) (hE : ∀ k, k < n → E' k = E k) : wat g n' ad' E' w iL iE F S su lv ed := by
  obtain ⟨⟨a, b, c⟩, d, e, f, h, r⟩ := W
  exact ⟨⟨by omega, by omega, by omega⟩, d, ((hE w a).trans e).trans (by rw [ha iL b, ha iE c]), (hE iL b).trans f, (hE iE c).trans h, r⟩
theorem rws.tr0 {g : jG} {n n' : Nat} {ad ad' : Nat → Nat} {E E' : Nat → va_E} {rw' iO base lim old cnt : Nat} {rows : Nat → Nat → Int32} (Z : rws g n ad E rw' iO base lim old cnt rows) (hn : n ≤ n') (ha : ∀ i, i < n → ad' i = ad i) (hE : ∀ k, k < n → E' k = E k) : rws g n' ad' E' rw' iO base lim old cnt rows := by
  obtain ⟨⟨a, b, c⟩, d, e, f, h, r⟩ := Z
  refine ⟨⟨by omega, by omega, by omega⟩, d, ((hE rw' a).trans e).trans (by rw [ha iO b]), ((hE iO b).trans f).trans ?_, fun i hi => (hE _ (by omega)).trans (h i hi), r⟩
  congr 1
  funext i
  by_cases q : i < lim
  · rw [if_pos q, if_pos q, ha (base + i) (by omega)]
  · rw [if_neg q, if_neg q]
theorem frs.tr0 {g : jG} {n n' : Nat} {ad ad' : Nat → Nat} {E E' : Nat → va_E} {fp iH base fc : Nat} {Hm : Nat → Nat → Int32} (Z : frs g n ad E fp iH base fc Hm) (hn : n ≤ n') (ha : ∀ i, i < n → ad' i = ad i) (hE : ∀ k, k < n → E' k = E k) : frs g n' ad' E' fp iH base fc Hm := by
  obtain ⟨⟨a, b, c⟩, d, e, f, h, r⟩ := Z
  refine ⟨⟨by omega, by omega, by omega⟩, d, ((hE fp a).trans e).trans (by rw [ha iH b]), ((hE iH b).trans f).trans ?_, fun i hi => (hE _ (by omega)).trans (h i hi), r⟩
  congr 1
  funext i
  by_cases q : i < 8
  · rw [if_pos q, if_pos q, ha (base + i) (by omega)]
  · rw [if_neg q, if_neg q]
theorem CR.tr63 {g : jG} {n n' : Nat} {ad ad' : Nat → Nat} {E E' : Nat → va_E} {F S : Nat} {hrs su : Int32} {gone : Int64} {lv ed : Nat → Int32} {old cnt : Nat} {dr : Nat → Nat → Int32} {mc : Nat} {mr : Nat → Nat → Int32} (C : CR g n ad E F S hrs su gone lv ed old cnt dr mc mr) (hn : 63 ≤ n') (ha : ∀ i, i < 63 → ad' i = ad i) (hE : ∀ k, k < 63 → E' k = E k) : CR g n' ad' E' F S hrs su gone lv ed old cnt dr mc mr := by
  obtain ⟨h0, W, ⟨F4, S4, su4, lv4, ed4, T⟩, Z, Y, ⟨fc, Hm, P⟩, h1, h2, h3⟩ := C.to63
  exact ⟨((hE 0 (by omega)).trans h0).trans (by rw [ha 1 (by omega), ha 4 (by omega), ha 7 (by omega), ha 39 (by omega), ha 53 (by omega)]), W.tr0 hn ha hE, ⟨_, _, _, _, _, T.tr0 hn ha hE⟩, Z.tr0 hn ha hE, Y.tr0 hn ha hE, ⟨_, _, P.tr0 hn ha hE⟩, h1, h2, hn⟩
/-- a number below n, out of any int -/
def bl (v : Int32) (n : Nat) : Nat := v.toBitVec.toNat % 2 ^ 31 % n
theorem bl_lt (v : Int32) {n : Nat} (h : 1 ≤ n) : bl v n < n := Nat.mod_lt _ h
theorem i99' {x : Int32} (h1 : ¬ x < -99) (h2 : x ≤ 99) : -99 ≤ x.toInt ∧ x.toInt ≤ 99 := by
  rw [Int32.lt_iff_toInt_lt, show (-99 : Int32).toInt = -99 by decide] at h1
  rw [Int32.le_iff_toInt_le, show (99 : Int32).toInt = 99 by decide] at h2
  omega
set_option maxRecDepth 100000 in
set_option maxHeartbeats 4000000 in
theorem s_L_below {g : jG} {n : Nat} {ad : Nat → Nat} {E : Nat → va_E} (v : Int32) (k : Nat) (h1 : 1 ≤ k) (h2 : k < 2 ^ 31) : Ret g mL_below 0 [.int v, .int (nI k)] n ad E (some (.int (nI (bl v k)))) E := by
  intro Φ Ψ h
  show J g mL_below 0 0 0 0 [some (.int v), some (.int (nI k))] [] n ad E Φ Ψ
  refine j_iload_n dL_below_0 rfl ?_
  refine j_ldc dL_below_1 cn_L_7 ?_
  refine j_iand dL_below_3 ?_
  refine j_topi (y := nI (v.toBitVec.toNat % 2 ^ 31)) (pk_and v 31 (by decide)) ?_
  refine j_iload_n dL_below_4 rfl ?_
  have hb : v.toBitVec.toNat % 2 ^ 31 < 2 ^ 31 := Nat.mod_lt _ (by decide)
  refine j_irem dL_below_5 (nI_ne0 (by omega) (by omega)) ?_
  refine j_topi (y := nI ((v.toBitVec.toNat % 2 ^ 31) % k)) (pk_rem (by omega) (by omega) (by omega)) ?_
  exact j_iret dL_below_6 rfl h
def clv (g : jG) (k : Nat) : Int32 := if k < g.1.2.2.1 then g.1.2.2.2 k else 790386105 * nI (k + 3)
set_option maxRecDepth 100000 in
set_option maxHeartbeats 4000000 in
theorem s_L_cell {g : jG} {n : Nat} {ad : Nat → Nat} {E : Nat → va_E} (k : Nat) (hk : k < 1000) (hL : g.1.2.2.1 ≤ 260) : Ret g mL_cell 0 [.ref g.1.2.1, .int (nI k)] n ad E (some (.int (clv g k))) E := by
  intro Φ Ψ h
  show J g mL_cell 0 0 0 0 [some (.ref g.1.2.1), some (.int (nI k))] [] n ad E Φ Ψ
  unfold clv at h
  by_cases hq : k < g.1.2.2.1
  · rw [if_pos hq] at h
    refine j_iload_n dL_cell_0 rfl ?_
    refine j_aload_n dL_cell_1 rfl ?_
    refine j_slen dL_cell_2 ?_
    refine j_icmp_ge_f (tgt := 12) dL_cell_3 (by decide) (nI_nle' (by omega) (by omega) (by omega)) ?_
    refine j_aload_n dL_cell_6 rfl ?_
    refine j_iload_n dL_cell_7 rfl ?_
    refine j_sald dL_cell_8 (by omega) (by omega) ?_
    refine j_goto (tgt := 18) dL_cell_9 (by decide) ?_
    exact j_iret dL_cell_18 rfl h
  · rw [if_neg hq] at h
    refine j_iload_n dL_cell_0 rfl ?_
    refine j_aload_n dL_cell_1 rfl ?_
    refine j_slen dL_cell_2 ?_
    refine j_icmp_ge_t (tgt := 12) dL_cell_3 (by decide) (nI_le' (by omega) (by omega) (by omega)) ?_
    refine j_ldc dL_cell_12 cn_L_8 ?_
    refine j_iload_n dL_cell_14 rfl ?_
    refine j_iconst (v := 3) dL_cell_15 (by decide) ?_
    refine j_iadd dL_cell_16 ?_
    refine j_topi (y := nI (k + 3)) (nI_add _ _) ?_
    refine j_imul dL_cell_17 ?_
    exact j_iret dL_cell_18 rfl h
set_option maxRecDepth 100000 in
set_option maxHeartbeats 4000000 in
theorem ac_rain {g : jG} {n : Nat} {ad : Nat → Nat} {E : Nat → va_E} {i F S : Nat} {hrs su : Int32} {gone : Int64} {lv ed : Nat → Int32} {old cnt : Nat} {dr : Nat → Nat → Int32} {mc : Nat} {mr : Nat → Nat → Int32} {m : Nat → Nat → Int32} {e : Nat → Int32} {A B : Nat → Nat → Nat → Int32} (C : CR g n ad E F S hrs su gone lv ed old cnt dr mc mr) (R : SR g n ad E F S su hrs gone m e cnt A mc B) (L : RS i F S su lv ed old cnt dr mc mr m e A B) (hi : i ≤ 500) (x : Int32) (f s : Nat) (hf : f < F) (hs : s < S) (dp : Int32) (hd1 : ¬ dp < -99) (hd2 : dp ≤ 99) {Φ : Option Value → jR} {Ψ : String → jR} (K : ∀ (n9 : Nat) (a9 : Nat → Nat) (E9 : Nat → va_E), n ≤ n9 → (∀ k, k < n → a9 k = ad k) → AS (i + 1) g n9 a9 E9 → Φ (some (.int 1)) n9 a9 E9) : J g mL_act 11 60 1200 243 [some (.ref (ad 0)), some (.ref (ad 63)), some (.int x), some (.int (nI F)), some (.int (nI S)), some (.int (nI f)), some (.int (nI s)), some (.int dp), some (.int 1), none, none, none, none] [] n ad E Φ Ψ := by
  obtain ⟨hF8, hS16, hF1, hS1, hold, hcn, hmc, hN, hn63⟩ := C.bd
  obtain ⟨iL0, iE0, r0, ia0, im0, X0⟩ := id R
  replace X0 : SX g n ad E iL0 iE0 r0 ia0 im0 F S su hrs gone m e cnt A mc B := X0
  obtain ⟨V0, ⟨lL0, lE0, lr0⟩, K10, K20⟩ := id X0
  obtain ⟨⟨hwn0, hLn0, hEn0, hrn0⟩, ⟨hwL0, hwE0, hLE0, hrA0⟩, hri0, hw0, hL0, hE0, hR0, -⟩ := id V0
  show J g mL_act 11 60 1200 243 [some (.ref (ad 0)), some (.ref (ad 63)), some (.int x), some (.int (nI F)), some (.int (nI S)), some (.int (nI f)), some (.int (nI s)), some (.int dp), some (.int 1), none, none, none, none] [] n ad E Φ Ψ
  refine j_aload_n dL_act_243 rfl ?_
  refine j_bud (bc' := F + 1 + (1 + 0) + 50) (bs' := F * S + F + (31 + 0) + 1000) (by omega) (by omega) ?_
  refine j_callV (As := []) (rest := []) (d' := 4) (Φ' := OS n ad E (fun n9 a9 E9 => SR g n9 a9 E9 F S su hrs gone m e (keC cnt) (keA cnt A m) mc B)) (Ψ' := fun _ _ _ _ => False) cm_X4_keep ci_X4_keep cs_X4_keep rfl ln_L_33 (ci := 4) rfl dL_act_244 (by decide) hwn0 hw0 rfl rfl (Nat.le_of_ble_eq_true rfl) (Nat.le_of_ble_eq_true rfl) (c_X4_keep R hcn _) (fun v1 n1 a1 E1 q1 => ?_) (fun _ _ _ _ q => q.elim)
  obtain ⟨hv1, hn1, g1, e1, R1⟩ := q1
  subst hv1
  rw [keC_eq hcn] at R1
  rw [← g1 0 (by omega), ← g1 63 (by omega)]
  have C1 := C.tr63 (n' := n1) (ad' := a1) (E' := E1) (by omega) (fun k hk => g1 k (by omega)) (fun k hk => e1 k (by omega) (by omega))
  obtain ⟨iL1, iE1, r1, ia1, im1, X1⟩ := id R1
  replace X1 : SX g n1 a1 E1 iL1 iE1 r1 ia1 im1 F S su hrs gone m e (kCnt cnt) (keA cnt A m) mc B := X1
  obtain ⟨V1, ⟨lL1, lE1, lr1⟩, K11, K21⟩ := id X1
  obtain ⟨⟨hwn1, hLn1, hEn1, hrn1⟩, ⟨hwL1, hwE1, hLE1, hrA1⟩, hri1, hw1, hL1, hE1, hR1, -⟩ := id V1
  show J g mL_act 11 50 1000 247 [some (.ref (a1 0)), some (.ref (a1 63)), some (.int x), some (.int (nI F)), some (.int (nI S)), some (.int (nI f)), some (.int (nI s)), some (.int dp), some (.int 1), none, none, none, none] [] n1 a1 E1 Φ Ψ
  refine j_aload_n dL_act_247 rfl ?_
  refine j_get fl_L_9 dL_act_248 hwn1 hw1 rfl ?_
  refine j_iload dL_act_251 rfl ?_
  refine j_aald (a := (a1 (r1 f))) dL_act_253 hLn1 hL1 (by omega) hf (if_pos hf) ?_
  refine j_iload dL_act_254 rfl ?_
  refine j_dup2 dL_act_256 rfl rfl ?_
  refine j_iald dL_act_257 (hrn1 f hf) (hR1 f hf) (by omega) hs rfl ?_
  refine j_iload dL_act_258 rfl ?_
  refine j_iadd dL_act_260 ?_
  refine j_iast (j := s) dL_act_261 (hrn1 f hf) (hR1 f hf) (by omega) hs ?_
  show J g mL_act 11 50 1000 262 [some (.ref (a1 0)), some (.ref (a1 63)), some (.int x), some (.int (nI F)), some (.int (nI S)), some (.int (nI f)), some (.int (nI s)), some (.int dp), some (.int 1), none, none, none, none] [] n1 a1 (va_up E1 (r1 f) (aI g S (upd (m f) s (((m f) s) + dp)))) Φ Ψ
  have Y2 := X1.row (h := upd (m f) s (m f s + dp)) hf
  have D2 : CR g n1 a1 (va_up E1 (r1 f) (aI g S (upd (m f) s (((m f) s) + dp)))) F S hrs su gone lv ed old cnt dr mc mr := C1.kept (fun k hk => up_ne (by have := lr1 f hf; omega))
  generalize va_up E1 (r1 f) (aI g S (upd (m f) s (((m f) s) + dp))) = E2 at Y2 D2 ⊢
  have X2 := Y2
  obtain ⟨V2, ⟨lL2, lE2, lr2⟩, K12, K22⟩ := id X2
  obtain ⟨⟨hwn2, hLn2, hEn2, hrn2⟩, ⟨hwL2, hwE2, hLE2, hrA2⟩, hri2, hw2, hL2, hE2, hR2, -⟩ := id V2
  show J g mL_act 11 50 1000 262 [some (.ref (a1 0)), some (.ref (a1 63)), some (.int x), some (.int (nI F)), some (.int (nI S)), some (.int (nI f)), some (.int (nI s)), some (.int dp), some (.int 1), none, none, none, none] [] n1 a1 E2 Φ Ψ
  refine j_aload_n dL_act_262 rfl ?_
  refine j_iload dL_act_263 rfl ?_
  refine j_iload dL_act_265 rfl ?_
  refine j_iload dL_act_267 rfl ?_
  refine j_cVp (As := [.int (nI f), .int (nI s), .int dp]) (rest := []) cm_X3_rain ci_X3_rain cs_X3_rain rfl ln_L_36 (ci := 3) rfl dL_act_269 (d' := 9) (by decide) (by omega) D2.1 rfl rfl (Nat.le_of_ble_eq_true rfl) (Nat.le_of_ble_eq_true rfl) (s_X3_rain D2 f s hf hs dp hd1 hd2) (fun E3 q3 => ?_)
  show J g mL_act 11 50 1000 272 [some (.ref (a1 0)), some (.ref (a1 63)), some (.int x), some (.int (nI F)), some (.int (nI S)), some (.int (nI f)), some (.int (nI s)), some (.int dp), some (.int 1), none, none, none, none] [.int (lv (f * S + s) + dp)] n1 a1 E3 Φ Ψ
  have X3 := X2.tr (Nat.le_refl _) (fun _ _ => rfl) (fun k hk _ => q3.2 k hk)
  obtain ⟨V3, ⟨lL3, lE3, lr3⟩, K13, K23⟩ := id X3
  obtain ⟨⟨hwn3, hLn3, hEn3, hrn3⟩, ⟨hwL3, hwE3, hLE3, hrA3⟩, hri3, hw3, hL3, hE3, hR3, -⟩ := id V3
  refine j_aload_n dL_act_272 rfl ?_
  refine j_get fl_L_9 dL_act_273 hwn3 hw3 rfl ?_
  refine j_iload dL_act_276 rfl ?_
  refine j_aald (a := (a1 (r1 f))) dL_act_278 hLn3 hL3 (by omega) hf (if_pos hf) ?_
  refine j_iload dL_act_279 rfl ?_
  refine j_iald dL_act_281 (hrn3 f hf) (hR3 f hf) (by omega) hs rfl ?_
  refine j_icmp_ne_f (tgt := 289) dL_act_282 (by decide) (by show lv (f * S + s) + dp = mup m f (upd (m f) s (m f s + dp)) f s; rw [← fl_of L.1 hf hs]; unfold mup upd; rw [if_pos rfl, if_pos rfl]) ?_
  refine j_iconst (v := 1) dL_act_285 (by decide) ?_
  refine j_goto (tgt := 290) dL_act_286 (by decide) ?_
  exact j_zret dL_act_290 rfl rfl (K _ _ _ hn1 g1 ⟨F, S, hrs, su, gone, upd lv (f * S + s) (lv (f * S + s) + dp), ed, kOld old cnt, kCnt cnt, rowUp dr (kSlot old cnt) (cpyN lv (dr (kSlot old cnt)) (F * S)), mc, mr, mup m f (upd (m f) s (m f s + dp)), e, keA cnt A m, B, q3.1, X3.sr, L.keep hold hcn (by intro k hk; rw [flS_cell m _ hs]; exact upd_cg (by rw [fl_of L.1 hf hs]) L.1 k hk) (rain_bd (i99' hd1 hd2).1 (i99' hd1 hd2).2 (by omega) (by omega) L.2.2.1 (ixN hf hs))⟩)
