theorem keA_last {cnt : Nat} (hc : cnt ≤ 30) (A : Nat → Nat → Nat → Int32) (m : Nat → Nat → Int32) : 1 ≤ kCnt cnt ∧ kCnt cnt ≤ 30 ∧ keA cnt A m (kCnt cnt - 1) = m := by
  unfold kCnt keA
  by_cases q : cnt < 30
  · rw [if_pos q, if_neg (by omega), if_neg (by omega)]
    exact ⟨by omega, by omega, rfl⟩
  · rw [if_neg q, if_pos (by omega), if_neg (by omega)]
    exact ⟨by omega, by omega, rfl⟩
theorem RS.bailed {i F S : Nat} {su : Int32} {lv ed : Nat → Int32} {old cnt : Nat} {dr : Nat → Nat → Int32} {mc : Nat} {mr : Nat → Nat → Int32} {m : Nat → Nat → Int32} {e : Nat → Int32} {A B : Nat → Nat → Nat → Int32} {lb : Nat → Int32} (R : RS i F S su lv ed old cnt dr mc mr m e A B) (h1 : old < 30) (h2 : cnt ≤ 30) (hb : BD (-(99 * (i : Int)) - 99) (999 + 99 * (i : Int) + 99) (F * S) lb) : (∀ k, k < F * S → rowUp dr (kSlot old cnt) (cpyN lv (dr (kSlot old cnt)) (F * S)) (slot (kOld old cnt) (kCnt cnt - 1) 30) k = lv k) ∧ RS (i + 2) F S su (cpyN (rowUp dr (kSlot old cnt) (cpyN lv (dr (kSlot old cnt)) (F * S)) (slot (kOld old cnt) (kCnt cnt - 1) 30)) lb (F * S)) ed (kOld old cnt) (kCnt cnt - 1) (rowUp dr (kSlot old cnt) (cpyN lv (dr (kSlot old cnt)) (F * S))) mc mr m e (keA cnt A m) B := by
  obtain ⟨g1, g2, g3⟩ := keA_last h2 A m
  have R2 := R.keep (ln := lb) (mn := fun f s => lb (f * S + s)) h1 h2 (fun k _ => congrArg lb dm) hb
  have R3 := R2.undo g1
  rw [g3] at R3
  refine ⟨fun k hk => ?_, R3⟩
  have q := (R2.2.2.2.2.2.2.1 (kCnt cnt - 1) (by omega)).1 k hk
  rw [q, g3]
  exact (R.1 k hk).symm
theorem bailed_sum {F S : Nat} {lv lb row : Nat → Int32} {b : Int32} (hF : 1 ≤ F) (hS : 1 ≤ S) (hr : ∀ k, k < F * S → row k = lv k) (h : sumP lv S 0 0 (F - 1) (S - 1) = sumP lb S 0 0 (F - 1) (S - 1) + b.toInt64) : sumP (cpyN row lb (F * S)) S 0 0 (F - 1) (S - 1) = sumP lb S 0 0 (F - 1) (S - 1) + b.toInt64 := by
  rw [← h]
  exact sumP_congr (fun k hk => (cpyN_lt hk).trans (hr k hk)) (by omega) (by omega)
set_option maxRecDepth 100000 in
set_option maxHeartbeats 4000000 in
theorem lw_cut {g : jG} {n : Nat} {ad : Nat → Nat} {E : Nat → va_E} {i F S : Nat} {hrs su : Int32} {gone : Int64} {lv ed : Nat → Int32} {old cnt : Nat} {dr : Nat → Nat → Int32} {mc : Nat} {mr : Nat → Nat → Int32} {m : Nat → Nat → Int32} {e : Nat → Int32} {A B : Nat → Nat → Nat → Int32} {cc : Nat} (C : CR g n ad E F S hrs su gone lv ed old cc dr mc mr) (R : SR g n ad E F S su hrs gone m e cnt A mc B) (hc : 1 ≤ cnt) (hc30 : cnt ≤ 30) {tm : Nat} {x : Int32} {f s : Nat} (hf : f < F) (hs : s < S) {bc bs : Nat} {Φ : Option Value → jR} {Ψ : String → jR} {ba : Int32} {tt : Int64} {un : Nat} (K : ∀ (n9 : Nat) (a9 : Nat → Nat) (E9 : Nat → va_E), n ≤ n9 → (∀ k, k < n → a9 k = ad k) → CR g n9 a9 E9 F S hrs su gone lv ed old cc dr mc mr → SR g n9 a9 E9 F S su hrs gone m e (cnt - 1) A mc B → J g mL_law 13 bc bs 1282 [some (.ref g.1.2.1), some (.ref (a9 0)), some (.ref (a9 63)), some (.int (nI tm)), some (.int x), none, none, some (.int (nI F)), some (.int (nI S)), some (.int (nI (F * S))), some (.int (nI f)), some (.int (nI s)), none, none, none, none, none, none, none, none, none, none, none, none, none, none, none, none, none, none, none, none, none, none, none, some (.int ba), some (.long tt), none, some (.int (nI un)), none, none, none] [] n9 a9 E9 Φ Ψ) : J g mL_law 13 (bc + 1) (bs + 30) 1235 [some (.ref g.1.2.1), some (.ref (ad 0)), some (.ref (ad 63)), some (.int (nI tm)), some (.int x), none, none, some (.int (nI F)), some (.int (nI S)), some (.int (nI (F * S))), some (.int (nI f)), some (.int (nI s)), none, none, none, none, none, none, none, none, none, none, none, none, none, none, none, none, none, none, none, none, none, none, none, some (.int ba), some (.long tt), none, some (.int (nI un)), none, none, none] [] n ad E Φ Ψ := by
  obtain ⟨hF8, hS16, hF1, hS1, hold, hcn, hmc, hN, hn63⟩ := C.bd
  have hN1 := fs1 hF1 hS1
  obtain ⟨iL0, iE0, r0, ia0, im0, X0⟩ := id R
  replace X0 : SX g n ad E iL0 iE0 r0 ia0 im0 F S su hrs gone m e cnt A mc B := X0
  obtain ⟨V0, ⟨lL0, lE0, lr0⟩, K10, K20⟩ := id X0
  obtain ⟨⟨hwn0, hLn0, hEn0, hrn0⟩, ⟨hwL0, hwE0, hLE0, hrA0⟩, hri0, hw0, hL0, hE0, hR0, -⟩ := id V0
  obtain ⟨⟨hia, hXa⟩, ja, qa, hAa, hja⟩ := id K10
  show J g mL_law 13 (bc + 1) (bs + 30) 1235 [some (.ref g.1.2.1), some (.ref (ad 0)), some (.ref (ad 63)), some (.int (nI tm)), some (.int x), none, none, some (.int (nI F)), some (.int (nI S)), some (.int (nI (F * S))), some (.int (nI f)), some (.int (nI s)), none, none, none, none, none, none, none, none, none, none, none, none, none, none, none, none, none, none, none, none, none, none, none, some (.int ba), some (.long tt), none, some (.int (nI un)), none, none, none] [] n ad E Φ Ψ
  refine j_aload_n dL_law_1235 rfl ?_
  refine j_get fl_L_79 dL_law_1236 hwn0 hw0 rfl ?_
  refine j_alen 1 dL_law_1239 hia hAa rfl ?_
  refine j_iconst (v := nI 1) dL_law_1240 (by decide) ?_
  refine j_isub dL_law_1241 ?_
  refine j_topi (y := nI (cnt - 1)) (pk_sub (by omega)) ?_
  refine j_bud (bc' := bc + 1) (bs' := bs + (cnt - 1)) (by omega) (by omega) ?_
  refine j_anP (bc := bc) (bs := bs) (N := cnt - 1) cl_L_85 (by omega) dL_law_1242 (fun a5 g5 => ?_)
  rw [← g5 0 (by omega), ← g5 63 (by omega)]
  refine j_astore (L' := [some (.ref g.1.2.1), some (.ref (a5 0)), some (.ref (a5 63)), some (.int (nI tm)), some (.int x), none, none, some (.int (nI F)), some (.int (nI S)), some (.int (nI (F * S))), some (.int (nI f)), some (.int (nI s)), none, none, none, none, none, none, none, none, none, none, none, none, none, none, none, none, none, none, none, none, none, none, none, some (.int ba), some (.long tt), none, some (.int (nI un)), some (.ref (a5 n)), none, none]) dL_law_1245 (by decide) rfl rfl ?_
  refine j_iconst (v := nI 0) dL_law_1247 (by decide) ?_
  refine j_istore (L' := [some (.ref g.1.2.1), some (.ref (a5 0)), some (.ref (a5 63)), some (.int (nI tm)), some (.int x), none, none, some (.int (nI F)), some (.int (nI S)), some (.int (nI (F * S))), some (.int (nI f)), some (.int (nI s)), none, none, none, none, none, none, none, none, none, none, none, none, none, none, none, none, none, none, none, none, none, none, none, some (.int ba), some (.long tt), none, some (.int (nI un)), some (.ref (a5 n)), some (.int (nI 0)), none]) dL_law_1248 (by decide) rfl rfl ?_
  suffices hall : ∀ E9 : Nat → va_E, ((∀ k, k < n → E9 k = E k) ∧ E9 n = aP g (cnt - 1) (fun k => if k < 0 then some (a5 (ja k)) else none)) → J g mL_law 13 bc bs 1250 [some (.ref g.1.2.1), some (.ref (a5 0)), some (.ref (a5 63)), some (.int (nI tm)), some (.int x), none, none, some (.int (nI F)), some (.int (nI S)), some (.int (nI (F * S))), some (.int (nI f)), some (.int (nI s)), none, none, none, none, none, none, none, none, none, none, none, none, none, none, none, none, none, none, none, none, none, none, none, some (.int ba), some (.long tt), none, some (.int (nI un)), some (.ref (a5 n)), some (.int (nI 0)), none] [] (n + 1) a5 E9 Φ Ψ from hall _ ⟨fun k hk => up_ne (by omega), up_eq.trans (aP_cg (funext fun k => (if_neg (Nat.not_lt_zero k)).symm))⟩
  refine up_ind (P := fun (t : Nat) => ∀ E9 : Nat → va_E, ((∀ k, k < n → E9 k = E k) ∧ E9 n = aP g (cnt - 1) (fun k => if k < t then some (a5 (ja k)) else none)) → J g mL_law 13 bc bs 1250 [some (.ref g.1.2.1), some (.ref (a5 0)), some (.ref (a5 63)), some (.int (nI tm)), some (.int x), none, none, some (.int (nI F)), some (.int (nI S)), some (.int (nI (F * S))), some (.int (nI f)), some (.int (nI s)), none, none, none, none, none, none, none, none, none, none, none, none, none, none, none, none, none, none, none, none, none, none, none, some (.int ba), some (.long tt), none, some (.int (nI un)), some (.ref (a5 n)), some (.int (nI t)), none] [] (n + 1) a5 E9 Φ Ψ) (N := cnt - 1) 0 ?_ (cnt - 1) (by omega) ?_
  · intro t ht0 ht ih E2 q2
    have X2 := X0.tr (n' := n + 1) (ad' := a5) (E' := E2) (by omega) g5 (fun k _ hk => q2.1 k hk)
    have C2 := C.tr63 (n' := n + 1) (ad' := a5) (E' := E2) (by omega) (fun k hk => g5 k (by omega)) (fun k hk => q2.1 k (by omega))
    have hA2 : E2 ia0 = aP g cnt (fun k => if k < cnt then some (a5 (ja k)) else none) := (q2.1 ia0 hia).trans (hAa.trans (aP_cg (refs_cg (fun k hk => g5 _ (hja k hk).2.1.1))))
    obtain ⟨V2, ⟨lL2, lE2, lr2⟩, K12, K22⟩ := id X2
    obtain ⟨⟨hwn2, hLn2, hEn2, hrn2⟩, ⟨hwL2, hwE2, hLE2, hrA2⟩, hri2, hw2, hL2, hE2, hR2, -⟩ := id V2
    have htc : t < cnt := by omega
    show J g mL_law 13 bc bs 1250 [some (.ref g.1.2.1), some (.ref (a5 0)), some (.ref (a5 63)), some (.int (nI tm)), some (.int x), none, none, some (.int (nI F)), some (.int (nI S)), some (.int (nI (F * S))), some (.int (nI f)), some (.int (nI s)), none, none, none, none, none, none, none, none, none, none, none, none, none, none, none, none, none, none, none, none, none, none, none, some (.int ba), some (.long tt), none, some (.int (nI un)), some (.ref (a5 n)), some (.int (nI t)), none] [] (n + 1) a5 E2 Φ Ψ
    refine j_iload dL_law_1250 rfl ?_
    refine j_aload dL_law_1252 rfl ?_
    refine j_alen 1 dL_law_1254 (by omega) q2.2 rfl ?_
    refine j_icmp_ge_f (tgt := 1276) dL_law_1255 (by decide) (nI_nle' (by omega) (by omega) (by omega)) ?_
    refine j_aload dL_law_1258 rfl ?_
    refine j_iload dL_law_1260 rfl ?_
    refine j_aload_n dL_law_1262 rfl ?_
    refine j_get fl_L_79 dL_law_1263 hwn2 hw2 rfl ?_
    refine j_iload dL_law_1266 rfl ?_
    refine j_aaldP (a := (a5 (ja t))) dL_law_1268 (by omega) hA2 (by omega) htc (if_pos htc) ?_
    refine j_aastP (j := t) dL_law_1269 (by omega) (by have := (hja t htc).2.1.1; omega) q2.2 ((q2.1 _ (hja t htc).2.1.1).trans (hja t htc).2.2.1) (by omega) ht ?_
    refine j_iinc (v := nI (t + 1)) (L' := [some (.ref g.1.2.1), some (.ref (a5 0)), some (.ref (a5 63)), some (.int (nI tm)), some (.int x), none, none, some (.int (nI F)), some (.int (nI S)), some (.int (nI (F * S))), some (.int (nI f)), some (.int (nI s)), none, none, none, none, none, none, none, none, none, none, none, none, none, none, none, none, none, none, none, none, none, none, none, some (.int ba), some (.long tt), none, some (.int (nI un)), some (.ref (a5 n)), some (.int (nI (t + 1))), none]) dL_law_1270 (by decide) rfl (nI_1 _) rfl rfl ?_
    refine j_goto (tgt := 1250) dL_law_1273 (by decide) ?_
    exact ih _ ⟨fun k hk => (up_ne (by omega)).trans (q2.1 k hk), up_eq.trans (aP_cg (lst_step a5 ja t))⟩
  · intro E3 q3
    have X3 := X0.tr (n' := n + 1) (ad' := a5) (E' := E3) (by omega) g5 (fun k _ hk => q3.1 k hk)
    have C3 := C.tr63 (n' := n + 1) (ad' := a5) (E' := E3) (by omega) (fun k hk => g5 k (by omega)) (fun k hk => q3.1 k (by omega))
    have hA3 : E3 ia0 = aP g cnt (fun k => if k < cnt then some (a5 (ja k)) else none) := (q3.1 ia0 hia).trans (hAa.trans (aP_cg (refs_cg (fun k hk => g5 _ (hja k hk).2.1.1))))
    obtain ⟨V3, ⟨lL3, lE3, lr3⟩, K13, K23⟩ := id X3
    obtain ⟨⟨hwn3, hLn3, hEn3, hrn3⟩, ⟨hwL3, hwE3, hLE3, hrA3⟩, hri3, hw3, hL3, hE3, hR3, -⟩ := id V3
    show J g mL_law 13 bc bs 1250 [some (.ref g.1.2.1), some (.ref (a5 0)), some (.ref (a5 63)), some (.int (nI tm)), some (.int x), none, none, some (.int (nI F)), some (.int (nI S)), some (.int (nI (F * S))), some (.int (nI f)), some (.int (nI s)), none, none, none, none, none, none, none, none, none, none, none, none, none, none, none, none, none, none, none, none, none, none, none, some (.int ba), some (.long tt), none, some (.int (nI un)), some (.ref (a5 n)), some (.int (nI (cnt - 1))), none] [] (n + 1) a5 E3 Φ Ψ
    refine j_iload dL_law_1250 rfl ?_
    refine j_aload dL_law_1252 rfl ?_
    refine j_alen 1 dL_law_1254 (by omega) q3.2 rfl ?_
    refine j_icmp_ge_t (tgt := 1276) dL_law_1255 (by decide) (nI_le' (by omega) (by omega) (by omega)) ?_
    refine j_aload_n dL_law_1276 rfl ?_
    refine j_aload dL_law_1277 rfl ?_
    refine j_put fl_L_79 fp_X4 dL_law_1279 hwn3 hw3 (Or.inl rfl) rfl rfl (Nat.le_of_ble_eq_true rfl) ?_
    show J g mL_law 13 bc bs 1282 [some (.ref g.1.2.1), some (.ref (a5 0)), some (.ref (a5 63)), some (.int (nI tm)), some (.int x), none, none, some (.int (nI F)), some (.int (nI S)), some (.int (nI (F * S))), some (.int (nI f)), some (.int (nI s)), none, none, none, none, none, none, none, none, none, none, none, none, none, none, none, none, none, none, none, none, none, none, none, some (.int ba), some (.long tt), none, some (.int (nI un)), some (.ref (a5 n)), some (.int (nI (cnt - 1))), none] [] (n + 1) a5 (va_up E3 63 (.inr (4, [.ref (a5 iL0), .ref (a5 iE0), .int su, .int hrs, .long gone, .ref (a5 n), .ref (a5 im0)]))) Φ Ψ
    have nM : ∀ k, n ≤ k → ¬ (Mu 63 iL0 iE0 F r0 k ∨ k < 63) := fun k hk z => by
      rcases z with (z | z | z | ⟨j, hj, z⟩) | z
      · omega
      · omega
      · omega
      · have := hrn0 j hj
        omega
      · omega
    have eU : ∀ k, k ≠ 63 → (va_up E3 63 (.inr (4, [.ref (a5 iL0), .ref (a5 iE0), .int su, .int hrs, .long gone, .ref (a5 n), .ref (a5 im0)]))) k = E3 k := fun k hk => up_ne hk
    have KN : KL g (n + 1) a5 (va_up E3 63 (.inr (4, [.ref (a5 iL0), .ref (a5 iE0), .int su, .int hrs, .long gone, .ref (a5 n), .ref (a5 im0)]))) (fun k => Mu 63 iL0 iE0 F r0 k ∨ k < 63) n (cnt - 1) F S A := ⟨⟨by omega, nM n (Nat.le_refl _)⟩, ja, qa, (eU n (by omega)).trans q3.2, fun k hk => ⟨(hja k (by omega)).1, (hja k (by omega)).2.tr (by omega) g5 (fun k9 h9 => by rcases h9 with rfl | ⟨j, hj, rfl⟩ <;> first | exact (eU _ (fun z => (hja k (by omega)).1.1 (Or.inl (Or.inl z)))).trans (q3.1 _ (hja k (by omega)).2.1.1) | exact (eU _ (fun z => (hja k (by omega)).1.2 j hj (Or.inl (Or.inl z)))).trans (q3.1 _ ((hja k (by omega)).2.1.2 j hj)))⟩⟩
    have X4 : SX g (n + 1) a5 (va_up E3 63 (.inr (4, [.ref (a5 iL0), .ref (a5 iE0), .int su, .int hrs, .long gone, .ref (a5 n), .ref (a5 im0)]))) iL0 iE0 r0 n im0 F S su hrs gone m e (cnt - 1) A mc B := ⟨X3.1.setTop, X3.2.1, KN, (X3.upd0 (Or.inl rfl)).2⟩
    have D4 : CR g (n + 1) a5 (va_up E3 63 (.inr (4, [.ref (a5 iL0), .ref (a5 iE0), .int su, .int hrs, .long gone, .ref (a5 n), .ref (a5 im0)]))) F S hrs su gone lv ed old cc dr mc mr := C3.kept (fun k hk => up_ne (by omega))
    refine j_clr 40 ?_
    refine j_clr 39 ?_
    exact K _ a5 _ (by omega) g5 D4 X4.sr
set_option maxRecDepth 100000 in
set_option maxHeartbeats 4000000 in
theorem lw_bail {g : jG} {n : Nat} {ad : Nat → Nat} {E : Nat → va_E} {i F S : Nat} {hrs su : Int32} {gone : Int64} {lv ed : Nat → Int32} {old cnt : Nat} {dr : Nat → Nat → Int32} {mc : Nat} {mr : Nat → Nat → Int32} {m : Nat → Nat → Int32} {e : Nat → Int32} {A B : Nat → Nat → Nat → Int32} (C : CR g n ad E F S hrs su gone lv ed old cnt dr mc mr) (R : SR g n ad E F S su hrs gone m e cnt A mc B) (L : RS i F S su lv ed old cnt dr mc mr m e A B) (hi : i ≤ 500) {tm : Nat} {x : Int32} {f s : Nat} (hf : f < F) (hs : s < S) {bc bs : Nat} {Φ : Option Value → jR} {Ψ : String → jR} (K : ∀ (n9 : Nat) (a9 : Nat → Nat) (E9 : Nat → va_E), n ≤ n9 → (∀ k, k < n → a9 k = ad k) → AS (i + 2) g n9 a9 E9 → J g mL_law 13 bc bs 1349 [some (.ref g.1.2.1), some (.ref (a9 0)), some (.ref (a9 63)), some (.int (nI tm)), none, none, none, none, none, none, none, none, none, none, none, none, none, none, none, none, none, none, none, none, none, none, none, none, none, none, none, none, none, none, none, none, none, none, none, none, none, none] [] n9 a9 E9 Φ Ψ) : J g mL_law 13 (bc + 20) (bs + 250) 1200 [some (.ref g.1.2.1), some (.ref (ad 0)), some (.ref (ad 63)), some (.int (nI tm)), some (.int x), none, none, some (.int (nI F)), some (.int (nI S)), some (.int (nI (F * S))), some (.int (nI f)), some (.int (nI s)), none, none, none, none, none, none, none, none, none, none, none, none, none, none, none, none, none, none, none, none, none, none, none, none, none, none, none, none, none, none] [] n ad E Φ Ψ := by
  obtain ⟨hF8, hS16, hF1, hS1, hold, hcn, hmc, hN, hn63⟩ := C.bd
  have hN1 := fs1 hF1 hS1
  obtain ⟨iL0, iE0, r0, ia0, im0, X0⟩ := id R
  replace X0 : SX g n ad E iL0 iE0 r0 ia0 im0 F S su hrs gone m e cnt A mc B := X0
  obtain ⟨V0, ⟨lL0, lE0, lr0⟩, K10, K20⟩ := id X0
  obtain ⟨⟨hwn0, hLn0, hEn0, hrn0⟩, ⟨hwL0, hwE0, hLE0, hrA0⟩, hri0, hw0, hL0, hE0, hR0, -⟩ := id V0
  refine j_aload_n dL_law_1200 rfl ?_
  refine j_iload dL_law_1201 rfl ?_
  refine j_iconst (v := nI 1) dL_law_1203 (by decide) ?_
  refine j_iload dL_law_1204 rfl ?_
  refine j_iconst (v := 3) dL_law_1206 (by decide) ?_
  refine j_ishr dL_law_1207 ?_
  refine j_bipush (v := nI 99) dL_law_1208 (by decide) ?_
  refine j_cS (As := [.int (x >>> (3 &&& 31)), .int (nI 99)]) (rest := [.int (nI 1), .int (nI f), .ref (ad 0)]) cm_L_below ct_L_below ln_L_19 dL_law_1210 (d' := 0) (by decide) rfl rfl (Nat.le_of_ble_eq_true rfl) (Nat.le_of_ble_eq_true rfl) (s_L_below (x >>> (3 &&& 31)) 99 (by omega) (by omega)) ?_
  have hbz : bl (x >>> (3 &&& 31)) 99 < 99 := bl_lt _ (by omega)
  generalize bl (x >>> (3 &&& 31)) 99 = z at hbz ⊢
  refine j_iadd dL_law_1213 ?_
  refine j_topi (y := nI (1 + z)) (nI_add _ _) ?_
  have ht : 1 ≤ 1 + z ∧ 1 + z ≤ 999 := by omega
  generalize 1 + z = t9 at ht ⊢
  show J g mL_law 13 (bc + 20) (bs + 250) 1214 [some (.ref g.1.2.1), some (.ref (ad 0)), some (.ref (ad 63)), some (.int (nI tm)), some (.int x), none, none, some (.int (nI F)), some (.int (nI S)), some (.int (nI (F * S))), some (.int (nI f)), some (.int (nI s)), none, none, none, none, none, none, none, none, none, none, none, none, none, none, none, none, none, none, none, none, none, none, none, none, none, none, none, none, none, none] [.int (nI t9), .int (nI f), .ref (ad 0)] n ad E Φ Ψ
  have hx := (i999' ht.1 ht.2).2
  have hbs1 := bail_sum hF1 hS1 hN hf hx.1 hx.2 (by omega) (by omega) L.2.2.1
  have hbu := bail_undo hN hf hx.1 hx.2 (by omega) (by omega) L.2.2.1
  have hbb := bail_bd hf hx.1 hx.2 (by omega) (by omega) (by omega) (by omega) L.2.2.1
  have hkA := keA_last hcn A m
  obtain ⟨hro, L2⟩ := L.bailed hold hcn (hbb.le (by omega) (by omega))
  refine j_cVp (As := [.int (nI f), .int (nI t9)]) (rest := []) cm_X3_bail ci_X3_bail cs_X3_bail rfl ln_L_53 (ci := 3) rfl dL_law_1214 (d' := 8) (by decide) (by omega) C.1 rfl rfl (Nat.le_of_ble_eq_true rfl) (Nat.le_of_ble_eq_true rfl) (s_X3_bail C f hf (nI t9) (i999' ht.1 ht.2).1.1 (i999' ht.1 ht.2).1.2) (fun E1 q1 => ?_)
  show J g mL_law 13 (bc + 20) (bs + 250) 1217 [some (.ref g.1.2.1), some (.ref (ad 0)), some (.ref (ad 63)), some (.int (nI tm)), some (.int x), none, none, some (.int (nI F)), some (.int (nI S)), some (.int (nI (F * S))), some (.int (nI f)), some (.int (nI s)), none, none, none, none, none, none, none, none, none, none, none, none, none, none, none, none, none, none, none, none, none, none, none, none, none, none, none, none, none, none] [.int ((bailR lv S f (nI t9)).1)] n ad E1 Φ Ψ
  have X1 := X0.tr (Nat.le_refl _) (fun _ _ => rfl) (fun k hk _ => q1.2 k hk)
  obtain ⟨V1, ⟨lL1, lE1, lr1⟩, K11, K21⟩ := id X1
  obtain ⟨⟨hwn1, hLn1, hEn1, hrn1⟩, ⟨hwL1, hwE1, hLE1, hrA1⟩, hri1, hw1, hL1, hE1, hR1, -⟩ := id V1
  refine j_istore (L' := [some (.ref g.1.2.1), some (.ref (ad 0)), some (.ref (ad 63)), some (.int (nI tm)), some (.int x), none, none, some (.int (nI F)), some (.int (nI S)), some (.int (nI (F * S))), some (.int (nI f)), some (.int (nI s)), none, none, none, none, none, none, none, none, none, none, none, none, none, none, none, none, none, none, none, none, none, none, none, some (.int ((bailR lv S f (nI t9)).1)), none, none, none, none, none, none]) dL_law_1217 (by decide) rfl rfl ?_
  refine j_aload_n dL_law_1219 rfl ?_
  refine j_bud (bc' := F + 1 + (1 + 0) + (bc + 1)) (bs' := F * S + F + (31 + 0) + (bs + 30)) (by omega) (by omega) ?_
  refine j_callV (As := []) (rest := []) (d' := 4) (Φ' := OS n ad E1 (fun n9 a9 E9 => SR g n9 a9 E9 F S su hrs gone m e (keC cnt) (keA cnt A m) mc B)) (Ψ' := fun _ _ _ _ => False) cm_X4_keep ci_X4_keep cs_X4_keep rfl ln_L_33 (ci := 4) rfl dL_law_1220 (by decide) hwn1 hw1 rfl rfl (Nat.le_of_ble_eq_true rfl) (Nat.le_of_ble_eq_true rfl) (c_X4_keep X1.sr hcn _) (fun v2 n2 a2 E2 q2 => ?_) (fun _ _ _ _ q => q.elim)
  obtain ⟨hv2, hn2, g2, e2, R2⟩ := q2
  subst hv2
  rw [keC_eq hcn] at R2
  rw [← g2 0 (by omega), ← g2 63 (by omega)]
  have C2 := q1.1.tr63 (n' := n2) (ad' := a2) (E' := E2) (by omega) (fun k hk => g2 k (by omega)) (fun k hk => e2 k (by omega) (by omega))
  obtain ⟨iL2, iE2, r2, ia2, im2, X2⟩ := id R2
  replace X2 : SX g n2 a2 E2 iL2 iE2 r2 ia2 im2 F S su hrs gone m e (kCnt cnt) (keA cnt A m) mc B := X2
  obtain ⟨V2, ⟨lL2, lE2, lr2⟩, K12, K22⟩ := id X2
  obtain ⟨⟨hwn2, hLn2, hEn2, hrn2⟩, ⟨hwL2, hwE2, hLE2, hrA2⟩, hri2, hw2, hL2, hE2, hR2, -⟩ := id V2
  show J g mL_law 13 (bc + 1) (bs + 30) 1223 [some (.ref g.1.2.1), some (.ref (a2 0)), some (.ref (a2 63)), some (.int (nI tm)), some (.int x), none, none, some (.int (nI F)), some (.int (nI S)), some (.int (nI (F * S))), some (.int (nI f)), some (.int (nI s)), none, none, none, none, none, none, none, none, none, none, none, none, none, none, none, none, none, none, none, none, none, none, none, some (.int ((bailR lv S f (nI t9)).1)), none, none, none, none, none, none] [] n2 a2 E2 Φ Ψ
  refine j_aload_n dL_law_1223 rfl ?_
  refine j_cV (As := []) (rest := []) cm_X3_total ci_X3_total cs_X3_total rfl ln_L_162 (ci := 3) rfl dL_law_1224 (d' := 4) (by decide) (by omega) C2.1 rfl rfl (Nat.le_of_ble_eq_true rfl) (Nat.le_of_ble_eq_true rfl) (s_X3_total C2) ?_
  refine j_lstore (L' := [some (.ref g.1.2.1), some (.ref (a2 0)), some (.ref (a2 63)), some (.int (nI tm)), some (.int x), none, none, some (.int (nI F)), some (.int (nI S)), some (.int (nI (F * S))), some (.int (nI f)), some (.int (nI s)), none, none, none, none, none, none, none, none, none, none, none, none, none, none, none, none, none, none, none, none, none, none, none, some (.int ((bailR lv S f (nI t9)).1)), some (.long (sumP ((bailR lv S f (nI t9)).2) S 0 0 (F - 1) (S - 1))), none, none, none, none, none]) dL_law_1227 (by decide) rfl rfl ?_
  refine j_aload_n dL_law_1229 rfl ?_
  have hcg : chgC (bailR lv S f (nI t9)).2 (rowUp dr (kSlot old cnt) (cpyN lv (dr (kSlot old cnt)) (F * S)) (slot (kOld old cnt) (kCnt cnt - 1) 30)) (F * S) = nI (chN (bailR lv S f (nI t9)).2 lv (F * S)) := (chgC_congr (fun _ _ => rfl) hro).trans (chC_N _ _ _)
  refine j_cVp (As := []) (rest := []) cm_X3_undo ci_X3_undo cs_X3_undo rfl ln_L_82 (ci := 3) rfl dL_law_1230 (d' := 6) (by decide) (by omega) C2.1 rfl rfl (Nat.le_of_ble_eq_true rfl) (Nat.le_of_ble_eq_true rfl) (hcg ▸ s_X3_undo C2 hkA.1) (fun E3 q3 => ?_)
  show J g mL_law 13 (bc + 1) (bs + 30) 1233 [some (.ref g.1.2.1), some (.ref (a2 0)), some (.ref (a2 63)), some (.int (nI tm)), some (.int x), none, none, some (.int (nI F)), some (.int (nI S)), some (.int (nI (F * S))), some (.int (nI f)), some (.int (nI s)), none, none, none, none, none, none, none, none, none, none, none, none, none, none, none, none, none, none, none, none, none, none, none, some (.int ((bailR lv S f (nI t9)).1)), some (.long (sumP ((bailR lv S f (nI t9)).2) S 0 0 (F - 1) (S - 1))), none, none, none, none, none] [.int (nI (chN (bailR lv S f (nI t9)).2 lv (F * S)))] n2 a2 E3 Φ Ψ
  have X3 := X2.tr (Nat.le_refl _) (fun _ _ => rfl) (fun k hk _ => q3.2 k hk)
  obtain ⟨V3, ⟨lL3, lE3, lr3⟩, K13, K23⟩ := id X3
  obtain ⟨⟨hwn3, hLn3, hEn3, hrn3⟩, ⟨hwL3, hwE3, hLE3, hrA3⟩, hri3, hw3, hL3, hE3, hR3, -⟩ := id V3
  refine j_istore (L' := [some (.ref g.1.2.1), some (.ref (a2 0)), some (.ref (a2 63)), some (.int (nI tm)), some (.int x), none, none, some (.int (nI F)), some (.int (nI S)), some (.int (nI (F * S))), some (.int (nI f)), some (.int (nI s)), none, none, none, none, none, none, none, none, none, none, none, none, none, none, none, none, none, none, none, none, none, none, none, some (.int ((bailR lv S f (nI t9)).1)), some (.long (sumP ((bailR lv S f (nI t9)).2) S 0 0 (F - 1) (S - 1))), none, some (.int (nI (chN (bailR lv S f (nI t9)).2 lv (F * S)))), none, none, none]) dL_law_1233 (by decide) rfl rfl ?_
  show J g mL_law 13 (bc + 1) (bs + 30) 1235 [some (.ref g.1.2.1), some (.ref (a2 0)), some (.ref (a2 63)), some (.int (nI tm)), some (.int x), none, none, some (.int (nI F)), some (.int (nI S)), some (.int (nI (F * S))), some (.int (nI f)), some (.int (nI s)), none, none, none, none, none, none, none, none, none, none, none, none, none, none, none, none, none, none, none, none, none, none, none, some (.int ((bailR lv S f (nI t9)).1)), some (.long (sumP ((bailR lv S f (nI t9)).2) S 0 0 (F - 1) (S - 1))), none, some (.int (nI (chN (bailR lv S f (nI t9)).2 lv (F * S)))), none, none, none] [] n2 a2 E3 Φ Ψ
  refine lw_cut (i := 0) (cc := kCnt cnt - 1) q3.1 X3.sr hkA.1 hkA.2.1 hf hs (fun n4 a4 E4 hn4 g4 C4 R4 => ?_)
  obtain ⟨iL4, iE4, r4, ia4, im4, X4⟩ := id R4
  replace X4 : SX g n4 a4 E4 iL4 iE4 r4 ia4 im4 F S su hrs gone m e (kCnt cnt - 1) (keA cnt A m) mc B := X4
  obtain ⟨V4, ⟨lL4, lE4, lr4⟩, K14, K24⟩ := id X4
  obtain ⟨⟨hwn4, hLn4, hEn4, hrn4⟩, ⟨hwL4, hwE4, hLE4, hrA4⟩, hri4, hw4, hL4, hE4, hR4, -⟩ := id V4
  show J g mL_law 13 bc bs 1282 [some (.ref g.1.2.1), some (.ref (a4 0)), some (.ref (a4 63)), some (.int (nI tm)), some (.int x), none, none, some (.int (nI F)), some (.int (nI S)), some (.int (nI (F * S))), some (.int (nI f)), some (.int (nI s)), none, none, none, none, none, none, none, none, none, none, none, none, none, none, none, none, none, none, none, none, none, none, none, some (.int ((bailR lv S f (nI t9)).1)), some (.long (sumP ((bailR lv S f (nI t9)).2) S 0 0 (F - 1) (S - 1))), none, some (.int (nI (chN (bailR lv S f (nI t9)).2 lv (F * S)))), none, none, none] [] n4 a4 E4 Φ Ψ
  by_cases hz : (bailR lv S f (nI t9)).1 = 0
  · skip
    refine j_aload_n dL_law_1282 rfl ?_
    refine j_cV (As := []) (rest := []) cm_X3_total ci_X3_total cs_X3_total rfl ln_L_162 (ci := 3) rfl dL_law_1283 (d' := 4) (by decide) (by omega) C4.1 rfl rfl (Nat.le_of_ble_eq_true rfl) (Nat.le_of_ble_eq_true rfl) (s_X3_total C4) ?_
    refine j_lload dL_law_1286 rfl ?_
    refine j_iload dL_law_1288 rfl ?_
    refine j_i2l dL_law_1290 ?_
    refine j_ladd dL_law_1291 ?_
    refine j_lcmp dL_law_1292 ?_
    refine j_if_ne_f (tgt := 1347) dL_law_1293 (by decide) ((lg_cmp_eq _ _).mpr (bailed_sum hF1 hS1 hro hbs1)) ?_
    refine j_iload dL_law_1296 rfl ?_
    refine j_iload dL_law_1298 rfl ?_
    refine j_icmp_gt_f (tgt := 1347) dL_law_1300 (by decide) (nI_nlt' (by omega) (by omega) hbu.1) ?_
    refine j_iload dL_law_1303 rfl ?_
    refine j_if_ne_f (tgt := 1312) dL_law_1305 (by decide) hz ?_
    refine j_iconst (v := 1) dL_law_1308 (by decide) ?_
    refine j_goto (tgt := 1313) dL_law_1309 (by decide) ?_
    refine j_iload dL_law_1313 rfl ?_
    refine j_if_ne_f (tgt := 1322) dL_law_1315 (by decide) (by rw [hbu.2.mp hz]; rfl) ?_
    refine j_iconst (v := 1) dL_law_1318 (by decide) ?_
    refine j_goto (tgt := 1323) dL_law_1319 (by decide) ?_
    refine j_icmp_ne_f (tgt := 1347) dL_law_1323 (by decide) (by decide) ?_
    refine j_aload_n dL_law_1326 rfl ?_
    refine j_iload dL_law_1327 rfl ?_
    refine j_iload dL_law_1329 rfl ?_
    refine j_cV (As := [.int (nI f), .int (nI s)]) (rest := []) cm_X3_levelAt ci_X3_levelAt cs_X3_levelAt rfl ln_L_148 (ci := 3) rfl dL_law_1331 (d' := 9) (by decide) (by omega) C4.1 rfl rfl (Nat.le_of_ble_eq_true rfl) (Nat.le_of_ble_eq_true rfl) (s_X3_levelAt C4 f s hf hs) ?_
    refine j_aload_n dL_law_1334 rfl ?_
    refine j_get fl_L_9 dL_law_1335 hwn4 hw4 rfl ?_
    refine j_iload dL_law_1338 rfl ?_
    refine j_aald (a := (a4 (r4 f))) dL_law_1340 hLn4 hL4 (by omega) hf (if_pos hf) ?_
    refine j_iload dL_law_1341 rfl ?_
    refine j_iald dL_law_1343 (hrn4 f hf) (hR4 f hf) (by omega) hs rfl ?_
    refine j_icmp_eq_t (tgt := 1349) dL_law_1344 (by decide) (fl_of L2.1 hf hs).symm ?_
    refine j_clr 38 ?_
    refine j_clr 36 ?_
    refine j_clr 35 ?_
    refine j_clr 11 ?_
    refine j_clr 10 ?_
    refine j_clr 9 ?_
    refine j_clr 8 ?_
    refine j_clr 7 ?_
    refine j_clr 4 ?_
    exact K n4 a4 E4 (by omega) (fun k hk => (g4 k (by omega)).trans (g2 k hk)) ⟨F, S, hrs, su, gone, cpyN (rowUp dr (kSlot old cnt) (cpyN lv (dr (kSlot old cnt)) (F * S)) (slot (kOld old cnt) (kCnt cnt - 1) 30)) ((bailR lv S f (nI t9)).2) (F * S), ed, kOld old cnt, kCnt cnt - 1, rowUp dr (kSlot old cnt) (cpyN lv (dr (kSlot old cnt)) (F * S)), mc, mr, m, e, keA cnt A m, B, C4, R4, L2⟩
  · skip
    refine j_aload_n dL_law_1282 rfl ?_
    refine j_cV (As := []) (rest := []) cm_X3_total ci_X3_total cs_X3_total rfl ln_L_162 (ci := 3) rfl dL_law_1283 (d' := 4) (by decide) (by omega) C4.1 rfl rfl (Nat.le_of_ble_eq_true rfl) (Nat.le_of_ble_eq_true rfl) (s_X3_total C4) ?_
    refine j_lload dL_law_1286 rfl ?_
    refine j_iload dL_law_1288 rfl ?_
    refine j_i2l dL_law_1290 ?_
    refine j_ladd dL_law_1291 ?_
    refine j_lcmp dL_law_1292 ?_
    refine j_if_ne_f (tgt := 1347) dL_law_1293 (by decide) ((lg_cmp_eq _ _).mpr (bailed_sum hF1 hS1 hro hbs1)) ?_
    refine j_iload dL_law_1296 rfl ?_
    refine j_iload dL_law_1298 rfl ?_
    refine j_icmp_gt_f (tgt := 1347) dL_law_1300 (by decide) (nI_nlt' (by omega) (by omega) hbu.1) ?_
    refine j_iload dL_law_1303 rfl ?_
    refine j_if_ne_t (tgt := 1312) dL_law_1305 (by decide) hz ?_
    refine j_iconst (v := 0) dL_law_1312 (by decide) ?_
    refine j_iload dL_law_1313 rfl ?_
    refine j_if_ne_t (tgt := 1322) dL_law_1315 (by decide) (fun z => hz (hbu.2.mpr ((nI_eq (by omega) (by omega)).mp (show nI _ = nI 0 from z)))) ?_
    refine j_iconst (v := 0) dL_law_1322 (by decide) ?_
    refine j_icmp_ne_f (tgt := 1347) dL_law_1323 (by decide) (by decide) ?_
    refine j_aload_n dL_law_1326 rfl ?_
    refine j_iload dL_law_1327 rfl ?_
    refine j_iload dL_law_1329 rfl ?_
    refine j_cV (As := [.int (nI f), .int (nI s)]) (rest := []) cm_X3_levelAt ci_X3_levelAt cs_X3_levelAt rfl ln_L_148 (ci := 3) rfl dL_law_1331 (d' := 9) (by decide) (by omega) C4.1 rfl rfl (Nat.le_of_ble_eq_true rfl) (Nat.le_of_ble_eq_true rfl) (s_X3_levelAt C4 f s hf hs) ?_
    refine j_aload_n dL_law_1334 rfl ?_
    refine j_get fl_L_9 dL_law_1335 hwn4 hw4 rfl ?_
    refine j_iload dL_law_1338 rfl ?_
    refine j_aald (a := (a4 (r4 f))) dL_law_1340 hLn4 hL4 (by omega) hf (if_pos hf) ?_
    refine j_iload dL_law_1341 rfl ?_
    refine j_iald dL_law_1343 (hrn4 f hf) (hR4 f hf) (by omega) hs rfl ?_
    refine j_icmp_eq_t (tgt := 1349) dL_law_1344 (by decide) (fl_of L2.1 hf hs).symm ?_
    refine j_clr 38 ?_
    refine j_clr 36 ?_
    refine j_clr 35 ?_
    refine j_clr 11 ?_
    refine j_clr 10 ?_
    refine j_clr 9 ?_
    refine j_clr 8 ?_
    refine j_clr 7 ?_
    refine j_clr 4 ?_
    exact K n4 a4 E4 (by omega) (fun k hk => (g4 k (by omega)).trans (g2 k hk)) ⟨F, S, hrs, su, gone, cpyN (rowUp dr (kSlot old cnt) (cpyN lv (dr (kSlot old cnt)) (F * S)) (slot (kOld old cnt) (kCnt cnt - 1) 30)) ((bailR lv S f (nI t9)).2) (F * S), ed, kOld old cnt, kCnt cnt - 1, rowUp dr (kSlot old cnt) (cpyN lv (dr (kSlot old cnt)) (F * S)), mc, mr, m, e, keA cnt A m, B, C4, R4, L2⟩
