/-! act: undo; act whole. -/
theorem lst_step (a j : Nat → Nat) (t : Nat) : va_up (fun k => if k < t then some (a (j k)) else none) t (some (a (j t))) = fun k => if k < t + 1 then some (a (j k)) else none := by
  funext k
  unfold va_up
  by_cases h : k = t
  · subst h
    rw [if_pos rfl, if_pos (Nat.lt_succ_self _)]
  · rw [if_neg h]
    show (if k < t then some (a (j k)) else none) = _
    by_cases h2 : k < t
    · rw [if_pos h2, if_pos (by omega)]
    · rw [if_neg h2, if_neg (by omega)]
set_option maxRecDepth 100000 in
set_option maxHeartbeats 4000000 in
theorem ac_undo {g : jG} {n : Nat} {ad : Nat → Nat} {E : Nat → va_E} {i F S : Nat} {hrs su : Int32} {gone : Int64} {lv ed : Nat → Int32} {old cnt : Nat} {dr : Nat → Nat → Int32} {mc : Nat} {mr : Nat → Nat → Int32} {m : Nat → Nat → Int32} {e : Nat → Int32} {A B : Nat → Nat → Nat → Int32} (C : CR g n ad E F S hrs su gone lv ed old cnt dr mc mr) (R : SR g n ad E F S su hrs gone m e cnt A mc B) (L : RS i F S su lv ed old cnt dr mc mr m e A B) (hi : i ≤ 500) (x : Int32) (f s : Nat) (hf : f < F) (hs : s < S) (dp : Int32) (hd1 : ¬ dp < -99) (hd2 : dp ≤ 99) {Φ : Option Value → jR} {Ψ : String → jR} (K : ∀ (n9 : Nat) (a9 : Nat → Nat) (E9 : Nat → va_E), n ≤ n9 → (∀ k, k < n → a9 k = ad k) → AS (i + 1) g n9 a9 E9 → Φ (some (.int 1)) n9 a9 E9) : J g mL_act 11 60 1200 906 [some (.ref (ad 0)), some (.ref (ad 63)), some (.int x), some (.int (nI F)), some (.int (nI S)), some (.int (nI f)), some (.int (nI s)), some (.int dp), some (.int 1), none, none, none, none] [] n ad E Φ Ψ := by
  obtain ⟨hF8, hS16, hF1, hS1, hold, hcn, hmc, hN, hn63⟩ := C.bd
  obtain ⟨iL0, iE0, r0, ia0, im0, X0⟩ := id R
  replace X0 : SX g n ad E iL0 iE0 r0 ia0 im0 F S su hrs gone m e cnt A mc B := X0
  obtain ⟨V0, ⟨lL0, lE0, lr0⟩, K10, K20⟩ := id X0
  obtain ⟨⟨hwn0, hLn0, hEn0, hrn0⟩, ⟨hwL0, hwE0, hLE0, hrA0⟩, hri0, hw0, hL0, hE0, hR0, -⟩ := id V0
  obtain ⟨⟨hia, hXa⟩, ja, qa, hAa, hja⟩ := id K10
  show J g mL_act 11 60 1200 906 [some (.ref (ad 0)), some (.ref (ad 63)), some (.int x), some (.int (nI F)), some (.int (nI S)), some (.int (nI f)), some (.int (nI s)), some (.int dp), some (.int 1), none, none, none, none] [] n ad E Φ Ψ
  by_cases hc : 1 ≤ cnt
  · skip
    refine j_aload_n dL_act_906 rfl ?_
    refine j_get fl_L_79 dL_act_907 hwn0 hw0 rfl ?_
    refine j_alen 1 dL_act_910 hia hAa rfl ?_
    refine j_if_le_f (tgt := 918) dL_act_911 (by decide) (by rw [nI_nle_iff (by omega)]; omega) ?_
    refine j_iconst (v := 1) dL_act_914 (by decide) ?_
    refine j_goto (tgt := 919) dL_act_915 (by decide) ?_
    refine j_istore (L' := [some (.ref (ad 0)), some (.ref (ad 63)), some (.int x), some (.int (nI F)), some (.int (nI S)), some (.int (nI f)), some (.int (nI s)), some (.int dp), some (.int 1), none, none, none, none]) dL_act_919 (by decide) rfl rfl ?_
    refine j_iload dL_act_921 rfl ?_
    refine j_if_ne_t (tgt := 939) dL_act_923 (by decide) (by decide) ?_
    refine j_aload_n dL_act_939 rfl ?_
    refine j_get fl_L_79 dL_act_940 hwn0 hw0 rfl ?_
    refine j_aload_n dL_act_943 rfl ?_
    refine j_get fl_L_79 dL_act_944 hwn0 hw0 rfl ?_
    refine j_alen 1 dL_act_947 hia hAa rfl ?_
    refine j_iconst (v := nI 1) dL_act_948 (by decide) ?_
    refine j_isub dL_act_949 ?_
    refine j_topi (y := nI (cnt - 1)) (pk_sub (by omega)) ?_
    refine j_aaldP (a := (ad (ja (cnt - 1)))) dL_act_950 hia hAa (by omega) (by omega) (if_pos (by omega)) ?_
    refine j_astore (L' := [some (.ref (ad 0)), some (.ref (ad 63)), some (.int x), some (.int (nI F)), some (.int (nI S)), some (.int (nI f)), some (.int (nI s)), some (.int dp), some (.int 1), some (.ref (ad (ja (cnt - 1)))), none, none, none]) dL_act_951 (by decide) rfl rfl ?_
    refine j_aload_n dL_act_953 rfl ?_
    refine j_aload dL_act_954 rfl ?_
    have hc1 : cnt - 1 < cnt := by omega
    refine j_cV (As := [.ref (ad (ja (cnt - 1)))]) (rest := []) cm_X4_unlike ci_X4_unlike cs_X4_unlike rfl ln_L_72 (ci := 4) rfl dL_act_956 (d' := 0) (by decide) hwn0 hw0 rfl rfl (Nat.le_of_ble_eq_true rfl) (Nat.le_of_ble_eq_true rfl) (s_X4_unlike V0 (hja (cnt - 1) hc1).2) ?_
    refine j_istore (L' := [some (.ref (ad 0)), some (.ref (ad 63)), some (.int x), some (.int (nI F)), some (.int (nI S)), some (.int (nI f)), some (.int (nI s)), some (.int dp), some (.int 1), some (.ref (ad (ja (cnt - 1)))), some (.int (unlC m (A (cnt - 1)) F S)), none, none]) dL_act_959 (by decide) rfl rfl ?_
    refine j_aload_n dL_act_961 rfl ?_
    refine j_get fl_L_79 dL_act_962 hwn0 hw0 rfl ?_
    refine j_alen 1 dL_act_965 hia hAa rfl ?_
    refine j_iconst (v := nI 1) dL_act_966 (by decide) ?_
    refine j_isub dL_act_967 ?_
    refine j_topi (y := nI (cnt - 1)) (pk_sub (by omega)) ?_
    refine j_bud (bc' := 58 + 1) (bs' := 1100 + (cnt - 1)) (by omega) (by omega) ?_
    refine j_anP (bc := 58) (bs := 1100) (N := cnt - 1) cl_L_85 (by omega) dL_act_968 (fun a5 g5 => ?_)
    rw [← g5 0 (by omega), ← g5 63 (by omega), ← g5 (ja (cnt - 1)) (hja _ hc1).2.1.1]
    refine j_astore (L' := [some (.ref (a5 0)), some (.ref (a5 63)), some (.int x), some (.int (nI F)), some (.int (nI S)), some (.int (nI f)), some (.int (nI s)), some (.int dp), some (.int 1), some (.ref (a5 (ja (cnt - 1)))), some (.int (unlC m (A (cnt - 1)) F S)), some (.ref (a5 n)), none]) dL_act_971 (by decide) rfl rfl ?_
    refine j_iconst (v := nI 0) dL_act_973 (by decide) ?_
    refine j_istore (L' := [some (.ref (a5 0)), some (.ref (a5 63)), some (.int x), some (.int (nI F)), some (.int (nI S)), some (.int (nI f)), some (.int (nI s)), some (.int dp), some (.int 1), some (.ref (a5 (ja (cnt - 1)))), some (.int (unlC m (A (cnt - 1)) F S)), some (.ref (a5 n)), some (.int (nI 0))]) dL_act_974 (by decide) rfl rfl ?_
    suffices hall : ∀ E9 : Nat → va_E, ((∀ k, k < n → E9 k = E k) ∧ E9 n = aP g (cnt - 1) (fun k => if k < 0 then some (a5 (ja k)) else none)) → J g mL_act 11 58 1100 976 [some (.ref (a5 0)), some (.ref (a5 63)), some (.int x), some (.int (nI F)), some (.int (nI S)), some (.int (nI f)), some (.int (nI s)), some (.int dp), some (.int 1), some (.ref (a5 (ja (cnt - 1)))), some (.int (unlC m (A (cnt - 1)) F S)), some (.ref (a5 n)), some (.int (nI 0))] [] (n + 1) a5 E9 Φ Ψ from hall _ ⟨fun k hk => up_ne (by omega), up_eq.trans (aP_cg (funext fun k => (if_neg (Nat.not_lt_zero k)).symm))⟩
    refine up_ind (P := fun (t : Nat) => ∀ E9 : Nat → va_E, ((∀ k, k < n → E9 k = E k) ∧ E9 n = aP g (cnt - 1) (fun k => if k < t then some (a5 (ja k)) else none)) → J g mL_act 11 58 1100 976 [some (.ref (a5 0)), some (.ref (a5 63)), some (.int x), some (.int (nI F)), some (.int (nI S)), some (.int (nI f)), some (.int (nI s)), some (.int dp), some (.int 1), some (.ref (a5 (ja (cnt - 1)))), some (.int (unlC m (A (cnt - 1)) F S)), some (.ref (a5 n)), some (.int (nI t))] [] (n + 1) a5 E9 Φ Ψ) (N := cnt - 1) 0 ?_ (cnt - 1) (by omega) ?_
    · intro t ht0 ht ih E2 q2
      have X2 := X0.tr (n' := n + 1) (ad' := a5) (E' := E2) (by omega) g5 (fun k _ hk => q2.1 k hk)
      have C2 := C.tr63 (n' := n + 1) (ad' := a5) (E' := E2) (by omega) (fun k hk => g5 k (by omega)) (fun k hk => q2.1 k (by omega))
      have hA2 : E2 ia0 = aP g cnt (fun k => if k < cnt then some (a5 (ja k)) else none) := (q2.1 ia0 hia).trans (hAa.trans (aP_cg (refs_cg (fun k hk => g5 _ (hja k hk).2.1.1))))
      obtain ⟨V2, ⟨lL2, lE2, lr2⟩, K12, K22⟩ := id X2
      obtain ⟨⟨hwn2, hLn2, hEn2, hrn2⟩, ⟨hwL2, hwE2, hLE2, hrA2⟩, hri2, hw2, hL2, hE2, hR2, -⟩ := id V2
      have htc : t < cnt := by omega
      show J g mL_act 11 58 1100 976 [some (.ref (a5 0)), some (.ref (a5 63)), some (.int x), some (.int (nI F)), some (.int (nI S)), some (.int (nI f)), some (.int (nI s)), some (.int dp), some (.int 1), some (.ref (a5 (ja (cnt - 1)))), some (.int (unlC m (A (cnt - 1)) F S)), some (.ref (a5 n)), some (.int (nI t))] [] (n + 1) a5 E2 Φ Ψ
      refine j_iload dL_act_976 rfl ?_
      refine j_aload dL_act_978 rfl ?_
      refine j_alen 1 dL_act_980 (by omega) q2.2 rfl ?_
      refine j_icmp_ge_f (tgt := 1002) dL_act_981 (by decide) (nI_nle' (by omega) (by omega) (by omega)) ?_
      refine j_aload dL_act_984 rfl ?_
      refine j_iload dL_act_986 rfl ?_
      refine j_aload_n dL_act_988 rfl ?_
      refine j_get fl_L_79 dL_act_989 hwn2 hw2 rfl ?_
      refine j_iload dL_act_992 rfl ?_
      refine j_aaldP (a := (a5 (ja t))) dL_act_994 (by omega) hA2 (by omega) htc (if_pos htc) ?_
      refine j_aastP (j := t) dL_act_995 (by omega) (by have := (hja t htc).2.1.1; omega) q2.2 ((q2.1 _ (hja t htc).2.1.1).trans (hja t htc).2.2.1) (by omega) ht ?_
      refine j_iinc (v := nI (t + 1)) (L' := [some (.ref (a5 0)), some (.ref (a5 63)), some (.int x), some (.int (nI F)), some (.int (nI S)), some (.int (nI f)), some (.int (nI s)), some (.int dp), some (.int 1), some (.ref (a5 (ja (cnt - 1)))), some (.int (unlC m (A (cnt - 1)) F S)), some (.ref (a5 n)), some (.int (nI (t + 1)))]) dL_act_996 (by decide) rfl (nI_1 _) rfl rfl ?_
      refine j_goto (tgt := 976) dL_act_999 (by decide) ?_
      exact ih _ ⟨fun k hk => (up_ne (by omega)).trans (q2.1 k hk), up_eq.trans (aP_cg (lst_step a5 ja t))⟩
    · intro E3 q3
      have X3 := X0.tr (n' := n + 1) (ad' := a5) (E' := E3) (by omega) g5 (fun k _ hk => q3.1 k hk)
      have C3 := C.tr63 (n' := n + 1) (ad' := a5) (E' := E3) (by omega) (fun k hk => g5 k (by omega)) (fun k hk => q3.1 k (by omega))
      have hA3 : E3 ia0 = aP g cnt (fun k => if k < cnt then some (a5 (ja k)) else none) := (q3.1 ia0 hia).trans (hAa.trans (aP_cg (refs_cg (fun k hk => g5 _ (hja k hk).2.1.1))))
      obtain ⟨V3, ⟨lL3, lE3, lr3⟩, K13, K23⟩ := id X3
      obtain ⟨⟨hwn3, hLn3, hEn3, hrn3⟩, ⟨hwL3, hwE3, hLE3, hrA3⟩, hri3, hw3, hL3, hE3, hR3, -⟩ := id V3
      show J g mL_act 11 58 1100 976 [some (.ref (a5 0)), some (.ref (a5 63)), some (.int x), some (.int (nI F)), some (.int (nI S)), some (.int (nI f)), some (.int (nI s)), some (.int dp), some (.int 1), some (.ref (a5 (ja (cnt - 1)))), some (.int (unlC m (A (cnt - 1)) F S)), some (.ref (a5 n)), some (.int (nI (cnt - 1)))] [] (n + 1) a5 E3 Φ Ψ
      refine j_iload dL_act_976 rfl ?_
      refine j_aload dL_act_978 rfl ?_
      refine j_alen 1 dL_act_980 (by omega) q3.2 rfl ?_
      refine j_icmp_ge_t (tgt := 1002) dL_act_981 (by decide) (nI_le' (by omega) (by omega) (by omega)) ?_
      refine j_aload_n dL_act_1002 rfl ?_
      refine j_aload dL_act_1003 rfl ?_
      refine j_put fl_L_79 fp_X4 dL_act_1005 hwn3 hw3 (Or.inl rfl) rfl rfl (Nat.le_of_ble_eq_true rfl) ?_
      show J g mL_act 11 58 1100 1008 [some (.ref (a5 0)), some (.ref (a5 63)), some (.int x), some (.int (nI F)), some (.int (nI S)), some (.int (nI f)), some (.int (nI s)), some (.int dp), some (.int 1), some (.ref (a5 (ja (cnt - 1)))), some (.int (unlC m (A (cnt - 1)) F S)), some (.ref (a5 n)), some (.int (nI (cnt - 1)))] [] (n + 1) a5 (va_up E3 63 (.inr (4, [.ref (a5 iL0), .ref (a5 iE0), .int su, .int hrs, .long gone, .ref (a5 n), .ref (a5 im0)]))) Φ Ψ
      have nM : ∀ k, n ≤ k → ¬ (Mu 63 iL0 iE0 F r0 k ∨ k < 63) := fun k hk z => by
        rcases z with (z | z | z | ⟨j, hj, z⟩) | z
        · omega
        · omega
        · omega
        · have := hrn0 j hj
          omega
        · omega
      have eU : ∀ k, k ≠ 63 → (va_up E3 63 (.inr (4, [.ref (a5 iL0), .ref (a5 iE0), .int su, .int hrs, .long gone, .ref (a5 n), .ref (a5 im0)]))) k = E3 k := fun k hk => up_ne hk
      have KN : KL g (n + 1) a5 (va_up E3 63 (.inr (4, [.ref (a5 iL0), .ref (a5 iE0), .int su, .int hrs, .long gone, .ref (a5 n), .ref (a5 im0)]))) (fun k => Mu 63 iL0 iE0 F r0 k ∨ k < 63) n (cnt - 1) F S A := ⟨⟨by omega, nM n (Nat.le_refl _)⟩, ja, qa, (eU n (by omega)).trans q3.2, fun k hk => ⟨(hja k (by omega)).1, (hja k (by omega)).2.tr (by omega) g5 (fun k9 h9 => by rcases h9 with rfl | ⟨j, hj, rfl⟩ <;> first | exact (eU _ (fun z => (hja k (by omega)).1.1 (Or.inl (Or.inl z)))).trans (q3.1 _ (hja k (by omega)).2.1.1) | exact (eU _ (fun z => (hja k (by omega)).1.2 j hj (Or.inl (Or.inl z)))).trans (q3.1 _ ((hja k (by omega)).2.1.2 j hj)))⟩⟩
      have X4 : SX g (n + 1) a5 (va_up E3 63 (.inr (4, [.ref (a5 iL0), .ref (a5 iE0), .int su, .int hrs, .long gone, .ref (a5 n), .ref (a5 im0)]))) iL0 iE0 r0 n im0 F S su hrs gone m e (cnt - 1) A mc B := ⟨X3.1.setTop, X3.2.1, KN, (X3.upd0 (Or.inl rfl)).2⟩
      have D4 : CR g (n + 1) a5 (va_up E3 63 (.inr (4, [.ref (a5 iL0), .ref (a5 iE0), .int su, .int hrs, .long gone, .ref (a5 n), .ref (a5 im0)]))) F S hrs su gone lv ed old cnt dr mc mr := C3.kept (fun k hk => up_ne (by omega))
      have M4 : MT g (n + 1) a5 (va_up E3 63 (.inr (4, [.ref (a5 iL0), .ref (a5 iE0), .int su, .int hrs, .long gone, .ref (a5 n), .ref (a5 im0)]))) (ja (cnt - 1)) (qa (cnt - 1)) F S (A (cnt - 1)) := (hja _ hc1).2.tr (by omega) g5 (fun k9 h9 => by rcases h9 with rfl | ⟨j, hj, rfl⟩ <;> first | exact (eU _ (fun z => (hja _ hc1).1.1 (Or.inl (Or.inl z)))).trans (q3.1 _ (hja _ hc1).2.1.1) | exact (eU _ (fun z => (hja _ hc1).1.2 j hj (Or.inl (Or.inl z)))).trans (q3.1 _ ((hja _ hc1).2.1.2 j hj)))
      generalize va_up E3 63 (.inr (4, [.ref (a5 iL0), .ref (a5 iE0), .int su, .int hrs, .long gone, .ref (a5 n), .ref (a5 im0)])) = E4 at X4 D4 M4 ⊢
      obtain ⟨V4, ⟨lL4, lE4, lr4⟩, K14, K24⟩ := id X4
      obtain ⟨⟨hwn4, hLn4, hEn4, hrn4⟩, ⟨hwL4, hwE4, hLE4, hrA4⟩, hri4, hw4, hL4, hE4, hR4, -⟩ := id V4
      refine j_aload_n dL_act_1008 rfl ?_
      refine j_aload dL_act_1009 rfl ?_
      refine j_bud (bc' := F + 1 + 30) (bs' := F * S + F + 900) (by omega) (by omega) ?_
      refine j_callS (As := [.ref (a5 (ja (cnt - 1)))]) (rest := [.ref (a5 63)]) (d' := 2) (Φ' := OC g F S (A (cnt - 1)) (n + 1) a5 E4) (Ψ' := fun _ _ _ _ => False) cm_X4_copied ct_X4_copied ln_L_60 dL_act_1011 (by decide) rfl rfl (Nat.le_of_ble_eq_true rfl) (Nat.le_of_ble_eq_true rfl) (c_X4_copied M4 hF8 _) (fun v6 n6 a6 E6 q6 => ?_) (fun _ _ _ _ q => q.elim)
      obtain ⟨rfl, rfl, g6, e6, M6⟩ := q6
      rw [← g6 0 (by omega), ← g6 63 (by omega), ← g6 (ja (cnt - 1)) M4.1.1, ← g6 n (by omega)]
      have C5 := D4.tr63 (n' := n + 1 + 1 + F) (ad' := a6) (E' := E6) (by omega) (fun k hk => g6 k (by omega)) (fun k hk => e6 k (by omega))
      have X5 := X4.level (q := n + 1) (n' := n + 1 + 1 + F) (ad' := a6) (E' := E6) (Nat.le_refl _) (Nat.le_refl _) g6 (fun k _ hk => e6 k hk) M6
      have X6 := X4.tr (n' := n + 1 + 1 + F) (ad' := a6) (E' := E6) (by omega) g6 (fun k _ hk => e6 k hk)
      obtain ⟨V6, -⟩ := id X6
      obtain ⟨⟨hwn6, hLn6, hEn6, hrn6⟩, -, -, hw6, -⟩ := id V6
      show J g mL_act 11 30 900 1014 [some (.ref (a6 0)), some (.ref (a6 63)), some (.int x), some (.int (nI F)), some (.int (nI S)), some (.int (nI f)), some (.int (nI s)), some (.int dp), some (.int 1), some (.ref (a6 (ja (cnt - 1)))), some (.int (unlC m (A (cnt - 1)) F S)), some (.ref (a6 n)), some (.int (nI (cnt - 1)))] [.ref (a6 (n + 1)), .ref (a6 63)] (n + 1 + 1 + F) a6 E6 Φ Ψ
      refine j_put fl_L_9 fp_X4 dL_act_1014 hwn6 hw6 (Or.inl rfl) rfl rfl (Nat.le_of_ble_eq_true rfl) ?_
      show J g mL_act 11 30 900 1017 [some (.ref (a6 0)), some (.ref (a6 63)), some (.int x), some (.int (nI F)), some (.int (nI S)), some (.int (nI f)), some (.int (nI s)), some (.int dp), some (.int 1), some (.ref (a6 (ja (cnt - 1)))), some (.int (unlC m (A (cnt - 1)) F S)), some (.ref (a6 n)), some (.int (nI (cnt - 1)))] [] (n + 1 + 1 + F) a6 (va_up E6 63 (.inr (4, [.ref (a6 (n + 1)), .ref (a6 iE0), .int su, .int hrs, .long gone, .ref (a6 n), .ref (a6 im0)]))) Φ Ψ
      have D7 : CR g (n + 1 + 1 + F) a6 (va_up E6 63 (.inr (4, [.ref (a6 (n + 1)), .ref (a6 iE0), .int su, .int hrs, .long gone, .ref (a6 n), .ref (a6 im0)]))) F S hrs su gone lv ed old cnt dr mc mr := C5.kept (fun k hk => up_ne (by omega))
      have R7 : SR g (n + 1 + 1 + F) a6 (va_up E6 63 (.inr (4, [.ref (a6 (n + 1)), .ref (a6 iE0), .int su, .int hrs, .long gone, .ref (a6 n), .ref (a6 im0)]))) F S su hrs gone (A (cnt - 1)) e (cnt - 1) A mc B := X5.sr
      generalize va_up E6 63 (.inr (4, [.ref (a6 (n + 1)), .ref (a6 iE0), .int su, .int hrs, .long gone, .ref (a6 n), .ref (a6 im0)])) = E7 at R7 D7 ⊢
      refine j_aload_n dL_act_1017 rfl ?_
      refine j_cVp (As := []) (rest := []) cm_X3_undo ci_X3_undo cs_X3_undo rfl ln_L_82 (ci := 3) rfl dL_act_1018 (d' := 6) (by decide) (by omega) D7.1 rfl rfl (Nat.le_of_ble_eq_true rfl) (Nat.le_of_ble_eq_true rfl) (s_X3_undo D7 (by omega)) (fun E8 q8 => ?_)
      show J g mL_act 11 30 900 1021 [some (.ref (a6 0)), some (.ref (a6 63)), some (.int x), some (.int (nI F)), some (.int (nI S)), some (.int (nI f)), some (.int (nI s)), some (.int dp), some (.int 1), some (.ref (a6 (ja (cnt - 1)))), some (.int (unlC m (A (cnt - 1)) F S)), some (.ref (a6 n)), some (.int (nI (cnt - 1)))] [.int (chgC lv (dr (slot old (cnt - 1) 30)) (F * S))] (n + 1 + 1 + F) a6 E8 Φ Ψ
      have R8 := R7.tr (Nat.le_refl _) (fun _ _ => rfl) (fun k hk _ => q8.2 k hk)
      refine j_iload dL_act_1021 rfl ?_
      refine j_icmp_ne_f (tgt := 1030) dL_act_1023 (by decide) (unl_eq L.1 (L.2.2.2.2.2.2.1 (cnt - 1) hc1).1).symm ?_
      refine j_iconst (v := 1) dL_act_1026 (by decide) ?_
      refine j_goto (tgt := 1031) dL_act_1027 (by decide) ?_
      exact j_zret dL_act_1031 rfl rfl (K _ _ _ (by omega) (fun k hk => (g6 k (by omega)).trans (g5 k hk)) ⟨F, S, hrs, su, gone, cpyN (dr (slot old (cnt - 1) 30)) lv (F * S), ed, old, cnt - 1, dr, mc, mr, A (cnt - 1), e, A, B, q8.1, R8, L.undo (by omega)⟩)
  · skip
    have h0 : cnt = 0 := by omega
    refine j_aload_n dL_act_906 rfl ?_
    refine j_get fl_L_79 dL_act_907 hwn0 hw0 rfl ?_
    refine j_alen 1 dL_act_910 hia hAa rfl ?_
    refine j_if_le_t (tgt := 918) dL_act_911 (by decide) (by rw [nI_nle_iff (by omega)]; omega) ?_
    refine j_iconst (v := 0) dL_act_918 (by decide) ?_
    refine j_istore (L' := [some (.ref (ad 0)), some (.ref (ad 63)), some (.int x), some (.int (nI F)), some (.int (nI S)), some (.int (nI f)), some (.int (nI s)), some (.int dp), some (.int 0), none, none, none, none]) dL_act_919 (by decide) rfl rfl ?_
    refine j_iload dL_act_921 rfl ?_
    refine j_if_ne_f (tgt := 939) dL_act_923 (by decide) rfl ?_
    have hh : ∀ q : Nat, J g mL_act 11 0 0 1188 [some (.ref (ad 0)), some (.ref (ad 63)), some (.int x), some (.int (nI F)), some (.int (nI S)), some (.int (nI f)), some (.int (nI s)), some (.int dp), some (.int 0), none, none, none, none] [.ref q] n ad E Φ Ψ := by
      intro q9
      refine j_astore (L' := [some (.ref (ad 0)), some (.ref (ad 63)), some (.int x), some (.int (nI F)), some (.int (nI S)), some (.int (nI f)), some (.int (nI s)), some (.int dp), some (.int 0), some (.ref q9), none, none, none]) dL_act_1188 (by decide) rfl rfl ?_
      refine j_iload dL_act_1190 rfl ?_
      refine j_if_ne_f (tgt := 1199) dL_act_1192 (by decide) rfl ?_
      refine j_iconst (v := 1) dL_act_1195 (by decide) ?_
      refine j_goto (tgt := 1200) dL_act_1196 (by decide) ?_
      exact j_zret dL_act_1200 rfl rfl (K _ _ _ (Nat.le_refl _) (fun _ _ => rfl) ⟨F, S, hrs, su, gone, lv, ed, old, cnt, dr, mc, mr, m, e, A, B, C, R, L.le⟩)
    refine j_bud (bc' := 1) (bs' := 6) (by decide) (by decide) ?_
    refine j_aload_n dL_act_926 rfl ?_
    exact j_cVx (As := []) (rest := []) cm_X3_undo ci_X3_undo cs_X3_undo rfl ln_L_82 (ci := 3) rfl dL_act_927 (d' := 6) (by decide) (by omega) C.1 rfl rfl (Nat.le_of_ble_eq_true rfl) (Nat.le_of_ble_eq_true rfl) (s_X3_undo_bad C h0) (Or.inr ⟨[⟨82, 187, 1188, 102⟩, ⟨188, 242, 1188, 102⟩, ⟨243, 290, 1188, 102⟩, ⟨291, 414, 1188, 102⟩, ⟨415, 507, 1188, 102⟩, ⟨508, 610, 1188, 102⟩, ⟨611, 765, 1188, 102⟩, ⟨766, 833, 1188, 102⟩, ⟨834, 843, 1188, 102⟩, ⟨844, 905, 1188, 102⟩], ⟨906, 938, 1188, 102⟩, [⟨939, 1031, 1188, 102⟩, ⟨1032, 1068, 1188, 102⟩, ⟨1069, 1134, 1188, 102⟩, ⟨1135, 1187, 1188, 102⟩], "java/lang/IllegalStateException", rfl, (fun z hz => Or.inl (by simp only [List.mem_cons, List.not_mem_nil, or_false] at hz; rcases hz with rfl | rfl | rfl | rfl | rfl | rfl | rfl | rfl | rfl | rfl <;> rfl)), by decide, by decide, cl_L_102, ca_IllegalStateException, fun q => hh q⟩)
set_option maxRecDepth 100000 in
set_option maxHeartbeats 4000000 in
theorem c_act {g : jG} {n : Nat} {ad : Nat → Nat} {E : Nat → va_E} {i : Nat} (Q : AS i g n ad E) (hi : i ≤ 500) (x : Int32) {Φ : Option Value → jR} {Ψ : String → jR} (K : ∀ (n9 : Nat) (a9 : Nat → Nat) (E9 : Nat → va_E), n ≤ n9 → (∀ k, k < n → a9 k = ad k) → AS (i + 1) g n9 a9 E9 → Φ (some (.int 1)) n9 a9 E9) : JE g mL_act 11 60 1200 [.ref (ad 0), .ref (ad 63), .int x] n ad E Φ Ψ := by
  obtain ⟨F, S, hrs, su, gone, lv, ed, old, cnt, dr, mc, mr, m, e, A, B, C, R, L⟩ := Q
  obtain ⟨hF8, hS16, hF1, hS1, hold, hcn, hmc, hN, hn63⟩ := C.bd
  obtain ⟨iL0, iE0, r0, ia0, im0, X0⟩ := id R
  replace X0 : SX g n ad E iL0 iE0 r0 ia0 im0 F S su hrs gone m e cnt A mc B := X0
  obtain ⟨V0, ⟨lL0, lE0, lr0⟩, K10, K20⟩ := id X0
  obtain ⟨⟨hwn0, hLn0, hEn0, hrn0⟩, ⟨hwL0, hwE0, hLE0, hrA0⟩, hri0, hw0, hL0, hE0, hR0, -⟩ := id V0
  show J g mL_act 11 60 1200 0 [some (.ref (ad 0)), some (.ref (ad 63)), some (.int x), none, none, none, none, none, none, none, none, none, none] [] n ad E Φ Ψ
  refine j_aload_n dL_act_0 rfl ?_
  refine j_get fl_L_9 dL_act_1 hwn0 hw0 rfl ?_
  refine j_alen 2 dL_act_4 hLn0 hL0 rfl ?_
  refine j_istore_n (L' := [some (.ref (ad 0)), some (.ref (ad 63)), some (.int x), some (.int (nI F)), none, none, none, none, none, none, none, none, none]) dL_act_5 (by decide) rfl rfl ?_
  refine j_aload_n dL_act_6 rfl ?_
  refine j_get fl_L_15 dL_act_7 hwn0 hw0 rfl ?_
  refine j_alen 0 dL_act_10 hEn0 hE0 rfl ?_
  refine j_istore (L' := [some (.ref (ad 0)), some (.ref (ad 63)), some (.int x), some (.int (nI F)), some (.int (nI S)), none, none, none, none, none, none, none, none]) dL_act_11 (by decide) rfl rfl ?_
  refine j_iload_n dL_act_13 rfl ?_
  refine j_iconst (v := 4) dL_act_14 (by decide) ?_
  refine j_ishr dL_act_15 ?_
  refine j_iload_n dL_act_16 rfl ?_
  refine j_cS (As := [.int (x >>> (4 &&& 31)), .int (nI F)]) (rest := []) cm_L_below ct_L_below ln_L_19 dL_act_17 (d' := 0) (by decide) rfl rfl (Nat.le_of_ble_eq_true rfl) (Nat.le_of_ble_eq_true rfl) (s_L_below (x >>> (4 &&& 31)) F (by omega) (by omega)) ?_
  have hbf : bl (x >>> (4 &&& 31)) F < F := bl_lt _ (by omega)
  generalize bl (x >>> (4 &&& 31)) F = f at hbf ⊢
  refine j_istore (L' := [some (.ref (ad 0)), some (.ref (ad 63)), some (.int x), some (.int (nI F)), some (.int (nI S)), some (.int (nI f)), none, none, none, none, none, none, none]) dL_act_20 (by decide) rfl rfl ?_
  refine j_iload_n dL_act_22 rfl ?_
  refine j_bipush (v := 7) dL_act_23 (by decide) ?_
  refine j_ishr dL_act_25 ?_
  refine j_iload dL_act_26 rfl ?_
  refine j_cS (As := [.int (x >>> (7 &&& 31)), .int (nI S)]) (rest := []) cm_L_below ct_L_below ln_L_19 dL_act_28 (d' := 0) (by decide) rfl rfl (Nat.le_of_ble_eq_true rfl) (Nat.le_of_ble_eq_true rfl) (s_L_below (x >>> (7 &&& 31)) S (by omega) (by omega)) ?_
  have hbs : bl (x >>> (7 &&& 31)) S < S := bl_lt _ (by omega)
  generalize bl (x >>> (7 &&& 31)) S = s at hbs ⊢
  refine j_istore (L' := [some (.ref (ad 0)), some (.ref (ad 63)), some (.int x), some (.int (nI F)), some (.int (nI S)), some (.int (nI f)), some (.int (nI s)), none, none, none, none, none, none]) dL_act_31 (by decide) rfl rfl ?_
  have main : ∀ dp : Int32, ¬ dp < -99 → dp ≤ 99 → J g mL_act 11 60 1200 79 [some (.ref (ad 0)), some (.ref (ad 63)), some (.int x), some (.int (nI F)), some (.int (nI S)), some (.int (nI f)), some (.int (nI s)), some (.int dp), none, none, none, none, none] [] n ad E Φ Ψ := by
    intro dp hd1 hd2
    refine j_iconst (v := 1) dL_act_79 (by decide) ?_
    refine j_istore (L' := [some (.ref (ad 0)), some (.ref (ad 63)), some (.int x), some (.int (nI F)), some (.int (nI S)), some (.int (nI f)), some (.int (nI s)), some (.int dp), some (.int 1), none, none, none, none]) dL_act_80 (by decide) rfl rfl ?_
    refine j_iload_n dL_act_82 rfl ?_
    refine j_bipush (v := nI 20) dL_act_83 (by decide) ?_
    refine j_cS (As := [.int x, .int (nI 20)]) (rest := []) cm_L_below ct_L_below ln_L_19 dL_act_85 (d' := 0) (by decide) rfl rfl (Nat.le_of_ble_eq_true rfl) (Nat.le_of_ble_eq_true rfl) (s_L_below x 20 (by omega) (by omega)) ?_
    have hbz : bl x 20 < 20 := bl_lt _ (by omega)
    generalize bl x 20 = z at hbz ⊢
    rcases (by omega : z = 0 ∨ z = 1 ∨ z = 2 ∨ z = 3 ∨ z = 4 ∨ z = 5 ∨ z = 6 ∨ z = 7 ∨ z = 8 ∨ z = 9 ∨ z = 10 ∨ z = 11 ∨ z = 12 ∨ z = 13 ∨ z = 14 ∨ z = 15 ∨ z = 16 ∨ z = 17 ∨ z = 18 ∨ z = 19) with rfl | rfl | rfl | rfl | rfl | rfl | rfl | rfl | rfl | rfl | rfl | rfl | rfl | rfl | rfl | rfl | rfl | rfl | rfl | rfl
    · exact j_tableIn (off := 88) (tgt := 176) dL_act_88 (by decide) (by decide) rfl (by decide) (ac_lay C R L hi x f s hbf hbs dp hd1 hd2 K)
    · exact j_tableIn (off := 155) (tgt := 243) dL_act_88 (by decide) (by decide) rfl (by decide) (ac_rain C R L hi x f s hbf hbs dp hd1 hd2 K)
    · exact j_tableIn (off := 155) (tgt := 243) dL_act_88 (by decide) (by decide) rfl (by decide) (ac_rain C R L hi x f s hbf hbs dp hd1 hd2 K)
    · exact j_tableIn (off := 155) (tgt := 243) dL_act_88 (by decide) (by decide) rfl (by decide) (ac_rain C R L hi x f s hbf hbs dp hd1 hd2 K)
    · exact j_tableIn (off := 203) (tgt := 291) dL_act_88 (by decide) (by decide) rfl (by decide) (ac_splash C R L hi x f s hbf hbs dp hd1 hd2 K)
    · exact j_tableIn (off := 203) (tgt := 291) dL_act_88 (by decide) (by decide) rfl (by decide) (ac_splash C R L hi x f s hbf hbs dp hd1 hd2 K)
    · exact j_tableIn (off := 203) (tgt := 291) dL_act_88 (by decide) (by decide) rfl (by decide) (ac_splash C R L hi x f s hbf hbs dp hd1 hd2 K)
    · exact j_tableIn (off := 203) (tgt := 291) dL_act_88 (by decide) (by decide) rfl (by decide) (ac_splash C R L hi x f s hbf hbs dp hd1 hd2 K)
    · exact j_tableIn (off := 327) (tgt := 415) dL_act_88 (by decide) (by decide) rfl (by decide) (ac_swap C R L hi x f s hbf hbs dp hd1 hd2 K)
    · exact j_tableIn (off := 420) (tgt := 508) dL_act_88 (by decide) (by decide) rfl (by decide) (ac_turn C R L hi x f s hbf hbs dp hd1 hd2 K)
    · exact j_tableIn (off := 523) (tgt := 611) dL_act_88 (by decide) (by decide) rfl (by decide) (ac_bail C R L hi x f s hbf hbs dp hd1 hd2 K)
    · exact j_tableIn (off := 523) (tgt := 611) dL_act_88 (by decide) (by decide) rfl (by decide) (ac_bail C R L hi x f s hbf hbs dp hd1 hd2 K)
    · exact j_tableIn (off := 678) (tgt := 766) dL_act_88 (by decide) (by decide) rfl (by decide) (ac_mark C R L hi x f s hbf hbs dp hd1 hd2 K)
    · exact j_tableIn (off := 746) (tgt := 834) dL_act_88 (by decide) (by decide) rfl (by decide) (ac_back C R L hi x f s hbf hbs dp hd1 hd2 K)
    · exact j_tableIn (off := 818) (tgt := 906) dL_act_88 (by decide) (by decide) rfl (by decide) (ac_undo C R L hi x f s hbf hbs dp hd1 hd2 K)
    · exact j_tableIn (off := 818) (tgt := 906) dL_act_88 (by decide) (by decide) rfl (by decide) (ac_undo C R L hi x f s hbf hbs dp hd1 hd2 K)
    · exact j_tableIn (off := 944) (tgt := 1032) dL_act_88 (by decide) (by decide) rfl (by decide) (ac_setSun C R L hi x f s hbf hbs dp hd1 hd2 K)
    · exact j_tableIn (off := 981) (tgt := 1069) dL_act_88 (by decide) (by decide) rfl (by decide) (ac_setEdge C R L hi x f s hbf hbs dp hd1 hd2 K)
    · exact j_tableOut (tgt := 1135) dL_act_88 (Or.inr (by decide)) (by decide) (ac_passHours C R L hi x f s hbf hbs dp hd1 hd2 K)
    · exact j_tableOut (tgt := 1135) dL_act_88 (Or.inr (by decide)) (by decide) (ac_passHours C R L hi x f s hbf hbs dp hd1 hd2 K)
  have h9 := bl_lt (x >>> (9 &&& 31)) (show 1 ≤ 2 by decide)
  by_cases hz : bl (x >>> (9 &&& 31)) 2 = 0
  · skip
    refine j_iload_n dL_act_33 rfl ?_
    refine j_iconst (v := 5) dL_act_34 (by decide) ?_
    refine j_ishr dL_act_35 ?_
    refine j_iload_n dL_act_36 rfl ?_
    refine j_bipush (v := 9) dL_act_37 (by decide) ?_
    refine j_ishr dL_act_39 ?_
    refine j_iconst (v := nI 2) dL_act_40 (by decide) ?_
    refine j_cS (As := [.int (x >>> (9 &&& 31)), .int (nI 2)]) (rest := [.int (x >>> (5 &&& 31))]) cm_L_below ct_L_below ln_L_19 dL_act_41 (d' := 0) (by decide) rfl rfl (Nat.le_of_ble_eq_true rfl) (Nat.le_of_ble_eq_true rfl) (s_L_below (x >>> (9 &&& 31)) 2 (by omega) (by omega)) ?_
    refine j_if_ne_f (tgt := 53) dL_act_44 (by decide) (nI_eq' (by omega)) ?_
    refine j_sipush (v := nI 199) dL_act_47 (by decide) ?_
    refine j_goto (tgt := 55) dL_act_50 (by decide) ?_
    refine j_cS (As := [.int (x >>> (5 &&& 31)), .int (nI 199)]) (rest := []) cm_L_below ct_L_below ln_L_19 dL_act_55 (d' := 0) (by decide) rfl rfl (Nat.le_of_ble_eq_true rfl) (Nat.le_of_ble_eq_true rfl) (s_L_below (x >>> (5 &&& 31)) 199 (by omega) (by omega)) ?_
    have hby : bl (x >>> (5 &&& 31)) 199 < 199 := bl_lt _ (by omega)
    generalize bl (x >>> (5 &&& 31)) 199 = y at hby ⊢
    refine j_iload_n dL_act_58 rfl ?_
    refine j_bipush (v := 9) dL_act_59 (by decide) ?_
    refine j_ishr dL_act_61 ?_
    refine j_iconst (v := nI 2) dL_act_62 (by decide) ?_
    refine j_cS (As := [.int (x >>> (9 &&& 31)), .int (nI 2)]) (rest := [.int (nI y)]) cm_L_below ct_L_below ln_L_19 dL_act_63 (d' := 0) (by decide) rfl rfl (Nat.le_of_ble_eq_true rfl) (Nat.le_of_ble_eq_true rfl) (s_L_below (x >>> (9 &&& 31)) 2 (by omega) (by omega)) ?_
    refine j_if_ne_f (tgt := 74) dL_act_66 (by decide) (nI_eq' (by omega)) ?_
    refine j_bipush (v := 99) dL_act_69 (by decide) ?_
    refine j_goto (tgt := 76) dL_act_71 (by decide) ?_
    refine j_isub dL_act_76 ?_
    refine j_topi (y := nI y - nI 99) rfl ?_
    refine j_istore (L' := [some (.ref (ad 0)), some (.ref (ad 63)), some (.int x), some (.int (nI F)), some (.int (nI S)), some (.int (nI f)), some (.int (nI s)), some (.int (nI y - nI 99)), none, none, none, none, none]) dL_act_77 (by decide) rfl rfl ?_
    have ed9 : (nI y - nI 99).toInt = (y : Int) - (99 : Nat) := pk_sub_toInt (by omega) (by decide)
    exact main _ (by rw [Int32.lt_iff_toInt_lt, ed9, show (-99 : Int32).toInt = -99 by decide]; omega) (by rw [Int32.le_iff_toInt_le, ed9, show (99 : Int32).toInt = 99 by decide]; omega)
  · skip
    refine j_iload_n dL_act_33 rfl ?_
    refine j_iconst (v := 5) dL_act_34 (by decide) ?_
    refine j_ishr dL_act_35 ?_
    refine j_iload_n dL_act_36 rfl ?_
    refine j_bipush (v := 9) dL_act_37 (by decide) ?_
    refine j_ishr dL_act_39 ?_
    refine j_iconst (v := nI 2) dL_act_40 (by decide) ?_
    refine j_cS (As := [.int (x >>> (9 &&& 31)), .int (nI 2)]) (rest := [.int (x >>> (5 &&& 31))]) cm_L_below ct_L_below ln_L_19 dL_act_41 (d' := 0) (by decide) rfl rfl (Nat.le_of_ble_eq_true rfl) (Nat.le_of_ble_eq_true rfl) (s_L_below (x >>> (9 &&& 31)) 2 (by omega) (by omega)) ?_
    refine j_if_ne_t (tgt := 53) dL_act_44 (by decide) (nI_ne0 (by omega) (by omega)) ?_
    refine j_bipush (v := nI 41) dL_act_53 (by decide) ?_
    refine j_cS (As := [.int (x >>> (5 &&& 31)), .int (nI 41)]) (rest := []) cm_L_below ct_L_below ln_L_19 dL_act_55 (d' := 0) (by decide) rfl rfl (Nat.le_of_ble_eq_true rfl) (Nat.le_of_ble_eq_true rfl) (s_L_below (x >>> (5 &&& 31)) 41 (by omega) (by omega)) ?_
    have hby : bl (x >>> (5 &&& 31)) 41 < 41 := bl_lt _ (by omega)
    generalize bl (x >>> (5 &&& 31)) 41 = y at hby ⊢
    refine j_iload_n dL_act_58 rfl ?_
    refine j_bipush (v := 9) dL_act_59 (by decide) ?_
    refine j_ishr dL_act_61 ?_
    refine j_iconst (v := nI 2) dL_act_62 (by decide) ?_
    refine j_cS (As := [.int (x >>> (9 &&& 31)), .int (nI 2)]) (rest := [.int (nI y)]) cm_L_below ct_L_below ln_L_19 dL_act_63 (d' := 0) (by decide) rfl rfl (Nat.le_of_ble_eq_true rfl) (Nat.le_of_ble_eq_true rfl) (s_L_below (x >>> (9 &&& 31)) 2 (by omega) (by omega)) ?_
    refine j_if_ne_t (tgt := 74) dL_act_66 (by decide) (nI_ne0 (by omega) (by omega)) ?_
    refine j_bipush (v := 10) dL_act_74 (by decide) ?_
    refine j_isub dL_act_76 ?_
    refine j_topi (y := nI y - nI 10) rfl ?_
    refine j_istore (L' := [some (.ref (ad 0)), some (.ref (ad 63)), some (.int x), some (.int (nI F)), some (.int (nI S)), some (.int (nI f)), some (.int (nI s)), some (.int (nI y - nI 10)), none, none, none, none, none]) dL_act_77 (by decide) rfl rfl ?_
    have ed9 : (nI y - nI 10).toInt = (y : Int) - (10 : Nat) := pk_sub_toInt (by omega) (by decide)
    exact main _ (by rw [Int32.lt_iff_toInt_lt, ed9, show (-99 : Int32).toInt = -99 by decide]; omega) (by rw [Int32.le_iff_toInt_le, ed9, show (99 : Int32).toInt = 99 by decide]; omega)
