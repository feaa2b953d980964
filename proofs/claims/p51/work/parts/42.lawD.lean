theorem s_X3_hour1 {g : jG} {n : Nat} {ad : Nat → Nat} {E : Nat → va_E} {F S : Nat} {hrs su : Int32} {gone : Int64} {lv ed : Nat → Int32} {old cnt mc : Nat} {dr mr : Nat → Nat → Int32} (C : CR g n ad E F S hrs su gone lv ed old cnt dr mc mr) : RetP g mX3_passHours 7 [.ref (ad 0), .int (nI 1)] n ad E (some (.int (hourR su ed F S lv).1)) (fun E9 => CR g n ad E9 F S (hrs + nI 1) su (gone + (hourR su ed F S lv).1.toInt64) (hourR su ed F S lv).2 ed (kOld old cnt) (kCnt cnt) (rowUp dr (kSlot old cnt) (cpyN lv (dr (kSlot old cnt)) (F * S))) mc mr ∧ ∀ k, 63 ≤ k → E9 k = E k) := flow_1 su ed F S lv ▸ s_X3_passHours C 1 (by decide) (by decide)
theorem s_X3_dryN {g : jG} {n : Nat} {ad : Nat → Nat} {E : Nat → va_E} {F S : Nat} {hrs su : Int32} {gone : Int64} {lv ed : Nat → Int32} {old cnt mc : Nat} {dr mr : Nat → Nat → Int32} (C : CR g n ad E F S hrs su gone lv ed old cnt dr mc mr) : Ret g mX3_dry 2 [.ref (ad 0)] n ad E (some (.int (nI (dcnt lv (F * S))))) E := uptC_dcnt lv (F * S) ▸ s_X3_dry C
set_option maxRecDepth 100000 in
set_option maxHeartbeats 4000000 in
theorem lw_s10 {g : jG} {n : Nat} {ad : Nat → Nat} {E : Nat → va_E} {i F S : Nat} {hrs su : Int32} {gone : Int64} {lv ed : Nat → Int32} {old cnt : Nat} {dr : Nat → Nat → Int32} {mc : Nat} {mr : Nat → Nat → Int32} {m : Nat → Nat → Int32} {e : Nat → Int32} {A B : Nat → Nat → Nat → Int32} (C : CR g n ad E F S hrs su gone lv ed old cnt dr mc mr) (R : SR g n ad E F S su hrs gone m e cnt A mc B) (L : RS i F S su lv ed old cnt dr mc mr m e A B) (hi : i ≤ 500) {tm : Nat} {x : Int32} {f s : Nat} (hf : f < F) (hs : s < S) {bc bs : Nat} {Φ : Option Value → jR} {Ψ : String → jR} (K : ∀ (h : Nat) (E9 : Nat → va_E), 1 ≤ h → h ≤ 9 → CR g n ad E9 F S hrs su gone lv ed old cnt dr mc mr → SR g n ad E9 F S su hrs gone m e cnt A mc B → J g mL_law 13 bc bs 955 [some (.ref g.1.2.1), some (.ref (ad 0)), some (.ref (ad 63)), some (.int (nI tm)), some (.int x), some (.long (dgAll hrs su gone lv ed F S cnt mc mr)), none, some (.int (nI F)), some (.int (nI S)), some (.int (nI (F * S))), some (.int (nI f)), some (.int (nI s)), none, none, none, none, some (.int (nI (dcnt lv (F * S)))), none, none, none, none, none, none, none, none, none, none, some (.int (nI h)), some (.long (sumP ((flowR su ed F S h lv).2) S 0 0 (F - 1) (S - 1))), none, some (.int ((flowR su ed F S h lv).1)), some (.int (untilD su ed F S lv)), none, none, none, none, none, none, none, none, none, none] [] n ad E9 Φ Ψ) : J g mL_law 13 bc bs 876 [some (.ref g.1.2.1), some (.ref (ad 0)), some (.ref (ad 63)), some (.int (nI tm)), some (.int x), some (.long (dgAll hrs su gone lv ed F S cnt mc mr)), none, some (.int (nI F)), some (.int (nI S)), some (.int (nI (F * S))), some (.int (nI f)), some (.int (nI s)), none, none, none, none, some (.int (nI (dcnt lv (F * S)))), none, none, none, none, none, none, none, none, none, none, none, none, none, none, none, none, none, none, none, none, none, none, none, none, none] [] n ad E Φ Ψ := by
  obtain ⟨hF8, hS16, hF1, hS1, hold, hcn, hmc, hN, hn63⟩ := C.bd
  have hN1 := fs1 hF1 hS1
  obtain ⟨iL0, iE0, r0, ia0, im0, X0⟩ := id R
  replace X0 : SX g n ad E iL0 iE0 r0 ia0 im0 F S su hrs gone m e cnt A mc B := X0
  obtain ⟨V0, ⟨lL0, lE0, lr0⟩, K10, K20⟩ := id X0
  obtain ⟨⟨hwn0, hLn0, hEn0, hrn0⟩, ⟨hwL0, hwE0, hLE0, hrA0⟩, hri0, hw0, hL0, hE0, hR0, -⟩ := id V0
  refine j_iconst (v := nI 1) dL_law_876 (by decide) ?_
  refine j_iload dL_law_877 rfl ?_
  refine j_iconst (v := 5) dL_law_879 (by decide) ?_
  refine j_ishr dL_law_880 ?_
  refine j_bipush (v := nI 9) dL_law_881 (by decide) ?_
  refine j_cS (As := [.int (x >>> (5 &&& 31)), .int (nI 9)]) (rest := [.int (nI 1)]) cm_L_below ct_L_below ln_L_19 dL_law_883 (d' := 0) (by decide) rfl rfl (Nat.le_of_ble_eq_true rfl) (Nat.le_of_ble_eq_true rfl) (s_L_below (x >>> (5 &&& 31)) 9 (by omega) (by omega)) ?_
  have hbz : bl (x >>> (5 &&& 31)) 9 < 9 := bl_lt _ (by omega)
  generalize bl (x >>> (5 &&& 31)) 9 = z at hbz ⊢
  refine j_iadd dL_law_886 ?_
  refine j_topi (y := nI (1 + z)) (nI_add _ _) ?_
  have hh : 1 ≤ 1 + z ∧ 1 + z ≤ 9 := by omega
  generalize 1 + z = h at hh ⊢
  show J g mL_law 13 bc bs 887 [some (.ref g.1.2.1), some (.ref (ad 0)), some (.ref (ad 63)), some (.int (nI tm)), some (.int x), some (.long (dgAll hrs su gone lv ed F S cnt mc mr)), none, some (.int (nI F)), some (.int (nI S)), some (.int (nI (F * S))), some (.int (nI f)), some (.int (nI s)), none, none, none, none, some (.int (nI (dcnt lv (F * S)))), none, none, none, none, none, none, none, none, none, none, none, none, none, none, none, none, none, none, none, none, none, none, none, none, none] [.int (nI h)] n ad E Φ Ψ
  refine j_istore (L' := [some (.ref g.1.2.1), some (.ref (ad 0)), some (.ref (ad 63)), some (.int (nI tm)), some (.int x), some (.long (dgAll hrs su gone lv ed F S cnt mc mr)), none, some (.int (nI F)), some (.int (nI S)), some (.int (nI (F * S))), some (.int (nI f)), some (.int (nI s)), none, none, none, none, some (.int (nI (dcnt lv (F * S)))), none, none, none, none, none, none, none, none, none, none, some (.int (nI h)), none, none, none, none, none, none, none, none, none, none, none, none, none, none]) dL_law_887 (by decide) rfl rfl ?_
  refine j_aload_n dL_law_889 rfl ?_
  refine j_iload dL_law_890 rfl ?_
  refine j_cVp (As := [.int (nI h)]) (rest := []) cm_X3_totalIn ci_X3_totalIn cs_X3_totalIn rfl ln_L_196 (ci := 3) rfl dL_law_892 (d' := 7) (by decide) (by omega) C.1 rfl rfl (Nat.le_of_ble_eq_true rfl) (Nat.le_of_ble_eq_true rfl) (s_X3_totalIn C h hh.1 (by omega)) (fun E1 q1 => ?_)
  show J g mL_law 13 bc bs 895 [some (.ref g.1.2.1), some (.ref (ad 0)), some (.ref (ad 63)), some (.int (nI tm)), some (.int x), some (.long (dgAll hrs su gone lv ed F S cnt mc mr)), none, some (.int (nI F)), some (.int (nI S)), some (.int (nI (F * S))), some (.int (nI f)), some (.int (nI s)), none, none, none, none, some (.int (nI (dcnt lv (F * S)))), none, none, none, none, none, none, none, none, none, none, some (.int (nI h)), none, none, none, none, none, none, none, none, none, none, none, none, none, none] [.long (sumP ((flowR su ed F S h lv).2) S 0 0 (F - 1) (S - 1))] n ad E1 Φ Ψ
  have X1 := X0.tr (Nat.le_refl _) (fun _ _ => rfl) (fun k hk _ => q1.2 k hk)
  obtain ⟨V1, ⟨lL1, lE1, lr1⟩, K11, K21⟩ := id X1
  obtain ⟨⟨hwn1, hLn1, hEn1, hrn1⟩, ⟨hwL1, hwE1, hLE1, hrA1⟩, hri1, hw1, hL1, hE1, hR1, -⟩ := id V1
  refine j_lstore (L' := [some (.ref g.1.2.1), some (.ref (ad 0)), some (.ref (ad 63)), some (.int (nI tm)), some (.int x), some (.long (dgAll hrs su gone lv ed F S cnt mc mr)), none, some (.int (nI F)), some (.int (nI S)), some (.int (nI (F * S))), some (.int (nI f)), some (.int (nI s)), none, none, none, none, some (.int (nI (dcnt lv (F * S)))), none, none, none, none, none, none, none, none, none, none, some (.int (nI h)), some (.long (sumP ((flowR su ed F S h lv).2) S 0 0 (F - 1) (S - 1))), none, none, none, none, none, none, none, none, none, none, none, none, none]) dL_law_895 (by decide) rfl rfl ?_
  refine j_aload_n dL_law_897 rfl ?_
  refine j_iload dL_law_898 rfl ?_
  refine j_cVp (As := [.int (nI h)]) (rest := []) cm_X3_goneIn ci_X3_goneIn cs_X3_goneIn rfl ln_L_199 (ci := 3) rfl dL_law_900 (d' := 7) (by decide) (by omega) q1.1.1 rfl rfl (Nat.le_of_ble_eq_true rfl) (Nat.le_of_ble_eq_true rfl) (s_X3_goneIn q1.1 h hh.1 (by omega)) (fun E2 q2 => ?_)
  show J g mL_law 13 bc bs 903 [some (.ref g.1.2.1), some (.ref (ad 0)), some (.ref (ad 63)), some (.int (nI tm)), some (.int x), some (.long (dgAll hrs su gone lv ed F S cnt mc mr)), none, some (.int (nI F)), some (.int (nI S)), some (.int (nI (F * S))), some (.int (nI f)), some (.int (nI s)), none, none, none, none, some (.int (nI (dcnt lv (F * S)))), none, none, none, none, none, none, none, none, none, none, some (.int (nI h)), some (.long (sumP ((flowR su ed F S h lv).2) S 0 0 (F - 1) (S - 1))), none, none, none, none, none, none, none, none, none, none, none, none, none] [.int ((flowR su ed F S h lv).1)] n ad E2 Φ Ψ
  have X2 := X1.tr (Nat.le_refl _) (fun _ _ => rfl) (fun k hk _ => q2.2 k hk)
  obtain ⟨V2, ⟨lL2, lE2, lr2⟩, K12, K22⟩ := id X2
  obtain ⟨⟨hwn2, hLn2, hEn2, hrn2⟩, ⟨hwL2, hwE2, hLE2, hrA2⟩, hri2, hw2, hL2, hE2, hR2, -⟩ := id V2
  refine j_istore (L' := [some (.ref g.1.2.1), some (.ref (ad 0)), some (.ref (ad 63)), some (.int (nI tm)), some (.int x), some (.long (dgAll hrs su gone lv ed F S cnt mc mr)), none, some (.int (nI F)), some (.int (nI S)), some (.int (nI (F * S))), some (.int (nI f)), some (.int (nI s)), none, none, none, none, some (.int (nI (dcnt lv (F * S)))), none, none, none, none, none, none, none, none, none, none, some (.int (nI h)), some (.long (sumP ((flowR su ed F S h lv).2) S 0 0 (F - 1) (S - 1))), none, some (.int ((flowR su ed F S h lv).1)), none, none, none, none, none, none, none, none, none, none, none]) dL_law_903 (by decide) rfl rfl ?_
  refine j_aload_n dL_law_905 rfl ?_
  refine j_cVp (As := []) (rest := []) cm_X3_hoursUntilDry ci_X3_hoursUntilDry cs_X3_hoursUntilDry rfl ln_L_202 (ci := 3) rfl dL_law_906 (d' := 3) (by decide) (by omega) q2.1.1 rfl rfl (Nat.le_of_ble_eq_true rfl) (Nat.le_of_ble_eq_true rfl) (s_X3_hoursUntilDry q2.1) (fun E3 q3 => ?_)
  show J g mL_law 13 bc bs 909 [some (.ref g.1.2.1), some (.ref (ad 0)), some (.ref (ad 63)), some (.int (nI tm)), some (.int x), some (.long (dgAll hrs su gone lv ed F S cnt mc mr)), none, some (.int (nI F)), some (.int (nI S)), some (.int (nI (F * S))), some (.int (nI f)), some (.int (nI s)), none, none, none, none, some (.int (nI (dcnt lv (F * S)))), none, none, none, none, none, none, none, none, none, none, some (.int (nI h)), some (.long (sumP ((flowR su ed F S h lv).2) S 0 0 (F - 1) (S - 1))), none, some (.int ((flowR su ed F S h lv).1)), none, none, none, none, none, none, none, none, none, none, none] [.int (untilD su ed F S lv)] n ad E3 Φ Ψ
  have X3 := X2.tr (Nat.le_refl _) (fun _ _ => rfl) (fun k hk _ => q3.2 k hk)
  obtain ⟨V3, ⟨lL3, lE3, lr3⟩, K13, K23⟩ := id X3
  obtain ⟨⟨hwn3, hLn3, hEn3, hrn3⟩, ⟨hwL3, hwE3, hLE3, hrA3⟩, hri3, hw3, hL3, hE3, hR3, -⟩ := id V3
  refine j_istore (L' := [some (.ref g.1.2.1), some (.ref (ad 0)), some (.ref (ad 63)), some (.int (nI tm)), some (.int x), some (.long (dgAll hrs su gone lv ed F S cnt mc mr)), none, some (.int (nI F)), some (.int (nI S)), some (.int (nI (F * S))), some (.int (nI f)), some (.int (nI s)), none, none, none, none, some (.int (nI (dcnt lv (F * S)))), none, none, none, none, none, none, none, none, none, none, some (.int (nI h)), some (.long (sumP ((flowR su ed F S h lv).2) S 0 0 (F - 1) (S - 1))), none, some (.int ((flowR su ed F S h lv).1)), some (.int (untilD su ed F S lv)), none, none, none, none, none, none, none, none, none, none]) dL_law_909 (by decide) rfl rfl ?_
  refine j_aload_n dL_law_911 rfl ?_
  refine j_cVp (As := []) (rest := []) cm_X3_digest ci_X3_digest cs_X3_digest rfl ln_L_118 (ci := 3) rfl dL_law_912 (d' := 10) (by decide) (by omega) q3.1.1 rfl rfl (Nat.le_of_ble_eq_true rfl) (Nat.le_of_ble_eq_true rfl) (s_X3_digest q3.1) (fun E4 q4 => ?_)
  show J g mL_law 13 bc bs 915 [some (.ref g.1.2.1), some (.ref (ad 0)), some (.ref (ad 63)), some (.int (nI tm)), some (.int x), some (.long (dgAll hrs su gone lv ed F S cnt mc mr)), none, some (.int (nI F)), some (.int (nI S)), some (.int (nI (F * S))), some (.int (nI f)), some (.int (nI s)), none, none, none, none, some (.int (nI (dcnt lv (F * S)))), none, none, none, none, none, none, none, none, none, none, some (.int (nI h)), some (.long (sumP ((flowR su ed F S h lv).2) S 0 0 (F - 1) (S - 1))), none, some (.int ((flowR su ed F S h lv).1)), some (.int (untilD su ed F S lv)), none, none, none, none, none, none, none, none, none, none] [.long (dgAll hrs su gone lv ed F S cnt mc mr)] n ad E4 Φ Ψ
  have X4 := X3.tr (Nat.le_refl _) (fun _ _ => rfl) (fun k hk _ => q4.2 k hk)
  obtain ⟨V4, ⟨lL4, lE4, lr4⟩, K14, K24⟩ := id X4
  obtain ⟨⟨hwn4, hLn4, hEn4, hrn4⟩, ⟨hwL4, hwE4, hLE4, hrA4⟩, hri4, hw4, hL4, hE4, hR4, -⟩ := id V4
  have hdl := dcnt_le lv (F * S)
  by_cases hd : dcnt lv (F * S) = F * S
  · skip
    refine j_lload dL_law_915 rfl ?_
    refine j_lcmp dL_law_917 ?_
    refine j_if_ne_f (tgt := 953) dL_law_918 (by decide) (lg_same _) ?_
    refine j_iload dL_law_921 rfl ?_
    refine j_bipush (v := 60) dL_law_923 (by decide) ?_
    refine j_icmp_gt_f (tgt := 953) dL_law_925 (by decide) (until_60 su ed F S lv) ?_
    refine j_iload dL_law_928 rfl ?_
    refine j_if_ne_f (tgt := 937) dL_law_930 (by decide) ((until_0 su ed lv hN).mpr hd) ?_
    refine j_iconst (v := 1) dL_law_933 (by decide) ?_
    refine j_goto (tgt := 938) dL_law_934 (by decide) ?_
    refine j_iload dL_law_938 rfl ?_
    refine j_iload dL_law_940 rfl ?_
    refine j_icmp_ne_f (tgt := 949) dL_law_942 (by decide) (nI_eq' (by omega)) ?_
    refine j_iconst (v := 1) dL_law_945 (by decide) ?_
    refine j_goto (tgt := 950) dL_law_946 (by decide) ?_
    refine j_icmp_eq_t (tgt := 955) dL_law_950 (by decide) (by decide) ?_
    exact K h E4 hh.1 hh.2 q4.1 X4.sr
  · skip
    refine j_lload dL_law_915 rfl ?_
    refine j_lcmp dL_law_917 ?_
    refine j_if_ne_f (tgt := 953) dL_law_918 (by decide) (lg_same _) ?_
    refine j_iload dL_law_921 rfl ?_
    refine j_bipush (v := 60) dL_law_923 (by decide) ?_
    refine j_icmp_gt_f (tgt := 953) dL_law_925 (by decide) (until_60 su ed F S lv) ?_
    refine j_iload dL_law_928 rfl ?_
    refine j_if_ne_t (tgt := 937) dL_law_930 (by decide) (fun z => hd ((until_0 su ed lv hN).mp z)) ?_
    refine j_iconst (v := 0) dL_law_937 (by decide) ?_
    refine j_iload dL_law_938 rfl ?_
    refine j_iload dL_law_940 rfl ?_
    refine j_icmp_ne_t (tgt := 949) dL_law_942 (by decide) (nI_ne' (by omega) (by omega) (by omega)) ?_
    refine j_iconst (v := 0) dL_law_949 (by decide) ?_
    refine j_icmp_eq_t (tgt := 955) dL_law_950 (by decide) (by decide) ?_
    exact K h E4 hh.1 hh.2 q4.1 X4.sr
set_option maxRecDepth 100000 in
set_option maxHeartbeats 4000000 in
theorem lw_hour {g : jG} {n : Nat} {ad : Nat → Nat} {E : Nat → va_E} {i F S : Nat} {hrs su : Int32} {gone : Int64} {lv ed : Nat → Int32} {old cnt : Nat} {dr : Nat → Nat → Int32} {mc : Nat} {mr : Nat → Nat → Int32} {m : Nat → Nat → Int32} {e : Nat → Int32} {A B : Nat → Nat → Nat → Int32} (C : CR g n ad E F S hrs su gone lv ed old cnt dr mc mr) (R : SR g n ad E F S su hrs gone m e cnt A mc B) (L : RS i F S su lv ed old cnt dr mc mr m e A B) (hi : i ≤ 500) {tm : Nat} {x : Int32} {f s : Nat} (hf : f < F) (hs : s < S) {bc bs : Nat} {Φ : Option Value → jR} {Ψ : String → jR} {h hr : Nat} {tot g0 : Int64} {lost unt went : Int32} {dg : Int64} {dc : Nat} (hhr : hr < 100) (hU : ¬ unt ≤ 0 → (dcnt (hourR su ed F S lv).2 (F * S) = F * S ↔ ¬ nI hr < unt)) (K : ∀ (n9 : Nat) (a9 : Nat → Nat) (E9 : Nat → va_E), n ≤ n9 → (∀ k, k < n → a9 k = ad k) → CR g n9 a9 E9 F S (hrs + 1) su (gone + (hourR su ed F S lv).1.toInt64) ((hourR su ed F S lv).2) ed (kOld old cnt) (kCnt cnt) (rowUp dr (kSlot old cnt) (cpyN lv (dr (kSlot old cnt)) (F * S))) mc mr → SR g n9 a9 E9 F S su (hrs + 1) (gone + (hourR su ed F S lv).1.toInt64) ((passS su e F S m).2) e (kCnt cnt) (keA cnt A m) mc B → RS (i + 1) F S su ((hourR su ed F S lv).2) ed (kOld old cnt) (kCnt cnt) (rowUp dr (kSlot old cnt) (cpyN lv (dr (kSlot old cnt)) (F * S))) mc mr ((passS su e F S m).2) e (keA cnt A m) B → J g mL_law 13 bc bs 967 [some (.ref g.1.2.1), some (.ref (a9 0)), some (.ref (a9 63)), some (.int (nI tm)), some (.int x), some (.long dg), none, some (.int (nI F)), some (.int (nI S)), some (.int (nI (F * S))), some (.int (nI f)), some (.int (nI s)), none, none, none, none, some (.int (nI dc)), none, none, none, none, none, none, none, none, none, none, some (.int (nI h)), some (.long tot), none, some (.int lost), some (.int unt), some (.long g0), none, some (.int (went + (hourR su ed F S lv).1)), some (.int (nI (hr + 1))), none, none, none, none, none, none] [] n9 a9 E9 Φ Ψ) : J g mL_law 13 (bc + 20) (bs + 250) 974 [some (.ref g.1.2.1), some (.ref (ad 0)), some (.ref (ad 63)), some (.int (nI tm)), some (.int x), some (.long dg), none, some (.int (nI F)), some (.int (nI S)), some (.int (nI (F * S))), some (.int (nI f)), some (.int (nI s)), none, none, none, none, some (.int (nI dc)), none, none, none, none, none, none, none, none, none, none, some (.int (nI h)), some (.long tot), none, some (.int lost), some (.int unt), some (.long g0), none, some (.int went), some (.int (nI hr)), none, none, none, none, none, none] [] n ad E Φ Ψ := by
  obtain ⟨hF8, hS16, hF1, hS1, hold, hcn, hmc, hN, hn63⟩ := C.bd
  have hN1 := fs1 hF1 hS1
  obtain ⟨iL0, iE0, r0, ia0, im0, X0⟩ := id R
  replace X0 : SX g n ad E iL0 iE0 r0 ia0 im0 F S su hrs gone m e cnt A mc B := X0
  obtain ⟨V0, ⟨lL0, lE0, lr0⟩, K10, K20⟩ := id X0
  obtain ⟨⟨hwn0, hLn0, hEn0, hrn0⟩, ⟨hwL0, hwE0, hLE0, hrA0⟩, hri0, hw0, hL0, hE0, hR0, -⟩ := id V0
  refine j_aload_n dL_law_974 rfl ?_
  refine j_cV (As := []) (rest := []) cm_X3_total ci_X3_total cs_X3_total rfl ln_L_162 (ci := 3) rfl dL_law_975 (d' := 4) (by decide) (by omega) C.1 rfl rfl (Nat.le_of_ble_eq_true rfl) (Nat.le_of_ble_eq_true rfl) (s_X3_total C) ?_
  refine j_lstore (L' := [some (.ref g.1.2.1), some (.ref (ad 0)), some (.ref (ad 63)), some (.int (nI tm)), some (.int x), some (.long dg), none, some (.int (nI F)), some (.int (nI S)), some (.int (nI (F * S))), some (.int (nI f)), some (.int (nI s)), none, none, none, none, some (.int (nI dc)), none, none, none, none, none, none, none, none, none, none, some (.int (nI h)), some (.long tot), none, some (.int lost), some (.int unt), some (.long g0), none, some (.int went), some (.int (nI hr)), some (.long (sumP lv S 0 0 (F - 1) (S - 1))), none, none, none, none, none]) dL_law_978 (by decide) rfl rfl ?_
  refine j_lconst (v := 0) dL_law_980 rfl ?_
  refine j_lstore (L' := [some (.ref g.1.2.1), some (.ref (ad 0)), some (.ref (ad 63)), some (.int (nI tm)), some (.int x), some (.long dg), none, some (.int (nI F)), some (.int (nI S)), some (.int (nI (F * S))), some (.int (nI f)), some (.int (nI s)), none, none, none, none, some (.int (nI dc)), none, none, none, none, none, none, none, none, none, none, some (.int (nI h)), some (.long tot), none, some (.int lost), some (.int unt), some (.long g0), none, some (.int went), some (.int (nI hr)), some (.long (sumP lv S 0 0 (F - 1) (S - 1))), none, some (.long 0), none, none, none]) dL_law_981 (by decide) rfl rfl ?_
  refine j_iconst (v := nI 0) dL_law_983 (by decide) ?_
  refine j_istore (L' := [some (.ref g.1.2.1), some (.ref (ad 0)), some (.ref (ad 63)), some (.int (nI tm)), some (.int x), some (.long dg), none, some (.int (nI F)), some (.int (nI S)), some (.int (nI (F * S))), some (.int (nI f)), some (.int (nI s)), none, none, none, none, some (.int (nI dc)), none, none, none, none, none, none, none, none, none, none, some (.int (nI h)), some (.long tot), none, some (.int lost), some (.int unt), some (.long g0), none, some (.int went), some (.int (nI hr)), some (.long (sumP lv S 0 0 (F - 1) (S - 1))), none, some (.long 0), none, some (.int (nI 0)), none]) dL_law_984 (by decide) rfl rfl ?_
  refine lpf_ind (b := fun k (y : Int64) => y + (dmn su (lv k)).toInt64) (P := fun (k : Nat) (y : Int64) => J g mL_law 13 (bc + 20) (bs + 250) 986 [some (.ref g.1.2.1), some (.ref (ad 0)), some (.ref (ad 63)), some (.int (nI tm)), some (.int x), some (.long dg), none, some (.int (nI F)), some (.int (nI S)), some (.int (nI (F * S))), some (.int (nI f)), some (.int (nI s)), none, none, none, none, some (.int (nI dc)), none, none, none, none, none, none, none, none, none, none, some (.int (nI h)), some (.long tot), none, some (.int lost), some (.int unt), some (.long g0), none, some (.int went), some (.int (nI hr)), some (.long (sumP lv S 0 0 (F - 1) (S - 1))), none, some (.long y), none, some (.int (nI k)), none] [] n ad E Φ Ψ) (N := F * S) 0 ?_ (F * S) 0 (by omega) ?_
  · intro k y hk0 hk ih
    show J g mL_law 13 (bc + 20) (bs + 250) 986 [some (.ref g.1.2.1), some (.ref (ad 0)), some (.ref (ad 63)), some (.int (nI tm)), some (.int x), some (.long dg), none, some (.int (nI F)), some (.int (nI S)), some (.int (nI (F * S))), some (.int (nI f)), some (.int (nI s)), none, none, none, none, some (.int (nI dc)), none, none, none, none, none, none, none, none, none, none, some (.int (nI h)), some (.long tot), none, some (.int lost), some (.int unt), some (.long g0), none, some (.int went), some (.int (nI hr)), some (.long (sumP lv S 0 0 (F - 1) (S - 1))), none, some (.long y), none, some (.int (nI k)), none] [] n ad E Φ Ψ
    refine j_iload dL_law_986 rfl ?_
    refine j_iload dL_law_988 rfl ?_
    refine j_icmp_ge_f (tgt := 1030) dL_law_990 (by decide) (nI_nle' (by omega) (by omega) (by omega)) ?_
    refine j_lload dL_law_993 rfl ?_
    refine j_aload_n dL_law_995 rfl ?_
    refine j_cV (As := []) (rest := [.long y]) cm_X3_sun ci_X3_sun cs_X3_sun rfl ln_L_208 (ci := 3) rfl dL_law_996 (d' := 0) (by decide) (by omega) C.1 rfl rfl (Nat.le_of_ble_eq_true rfl) (Nat.le_of_ble_eq_true rfl) (s_X3_sun C) ?_
    refine j_iconst (v := 0) dL_law_999 (by decide) ?_
    refine j_aload_n dL_law_1000 rfl ?_
    refine j_iload dL_law_1001 rfl ?_
    refine j_iload dL_law_1003 rfl ?_
    refine j_idiv dL_law_1005 (nI_ne0 (by omega) (by omega)) ?_
    refine j_topi (y := nI (k / S)) (pk_div (by omega) (by omega) (by omega)) ?_
    refine j_iload dL_law_1006 rfl ?_
    refine j_iload dL_law_1008 rfl ?_
    refine j_irem dL_law_1010 (nI_ne0 (by omega) (by omega)) ?_
    refine j_topi (y := nI (k % S)) (pk_rem (by omega) (by omega) (by omega)) ?_
    refine j_cV (As := [.int (nI (k / S)), .int (nI (k % S))]) (rest := [.int 0, .int su, .long y]) cm_X3_levelAt ci_X3_levelAt cs_X3_levelAt rfl ln_L_148 (ci := 3) rfl dL_law_1011 (d' := 9) (by decide) (by omega) C.1 rfl rfl (Nat.le_of_ble_eq_true rfl) (Nat.le_of_ble_eq_true rfl) (s_X3_levelAt C (k / S) (k % S) (div_ltN hk) (Nat.mod_lt _ hS1)) ?_
    refine j_topi (y := lv k) (congrArg lv dm.symm) ?_
    refine j_mmax ln_L_210 js_max iz_java_lang_Math jc_max dL_law_1014 (by decide) (Nat.le_of_ble_eq_true rfl) ?_
    refine j_mmin ln_L_215 js_min iz_java_lang_Math jc_min dL_law_1017 (by decide) (Nat.le_of_ble_eq_true rfl) ?_
    refine j_i2l dL_law_1020 ?_
    refine j_ladd dL_law_1021 ?_
    refine j_lstore (L' := [some (.ref g.1.2.1), some (.ref (ad 0)), some (.ref (ad 63)), some (.int (nI tm)), some (.int x), some (.long dg), none, some (.int (nI F)), some (.int (nI S)), some (.int (nI (F * S))), some (.int (nI f)), some (.int (nI s)), none, none, none, none, some (.int (nI dc)), none, none, none, none, none, none, none, none, none, none, some (.int (nI h)), some (.long tot), none, some (.int lost), some (.int unt), some (.long g0), none, some (.int went), some (.int (nI hr)), some (.long (sumP lv S 0 0 (F - 1) (S - 1))), none, some (.long (y + ((if (if 0 < (lv k) then (lv k) else 0) < su then (if 0 < (lv k) then (lv k) else 0) else su).toInt64))), none, some (.int (nI k)), none]) dL_law_1022 (by decide) rfl rfl ?_
    refine j_iinc (v := nI (k + 1)) (L' := [some (.ref g.1.2.1), some (.ref (ad 0)), some (.ref (ad 63)), some (.int (nI tm)), some (.int x), some (.long dg), none, some (.int (nI F)), some (.int (nI S)), some (.int (nI (F * S))), some (.int (nI f)), some (.int (nI s)), none, none, none, none, some (.int (nI dc)), none, none, none, none, none, none, none, none, none, none, some (.int (nI h)), some (.long tot), none, some (.int lost), some (.int unt), some (.long g0), none, some (.int went), some (.int (nI hr)), some (.long (sumP lv S 0 0 (F - 1) (S - 1))), none, some (.long (y + ((if (if 0 < (lv k) then (lv k) else 0) < su then (if 0 < (lv k) then (lv k) else 0) else su).toInt64))), none, some (.int (nI (k + 1))), none]) dL_law_1024 (by decide) rfl (nI_1 _) rfl rfl ?_
    refine j_goto (tgt := 986) dL_law_1027 (by decide) ?_
    exact ih _ rfl
  · skip
    show J g mL_law 13 (bc + 20) (bs + 250) 986 [some (.ref g.1.2.1), some (.ref (ad 0)), some (.ref (ad 63)), some (.int (nI tm)), some (.int x), some (.long dg), none, some (.int (nI F)), some (.int (nI S)), some (.int (nI (F * S))), some (.int (nI f)), some (.int (nI s)), none, none, none, none, some (.int (nI dc)), none, none, none, none, none, none, none, none, none, none, some (.int (nI h)), some (.long tot), none, some (.int lost), some (.int unt), some (.long g0), none, some (.int went), some (.int (nI hr)), some (.long (sumP lv S 0 0 (F - 1) (S - 1))), none, some (.long (lpf (fun k (y : Int64) => y + (dmn su (lv k)).toInt64) 0 (F * S) 0)), none, some (.int (nI (F * S))), none] [] n ad E Φ Ψ
    have hs1 := hour_sum hF1 hS1 hN L.2.2.2.2.1 L.2.2.2.2.2.1 L.2.2.2.1 (by omega) (by omega) (by omega) (by omega) L.2.2.1
    have hb1 := hour_bd hS1 hN L.2.2.2.2.1 L.2.2.2.2.2.1 L.2.2.2.1 (by omega) (by omega) (by omega) (by omega) L.2.2.1
    have ha1 := (hour_all hS1 hN L.2.2.2.2.1 L.2.2.2.2.2.1 L.2.2.2.1 (by omega) (by omega) (by omega) (by omega) L.2.2.1).2
    have pe := pass_eq (m := m) (e := e) hF1 hS1 L.2.2.2.2.1 L.2.2.2.2.2.1 L.2.1 L.1
    generalize lpf (fun k (x : Int64) => x + (dmn su (lv k)).toInt64) 0 (F * S) 0 = dried at hs1 ⊢
    show J g mL_law 13 (bc + 20) (bs + 250) 986 [some (.ref g.1.2.1), some (.ref (ad 0)), some (.ref (ad 63)), some (.int (nI tm)), some (.int x), some (.long dg), none, some (.int (nI F)), some (.int (nI S)), some (.int (nI (F * S))), some (.int (nI f)), some (.int (nI s)), none, none, none, none, some (.int (nI dc)), none, none, none, none, none, none, none, none, none, none, some (.int (nI h)), some (.long tot), none, some (.int lost), some (.int unt), some (.long g0), none, some (.int went), some (.int (nI hr)), some (.long (sumP lv S 0 0 (F - 1) (S - 1))), none, some (.long dried), none, some (.int (nI (F * S))), none] [] n ad E Φ Ψ
    refine j_iload dL_law_986 rfl ?_
    refine j_iload dL_law_988 rfl ?_
    refine j_icmp_ge_t (tgt := 1030) dL_law_990 (by decide) (nI_le' (by omega) (by omega) (by omega)) ?_
    refine j_aload_n dL_law_1030 rfl ?_
    refine j_iconst (v := nI 1) dL_law_1031 (by decide) ?_
    refine j_cVp (As := [.int (nI 1)]) (rest := []) cm_X3_passHours ci_X3_passHours cs_X3_passHours rfl ln_L_96 (ci := 3) rfl dL_law_1032 (d' := 7) (by decide) (by omega) C.1 rfl rfl (Nat.le_of_ble_eq_true rfl) (Nat.le_of_ble_eq_true rfl) (s_X3_hour1 C) (fun E1 q1 => ?_)
    show J g mL_law 13 (bc + 20) (bs + 250) 1035 [some (.ref g.1.2.1), some (.ref (ad 0)), some (.ref (ad 63)), some (.int (nI tm)), some (.int x), some (.long dg), none, some (.int (nI F)), some (.int (nI S)), some (.int (nI (F * S))), some (.int (nI f)), some (.int (nI s)), none, none, none, none, some (.int (nI dc)), none, none, none, none, none, none, none, none, none, none, some (.int (nI h)), some (.long tot), none, some (.int lost), some (.int unt), some (.long g0), none, some (.int went), some (.int (nI hr)), some (.long (sumP lv S 0 0 (F - 1) (S - 1))), none, some (.long dried), none, some (.int (nI (F * S))), none] [.int ((hourR su ed F S lv).1)] n ad E1 Φ Ψ
    have X1 := X0.tr (Nat.le_refl _) (fun _ _ => rfl) (fun k hk _ => q1.2 k hk)
    obtain ⟨V1, ⟨lL1, lE1, lr1⟩, K11, K21⟩ := id X1
    obtain ⟨⟨hwn1, hLn1, hEn1, hrn1⟩, ⟨hwL1, hwE1, hLE1, hrA1⟩, hri1, hw1, hL1, hE1, hR1, -⟩ := id V1
    refine j_istore (L' := [some (.ref g.1.2.1), some (.ref (ad 0)), some (.ref (ad 63)), some (.int (nI tm)), some (.int x), some (.long dg), none, some (.int (nI F)), some (.int (nI S)), some (.int (nI (F * S))), some (.int (nI f)), some (.int (nI s)), none, none, none, none, some (.int (nI dc)), none, none, none, none, none, none, none, none, none, none, some (.int (nI h)), some (.long tot), none, some (.int lost), some (.int unt), some (.long g0), none, some (.int went), some (.int (nI hr)), some (.long (sumP lv S 0 0 (F - 1) (S - 1))), none, some (.long dried), none, some (.int ((hourR su ed F S lv).1)), none]) dL_law_1035 (by decide) rfl rfl ?_
    refine j_aload_n dL_law_1037 rfl ?_
    refine j_bud (bc' := F + 1 + (1 + 0) + bc) (bs' := F * S + F + (31 + 0) + bs) (by omega) (by omega) ?_
    refine j_callV (As := []) (rest := []) (d' := 4) (Φ' := OS n ad E1 (fun n9 a9 E9 => SR g n9 a9 E9 F S su hrs gone m e (keC cnt) (keA cnt A m) mc B)) (Ψ' := fun _ _ _ _ => False) cm_X4_keep ci_X4_keep cs_X4_keep rfl ln_L_33 (ci := 4) rfl dL_law_1038 (by decide) hwn1 hw1 rfl rfl (Nat.le_of_ble_eq_true rfl) (Nat.le_of_ble_eq_true rfl) (c_X4_keep X1.sr hcn _) (fun v2 n2 a2 E2 q2 => ?_) (fun _ _ _ _ q => q.elim)
    obtain ⟨hv2, hn2, g2, e2, R2⟩ := q2
    subst hv2
    rw [keC_eq hcn] at R2
    rw [← g2 0 (by omega), ← g2 63 (by omega)]
    have C2 := q1.1.tr63 (n' := n2) (ad' := a2) (E' := E2) (by omega) (fun k hk => g2 k (by omega)) (fun k hk => e2 k (by omega) (by omega))
    obtain ⟨iL2, iE2, r2, ia2, im2, X2⟩ := id R2
    replace X2 : SX g n2 a2 E2 iL2 iE2 r2 ia2 im2 F S su hrs gone m e (kCnt cnt) (keA cnt A m) mc B := X2
    obtain ⟨V2, ⟨lL2, lE2, lr2⟩, K12, K22⟩ := id X2
    obtain ⟨⟨hwn2, hLn2, hEn2, hrn2⟩, ⟨hwL2, hwE2, hLE2, hrA2⟩, hri2, hw2, hL2, hE2, hR2, -⟩ := id V2
    show J g mL_law 13 bc bs 1041 [some (.ref g.1.2.1), some (.ref (a2 0)), some (.ref (a2 63)), some (.int (nI tm)), some (.int x), some (.long dg), none, some (.int (nI F)), some (.int (nI S)), some (.int (nI (F * S))), some (.int (nI f)), some (.int (nI s)), none, none, none, none, some (.int (nI dc)), none, none, none, none, none, none, none, none, none, none, some (.int (nI h)), some (.long tot), none, some (.int lost), some (.int unt), some (.long g0), none, some (.int went), some (.int (nI hr)), some (.long (sumP lv S 0 0 (F - 1) (S - 1))), none, some (.long dried), none, some (.int ((hourR su ed F S lv).1)), none] [] n2 a2 E2 Φ Ψ
    refine j_iload dL_law_1041 rfl ?_
    refine j_iload dL_law_1043 rfl ?_
    refine j_iadd dL_law_1045 ?_
    refine j_istore (L' := [some (.ref g.1.2.1), some (.ref (a2 0)), some (.ref (a2 63)), some (.int (nI tm)), some (.int x), some (.long dg), none, some (.int (nI F)), some (.int (nI S)), some (.int (nI (F * S))), some (.int (nI f)), some (.int (nI s)), none, none, none, none, some (.int (nI dc)), none, none, none, none, none, none, none, none, none, none, some (.int (nI h)), some (.long tot), none, some (.int lost), some (.int unt), some (.long g0), none, some (.int (went + ((hourR su ed F S lv).1))), some (.int (nI hr)), some (.long (sumP lv S 0 0 (F - 1) (S - 1))), none, some (.long dried), none, some (.int ((hourR su ed F S lv).1)), none]) dL_law_1046 (by decide) rfl rfl ?_
    refine j_iload dL_law_1048 rfl ?_
    refine j_if_lt_f (tgt := 1079) dL_law_1050 (by decide) (fun z => by rw [Int32.lt_iff_toInt_lt, z_i] at z; omega) ?_
    refine j_aload_n dL_law_1053 rfl ?_
    refine j_cV (As := []) (rest := []) cm_X3_total ci_X3_total cs_X3_total rfl ln_L_162 (ci := 3) rfl dL_law_1054 (d' := 4) (by decide) (by omega) C2.1 rfl rfl (Nat.le_of_ble_eq_true rfl) (Nat.le_of_ble_eq_true rfl) (s_X3_total C2) ?_
    refine j_lload dL_law_1057 rfl ?_
    refine j_lload dL_law_1059 rfl ?_
    refine j_lsub dL_law_1061 ?_
    refine j_iload dL_law_1062 rfl ?_
    refine j_i2l dL_law_1064 ?_
    refine j_lsub dL_law_1065 ?_
    refine j_lcmp dL_law_1066 ?_
    refine j_if_ne_f (tgt := 1079) dL_law_1067 (by decide) ((lg_cmp_eq _ _).mpr hs1) ?_
    refine j_aload_n dL_law_1070 rfl ?_
    refine j_cVp (As := []) (rest := []) cm_X4_pass ci_X4_pass cs_X4_pass rfl ln_L_218 (ci := 4) rfl dL_law_1071 (d' := 0) (by decide) hwn2 hw2 rfl rfl (Nat.le_of_ble_eq_true rfl) (Nat.le_of_ble_eq_true rfl) (s_X4_pass V2) (fun E3 q3 => ?_)
    show J g mL_law 13 bc bs 1074 [some (.ref g.1.2.1), some (.ref (a2 0)), some (.ref (a2 63)), some (.int (nI tm)), some (.int x), some (.long dg), none, some (.int (nI F)), some (.int (nI S)), some (.int (nI (F * S))), some (.int (nI f)), some (.int (nI s)), none, none, none, none, some (.int (nI dc)), none, none, none, none, none, none, none, none, none, none, some (.int (nI h)), some (.long tot), none, some (.int lost), some (.int unt), some (.long g0), none, some (.int (went + ((hourR su ed F S lv).1))), some (.int (nI hr)), some (.long (sumP lv S 0 0 (F - 1) (S - 1))), none, some (.long dried), none, some (.int ((hourR su ed F S lv).1)), none] [.int ((passS su e F S m).1)] n2 a2 E3 Φ Ψ
    have X3 := X2.fr q3.1 q3.2
    have D3 := C2.fr q3.2 lL2 lE2 lr2
    obtain ⟨V3, ⟨lL3, lE3, lr3⟩, K13, K23⟩ := id X3
    obtain ⟨⟨hwn3, hLn3, hEn3, hrn3⟩, ⟨hwL3, hwE3, hLE3, hrA3⟩, hri3, hw3, hL3, hE3, hR3, -⟩ := id V3
    refine j_iload dL_law_1074 rfl ?_
    refine j_icmp_eq_t (tgt := 1081) dL_law_1076 (by decide) pe.1.symm ?_
    refine j_iconst (v := nI 0) dL_law_1081 (by decide) ?_
    refine j_istore (L' := [some (.ref g.1.2.1), some (.ref (a2 0)), some (.ref (a2 63)), some (.int (nI tm)), some (.int x), some (.long dg), none, some (.int (nI F)), some (.int (nI S)), some (.int (nI (F * S))), some (.int (nI f)), some (.int (nI s)), none, none, none, none, some (.int (nI dc)), none, none, none, none, none, none, none, none, none, none, some (.int (nI h)), some (.long tot), none, some (.int lost), some (.int unt), some (.long g0), none, some (.int (went + ((hourR su ed F S lv).1))), some (.int (nI hr)), some (.long (sumP lv S 0 0 (F - 1) (S - 1))), none, some (.long dried), none, some (.int ((hourR su ed F S lv).1)), some (.int (nI 0))]) dL_law_1082 (by decide) rfl rfl ?_
    refine up_ind (P := fun (k : Nat) => J g mL_law 13 bc bs 1084 [some (.ref g.1.2.1), some (.ref (a2 0)), some (.ref (a2 63)), some (.int (nI tm)), some (.int x), some (.long dg), none, some (.int (nI F)), some (.int (nI S)), some (.int (nI (F * S))), some (.int (nI f)), some (.int (nI s)), none, none, none, none, some (.int (nI dc)), none, none, none, none, none, none, none, none, none, none, some (.int (nI h)), some (.long tot), none, some (.int lost), some (.int unt), some (.long g0), none, some (.int (went + ((hourR su ed F S lv).1))), some (.int (nI hr)), some (.long (sumP lv S 0 0 (F - 1) (S - 1))), none, some (.long dried), none, some (.int ((hourR su ed F S lv).1)), some (.int (nI k))] [] n2 a2 E3 Φ Ψ) (N := F * S) 0 ?_ (F * S) (by omega) ?_
    · intro k hk0 hk ih
      show J g mL_law 13 bc bs 1084 [some (.ref g.1.2.1), some (.ref (a2 0)), some (.ref (a2 63)), some (.int (nI tm)), some (.int x), some (.long dg), none, some (.int (nI F)), some (.int (nI S)), some (.int (nI (F * S))), some (.int (nI f)), some (.int (nI s)), none, none, none, none, some (.int (nI dc)), none, none, none, none, none, none, none, none, none, none, some (.int (nI h)), some (.long tot), none, some (.int lost), some (.int unt), some (.long g0), none, some (.int (went + ((hourR su ed F S lv).1))), some (.int (nI hr)), some (.long (sumP lv S 0 0 (F - 1) (S - 1))), none, some (.long dried), none, some (.int ((hourR su ed F S lv).1)), some (.int (nI k))] [] n2 a2 E3 Φ Ψ
      refine j_iload dL_law_1084 rfl ?_
      refine j_iload dL_law_1086 rfl ?_
      refine j_icmp_ge_f (tgt := 1125) dL_law_1088 (by decide) (nI_nle' (by omega) (by omega) (by omega)) ?_
      refine j_aload_n dL_law_1091 rfl ?_
      refine j_iload dL_law_1092 rfl ?_
      refine j_iload dL_law_1094 rfl ?_
      refine j_idiv dL_law_1096 (nI_ne0 (by omega) (by omega)) ?_
      refine j_topi (y := nI (k / S)) (pk_div (by omega) (by omega) (by omega)) ?_
      refine j_iload dL_law_1097 rfl ?_
      refine j_iload dL_law_1099 rfl ?_
      refine j_irem dL_law_1101 (nI_ne0 (by omega) (by omega)) ?_
      refine j_topi (y := nI (k % S)) (pk_rem (by omega) (by omega) (by omega)) ?_
      refine j_cV (As := [.int (nI (k / S)), .int (nI (k % S))]) (rest := []) cm_X3_levelAt ci_X3_levelAt cs_X3_levelAt rfl ln_L_148 (ci := 3) rfl dL_law_1102 (d' := 9) (by decide) (by omega) D3.1 rfl rfl (Nat.le_of_ble_eq_true rfl) (Nat.le_of_ble_eq_true rfl) (s_X3_levelAt D3 (k / S) (k % S) (div_ltN hk) (Nat.mod_lt _ hS1)) ?_
      refine j_aload_n dL_law_1105 rfl ?_
      refine j_iload dL_law_1106 rfl ?_
      refine j_iload dL_law_1108 rfl ?_
      refine j_irem dL_law_1110 (nI_ne0 (by omega) (by omega)) ?_
      refine j_topi (y := nI (k % S)) (pk_rem (by omega) (by omega) (by omega)) ?_
      refine j_cV (As := [.int (nI (k % S))]) (rest := [.int ((hourR su ed F S lv).2 (k / S * S + k % S))]) cm_X3_edgeOf ci_X3_edgeOf cs_X3_edgeOf rfl ln_L_220 (ci := 3) rfl dL_law_1111 (d' := 8) (by decide) (by omega) D3.1 rfl rfl (Nat.le_of_ble_eq_true rfl) (Nat.le_of_ble_eq_true rfl) (s_X3_edgeOf D3 (k % S) (Nat.mod_lt _ hS1)) ?_
      refine j_icmp_le_t (tgt := 1119) dL_law_1114 (by decide) (by rw [← dm]; exact Int32.not_lt.mp (ha1 k hk)) ?_
      refine j_iinc (v := nI (k + 1)) (L' := [some (.ref g.1.2.1), some (.ref (a2 0)), some (.ref (a2 63)), some (.int (nI tm)), some (.int x), some (.long dg), none, some (.int (nI F)), some (.int (nI S)), some (.int (nI (F * S))), some (.int (nI f)), some (.int (nI s)), none, none, none, none, some (.int (nI dc)), none, none, none, none, none, none, none, none, none, none, some (.int (nI h)), some (.long tot), none, some (.int lost), some (.int unt), some (.long g0), none, some (.int (went + ((hourR su ed F S lv).1))), some (.int (nI hr)), some (.long (sumP lv S 0 0 (F - 1) (S - 1))), none, some (.long dried), none, some (.int ((hourR su ed F S lv).1)), some (.int (nI (k + 1)))]) dL_law_1119 (by decide) rfl (nI_1 _) rfl rfl ?_
      refine j_goto (tgt := 1084) dL_law_1122 (by decide) ?_
      exact ih
    · skip
      show J g mL_law 13 bc bs 1084 [some (.ref g.1.2.1), some (.ref (a2 0)), some (.ref (a2 63)), some (.int (nI tm)), some (.int x), some (.long dg), none, some (.int (nI F)), some (.int (nI S)), some (.int (nI (F * S))), some (.int (nI f)), some (.int (nI s)), none, none, none, none, some (.int (nI dc)), none, none, none, none, none, none, none, none, none, none, some (.int (nI h)), some (.long tot), none, some (.int lost), some (.int unt), some (.long g0), none, some (.int (went + ((hourR su ed F S lv).1))), some (.int (nI hr)), some (.long (sumP lv S 0 0 (F - 1) (S - 1))), none, some (.long dried), none, some (.int ((hourR su ed F S lv).1)), some (.int (nI (F * S)))] [] n2 a2 E3 Φ Ψ
      refine j_iload dL_law_1084 rfl ?_
      refine j_iload dL_law_1086 rfl ?_
      refine j_icmp_ge_t (tgt := 1125) dL_law_1088 (by decide) (nI_le' (by omega) (by omega) (by omega)) ?_
      have hdl := dcnt_le (hourR su ed F S lv).2 (F * S)
      have X9 := X3
      rw [← pe.1] at X9
      by_cases hu : unt ≤ 0
      · skip
        refine j_iload dL_law_1125 rfl ?_
        refine j_if_le_t (tgt := 1161) dL_law_1127 (by decide) hu ?_
        refine j_iinc (v := nI (hr + 1)) (L' := [some (.ref g.1.2.1), some (.ref (a2 0)), some (.ref (a2 63)), some (.int (nI tm)), some (.int x), some (.long dg), none, some (.int (nI F)), some (.int (nI S)), some (.int (nI (F * S))), some (.int (nI f)), some (.int (nI s)), none, none, none, none, some (.int (nI dc)), none, none, none, none, none, none, none, none, none, none, some (.int (nI h)), some (.long tot), none, some (.int lost), some (.int unt), some (.long g0), none, some (.int (went + ((hourR su ed F S lv).1))), some (.int (nI (hr + 1))), some (.long (sumP lv S 0 0 (F - 1) (S - 1))), none, some (.long dried), none, some (.int ((hourR su ed F S lv).1)), some (.int (nI (F * S)))]) dL_law_1161 (by decide) rfl (nI_1 _) rfl rfl ?_
        refine j_goto (tgt := 967) dL_law_1164 (by decide) ?_
        refine j_clr 41 ?_
        refine j_clr 40 ?_
        refine j_clr 38 ?_
        refine j_clr 36 ?_
        exact K n2 a2 E3 hn2 g2 D3 X9.sr (L.keep hold hcn pe.2 (hb1.2.2.le (by omega) (by omega)))
      · skip
        by_cases hd : dcnt (hourR su ed F S lv).2 (F * S) = F * S
        · skip
          refine j_iload dL_law_1125 rfl ?_
          refine j_if_le_f (tgt := 1161) dL_law_1127 (by decide) hu ?_
          refine j_aload_n dL_law_1130 rfl ?_
          refine j_cV (As := []) (rest := []) cm_X3_dry ci_X3_dry cs_X3_dry rfl ln_L_165 (ci := 3) rfl dL_law_1131 (d' := 2) (by decide) (by omega) D3.1 rfl rfl (Nat.le_of_ble_eq_true rfl) (Nat.le_of_ble_eq_true rfl) (s_X3_dryN D3) ?_
          refine j_iload dL_law_1134 rfl ?_
          refine j_icmp_ne_f (tgt := 1143) dL_law_1136 (by decide) (nI_eq' (by omega)) ?_
          refine j_iconst (v := 1) dL_law_1139 (by decide) ?_
          refine j_goto (tgt := 1144) dL_law_1140 (by decide) ?_
          refine j_iload dL_law_1144 rfl ?_
          refine j_iload dL_law_1146 rfl ?_
          refine j_icmp_lt_f (tgt := 1155) dL_law_1148 (by decide) ((hU hu).mp hd) ?_
          refine j_iconst (v := 1) dL_law_1151 (by decide) ?_
          refine j_goto (tgt := 1156) dL_law_1152 (by decide) ?_
          refine j_icmp_eq_t (tgt := 1161) dL_law_1156 (by decide) (by decide) ?_
          refine j_iinc (v := nI (hr + 1)) (L' := [some (.ref g.1.2.1), some (.ref (a2 0)), some (.ref (a2 63)), some (.int (nI tm)), some (.int x), some (.long dg), none, some (.int (nI F)), some (.int (nI S)), some (.int (nI (F * S))), some (.int (nI f)), some (.int (nI s)), none, none, none, none, some (.int (nI dc)), none, none, none, none, none, none, none, none, none, none, some (.int (nI h)), some (.long tot), none, some (.int lost), some (.int unt), some (.long g0), none, some (.int (went + ((hourR su ed F S lv).1))), some (.int (nI (hr + 1))), some (.long (sumP lv S 0 0 (F - 1) (S - 1))), none, some (.long dried), none, some (.int ((hourR su ed F S lv).1)), some (.int (nI (F * S)))]) dL_law_1161 (by decide) rfl (nI_1 _) rfl rfl ?_
          refine j_goto (tgt := 967) dL_law_1164 (by decide) ?_
          refine j_clr 41 ?_
          refine j_clr 40 ?_
          refine j_clr 38 ?_
          refine j_clr 36 ?_
          exact K n2 a2 E3 hn2 g2 D3 X9.sr (L.keep hold hcn pe.2 (hb1.2.2.le (by omega) (by omega)))
        · skip
          refine j_iload dL_law_1125 rfl ?_
          refine j_if_le_f (tgt := 1161) dL_law_1127 (by decide) hu ?_
          refine j_aload_n dL_law_1130 rfl ?_
          refine j_cV (As := []) (rest := []) cm_X3_dry ci_X3_dry cs_X3_dry rfl ln_L_165 (ci := 3) rfl dL_law_1131 (d' := 2) (by decide) (by omega) D3.1 rfl rfl (Nat.le_of_ble_eq_true rfl) (Nat.le_of_ble_eq_true rfl) (s_X3_dryN D3) ?_
          refine j_iload dL_law_1134 rfl ?_
          refine j_icmp_ne_t (tgt := 1143) dL_law_1136 (by decide) (nI_ne' (by omega) (by omega) (by omega)) ?_
          refine j_iconst (v := 0) dL_law_1143 (by decide) ?_
          refine j_iload dL_law_1144 rfl ?_
          refine j_iload dL_law_1146 rfl ?_
          refine j_icmp_lt_t (tgt := 1155) dL_law_1148 (by decide) (Decidable.byContradiction fun z => hd ((hU hu).mpr z)) ?_
          refine j_iconst (v := 0) dL_law_1155 (by decide) ?_
          refine j_icmp_eq_t (tgt := 1161) dL_law_1156 (by decide) (by decide) ?_
          refine j_iinc (v := nI (hr + 1)) (L' := [some (.ref g.1.2.1), some (.ref (a2 0)), some (.ref (a2 63)), some (.int (nI tm)), some (.int x), some (.long dg), none, some (.int (nI F)), some (.int (nI S)), some (.int (nI (F * S))), some (.int (nI f)), some (.int (nI s)), none, none, none, none, some (.int (nI dc)), none, none, none, none, none, none, none, none, none, none, some (.int (nI h)), some (.long tot), none, some (.int lost), some (.int unt), some (.long g0), none, some (.int (went + ((hourR su ed F S lv).1))), some (.int (nI (hr + 1))), some (.long (sumP lv S 0 0 (F - 1) (S - 1))), none, some (.long dried), none, some (.int ((hourR su ed F S lv).1)), some (.int (nI (F * S)))]) dL_law_1161 (by decide) rfl (nI_1 _) rfl rfl ?_
          refine j_goto (tgt := 967) dL_law_1164 (by decide) ?_
          refine j_clr 41 ?_
          refine j_clr 40 ?_
          refine j_clr 38 ?_
          refine j_clr 36 ?_
          exact K n2 a2 E3 hn2 g2 D3 X9.sr (L.keep hold hcn pe.2 (hb1.2.2.le (by omega) (by omega)))
set_option maxRecDepth 100000 in
set_option maxHeartbeats 4000000 in
theorem lw_s12 {g : jG} {n : Nat} {ad : Nat → Nat} {E : Nat → va_E} {i F S : Nat} {hrs su : Int32} {gone : Int64} {lv ed : Nat → Int32} {old cnt : Nat} {dr : Nat → Nat → Int32} {mc : Nat} {mr : Nat → Nat → Int32} {m : Nat → Nat → Int32} {e : Nat → Int32} {A B : Nat → Nat → Nat → Int32} (C : CR g n ad E F S hrs su gone lv ed old cnt dr mc mr) {tm : Nat} {x : Int32} {f s : Nat} (hf : f < F) (hs : s < S) {bc bs : Nat} {Φ : Option Value → jR} {Ψ : String → jR} {h hr : Nat} {tot g0 : Int64} {lost unt went : Int32} {dg : Int64} {dc : Nat} (hg : gone = g0 + lost.toInt64) (K : J g mL_law 13 bc bs 1200 [some (.ref g.1.2.1), some (.ref (ad 0)), some (.ref (ad 63)), some (.int (nI tm)), some (.int x), none, none, some (.int (nI F)), some (.int (nI S)), some (.int (nI (F * S))), some (.int (nI f)), some (.int (nI s)), none, none, none, none, none, none, none, none, none, none, none, none, none, none, none, none, none, none, none, none, none, none, none, none, none, none, none, none, none, none] [] n ad E Φ Ψ) : J g mL_law 13 bc bs 1167 [some (.ref g.1.2.1), some (.ref (ad 0)), some (.ref (ad 63)), some (.int (nI tm)), some (.int x), some (.long dg), none, some (.int (nI F)), some (.int (nI S)), some (.int (nI (F * S))), some (.int (nI f)), some (.int (nI s)), none, none, none, none, some (.int (nI dc)), none, none, none, none, none, none, none, none, none, none, some (.int (nI h)), some (.long (sumP lv S 0 0 (F - 1) (S - 1))), none, some (.int lost), some (.int unt), some (.long g0), none, some (.int lost), some (.int (nI hr)), none, none, none, none, none, none] [] n ad E Φ Ψ := by
  obtain ⟨hF8, hS16, hF1, hS1, hold, hcn, hmc, hN, hn63⟩ := C.bd
  have hN1 := fs1 hF1 hS1
  refine j_aload_n dL_law_1167 rfl ?_
  refine j_cV (As := []) (rest := []) cm_X3_total ci_X3_total cs_X3_total rfl ln_L_162 (ci := 3) rfl dL_law_1168 (d' := 4) (by decide) (by omega) C.1 rfl rfl (Nat.le_of_ble_eq_true rfl) (Nat.le_of_ble_eq_true rfl) (s_X3_total C) ?_
  refine j_lload dL_law_1171 rfl ?_
  refine j_lcmp dL_law_1173 ?_
  refine j_if_ne_f (tgt := 1198) dL_law_1174 (by decide) (lg_same _) ?_
  refine j_iload dL_law_1177 rfl ?_
  refine j_iload dL_law_1179 rfl ?_
  refine j_icmp_ne_f (tgt := 1198) dL_law_1181 (by decide) rfl ?_
  refine j_aload_n dL_law_1184 rfl ?_
  refine j_cV (As := []) (rest := []) cm_X3_gone ci_X3_gone cs_X3_gone rfl ln_L_205 (ci := 3) rfl dL_law_1185 (d' := 0) (by decide) (by omega) C.1 rfl rfl (Nat.le_of_ble_eq_true rfl) (Nat.le_of_ble_eq_true rfl) (s_X3_gone C) ?_
  refine j_lload dL_law_1188 rfl ?_
  refine j_iload dL_law_1190 rfl ?_
  refine j_i2l dL_law_1192 ?_
  refine j_ladd dL_law_1193 ?_
  refine j_lcmp dL_law_1194 ?_
  refine j_if_eq_t (tgt := 1200) dL_law_1195 (by decide) ((lg_cmp_eq _ _).mpr hg) ?_
  refine j_clr 35 ?_
  refine j_clr 34 ?_
  refine j_clr 32 ?_
  refine j_clr 31 ?_
  refine j_clr 30 ?_
  refine j_clr 28 ?_
  refine j_clr 27 ?_
  refine j_clr 16 ?_
  refine j_clr 5 ?_
  exact K
