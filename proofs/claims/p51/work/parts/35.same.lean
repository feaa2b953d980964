/-! In the end all is as by hand. -/
theorem lg_same (x : Int64) : lg_cmp x x = 0 := (lg_cmp_eq x x).mpr rfl
theorem mean_same (x : Int64) {k : Nat} (h0 : 0 < k) (h : k < 2 ^ 31) : Op.cmpValue (FP.dcmp (FP.ddiv (FP.l2d x) (FP.i2d (nI k))) (FP.ddiv (FP.l2d x) (FP.i2d (nI k)))) .l = 0 := by
  have hne : nI k ≠ 0 := nI_ne0 h0 h
  have h1 : FP.Core.dIsNaN (FP.Core.l2d x) = false := by
    have := FP.Core.l2d_fin x
    rw [FP.Core.notNaN_iff]
    obtain ⟨s, c, q, e⟩ := this
    rw [e]
    intro r
    cases r
  have h2 := FP.Core.i2d_fin (nI k)
  have h3 : ¬ FP.Core.DZero (FP.Core.i2d (nI k)) := by
    rw [FP.Core.zero_bits2]
    exact FP.Core.i2d_ne_zero hne
  have h4 : FP.Core.dIsNaN (FP.Core.ddiv (FP.Core.l2d x) (FP.Core.i2d (nI k))) = false := FP.Core.ddiv_out h1 h2 h3
  have h5 := FP.Core.dcmp_self ((FP.Core.notNaN_iff _).mp h4)
  show Op.cmpValue (FP.Core.dcmp (FP.Core.ddiv (FP.Core.l2d x) (FP.Core.i2d (nI k))) (FP.Core.ddiv (FP.Core.l2d x) (FP.Core.i2d (nI k)))) .l = 0
  rw [h5]
  rfl
def dcS (m : Nat → Nat → Int32) (F S : Nat) : Int32 := lpf (fun f c => lpf (fun s c => if m f s ≤ 0 then c + 1 else c + 0) 0 S c) 0 F 0
theorem dcS_eq {m : Nat → Nat → Int32} {lv : Nat → Int32} {F S : Nat} (h : ∀ k, k < F * S → lv k = flS m S k) : uptC lv (F * S) 0 = dcS m F S := by
  unfold uptC dcS
  rw [← lpf_flat (b := fun k c => if 0 < lv k then c else c + 1) S F 0]
  refine lpf_congr _ _ _ (fun f c _ hf => lpf_congr _ _ _ (fun s c _ hs => ?_))
  rw [fl_of h (show f < F by omega) (show s < S by omega), Int32.add_zero]
  by_cases q : 0 < lv (f * S + s)
  · rw [if_pos q, if_neg (Int32.not_le.mpr q)]
  · rw [if_neg q, if_pos (Int32.not_lt.mp q)]
set_option maxRecDepth 100000 in
set_option maxHeartbeats 4000000 in
theorem s_X4_isSame {g : jG} {n : Nat} {ad : Nat → Nat} {E : Nat → va_E} {i F S : Nat} {hrs su : Int32} {gone : Int64} {lv ed : Nat → Int32} {old cnt : Nat} {dr : Nat → Nat → Int32} {mc : Nat} {mr : Nat → Nat → Int32} {m : Nat → Nat → Int32} {e : Nat → Int32} {A B : Nat → Nat → Nat → Int32} (C : CR g n ad E F S hrs su gone lv ed old cnt dr mc mr) (R : SR g n ad E F S su hrs gone m e cnt A mc B) (L : RS i F S su lv ed old cnt dr mc mr m e A B) : Ret g mX4_isSame 10 [.ref (ad 63), .ref (ad 0)] n ad E (some (.int 1)) E := by
  obtain ⟨hF8, hS16, hF1, hS1, hold, hcn, hmc, hN, hn63⟩ := C.bd
  intro Φ Ψ h
  obtain ⟨iL0, iE0, r0, ia0, im0, X0⟩ := id R
  replace X0 : SX g n ad E iL0 iE0 r0 ia0 im0 F S su hrs gone m e cnt A mc B := X0
  obtain ⟨V0, ⟨lL0, lE0, lr0⟩, K10, K20⟩ := id X0
  obtain ⟨⟨hwn0, hLn0, hEn0, hrn0⟩, ⟨hwL0, hwE0, hLE0, hrA0⟩, hri0, hw0, hL0, hE0, hR0, -⟩ := id V0
  obtain ⟨⟨hia, hXa⟩, ja, qa, hAa, hja⟩ := id K10
  obtain ⟨⟨him, hXm⟩, jm, qm, hAm, hjm⟩ := id K20
  show J g mX4_isSame 10 0 0 0 [some (.ref (ad 63)), some (.ref (ad 0)), none, none, none, none] [] n ad E Φ Ψ
  refine j_iconst (v := 0) dX4_isSame_0 (by decide) ?_
  refine j_istore_n (L' := [some (.ref (ad 63)), some (.ref (ad 0)), some (.int 0), none, none, none]) dX4_isSame_1 (by decide) rfl rfl ?_
  refine j_aload_n dX4_isSame_2 rfl ?_
  refine j_get fl_X4_14 dX4_isSame_3 hwn0 hw0 rfl ?_
  refine j_alen 0 dX4_isSame_6 hEn0 hE0 rfl ?_
  refine j_istore_n (L' := [some (.ref (ad 63)), some (.ref (ad 0)), some (.int 0), some (.int (nI S)), none, none]) dX4_isSame_7 (by decide) rfl rfl ?_
  refine j_iconst (v := nI 0) dX4_isSame_8 (by decide) ?_
  refine j_istore (L' := [some (.ref (ad 63)), some (.ref (ad 0)), some (.int 0), some (.int (nI S)), some (.int (nI 0)), none]) dX4_isSame_9 (by decide) rfl rfl ?_
  refine lpf_ind (b := fun f c => lpf (fun s c => if m f s ≤ 0 then c + 1 else c + 0) 0 S c) (P := fun (f : Nat) (c : Int32) => J g mX4_isSame 10 0 0 11 [some (.ref (ad 63)), some (.ref (ad 0)), some (.int c), some (.int (nI S)), some (.int (nI f)), none] [] n ad E Φ Ψ) (N := F) 0 ?_ F 0 (by omega) ?_
  · intro f c hf0 hf ih
    show J g mX4_isSame 10 0 0 11 [some (.ref (ad 63)), some (.ref (ad 0)), some (.int c), some (.int (nI S)), some (.int (nI f)), none] [] n ad E Φ Ψ
    have ih0 := ih
    clear ih
    refine j_iload dX4_isSame_11 rfl ?_
    refine j_aload_n dX4_isSame_13 rfl ?_
    refine j_get fl_X4_9 dX4_isSame_14 hwn0 hw0 rfl ?_
    refine j_alen 2 dX4_isSame_17 hLn0 hL0 rfl ?_
    refine j_icmp_ge_f (tgt := 110) dX4_isSame_18 (by decide) (nI_nle' (by omega) (by omega) (by omega)) ?_
    refine j_iconst (v := nI 0) dX4_isSame_21 (by decide) ?_
    refine j_istore (L' := [some (.ref (ad 63)), some (.ref (ad 0)), some (.int c), some (.int (nI S)), some (.int (nI f)), some (.int (nI 0))]) dX4_isSame_22 (by decide) rfl rfl ?_
    refine lpf_ind (b := fun s c => if m f s ≤ 0 then c + 1 else c + 0) (P := fun (s : Nat) (c : Int32) => J g mX4_isSame 10 0 0 24 [some (.ref (ad 63)), some (.ref (ad 0)), some (.int c), some (.int (nI S)), some (.int (nI f)), some (.int (nI s))] [] n ad E Φ Ψ) (N := S) 0 ?_ S c (by omega) ?_
    · intro s c hs0 hs ih
      show J g mX4_isSame 10 0 0 24 [some (.ref (ad 63)), some (.ref (ad 0)), some (.int c), some (.int (nI S)), some (.int (nI f)), some (.int (nI s))] [] n ad E Φ Ψ
      refine j_iload dX4_isSame_24 rfl ?_
      refine j_iload_n dX4_isSame_26 rfl ?_
      refine j_icmp_ge_f (tgt := 80) dX4_isSame_27 (by decide) (nI_nle' (by omega) (by omega) (by omega)) ?_
      refine j_iload_n dX4_isSame_30 rfl ?_
      refine j_aload_n dX4_isSame_31 rfl ?_
      refine j_get fl_X4_9 dX4_isSame_32 hwn0 hw0 rfl ?_
      refine j_iload dX4_isSame_35 rfl ?_
      refine j_aald (a := (ad (r0 f))) dX4_isSame_37 hLn0 hL0 (by omega) hf (if_pos hf) ?_
      refine j_iload dX4_isSame_38 rfl ?_
      refine j_iald dX4_isSame_40 (hrn0 f hf) (hR0 f hf) (by omega) hs rfl ?_
      refine j_if_le (tgt := 48) dX4_isSame_41 (by decide) (fun hq => ?_) (fun hq => ?_)
      · skip
        refine j_iconst (v := 1) dX4_isSame_48 (by decide) ?_
        refine j_iadd dX4_isSame_49 ?_
        refine j_istore_n (L' := [some (.ref (ad 63)), some (.ref (ad 0)), some (.int (c + 1)), some (.int (nI S)), some (.int (nI f)), some (.int (nI s))]) dX4_isSame_50 (by decide) rfl rfl ?_
        refine j_aload_n dX4_isSame_51 rfl ?_
        refine j_iload dX4_isSame_52 rfl ?_
        refine j_iload dX4_isSame_54 rfl ?_
        refine j_cV (As := [.int (nI f), .int (nI s)]) (rest := []) cm_X3_levelAt ci_X3_levelAt cs_X3_levelAt rfl ln_X4_54 (ci := 3) rfl dX4_isSame_56 (d' := 9) (by decide) (by omega) C.1 rfl rfl (Nat.le_of_ble_eq_true rfl) (Nat.le_of_ble_eq_true rfl) (s_X3_levelAt C f s hf hs) ?_
        refine j_aload_n dX4_isSame_59 rfl ?_
        refine j_get fl_X4_9 dX4_isSame_60 hwn0 hw0 rfl ?_
        refine j_iload dX4_isSame_63 rfl ?_
        refine j_aald (a := (ad (r0 f))) dX4_isSame_65 hLn0 hL0 (by omega) hf (if_pos hf) ?_
        refine j_iload dX4_isSame_66 rfl ?_
        refine j_iald dX4_isSame_68 (hrn0 f hf) (hR0 f hf) (by omega) hs rfl ?_
        refine j_icmp_eq_t (tgt := 74) dX4_isSame_69 (by decide) (fl_of L.1 hf hs).symm ?_
        refine j_iinc (v := nI (s + 1)) (L' := [some (.ref (ad 63)), some (.ref (ad 0)), some (.int (c + 1)), some (.int (nI S)), some (.int (nI f)), some (.int (nI (s + 1)))]) dX4_isSame_74 (by decide) rfl (nI_1 _) rfl rfl ?_
        refine j_goto (tgt := 24) dX4_isSame_77 (by decide) ?_
        exact ih (c + 1) (by simp only [hq, if_true, if_false])
      · skip
        refine j_iconst (v := 0) dX4_isSame_44 (by decide) ?_
        refine j_goto (tgt := 49) dX4_isSame_45 (by decide) ?_
        refine j_iadd dX4_isSame_49 ?_
        refine j_istore_n (L' := [some (.ref (ad 63)), some (.ref (ad 0)), some (.int (c + 0)), some (.int (nI S)), some (.int (nI f)), some (.int (nI s))]) dX4_isSame_50 (by decide) rfl rfl ?_
        refine j_aload_n dX4_isSame_51 rfl ?_
        refine j_iload dX4_isSame_52 rfl ?_
        refine j_iload dX4_isSame_54 rfl ?_
        refine j_cV (As := [.int (nI f), .int (nI s)]) (rest := []) cm_X3_levelAt ci_X3_levelAt cs_X3_levelAt rfl ln_X4_54 (ci := 3) rfl dX4_isSame_56 (d' := 9) (by decide) (by omega) C.1 rfl rfl (Nat.le_of_ble_eq_true rfl) (Nat.le_of_ble_eq_true rfl) (s_X3_levelAt C f s hf hs) ?_
        refine j_aload_n dX4_isSame_59 rfl ?_
        refine j_get fl_X4_9 dX4_isSame_60 hwn0 hw0 rfl ?_
        refine j_iload dX4_isSame_63 rfl ?_
        refine j_aald (a := (ad (r0 f))) dX4_isSame_65 hLn0 hL0 (by omega) hf (if_pos hf) ?_
        refine j_iload dX4_isSame_66 rfl ?_
        refine j_iald dX4_isSame_68 (hrn0 f hf) (hR0 f hf) (by omega) hs rfl ?_
        refine j_icmp_eq_t (tgt := 74) dX4_isSame_69 (by decide) (fl_of L.1 hf hs).symm ?_
        refine j_iinc (v := nI (s + 1)) (L' := [some (.ref (ad 63)), some (.ref (ad 0)), some (.int (c + 0)), some (.int (nI S)), some (.int (nI f)), some (.int (nI (s + 1)))]) dX4_isSame_74 (by decide) rfl (nI_1 _) rfl rfl ?_
        refine j_goto (tgt := 24) dX4_isSame_77 (by decide) ?_
        exact ih (c + 0) (by simp only [hq, if_true, if_false])
    · skip
      show J g mX4_isSame 10 0 0 24 [some (.ref (ad 63)), some (.ref (ad 0)), some (.int (lpf (fun s c => if m f s ≤ 0 then c + 1 else c + 0) 0 S c)), some (.int (nI S)), some (.int (nI f)), some (.int (nI S))] [] n ad E Φ Ψ
      refine j_iload dX4_isSame_24 rfl ?_
      refine j_iload_n dX4_isSame_26 rfl ?_
      refine j_icmp_ge_t (tgt := 80) dX4_isSame_27 (by decide) (nI_le' (by omega) (by omega) (by omega)) ?_
      refine j_aload_n dX4_isSame_80 rfl ?_
      refine j_iload dX4_isSame_81 rfl ?_
      refine j_cV (As := [.int (nI f)]) (rest := []) cm_X3_flightSum ci_X3_flightSum cs_X3_flightSum rfl ln_X4_60 (ci := 3) rfl dX4_isSame_83 (d' := 8) (by decide) (by omega) C.1 rfl rfl (Nat.le_of_ble_eq_true rfl) (Nat.le_of_ble_eq_true rfl) (s_X3_flightSum C f hf) ?_
      refine j_aload_n dX4_isSame_86 rfl ?_
      refine j_iload dX4_isSame_87 rfl ?_
      refine j_iconst (v := nI 0) dX4_isSame_89 (by decide) ?_
      refine j_iload dX4_isSame_90 rfl ?_
      refine j_iload_n dX4_isSame_92 rfl ?_
      refine j_iconst (v := nI 1) dX4_isSame_93 (by decide) ?_
      refine j_isub dX4_isSame_94 ?_
      refine j_topi (y := nI (S - 1)) (pk_sub (by omega)) ?_
      refine j_cV (As := [.int (nI f), .int (nI 0), .int (nI f), .int (nI (S - 1))]) (rest := [.long (sumP lv S f 0 f (S - 1))]) cm_X4_sum ci_X4_sum cs_X4_sum rfl ln_X4_64 (ci := 4) rfl dX4_isSame_95 (d' := 0) (by decide) hwn0 hw0 rfl rfl (Nat.le_of_ble_eq_true rfl) (Nat.le_of_ble_eq_true rfl) (s_X4_sum V0 f 0 f (S - 1) (by omega) (by omega) (by omega) (by omega)) ?_
      refine j_topl (y := sumP lv S f 0 f (S - 1)) (smD_eq L.1 (by omega) (by omega) (by omega) (by omega)) ?_
      refine j_lcmp dX4_isSame_98 ?_
      refine j_if_eq_t (tgt := 104) dX4_isSame_99 (by decide) (lg_same _) ?_
      refine j_iinc (v := nI (f + 1)) (L' := [some (.ref (ad 63)), some (.ref (ad 0)), some (.int (lpf (fun s c => if m f s ≤ 0 then c + 1 else c + 0) 0 S c)), some (.int (nI S)), some (.int (nI (f + 1))), some (.int (nI S))]) dX4_isSame_104 (by decide) rfl (nI_1 _) rfl rfl ?_
      refine j_goto (tgt := 11) dX4_isSame_107 (by decide) ?_
      refine j_clr 5 ?_
      exact ih0 _ rfl
  · skip
    show J g mX4_isSame 10 0 0 11 [some (.ref (ad 63)), some (.ref (ad 0)), some (.int (dcS m F S)), some (.int (nI S)), some (.int (nI F)), none] [] n ad E Φ Ψ
    refine j_iload dX4_isSame_11 rfl ?_
    refine j_aload_n dX4_isSame_13 rfl ?_
    refine j_get fl_X4_9 dX4_isSame_14 hwn0 hw0 rfl ?_
    refine j_alen 2 dX4_isSame_17 hLn0 hL0 rfl ?_
    refine j_icmp_ge_t (tgt := 110) dX4_isSame_18 (by decide) (nI_le' (by omega) (by omega) (by omega)) ?_
    refine j_iconst (v := nI 0) dX4_isSame_110 (by decide) ?_
    refine j_istore (L' := [some (.ref (ad 63)), some (.ref (ad 0)), some (.int (dcS m F S)), some (.int (nI S)), some (.int (nI 0)), none]) dX4_isSame_111 (by decide) rfl rfl ?_
    refine up_ind (P := fun (s : Nat) => J g mX4_isSame 10 0 0 113 [some (.ref (ad 63)), some (.ref (ad 0)), some (.int (dcS m F S)), some (.int (nI S)), some (.int (nI s)), none] [] n ad E Φ Ψ) (N := S) 0 ?_ S (by omega) ?_
    · intro s hs0 hs ih
      show J g mX4_isSame 10 0 0 113 [some (.ref (ad 63)), some (.ref (ad 0)), some (.int (dcS m F S)), some (.int (nI S)), some (.int (nI s)), none] [] n ad E Φ Ψ
      refine j_iload dX4_isSame_113 rfl ?_
      refine j_iload_n dX4_isSame_115 rfl ?_
      refine j_icmp_ge_f (tgt := 169) dX4_isSame_116 (by decide) (nI_nle' (by omega) (by omega) (by omega)) ?_
      refine j_aload_n dX4_isSame_119 rfl ?_
      refine j_iload dX4_isSame_120 rfl ?_
      refine j_cV (As := [.int (nI s)]) (rest := []) cm_X3_edgeOf ci_X3_edgeOf cs_X3_edgeOf rfl ln_X4_68 (ci := 3) rfl dX4_isSame_122 (d' := 8) (by decide) (by omega) C.1 rfl rfl (Nat.le_of_ble_eq_true rfl) (Nat.le_of_ble_eq_true rfl) (s_X3_edgeOf C s hs) ?_
      refine j_aload_n dX4_isSame_125 rfl ?_
      refine j_get fl_X4_14 dX4_isSame_126 hwn0 hw0 rfl ?_
      refine j_iload dX4_isSame_129 rfl ?_
      refine j_iald dX4_isSame_131 hEn0 hE0 (by omega) hs rfl ?_
      refine j_icmp_ne_f (tgt := 161) dX4_isSame_132 (by decide) (L.2.1 s hs) ?_
      refine j_aload_n dX4_isSame_135 rfl ?_
      refine j_iload dX4_isSame_136 rfl ?_
      refine j_cV (As := [.int (nI s)]) (rest := []) cm_X3_stepSum ci_X3_stepSum cs_X3_stepSum rfl ln_X4_72 (ci := 3) rfl dX4_isSame_138 (d' := 8) (by decide) (by omega) C.1 rfl rfl (Nat.le_of_ble_eq_true rfl) (Nat.le_of_ble_eq_true rfl) (s_X3_stepSum C s hs) ?_
      refine j_aload_n dX4_isSame_141 rfl ?_
      refine j_iconst (v := nI 0) dX4_isSame_142 (by decide) ?_
      refine j_iload dX4_isSame_143 rfl ?_
      refine j_aload_n dX4_isSame_145 rfl ?_
      refine j_get fl_X4_9 dX4_isSame_146 hwn0 hw0 rfl ?_
      refine j_alen 2 dX4_isSame_149 hLn0 hL0 rfl ?_
      refine j_iconst (v := nI 1) dX4_isSame_150 (by decide) ?_
      refine j_isub dX4_isSame_151 ?_
      refine j_topi (y := nI (F - 1)) (pk_sub (by omega)) ?_
      refine j_iload dX4_isSame_152 rfl ?_
      refine j_cV (As := [.int (nI 0), .int (nI s), .int (nI (F - 1)), .int (nI s)]) (rest := [.long (sumP lv S 0 s (F - 1) s)]) cm_X4_sum ci_X4_sum cs_X4_sum rfl ln_X4_64 (ci := 4) rfl dX4_isSame_154 (d' := 0) (by decide) hwn0 hw0 rfl rfl (Nat.le_of_ble_eq_true rfl) (Nat.le_of_ble_eq_true rfl) (s_X4_sum V0 0 s (F - 1) s (by omega) (by omega) (by omega) (by omega)) ?_
      refine j_topl (y := sumP lv S 0 s (F - 1) s) (smD_eq L.1 (by omega) (by omega) (by omega) (by omega)) ?_
      refine j_lcmp dX4_isSame_157 ?_
      refine j_if_eq_t (tgt := 163) dX4_isSame_158 (by decide) (lg_same _) ?_
      refine j_iinc (v := nI (s + 1)) (L' := [some (.ref (ad 63)), some (.ref (ad 0)), some (.int (dcS m F S)), some (.int (nI S)), some (.int (nI (s + 1))), none]) dX4_isSame_163 (by decide) rfl (nI_1 _) rfl rfl ?_
      refine j_goto (tgt := 113) dX4_isSame_166 (by decide) ?_
      exact ih
    · skip
      show J g mX4_isSame 10 0 0 113 [some (.ref (ad 63)), some (.ref (ad 0)), some (.int (dcS m F S)), some (.int (nI S)), some (.int (nI S)), none] [] n ad E Φ Ψ
      refine j_iload dX4_isSame_113 rfl ?_
      refine j_iload_n dX4_isSame_115 rfl ?_
      refine j_icmp_ge_t (tgt := 169) dX4_isSame_116 (by decide) (nI_le' (by omega) (by omega) (by omega)) ?_
      refine j_iconst (v := 0) dX4_isSame_169 (by decide) ?_
      refine j_istore (L' := [some (.ref (ad 63)), some (.ref (ad 0)), some (.int (dcS m F S)), some (.int (nI S)), some (.int 0), none]) dX4_isSame_170 (by decide) rfl rfl ?_
      refine up_ind (P := fun (k9 : Nat) => J g mX4_isSame 10 0 0 172 [some (.ref (ad 63)), some (.ref (ad 0)), some (.int (dcS m F S)), some (.int (nI S)), some (.int (nI k9)), none] [] n ad E Φ Ψ) (N := mc) 0 ?_ mc (by omega) ?_
      · intro k9 hk90 hk9 ih
        show J g mX4_isSame 10 0 0 172 [some (.ref (ad 63)), some (.ref (ad 0)), some (.int (dcS m F S)), some (.int (nI S)), some (.int (nI k9)), none] [] n ad E Φ Ψ
        refine j_iload dX4_isSame_172 rfl ?_
        refine j_aload_n dX4_isSame_174 rfl ?_
        refine j_get fl_X4_26 dX4_isSame_175 hwn0 hw0 rfl ?_
        refine j_alen 1 dX4_isSame_178 him hAm rfl ?_
        refine j_icmp_ge_f (tgt := 210) dX4_isSame_179 (by decide) (nI_nle' (by omega) (by omega) (by omega)) ?_
        refine j_aload_n dX4_isSame_182 rfl ?_
        refine j_iload dX4_isSame_183 rfl ?_
        refine j_cV (As := [.int (nI k9)]) (rest := []) cm_X3_changedSince ci_X3_changedSince cs_X3_changedSince rfl ln_X4_75 (ci := 3) rfl dX4_isSame_185 (d' := 8) (by decide) (by omega) C.1 rfl rfl (Nat.le_of_ble_eq_true rfl) (Nat.le_of_ble_eq_true rfl) (s_X3_changedSince C k9 hk9) ?_
        refine j_aload_n dX4_isSame_188 rfl ?_
        refine j_aload_n dX4_isSame_189 rfl ?_
        refine j_get fl_X4_26 dX4_isSame_190 hwn0 hw0 rfl ?_
        refine j_iload dX4_isSame_193 rfl ?_
        refine j_aaldP (a := (ad (jm k9))) dX4_isSame_195 him hAm (by omega) hk9 (if_pos hk9) ?_
        refine j_cV (As := [.ref (ad (jm k9))]) (rest := [.int (chgC lv (mr k9) (F * S))]) cm_X4_unlike ci_X4_unlike cs_X4_unlike rfl ln_X4_78 (ci := 4) rfl dX4_isSame_196 (d' := 0) (by decide) hwn0 hw0 rfl rfl (Nat.le_of_ble_eq_true rfl) (Nat.le_of_ble_eq_true rfl) (s_X4_unlike V0 (hjm k9 hk9).2) ?_
        refine j_icmp_eq_t (tgt := 204) dX4_isSame_199 (by decide) (unl_eq L.1 (L.2.2.2.2.2.2.2 k9 hk9).1).symm ?_
        refine j_iinc (v := nI (k9 + 1)) (L' := [some (.ref (ad 63)), some (.ref (ad 0)), some (.int (dcS m F S)), some (.int (nI S)), some (.int (nI (k9 + 1))), none]) dX4_isSame_204 (by decide) rfl (nI_1 _) rfl rfl ?_
        refine j_goto (tgt := 172) dX4_isSame_207 (by decide) ?_
        exact ih
      · skip
        show J g mX4_isSame 10 0 0 172 [some (.ref (ad 63)), some (.ref (ad 0)), some (.int (dcS m F S)), some (.int (nI S)), some (.int (nI mc)), none] [] n ad E Φ Ψ
        refine j_iload dX4_isSame_172 rfl ?_
        refine j_aload_n dX4_isSame_174 rfl ?_
        refine j_get fl_X4_26 dX4_isSame_175 hwn0 hw0 rfl ?_
        refine j_alen 1 dX4_isSame_178 him hAm rfl ?_
        refine j_icmp_ge_t (tgt := 210) dX4_isSame_179 (by decide) (nI_le' (by omega) (by omega) (by omega)) ?_
        refine j_aload_n dX4_isSame_210 rfl ?_
        refine j_iconst (v := nI 0) dX4_isSame_211 (by decide) ?_
        refine j_iconst (v := nI 0) dX4_isSame_212 (by decide) ?_
        refine j_aload_n dX4_isSame_213 rfl ?_
        refine j_get fl_X4_9 dX4_isSame_214 hwn0 hw0 rfl ?_
        refine j_alen 2 dX4_isSame_217 hLn0 hL0 rfl ?_
        refine j_iconst (v := nI 1) dX4_isSame_218 (by decide) ?_
        refine j_isub dX4_isSame_219 ?_
        refine j_topi (y := nI (F - 1)) (pk_sub (by omega)) ?_
        refine j_iload_n dX4_isSame_220 rfl ?_
        refine j_iconst (v := nI 1) dX4_isSame_221 (by decide) ?_
        refine j_isub dX4_isSame_222 ?_
        refine j_topi (y := nI (S - 1)) (pk_sub (by omega)) ?_
        refine j_cV (As := [.int (nI 0), .int (nI 0), .int (nI (F - 1)), .int (nI (S - 1))]) (rest := []) cm_X4_sum ci_X4_sum cs_X4_sum rfl ln_X4_64 (ci := 4) rfl dX4_isSame_223 (d' := 0) (by decide) hwn0 hw0 rfl rfl (Nat.le_of_ble_eq_true rfl) (Nat.le_of_ble_eq_true rfl) (s_X4_sum V0 0 0 (F - 1) (S - 1) (by omega) (by omega) (by omega) (by omega)) ?_
        refine j_topl (y := sumP lv S 0 0 (F - 1) (S - 1)) (smD_eq L.1 (by omega) (by omega) (by omega) (by omega)) ?_
        have hk1 := fs1 hF1 hS1
        refine j_lstore (L' := [some (.ref (ad 63)), some (.ref (ad 0)), some (.int (dcS m F S)), some (.int (nI S)), some (.long (sumP lv S 0 0 (F - 1) (S - 1))), none]) dX4_isSame_226 (by decide) rfl rfl ?_
        refine j_aload_n dX4_isSame_228 rfl ?_
        refine j_cV (As := []) (rest := []) cm_X3_flights ci_X3_flights cs_X3_flights rfl ln_X4_82 (ci := 3) rfl dX4_isSame_229 (d' := 0) (by decide) (by omega) C.1 rfl rfl (Nat.le_of_ble_eq_true rfl) (Nat.le_of_ble_eq_true rfl) (s_X3_flights C) ?_
        refine j_aload_n dX4_isSame_232 rfl ?_
        refine j_get fl_X4_9 dX4_isSame_233 hwn0 hw0 rfl ?_
        refine j_alen 2 dX4_isSame_236 hLn0 hL0 rfl ?_
        refine j_icmp_ne_f (tgt := 348) dX4_isSame_237 (by decide) rfl ?_
        refine j_aload_n dX4_isSame_240 rfl ?_
        refine j_cV (As := []) (rest := []) cm_X3_steps ci_X3_steps cs_X3_steps rfl ln_X4_85 (ci := 3) rfl dX4_isSame_241 (d' := 0) (by decide) (by omega) C.1 rfl rfl (Nat.le_of_ble_eq_true rfl) (Nat.le_of_ble_eq_true rfl) (s_X3_steps C) ?_
        refine j_iload_n dX4_isSame_244 rfl ?_
        refine j_icmp_ne_f (tgt := 348) dX4_isSame_245 (by decide) rfl ?_
        refine j_aload_n dX4_isSame_248 rfl ?_
        refine j_cV (As := []) (rest := []) cm_X3_hours ci_X3_hours cs_X3_hours rfl ln_X4_88 (ci := 3) rfl dX4_isSame_249 (d' := 0) (by decide) (by omega) C.1 rfl rfl (Nat.le_of_ble_eq_true rfl) (Nat.le_of_ble_eq_true rfl) (s_X3_hours C) ?_
        refine j_aload_n dX4_isSame_252 rfl ?_
        refine j_get fl_X4_43 dX4_isSame_253 hwn0 hw0 rfl ?_
        refine j_icmp_ne_f (tgt := 348) dX4_isSame_256 (by decide) rfl ?_
        refine j_aload_n dX4_isSame_259 rfl ?_
        refine j_cV (As := []) (rest := []) cm_X3_sun ci_X3_sun cs_X3_sun rfl ln_X4_90 (ci := 3) rfl dX4_isSame_260 (d' := 0) (by decide) (by omega) C.1 rfl rfl (Nat.le_of_ble_eq_true rfl) (Nat.le_of_ble_eq_true rfl) (s_X3_sun C) ?_
        refine j_aload_n dX4_isSame_263 rfl ?_
        refine j_get fl_X4_18 dX4_isSame_264 hwn0 hw0 rfl ?_
        refine j_icmp_ne_f (tgt := 348) dX4_isSame_267 (by decide) rfl ?_
        refine j_aload_n dX4_isSame_270 rfl ?_
        refine j_cV (As := []) (rest := []) cm_X3_marks ci_X3_marks cs_X3_marks rfl ln_X4_92 (ci := 3) rfl dX4_isSame_271 (d' := 0) (by decide) (by omega) C.1 rfl rfl (Nat.le_of_ble_eq_true rfl) (Nat.le_of_ble_eq_true rfl) (s_X3_marks C) ?_
        refine j_aload_n dX4_isSame_274 rfl ?_
        refine j_get fl_X4_26 dX4_isSame_275 hwn0 hw0 rfl ?_
        refine j_alen 1 dX4_isSame_278 him hAm rfl ?_
        refine j_icmp_ne_f (tgt := 348) dX4_isSame_279 (by decide) rfl ?_
        refine j_aload_n dX4_isSame_282 rfl ?_
        refine j_cV (As := []) (rest := []) cm_X3_deeds ci_X3_deeds cs_X3_deeds rfl ln_X4_94 (ci := 3) rfl dX4_isSame_283 (d' := 0) (by decide) (by omega) C.1 rfl rfl (Nat.le_of_ble_eq_true rfl) (Nat.le_of_ble_eq_true rfl) (s_X3_deeds C) ?_
        refine j_aload_n dX4_isSame_286 rfl ?_
        refine j_get fl_X4_22 dX4_isSame_287 hwn0 hw0 rfl ?_
        refine j_alen 1 dX4_isSame_290 hia hAa rfl ?_
        refine j_icmp_ne_f (tgt := 348) dX4_isSame_291 (by decide) rfl ?_
        refine j_aload_n dX4_isSame_294 rfl ?_
        refine j_cV (As := []) (rest := []) cm_X3_gone ci_X3_gone cs_X3_gone rfl ln_X4_97 (ci := 3) rfl dX4_isSame_295 (d' := 0) (by decide) (by omega) C.1 rfl rfl (Nat.le_of_ble_eq_true rfl) (Nat.le_of_ble_eq_true rfl) (s_X3_gone C) ?_
        refine j_aload_n dX4_isSame_298 rfl ?_
        refine j_get fl_X4_46 dX4_isSame_299 hwn0 hw0 rfl ?_
        refine j_lcmp dX4_isSame_302 ?_
        refine j_if_ne_f (tgt := 348) dX4_isSame_303 (by decide) (lg_same _) ?_
        refine j_aload_n dX4_isSame_306 rfl ?_
        refine j_cV (As := []) (rest := []) cm_X3_total ci_X3_total cs_X3_total rfl ln_X4_100 (ci := 3) rfl dX4_isSame_307 (d' := 4) (by decide) (by omega) C.1 rfl rfl (Nat.le_of_ble_eq_true rfl) (Nat.le_of_ble_eq_true rfl) (s_X3_total C) ?_
        refine j_lload dX4_isSame_310 rfl ?_
        refine j_lcmp dX4_isSame_312 ?_
        refine j_if_ne_f (tgt := 348) dX4_isSame_313 (by decide) (lg_same _) ?_
        refine j_aload_n dX4_isSame_316 rfl ?_
        refine j_cV (As := []) (rest := []) cm_X3_dry ci_X3_dry cs_X3_dry rfl ln_X4_103 (ci := 3) rfl dX4_isSame_317 (d' := 2) (by decide) (by omega) C.1 rfl rfl (Nat.le_of_ble_eq_true rfl) (Nat.le_of_ble_eq_true rfl) (s_X3_dry C) ?_
        refine j_iload_n dX4_isSame_320 rfl ?_
        refine j_icmp_ne_f (tgt := 348) dX4_isSame_321 (by decide) (dcS_eq L.1) ?_
        refine j_aload_n dX4_isSame_324 rfl ?_
        refine j_cV (As := []) (rest := []) cm_X3_meanLevel ci_X3_meanLevel cs_X3_meanLevel rfl ln_X4_106 (ci := 3) rfl dX4_isSame_325 (d' := 4) (by decide) (by omega) C.1 rfl rfl (Nat.le_of_ble_eq_true rfl) (Nat.le_of_ble_eq_true rfl) (s_X3_meanLevel C) ?_
        refine j_lload dX4_isSame_328 rfl ?_
        refine j_l2d dX4_isSame_330 ?_
        refine j_iload_n dX4_isSame_331 rfl ?_
        refine j_aload_n dX4_isSame_332 rfl ?_
        refine j_get fl_X4_9 dX4_isSame_333 hwn0 hw0 rfl ?_
        refine j_alen 2 dX4_isSame_336 hLn0 hL0 rfl ?_
        refine j_imul dX4_isSame_337 ?_
        refine j_topi (y := nI (S * F)) (pk_mul _ _) ?_
        refine j_topi (y := nI (F * S)) (by rw [Nat.mul_comm S F]) ?_
        refine j_i2d dX4_isSame_338 ?_
        refine j_ddiv dX4_isSame_339 (mean_num _ (by omega) (by omega)) ?_
        refine j_dcmp dX4_isSame_340 ?_
        refine j_if_ne_f (tgt := 348) dX4_isSame_341 (by decide) (mean_same _ (by omega) (by omega)) ?_
        refine j_iconst (v := 1) dX4_isSame_344 (by decide) ?_
        refine j_goto (tgt := 349) dX4_isSame_345 (by decide) ?_
        exact j_zret dX4_isSame_349 rfl rfl h
