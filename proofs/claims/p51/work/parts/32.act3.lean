/-! act: bail, mark, back, undo. -/
theorem blB_0 {x b : Int32} {k : Nat} {h : Nat → Int32} (q : h k ≤ 0) : blB x k (b, h) = (b, h) := if_pos q
theorem blB_1 {x b : Int32} {k : Nat} {h : Nat → Int32} (q : ¬ h k ≤ 0) : blB x k (b, h) = (b + (if h k < x - b then h k else x - b), upd h k (h k - (if h k < x - b then h k else x - b))) := if_neg q
theorem i999' {x : Nat} (h1 : 1 ≤ x) (h2 : x ≤ 999) : (¬ nI x < 1 ∧ nI x ≤ 999) ∧ 1 ≤ (nI x).toInt ∧ (nI x).toInt ≤ 999 := by
  have e := nI_toInt (show x < 2 ^ 31 by omega)
  refine ⟨⟨?_, show nI x ≤ nI 999 from nI_le' (by omega) (by omega) h2⟩, by omega, by omega⟩
  show ¬ nI x < nI 1
  exact nI_nlt' (by omega) (by omega) h1
theorem KL.push {g : jG} {n1 n' : Nat} {a1 ad' : Nat → Nat} {E1 E' : Nat → va_E} {X : Nat → Prop} {c fr q0 i' F S : Nat} {A : Nat → Nat → Nat → Int32} {m : Nat → Nat → Int32} {j : Nat → Nat} {q : Nat → Nat → Nat} (hj : ∀ k, k < c → (¬ X (j k) ∧ ∀ f, f < F → ¬ X (q k f)) ∧ MT g n1 a1 E1 (j k) (q k) F S (A k)) (M : MT g n1 a1 E1 q0 (fun f => q0 + 1 + f) F S m) (hX : ∀ k, q0 ≤ k → ¬ X k) (hn : n1 ≤ n') (ha : ∀ k, k < n1 → ad' k = a1 k) (hE : ∀ k, k < n1 → ¬ X k → E' k = E1 k) (hi : q0 ≤ i') (hi' : i' < n') (y : E' i' = aP g (c + 1 - fr) (fun k => if k < c + 1 - fr then some (ad' (wjF j q0 c fr k)) else none)) (hfr : fr ≤ c) : KL g n' ad' E' X i' (c + 1 - fr) F S (fun k => if k < c - fr then A (k + fr) else m) := by
  refine ⟨⟨hi', hX _ hi⟩, wjF j q0 c fr, fun k => if k < c - fr then q (k + fr) else fun f => q0 + 1 + f, y, fun k hk => ?_⟩
  unfold wjF
  dsimp only
  by_cases hq : k < c - fr
  · rw [if_pos hq, if_pos hq, if_pos hq]
    obtain ⟨⟨z1, z2⟩, M1⟩ := hj (k + fr) (by omega)
    refine ⟨⟨z1, z2⟩, M1.tr hn ha (fun k' hk' => ?_)⟩
    rcases hk' with rfl | ⟨f, hf, rfl⟩
    · exact hE _ M1.1.1 z1
    · exact hE _ (M1.1.2 f hf) (z2 f hf)
  · rw [if_neg hq, if_neg hq, if_neg hq]
    refine ⟨⟨hX _ (Nat.le_refl _), fun f hf => hX _ (by omega)⟩, M.tr hn ha (fun k' hk' => ?_)⟩
    rcases hk' with rfl | ⟨f, hf, rfl⟩
    · exact hE _ M.1.1 (hX _ (Nat.le_refl _))
    · exact hE _ (M.1.2 f hf) (hX _ (by first | omega | (dsimp only; omega)))
set_option maxRecDepth 100000 in
set_option maxHeartbeats 4000000 in
theorem ac_bail {g : jG} {n : Nat} {ad : Nat → Nat} {E : Nat → va_E} {i F S : Nat} {hrs su : Int32} {gone : Int64} {lv ed : Nat → Int32} {old cnt : Nat} {dr : Nat → Nat → Int32} {mc : Nat} {mr : Nat → Nat → Int32} {m : Nat → Nat → Int32} {e : Nat → Int32} {A B : Nat → Nat → Nat → Int32} (C : CR g n ad E F S hrs su gone lv ed old cnt dr mc mr) (R : SR g n ad E F S su hrs gone m e cnt A mc B) (L : RS i F S su lv ed old cnt dr mc mr m e A B) (hi : i ≤ 500) (x : Int32) (f s : Nat) (hf : f < F) (hs : s < S) (dp : Int32) (hd1 : ¬ dp < -99) (hd2 : dp ≤ 99) {Φ : Option Value → jR} {Ψ : String → jR} (K : ∀ (n9 : Nat) (a9 : Nat → Nat) (E9 : Nat → va_E), n ≤ n9 → (∀ k, k < n → a9 k = ad k) → AS (i + 1) g n9 a9 E9 → Φ (some (.int 1)) n9 a9 E9) : J g mL_act 11 60 1200 611 [some (.ref (ad 0)), some (.ref (ad 63)), some (.int x), some (.int (nI F)), some (.int (nI S)), some (.int (nI f)), some (.int (nI s)), some (.int dp), some (.int 1), none, none, none, none] [] n ad E Φ Ψ := by
  obtain ⟨hF8, hS16, hF1, hS1, hold, hcn, hmc, hN, hn63⟩ := C.bd
  obtain ⟨iL0, iE0, r0, ia0, im0, X0⟩ := id R
  replace X0 : SX g n ad E iL0 iE0 r0 ia0 im0 F S su hrs gone m e cnt A mc B := X0
  obtain ⟨V0, ⟨lL0, lE0, lr0⟩, K10, K20⟩ := id X0
  obtain ⟨⟨hwn0, hLn0, hEn0, hrn0⟩, ⟨hwL0, hwE0, hLE0, hrA0⟩, hri0, hw0, hL0, hE0, hR0, -⟩ := id V0
  show J g mL_act 11 60 1200 611 [some (.ref (ad 0)), some (.ref (ad 63)), some (.int x), some (.int (nI F)), some (.int (nI S)), some (.int (nI f)), some (.int (nI s)), some (.int dp), some (.int 1), none, none, none, none] [] n ad E Φ Ψ
  refine j_iconst (v := nI 1) dL_act_611 (by decide) ?_
  refine j_iload_n dL_act_612 rfl ?_
  refine j_bipush (v := 6) dL_act_613 (by decide) ?_
  refine j_ishr dL_act_615 ?_
  refine j_iload_n dL_act_616 rfl ?_
  refine j_bipush (v := 9) dL_act_617 (by decide) ?_
  refine j_ishr dL_act_619 ?_
  refine j_iconst (v := nI 2) dL_act_620 (by decide) ?_
  refine j_cS (As := [.int (x >>> (9 &&& 31)), .int (nI 2)]) (rest := [.int (x >>> (6 &&& 31)), .int (nI 1)]) cm_L_below ct_L_below ln_L_19 dL_act_621 (d' := 0) (by decide) rfl rfl (Nat.le_of_ble_eq_true rfl) (Nat.le_of_ble_eq_true rfl) (s_L_below (x >>> (9 &&& 31)) 2 (by omega) (by omega)) ?_
  have hbz : bl (x >>> (9 &&& 31)) 2 < 2 := bl_lt _ (by omega)
  generalize bl (x >>> (9 &&& 31)) 2 = z at hbz ⊢
  by_cases hz : z = 0
  · skip
    refine j_if_ne_f (tgt := 633) dL_act_624 (by decide) (nI_eq' (by omega)) ?_
    refine j_sipush (v := nI 999) dL_act_627 (by decide) ?_
    refine j_goto (tgt := 635) dL_act_630 (by decide) ?_
    refine j_cS (As := [.int (x >>> (6 &&& 31)), .int (nI 999)]) (rest := [.int (nI 1)]) cm_L_below ct_L_below ln_L_19 dL_act_635 (d' := 0) (by decide) rfl rfl (Nat.le_of_ble_eq_true rfl) (Nat.le_of_ble_eq_true rfl) (s_L_below (x >>> (6 &&& 31)) 999 (by omega) (by omega)) ?_
    have hby : bl (x >>> (6 &&& 31)) 999 < 999 := bl_lt _ (by omega)
    generalize bl (x >>> (6 &&& 31)) 999 = y at hby ⊢
    refine j_iadd dL_act_638 ?_
    refine j_topi (y := nI (1 + y)) (nI_add _ _) ?_
    refine j_istore (L' := [some (.ref (ad 0)), some (.ref (ad 63)), some (.int x), some (.int (nI F)), some (.int (nI S)), some (.int (nI f)), some (.int (nI s)), some (.int dp), some (.int 1), some (.int (nI (1 + y))), none, none, none]) dL_act_639 (by decide) rfl rfl ?_
    have ht : 1 ≤ 1 + y ∧ 1 + y ≤ 999 := by omega
    generalize 1 + y = t9 at ht ⊢
    show J g mL_act 11 60 1200 641 [some (.ref (ad 0)), some (.ref (ad 63)), some (.int x), some (.int (nI F)), some (.int (nI S)), some (.int (nI f)), some (.int (nI s)), some (.int dp), some (.int 1), some (.int (nI t9)), none, none, none] [] n ad E Φ Ψ
    refine j_iconst (v := 0) dL_act_641 (by decide) ?_
    refine j_istore (L' := [some (.ref (ad 0)), some (.ref (ad 63)), some (.int x), some (.int (nI F)), some (.int (nI S)), some (.int (nI f)), some (.int (nI s)), some (.int dp), some (.int 1), some (.int (nI t9)), some (.int 0), none, none]) dL_act_642 (by decide) rfl rfl ?_
    refine j_aload_n dL_act_644 rfl ?_
    refine j_bud (bc' := F + 1 + (1 + 0) + 50) (bs' := F * S + F + (31 + 0) + 1000) (by omega) (by omega) ?_
    refine j_callV (As := []) (rest := []) (d' := 4) (Φ' := OS n ad E (fun n9 a9 E9 => SR g n9 a9 E9 F S su hrs gone m e (keC cnt) (keA cnt A m) mc B)) (Ψ' := fun _ _ _ _ => False) cm_X4_keep ci_X4_keep cs_X4_keep rfl ln_L_33 (ci := 4) rfl dL_act_645 (by decide) hwn0 hw0 rfl rfl (Nat.le_of_ble_eq_true rfl) (Nat.le_of_ble_eq_true rfl) (c_X4_keep R hcn _) (fun v1 n1 a1 E1 q1 => ?_) (fun _ _ _ _ q => q.elim)
    obtain ⟨hv1, hn1, g1, e1, R1⟩ := q1
    subst hv1
    rw [keC_eq hcn] at R1
    rw [← g1 0 (by omega), ← g1 63 (by omega)]
    have C1 := C.tr63 (n' := n1) (ad' := a1) (E' := E1) (by omega) (fun k hk => g1 k (by omega)) (fun k hk => e1 k (by omega) (by omega))
    obtain ⟨iL1, iE1, r1, ia1, im1, X1⟩ := id R1
    replace X1 : SX g n1 a1 E1 iL1 iE1 r1 ia1 im1 F S su hrs gone m e (kCnt cnt) (keA cnt A m) mc B := X1
    obtain ⟨V1, ⟨lL1, lE1, lr1⟩, K11, K21⟩ := id X1
    obtain ⟨⟨hwn1, hLn1, hEn1, hrn1⟩, ⟨hwL1, hwE1, hLE1, hrA1⟩, hri1, hw1, hL1, hE1, hR1, -⟩ := id V1
    show J g mL_act 11 50 1000 648 [some (.ref (a1 0)), some (.ref (a1 63)), some (.int x), some (.int (nI F)), some (.int (nI S)), some (.int (nI f)), some (.int (nI s)), some (.int dp), some (.int 1), some (.int (nI t9)), some (.int 0), none, none] [] n1 a1 E1 Φ Ψ
    refine j_iconst (v := nI 0) dL_act_648 (by decide) ?_
    refine j_istore (L' := [some (.ref (a1 0)), some (.ref (a1 63)), some (.int x), some (.int (nI F)), some (.int (nI S)), some (.int (nI f)), some (.int (nI s)), some (.int dp), some (.int 1), some (.int (nI t9)), some (.int 0), some (.int (nI 0)), none]) dL_act_649 (by decide) rfl rfl ?_
    have tail : ∀ E9 : Nat → va_E, (CR g n1 a1 E9 F S hrs su gone lv ed old cnt dr mc mr ∧ SX g n1 a1 E9 iL1 iE1 r1 ia1 im1 F S su hrs gone (mup m f ((blR (nI t9) S (m f)).2)) e (kCnt cnt) (keA cnt A m) mc B) → J g mL_act 11 50 1000 747 [some (.ref (a1 0)), some (.ref (a1 63)), some (.int x), some (.int (nI F)), some (.int (nI S)), some (.int (nI f)), some (.int (nI s)), some (.int dp), some (.int 1), some (.int (nI t9)), some (.int ((blR (nI t9) S (m f)).1)), none, none] [] n1 a1 E9 Φ Ψ := by
      intro E4 q4
      have C4 := q4.1
      have X4 := q4.2
      obtain ⟨V4, ⟨lL4, lE4, lr4⟩, K14, K24⟩ := id X4
      obtain ⟨⟨hwn4, hLn4, hEn4, hrn4⟩, ⟨hwL4, hwE4, hLE4, hrA4⟩, hri4, hw4, hL4, hE4, hR4, -⟩ := id V4
      show J g mL_act 11 50 1000 747 [some (.ref (a1 0)), some (.ref (a1 63)), some (.int x), some (.int (nI F)), some (.int (nI S)), some (.int (nI f)), some (.int (nI s)), some (.int dp), some (.int 1), some (.int (nI t9)), some (.int ((blR (nI t9) S (m f)).1)), none, none] [] n1 a1 E4 Φ Ψ
      refine j_aload_n dL_act_747 rfl ?_
      refine j_iload dL_act_748 rfl ?_
      refine j_iload dL_act_750 rfl ?_
      refine j_cVp (As := [.int (nI f), .int (nI t9)]) (rest := []) cm_X3_bail ci_X3_bail cs_X3_bail rfl ln_L_53 (ci := 3) rfl dL_act_752 (d' := 8) (by decide) (by omega) C4.1 rfl rfl (Nat.le_of_ble_eq_true rfl) (Nat.le_of_ble_eq_true rfl) (s_X3_bail C4 f hf (nI t9) (i999' ht.1 ht.2).1.1 (i999' ht.1 ht.2).1.2) (fun E5 q5 => ?_)
      show J g mL_act 11 50 1000 755 [some (.ref (a1 0)), some (.ref (a1 63)), some (.int x), some (.int (nI F)), some (.int (nI S)), some (.int (nI f)), some (.int (nI s)), some (.int dp), some (.int 1), some (.int (nI t9)), some (.int ((blR (nI t9) S (m f)).1)), none, none] [.int ((bailR lv S f (nI t9)).1)] n1 a1 E5 Φ Ψ
      have X5 := X4.tr (Nat.le_refl _) (fun _ _ => rfl) (fun k hk _ => q5.2 k hk)
      obtain ⟨V5, ⟨lL5, lE5, lr5⟩, K15, K25⟩ := id X5
      obtain ⟨⟨hwn5, hLn5, hEn5, hrn5⟩, ⟨hwL5, hwE5, hLE5, hrA5⟩, hri5, hw5, hL5, hE5, hR5, -⟩ := id V5
      have be := bl_eq L.1 hf (i999' ht.1 ht.2).2.1
      refine j_iload dL_act_755 rfl ?_
      refine j_icmp_ne_f (tgt := 764) dL_act_757 (by decide) be.1 ?_
      refine j_iconst (v := 1) dL_act_760 (by decide) ?_
      refine j_goto (tgt := 765) dL_act_761 (by decide) ?_
      exact j_zret dL_act_765 rfl rfl (K _ _ _ hn1 g1 ⟨F, S, hrs, su, gone, (bailR lv S f (nI t9)).2, ed, kOld old cnt, kCnt cnt, rowUp dr (kSlot old cnt) (cpyN lv (dr (kSlot old cnt)) (F * S)), mc, mr, mup m f (blR (nI t9) S (m f)).2, e, keA cnt A m, B, q5.1, X5.sr, L.keep hold hcn be.2 ((bail_bd hf (i999' ht.1 ht.2).2.1 (i999' ht.1 ht.2).2.2 (by omega) (by omega) (by omega) (by omega) L.2.2.1).le (by omega) (by omega))⟩)
    suffices hall : ∀ E9 : Nat → va_E, (CR g n1 a1 E9 F S hrs su gone lv ed old cnt dr mc mr ∧ SX g n1 a1 E9 iL1 iE1 r1 ia1 im1 F S su hrs gone (mup m f (m f)) e (kCnt cnt) (keA cnt A m) mc B) → J g mL_act 11 50 1000 651 [some (.ref (a1 0)), some (.ref (a1 63)), some (.int x), some (.int (nI F)), some (.int (nI S)), some (.int (nI f)), some (.int (nI s)), some (.int dp), some (.int 1), some (.int (nI t9)), some (.int 0), some (.int (nI 0)), none] [] n1 a1 E9 Φ Ψ from hall E1 ⟨C1, mup_self.symm ▸ X1⟩
    refine lpe_ind (b := fun (k : Nat) (y : Int32 × (Nat → Int32)) => if y.1 < nI t9 then (.inl (blB (nI t9) k y) : (Int32 × (Nat → Int32)) ⊕ (Int32 × (Nat → Int32))) else .inr y) (P := fun (k : Nat) (y : Int32 × (Nat → Int32)) => ∀ E9 : Nat → va_E, (CR g n1 a1 E9 F S hrs su gone lv ed old cnt dr mc mr ∧ SX g n1 a1 E9 iL1 iE1 r1 ia1 im1 F S su hrs gone (mup m f y.2) e (kCnt cnt) (keA cnt A m) mc B) → J g mL_act 11 50 1000 651 [some (.ref (a1 0)), some (.ref (a1 63)), some (.int x), some (.int (nI F)), some (.int (nI S)), some (.int (nI f)), some (.int (nI s)), some (.int dp), some (.int 1), some (.int (nI t9)), some (.int y.1), some (.int (nI k)), none] [] n1 a1 E9 Φ Ψ) (Pb := fun (y : Int32 × (Nat → Int32)) => ∀ E9 : Nat → va_E, (CR g n1 a1 E9 F S hrs su gone lv ed old cnt dr mc mr ∧ SX g n1 a1 E9 iL1 iE1 r1 ia1 im1 F S su hrs gone (mup m f y.2) e (kCnt cnt) (keA cnt A m) mc B) → J g mL_act 11 50 1000 747 [some (.ref (a1 0)), some (.ref (a1 63)), some (.int x), some (.int (nI F)), some (.int (nI S)), some (.int (nI f)), some (.int (nI s)), some (.int dp), some (.int 1), some (.int (nI t9)), some (.int y.1), none, none] [] n1 a1 E9 Φ Ψ) (N := S) 0 ?_ S ((0, m f) : Int32 × (Nat → Int32)) (by omega) ?_
    · intro k y9 hk0 hk ih E2 q2
      obtain ⟨b9, h9⟩ := y9
      have C2 := q2.1
      have X2 := q2.2
      obtain ⟨V2, ⟨lL2, lE2, lr2⟩, K12, K22⟩ := id X2
      obtain ⟨⟨hwn2, hLn2, hEn2, hrn2⟩, ⟨hwL2, hwE2, hLE2, hrA2⟩, hri2, hw2, hL2, hE2, hR2, -⟩ := id V2
      have hf2 := hR2 f hf
      rw [mup_at] at hf2
      show J g mL_act 11 50 1000 651 [some (.ref (a1 0)), some (.ref (a1 63)), some (.int x), some (.int (nI F)), some (.int (nI S)), some (.int (nI f)), some (.int (nI s)), some (.int dp), some (.int 1), some (.int (nI t9)), some (.int b9), some (.int (nI k)), none] [] n1 a1 E2 Φ Ψ
      by_cases hc : ¬ b9 < nI t9
      · skip
        refine j_iload dL_act_651 rfl ?_
        refine j_iload dL_act_653 rfl ?_
        refine j_icmp_ge_f (tgt := 747) dL_act_655 (by decide) (nI_nle' (by omega) (by omega) (by omega)) ?_
        refine j_iload dL_act_658 rfl ?_
        refine j_iload dL_act_660 rfl ?_
        refine j_icmp_ge_t (tgt := 747) dL_act_662 (by decide) (Int32.not_lt.mp hc) ?_
        refine j_clr 11 ?_
        exact ih (.inr (b9, h9)) (by show _ = (if b9 < nI t9 then (.inl (blB (nI t9) k (b9, h9)) : (Int32 × (Nat → Int32)) ⊕ (Int32 × (Nat → Int32))) else .inr (b9, h9)); rw [if_neg hc]) _ q2
      · skip
        replace hc := Decidable.not_not.mp hc
        by_cases hv : h9 k ≤ 0
        · skip
          refine j_iload dL_act_651 rfl ?_
          refine j_iload dL_act_653 rfl ?_
          refine j_icmp_ge_f (tgt := 747) dL_act_655 (by decide) (nI_nle' (by omega) (by omega) (by omega)) ?_
          refine j_iload dL_act_658 rfl ?_
          refine j_iload dL_act_660 rfl ?_
          refine j_icmp_ge_f (tgt := 747) dL_act_662 (by decide) (Int32.not_le.mpr hc) ?_
          refine j_aload_n dL_act_665 rfl ?_
          refine j_get fl_L_9 dL_act_666 hwn2 hw2 rfl ?_
          refine j_iload dL_act_669 rfl ?_
          refine j_aald (a := (a1 (r1 f))) dL_act_671 hLn2 hL2 (by omega) hf (if_pos hf) ?_
          refine j_iload dL_act_672 rfl ?_
          refine j_iald dL_act_674 (hrn2 f hf) hf2 (by omega) hk rfl ?_
          refine j_if_gt_f (tgt := 681) dL_act_675 (by decide) (Int32.not_lt.mpr hv) ?_
          refine j_goto (tgt := 741) dL_act_678 (by decide) ?_
          refine j_iinc (v := nI (k + 1)) (L' := [some (.ref (a1 0)), some (.ref (a1 63)), some (.int x), some (.int (nI F)), some (.int (nI S)), some (.int (nI f)), some (.int (nI s)), some (.int dp), some (.int 1), some (.int (nI t9)), some (.int b9), some (.int (nI (k + 1))), none]) dL_act_741 (by decide) rfl (nI_1 _) rfl rfl ?_
          refine j_goto (tgt := 651) dL_act_744 (by decide) ?_
          exact ih (.inl (b9, h9)) (by show _ = (if b9 < nI t9 then (.inl (blB (nI t9) k (b9, h9)) : (Int32 × (Nat → Int32)) ⊕ (Int32 × (Nat → Int32))) else .inr (b9, h9)); rw [if_pos hc, blB_0 hv]) _ q2
        · skip
          by_cases hm : h9 k < nI t9 - b9
          · skip
            refine j_iload dL_act_651 rfl ?_
            refine j_iload dL_act_653 rfl ?_
            refine j_icmp_ge_f (tgt := 747) dL_act_655 (by decide) (nI_nle' (by omega) (by omega) (by omega)) ?_
            refine j_iload dL_act_658 rfl ?_
            refine j_iload dL_act_660 rfl ?_
            refine j_icmp_ge_f (tgt := 747) dL_act_662 (by decide) (Int32.not_le.mpr hc) ?_
            refine j_aload_n dL_act_665 rfl ?_
            refine j_get fl_L_9 dL_act_666 hwn2 hw2 rfl ?_
            refine j_iload dL_act_669 rfl ?_
            refine j_aald (a := (a1 (r1 f))) dL_act_671 hLn2 hL2 (by omega) hf (if_pos hf) ?_
            refine j_iload dL_act_672 rfl ?_
            refine j_iald dL_act_674 (hrn2 f hf) hf2 (by omega) hk rfl ?_
            refine j_if_gt_t (tgt := 681) dL_act_675 (by decide) (Int32.not_le.mp hv) ?_
            refine j_aload_n dL_act_681 rfl ?_
            refine j_get fl_L_9 dL_act_682 hwn2 hw2 rfl ?_
            refine j_iload dL_act_685 rfl ?_
            refine j_aald (a := (a1 (r1 f))) dL_act_687 hLn2 hL2 (by omega) hf (if_pos hf) ?_
            refine j_iload dL_act_688 rfl ?_
            refine j_iald dL_act_690 (hrn2 f hf) hf2 (by omega) hk rfl ?_
            refine j_iload dL_act_691 rfl ?_
            refine j_iload dL_act_693 rfl ?_
            refine j_isub dL_act_695 ?_
            refine j_icmp_ge_f (tgt := 712) dL_act_696 (by decide) (Int32.not_le.mpr hm) ?_
            refine j_aload_n dL_act_699 rfl ?_
            refine j_get fl_L_9 dL_act_700 hwn2 hw2 rfl ?_
            refine j_iload dL_act_703 rfl ?_
            refine j_aald (a := (a1 (r1 f))) dL_act_705 hLn2 hL2 (by omega) hf (if_pos hf) ?_
            refine j_iload dL_act_706 rfl ?_
            refine j_iald dL_act_708 (hrn2 f hf) hf2 (by omega) hk rfl ?_
            refine j_goto (tgt := 717) dL_act_709 (by decide) ?_
            refine j_topi (y := (if h9 k < nI t9 - b9 then h9 k else nI t9 - b9)) (if_pos hm).symm ?_
            refine j_istore (L' := [some (.ref (a1 0)), some (.ref (a1 63)), some (.int x), some (.int (nI F)), some (.int (nI S)), some (.int (nI f)), some (.int (nI s)), some (.int dp), some (.int 1), some (.int (nI t9)), some (.int b9), some (.int (nI k)), some (.int (if h9 k < nI t9 - b9 then h9 k else nI t9 - b9))]) dL_act_717 (by decide) rfl rfl ?_
            refine j_aload_n dL_act_719 rfl ?_
            refine j_get fl_L_9 dL_act_720 hwn2 hw2 rfl ?_
            refine j_iload dL_act_723 rfl ?_
            refine j_aald (a := (a1 (r1 f))) dL_act_725 hLn2 hL2 (by omega) hf (if_pos hf) ?_
            refine j_iload dL_act_726 rfl ?_
            refine j_dup2 dL_act_728 rfl rfl ?_
            refine j_iald dL_act_729 (hrn2 f hf) hf2 (by omega) hk rfl ?_
            refine j_iload dL_act_730 rfl ?_
            refine j_isub dL_act_732 ?_
            refine j_iast (j := k) dL_act_733 (hrn2 f hf) hf2 (by omega) hk ?_
            show J g mL_act 11 50 1000 734 [some (.ref (a1 0)), some (.ref (a1 63)), some (.int x), some (.int (nI F)), some (.int (nI S)), some (.int (nI f)), some (.int (nI s)), some (.int dp), some (.int 1), some (.int (nI t9)), some (.int b9), some (.int (nI k)), some (.int (if h9 k < nI t9 - b9 then h9 k else nI t9 - b9))] [] n1 a1 (va_up E2 (r1 f) (aI g S (upd h9 k ((h9 k) - (if h9 k < nI t9 - b9 then h9 k else nI t9 - b9))))) Φ Ψ
            have Y6 := X2.row (h := upd h9 k (h9 k - (if h9 k < nI t9 - b9 then h9 k else nI t9 - b9))) hf
            have D6 : CR g n1 a1 (va_up E2 (r1 f) (aI g S (upd h9 k ((h9 k) - (if h9 k < nI t9 - b9 then h9 k else nI t9 - b9))))) F S hrs su gone lv ed old cnt dr mc mr := C2.kept (fun k hk => up_ne (by have := lr2 f hf; omega))
            generalize va_up E2 (r1 f) (aI g S (upd h9 k ((h9 k) - (if h9 k < nI t9 - b9 then h9 k else nI t9 - b9)))) = E6 at Y6 D6 ⊢
            rw [mup_mup] at Y6
            refine j_iload dL_act_734 rfl ?_
            refine j_iload dL_act_736 rfl ?_
            refine j_iadd dL_act_738 ?_
            refine j_istore (L' := [some (.ref (a1 0)), some (.ref (a1 63)), some (.int x), some (.int (nI F)), some (.int (nI S)), some (.int (nI f)), some (.int (nI s)), some (.int dp), some (.int 1), some (.int (nI t9)), some (.int (b9 + (if h9 k < nI t9 - b9 then h9 k else nI t9 - b9))), some (.int (nI k)), some (.int (if h9 k < nI t9 - b9 then h9 k else nI t9 - b9))]) dL_act_739 (by decide) rfl rfl ?_
            refine j_iinc (v := nI (k + 1)) (L' := [some (.ref (a1 0)), some (.ref (a1 63)), some (.int x), some (.int (nI F)), some (.int (nI S)), some (.int (nI f)), some (.int (nI s)), some (.int dp), some (.int 1), some (.int (nI t9)), some (.int (b9 + (if h9 k < nI t9 - b9 then h9 k else nI t9 - b9))), some (.int (nI (k + 1))), some (.int (if h9 k < nI t9 - b9 then h9 k else nI t9 - b9))]) dL_act_741 (by decide) rfl (nI_1 _) rfl rfl ?_
            refine j_goto (tgt := 651) dL_act_744 (by decide) ?_
            refine j_clr 12 ?_
            exact ih (.inl (b9 + (if h9 k < nI t9 - b9 then h9 k else nI t9 - b9), upd h9 k (h9 k - (if h9 k < nI t9 - b9 then h9 k else nI t9 - b9)))) (by show _ = (if b9 < nI t9 then (.inl (blB (nI t9) k (b9, h9)) : (Int32 × (Nat → Int32)) ⊕ (Int32 × (Nat → Int32))) else .inr (b9, h9)); rw [if_pos hc, blB_1 hv]) _ ⟨D6, Y6⟩
          · skip
            refine j_iload dL_act_651 rfl ?_
            refine j_iload dL_act_653 rfl ?_
            refine j_icmp_ge_f (tgt := 747) dL_act_655 (by decide) (nI_nle' (by omega) (by omega) (by omega)) ?_
            refine j_iload dL_act_658 rfl ?_
            refine j_iload dL_act_660 rfl ?_
            refine j_icmp_ge_f (tgt := 747) dL_act_662 (by decide) (Int32.not_le.mpr hc) ?_
            refine j_aload_n dL_act_665 rfl ?_
            refine j_get fl_L_9 dL_act_666 hwn2 hw2 rfl ?_
            refine j_iload dL_act_669 rfl ?_
            refine j_aald (a := (a1 (r1 f))) dL_act_671 hLn2 hL2 (by omega) hf (if_pos hf) ?_
            refine j_iload dL_act_672 rfl ?_
            refine j_iald dL_act_674 (hrn2 f hf) hf2 (by omega) hk rfl ?_
            refine j_if_gt_t (tgt := 681) dL_act_675 (by decide) (Int32.not_le.mp hv) ?_
            refine j_aload_n dL_act_681 rfl ?_
            refine j_get fl_L_9 dL_act_682 hwn2 hw2 rfl ?_
            refine j_iload dL_act_685 rfl ?_
            refine j_aald (a := (a1 (r1 f))) dL_act_687 hLn2 hL2 (by omega) hf (if_pos hf) ?_
            refine j_iload dL_act_688 rfl ?_
            refine j_iald dL_act_690 (hrn2 f hf) hf2 (by omega) hk rfl ?_
            refine j_iload dL_act_691 rfl ?_
            refine j_iload dL_act_693 rfl ?_
            refine j_isub dL_act_695 ?_
            refine j_icmp_ge_t (tgt := 712) dL_act_696 (by decide) (Int32.not_lt.mp hm) ?_
            refine j_iload dL_act_712 rfl ?_
            refine j_iload dL_act_714 rfl ?_
            refine j_isub dL_act_716 ?_
            refine j_topi (y := (if h9 k < nI t9 - b9 then h9 k else nI t9 - b9)) (if_neg hm).symm ?_
            refine j_istore (L' := [some (.ref (a1 0)), some (.ref (a1 63)), some (.int x), some (.int (nI F)), some (.int (nI S)), some (.int (nI f)), some (.int (nI s)), some (.int dp), some (.int 1), some (.int (nI t9)), some (.int b9), some (.int (nI k)), some (.int (if h9 k < nI t9 - b9 then h9 k else nI t9 - b9))]) dL_act_717 (by decide) rfl rfl ?_
            refine j_aload_n dL_act_719 rfl ?_
            refine j_get fl_L_9 dL_act_720 hwn2 hw2 rfl ?_
            refine j_iload dL_act_723 rfl ?_
            refine j_aald (a := (a1 (r1 f))) dL_act_725 hLn2 hL2 (by omega) hf (if_pos hf) ?_
            refine j_iload dL_act_726 rfl ?_
            refine j_dup2 dL_act_728 rfl rfl ?_
            refine j_iald dL_act_729 (hrn2 f hf) hf2 (by omega) hk rfl ?_
            refine j_iload dL_act_730 rfl ?_
            refine j_isub dL_act_732 ?_
            refine j_iast (j := k) dL_act_733 (hrn2 f hf) hf2 (by omega) hk ?_
            show J g mL_act 11 50 1000 734 [some (.ref (a1 0)), some (.ref (a1 63)), some (.int x), some (.int (nI F)), some (.int (nI S)), some (.int (nI f)), some (.int (nI s)), some (.int dp), some (.int 1), some (.int (nI t9)), some (.int b9), some (.int (nI k)), some (.int (if h9 k < nI t9 - b9 then h9 k else nI t9 - b9))] [] n1 a1 (va_up E2 (r1 f) (aI g S (upd h9 k ((h9 k) - (if h9 k < nI t9 - b9 then h9 k else nI t9 - b9))))) Φ Ψ
            have Y6 := X2.row (h := upd h9 k (h9 k - (if h9 k < nI t9 - b9 then h9 k else nI t9 - b9))) hf
            have D6 : CR g n1 a1 (va_up E2 (r1 f) (aI g S (upd h9 k ((h9 k) - (if h9 k < nI t9 - b9 then h9 k else nI t9 - b9))))) F S hrs su gone lv ed old cnt dr mc mr := C2.kept (fun k hk => up_ne (by have := lr2 f hf; omega))
            generalize va_up E2 (r1 f) (aI g S (upd h9 k ((h9 k) - (if h9 k < nI t9 - b9 then h9 k else nI t9 - b9)))) = E6 at Y6 D6 ⊢
            rw [mup_mup] at Y6
            refine j_iload dL_act_734 rfl ?_
            refine j_iload dL_act_736 rfl ?_
            refine j_iadd dL_act_738 ?_
            refine j_istore (L' := [some (.ref (a1 0)), some (.ref (a1 63)), some (.int x), some (.int (nI F)), some (.int (nI S)), some (.int (nI f)), some (.int (nI s)), some (.int dp), some (.int 1), some (.int (nI t9)), some (.int (b9 + (if h9 k < nI t9 - b9 then h9 k else nI t9 - b9))), some (.int (nI k)), some (.int (if h9 k < nI t9 - b9 then h9 k else nI t9 - b9))]) dL_act_739 (by decide) rfl rfl ?_
            refine j_iinc (v := nI (k + 1)) (L' := [some (.ref (a1 0)), some (.ref (a1 63)), some (.int x), some (.int (nI F)), some (.int (nI S)), some (.int (nI f)), some (.int (nI s)), some (.int dp), some (.int 1), some (.int (nI t9)), some (.int (b9 + (if h9 k < nI t9 - b9 then h9 k else nI t9 - b9))), some (.int (nI (k + 1))), some (.int (if h9 k < nI t9 - b9 then h9 k else nI t9 - b9))]) dL_act_741 (by decide) rfl (nI_1 _) rfl rfl ?_
            refine j_goto (tgt := 651) dL_act_744 (by decide) ?_
            refine j_clr 12 ?_
            exact ih (.inl (b9 + (if h9 k < nI t9 - b9 then h9 k else nI t9 - b9), upd h9 k (h9 k - (if h9 k < nI t9 - b9 then h9 k else nI t9 - b9)))) (by show _ = (if b9 < nI t9 then (.inl (blB (nI t9) k (b9, h9)) : (Int32 × (Nat → Int32)) ⊕ (Int32 × (Nat → Int32))) else .inr (b9, h9)); rw [if_pos hc, blB_1 hv]) _ ⟨D6, Y6⟩
    · have hg := lpe_guard (c := fun (y : Int32 × (Nat → Int32)) => y.1 < nI t9) (s := blB (nI t9)) S 0 (0, m f)
      rcases hu : lpe (fun (k : Nat) (y : Int32 × (Nat → Int32)) => if y.1 < nI t9 then (.inl (blB (nI t9) k y) : (Int32 × (Nat → Int32)) ⊕ (Int32 × (Nat → Int32))) else .inr y) 0 S (0, m f) with y9 | y9
      · rw [hu] at hg
        have hy : y9 = (blR (nI t9) S (m f)) := hg
        subst hy
        intro E2 q2
        have X2 := q2.2
        obtain ⟨V2, ⟨lL2, lE2, lr2⟩, K12, K22⟩ := id X2
        obtain ⟨⟨hwn2, hLn2, hEn2, hrn2⟩, ⟨hwL2, hwE2, hLE2, hrA2⟩, hri2, hw2, hL2, hE2, hR2, -⟩ := id V2
        show J g mL_act 11 50 1000 651 [some (.ref (a1 0)), some (.ref (a1 63)), some (.int x), some (.int (nI F)), some (.int (nI S)), some (.int (nI f)), some (.int (nI s)), some (.int dp), some (.int 1), some (.int (nI t9)), some (.int ((blR (nI t9) S (m f)).1)), some (.int (nI S)), none] [] n1 a1 E2 Φ Ψ
        refine j_iload dL_act_651 rfl ?_
        refine j_iload dL_act_653 rfl ?_
        refine j_icmp_ge_t (tgt := 747) dL_act_655 (by decide) (nI_le' (by omega) (by omega) (by omega)) ?_
        refine j_clr 11 ?_
        exact tail E2 q2
      · rw [hu] at hg
        have hy : y9 = (blR (nI t9) S (m f)) := hg
        subst hy
        exact tail
  · skip
    refine j_if_ne_t (tgt := 633) dL_act_624 (by decide) (nI_ne0 (by omega) (by omega)) ?_
    refine j_bipush (v := nI 60) dL_act_633 (by decide) ?_
    refine j_cS (As := [.int (x >>> (6 &&& 31)), .int (nI 60)]) (rest := [.int (nI 1)]) cm_L_below ct_L_below ln_L_19 dL_act_635 (d' := 0) (by decide) rfl rfl (Nat.le_of_ble_eq_true rfl) (Nat.le_of_ble_eq_true rfl) (s_L_below (x >>> (6 &&& 31)) 60 (by omega) (by omega)) ?_
    have hby : bl (x >>> (6 &&& 31)) 60 < 60 := bl_lt _ (by omega)
    generalize bl (x >>> (6 &&& 31)) 60 = y at hby ⊢
    refine j_iadd dL_act_638 ?_
    refine j_topi (y := nI (1 + y)) (nI_add _ _) ?_
    refine j_istore (L' := [some (.ref (ad 0)), some (.ref (ad 63)), some (.int x), some (.int (nI F)), some (.int (nI S)), some (.int (nI f)), some (.int (nI s)), some (.int dp), some (.int 1), some (.int (nI (1 + y))), none, none, none]) dL_act_639 (by decide) rfl rfl ?_
    have ht : 1 ≤ 1 + y ∧ 1 + y ≤ 999 := by omega
    generalize 1 + y = t9 at ht ⊢
    show J g mL_act 11 60 1200 641 [some (.ref (ad 0)), some (.ref (ad 63)), some (.int x), some (.int (nI F)), some (.int (nI S)), some (.int (nI f)), some (.int (nI s)), some (.int dp), some (.int 1), some (.int (nI t9)), none, none, none] [] n ad E Φ Ψ
    refine j_iconst (v := 0) dL_act_641 (by decide) ?_
    refine j_istore (L' := [some (.ref (ad 0)), some (.ref (ad 63)), some (.int x), some (.int (nI F)), some (.int (nI S)), some (.int (nI f)), some (.int (nI s)), some (.int dp), some (.int 1), some (.int (nI t9)), some (.int 0), none, none]) dL_act_642 (by decide) rfl rfl ?_
    refine j_aload_n dL_act_644 rfl ?_
    refine j_bud (bc' := F + 1 + (1 + 0) + 50) (bs' := F * S + F + (31 + 0) + 1000) (by omega) (by omega) ?_
    refine j_callV (As := []) (rest := []) (d' := 4) (Φ' := OS n ad E (fun n9 a9 E9 => SR g n9 a9 E9 F S su hrs gone m e (keC cnt) (keA cnt A m) mc B)) (Ψ' := fun _ _ _ _ => False) cm_X4_keep ci_X4_keep cs_X4_keep rfl ln_L_33 (ci := 4) rfl dL_act_645 (by decide) hwn0 hw0 rfl rfl (Nat.le_of_ble_eq_true rfl) (Nat.le_of_ble_eq_true rfl) (c_X4_keep R hcn _) (fun v1 n1 a1 E1 q1 => ?_) (fun _ _ _ _ q => q.elim)
    obtain ⟨hv1, hn1, g1, e1, R1⟩ := q1
    subst hv1
    rw [keC_eq hcn] at R1
    rw [← g1 0 (by omega), ← g1 63 (by omega)]
    have C1 := C.tr63 (n' := n1) (ad' := a1) (E' := E1) (by omega) (fun k hk => g1 k (by omega)) (fun k hk => e1 k (by omega) (by omega))
    obtain ⟨iL1, iE1, r1, ia1, im1, X1⟩ := id R1
    replace X1 : SX g n1 a1 E1 iL1 iE1 r1 ia1 im1 F S su hrs gone m e (kCnt cnt) (keA cnt A m) mc B := X1
    obtain ⟨V1, ⟨lL1, lE1, lr1⟩, K11, K21⟩ := id X1
    obtain ⟨⟨hwn1, hLn1, hEn1, hrn1⟩, ⟨hwL1, hwE1, hLE1, hrA1⟩, hri1, hw1, hL1, hE1, hR1, -⟩ := id V1
    show J g mL_act 11 50 1000 648 [some (.ref (a1 0)), some (.ref (a1 63)), some (.int x), some (.int (nI F)), some (.int (nI S)), some (.int (nI f)), some (.int (nI s)), some (.int dp), some (.int 1), some (.int (nI t9)), some (.int 0), none, none] [] n1 a1 E1 Φ Ψ
    refine j_iconst (v := nI 0) dL_act_648 (by decide) ?_
    refine j_istore (L' := [some (.ref (a1 0)), some (.ref (a1 63)), some (.int x), some (.int (nI F)), some (.int (nI S)), some (.int (nI f)), some (.int (nI s)), some (.int dp), some (.int 1), some (.int (nI t9)), some (.int 0), some (.int (nI 0)), none]) dL_act_649 (by decide) rfl rfl ?_
    have tail : ∀ E9 : Nat → va_E, (CR g n1 a1 E9 F S hrs su gone lv ed old cnt dr mc mr ∧ SX g n1 a1 E9 iL1 iE1 r1 ia1 im1 F S su hrs gone (mup m f ((blR (nI t9) S (m f)).2)) e (kCnt cnt) (keA cnt A m) mc B) → J g mL_act 11 50 1000 747 [some (.ref (a1 0)), some (.ref (a1 63)), some (.int x), some (.int (nI F)), some (.int (nI S)), some (.int (nI f)), some (.int (nI s)), some (.int dp), some (.int 1), some (.int (nI t9)), some (.int ((blR (nI t9) S (m f)).1)), none, none] [] n1 a1 E9 Φ Ψ := by
      intro E4 q4
      have C4 := q4.1
      have X4 := q4.2
      obtain ⟨V4, ⟨lL4, lE4, lr4⟩, K14, K24⟩ := id X4
      obtain ⟨⟨hwn4, hLn4, hEn4, hrn4⟩, ⟨hwL4, hwE4, hLE4, hrA4⟩, hri4, hw4, hL4, hE4, hR4, -⟩ := id V4
      show J g mL_act 11 50 1000 747 [some (.ref (a1 0)), some (.ref (a1 63)), some (.int x), some (.int (nI F)), some (.int (nI S)), some (.int (nI f)), some (.int (nI s)), some (.int dp), some (.int 1), some (.int (nI t9)), some (.int ((blR (nI t9) S (m f)).1)), none, none] [] n1 a1 E4 Φ Ψ
      refine j_aload_n dL_act_747 rfl ?_
      refine j_iload dL_act_748 rfl ?_
      refine j_iload dL_act_750 rfl ?_
      refine j_cVp (As := [.int (nI f), .int (nI t9)]) (rest := []) cm_X3_bail ci_X3_bail cs_X3_bail rfl ln_L_53 (ci := 3) rfl dL_act_752 (d' := 8) (by decide) (by omega) C4.1 rfl rfl (Nat.le_of_ble_eq_true rfl) (Nat.le_of_ble_eq_true rfl) (s_X3_bail C4 f hf (nI t9) (i999' ht.1 ht.2).1.1 (i999' ht.1 ht.2).1.2) (fun E5 q5 => ?_)
      show J g mL_act 11 50 1000 755 [some (.ref (a1 0)), some (.ref (a1 63)), some (.int x), some (.int (nI F)), some (.int (nI S)), some (.int (nI f)), some (.int (nI s)), some (.int dp), some (.int 1), some (.int (nI t9)), some (.int ((blR (nI t9) S (m f)).1)), none, none] [.int ((bailR lv S f (nI t9)).1)] n1 a1 E5 Φ Ψ
      have X5 := X4.tr (Nat.le_refl _) (fun _ _ => rfl) (fun k hk _ => q5.2 k hk)
      obtain ⟨V5, ⟨lL5, lE5, lr5⟩, K15, K25⟩ := id X5
      obtain ⟨⟨hwn5, hLn5, hEn5, hrn5⟩, ⟨hwL5, hwE5, hLE5, hrA5⟩, hri5, hw5, hL5, hE5, hR5, -⟩ := id V5
      have be := bl_eq L.1 hf (i999' ht.1 ht.2).2.1
      refine j_iload dL_act_755 rfl ?_
      refine j_icmp_ne_f (tgt := 764) dL_act_757 (by decide) be.1 ?_
      refine j_iconst (v := 1) dL_act_760 (by decide) ?_
      refine j_goto (tgt := 765) dL_act_761 (by decide) ?_
      exact j_zret dL_act_765 rfl rfl (K _ _ _ hn1 g1 ⟨F, S, hrs, su, gone, (bailR lv S f (nI t9)).2, ed, kOld old cnt, kCnt cnt, rowUp dr (kSlot old cnt) (cpyN lv (dr (kSlot old cnt)) (F * S)), mc, mr, mup m f (blR (nI t9) S (m f)).2, e, keA cnt A m, B, q5.1, X5.sr, L.keep hold hcn be.2 ((bail_bd hf (i999' ht.1 ht.2).2.1 (i999' ht.1 ht.2).2.2 (by omega) (by omega) (by omega) (by omega) L.2.2.1).le (by omega) (by omega))⟩)
    suffices hall : ∀ E9 : Nat → va_E, (CR g n1 a1 E9 F S hrs su gone lv ed old cnt dr mc mr ∧ SX g n1 a1 E9 iL1 iE1 r1 ia1 im1 F S su hrs gone (mup m f (m f)) e (kCnt cnt) (keA cnt A m) mc B) → J g mL_act 11 50 1000 651 [some (.ref (a1 0)), some (.ref (a1 63)), some (.int x), some (.int (nI F)), some (.int (nI S)), some (.int (nI f)), some (.int (nI s)), some (.int dp), some (.int 1), some (.int (nI t9)), some (.int 0), some (.int (nI 0)), none] [] n1 a1 E9 Φ Ψ from hall E1 ⟨C1, mup_self.symm ▸ X1⟩
    refine lpe_ind (b := fun (k : Nat) (y : Int32 × (Nat → Int32)) => if y.1 < nI t9 then (.inl (blB (nI t9) k y) : (Int32 × (Nat → Int32)) ⊕ (Int32 × (Nat → Int32))) else .inr y) (P := fun (k : Nat) (y : Int32 × (Nat → Int32)) => ∀ E9 : Nat → va_E, (CR g n1 a1 E9 F S hrs su gone lv ed old cnt dr mc mr ∧ SX g n1 a1 E9 iL1 iE1 r1 ia1 im1 F S su hrs gone (mup m f y.2) e (kCnt cnt) (keA cnt A m) mc B) → J g mL_act 11 50 1000 651 [some (.ref (a1 0)), some (.ref (a1 63)), some (.int x), some (.int (nI F)), some (.int (nI S)), some (.int (nI f)), some (.int (nI s)), some (.int dp), some (.int 1), some (.int (nI t9)), some (.int y.1), some (.int (nI k)), none] [] n1 a1 E9 Φ Ψ) (Pb := fun (y : Int32 × (Nat → Int32)) => ∀ E9 : Nat → va_E, (CR g n1 a1 E9 F S hrs su gone lv ed old cnt dr mc mr ∧ SX g n1 a1 E9 iL1 iE1 r1 ia1 im1 F S su hrs gone (mup m f y.2) e (kCnt cnt) (keA cnt A m) mc B) → J g mL_act 11 50 1000 747 [some (.ref (a1 0)), some (.ref (a1 63)), some (.int x), some (.int (nI F)), some (.int (nI S)), some (.int (nI f)), some (.int (nI s)), some (.int dp), some (.int 1), some (.int (nI t9)), some (.int y.1), none, none] [] n1 a1 E9 Φ Ψ) (N := S) 0 ?_ S ((0, m f) : Int32 × (Nat → Int32)) (by omega) ?_
    · intro k y9 hk0 hk ih E2 q2
      obtain ⟨b9, h9⟩ := y9
      have C2 := q2.1
      have X2 := q2.2
      obtain ⟨V2, ⟨lL2, lE2, lr2⟩, K12, K22⟩ := id X2
      obtain ⟨⟨hwn2, hLn2, hEn2, hrn2⟩, ⟨hwL2, hwE2, hLE2, hrA2⟩, hri2, hw2, hL2, hE2, hR2, -⟩ := id V2
      have hf2 := hR2 f hf
      rw [mup_at] at hf2
      show J g mL_act 11 50 1000 651 [some (.ref (a1 0)), some (.ref (a1 63)), some (.int x), some (.int (nI F)), some (.int (nI S)), some (.int (nI f)), some (.int (nI s)), some (.int dp), some (.int 1), some (.int (nI t9)), some (.int b9), some (.int (nI k)), none] [] n1 a1 E2 Φ Ψ
      by_cases hc : ¬ b9 < nI t9
      · skip
        refine j_iload dL_act_651 rfl ?_
        refine j_iload dL_act_653 rfl ?_
        refine j_icmp_ge_f (tgt := 747) dL_act_655 (by decide) (nI_nle' (by omega) (by omega) (by omega)) ?_
        refine j_iload dL_act_658 rfl ?_
        refine j_iload dL_act_660 rfl ?_
        refine j_icmp_ge_t (tgt := 747) dL_act_662 (by decide) (Int32.not_lt.mp hc) ?_
        refine j_clr 11 ?_
        exact ih (.inr (b9, h9)) (by show _ = (if b9 < nI t9 then (.inl (blB (nI t9) k (b9, h9)) : (Int32 × (Nat → Int32)) ⊕ (Int32 × (Nat → Int32))) else .inr (b9, h9)); rw [if_neg hc]) _ q2
      · skip
        replace hc := Decidable.not_not.mp hc
        by_cases hv : h9 k ≤ 0
        · skip
          refine j_iload dL_act_651 rfl ?_
          refine j_iload dL_act_653 rfl ?_
          refine j_icmp_ge_f (tgt := 747) dL_act_655 (by decide) (nI_nle' (by omega) (by omega) (by omega)) ?_
          refine j_iload dL_act_658 rfl ?_
          refine j_iload dL_act_660 rfl ?_
          refine j_icmp_ge_f (tgt := 747) dL_act_662 (by decide) (Int32.not_le.mpr hc) ?_
          refine j_aload_n dL_act_665 rfl ?_
          refine j_get fl_L_9 dL_act_666 hwn2 hw2 rfl ?_
          refine j_iload dL_act_669 rfl ?_
          refine j_aald (a := (a1 (r1 f))) dL_act_671 hLn2 hL2 (by omega) hf (if_pos hf) ?_
          refine j_iload dL_act_672 rfl ?_
          refine j_iald dL_act_674 (hrn2 f hf) hf2 (by omega) hk rfl ?_
          refine j_if_gt_f (tgt := 681) dL_act_675 (by decide) (Int32.not_lt.mpr hv) ?_
          refine j_goto (tgt := 741) dL_act_678 (by decide) ?_
          refine j_iinc (v := nI (k + 1)) (L' := [some (.ref (a1 0)), some (.ref (a1 63)), some (.int x), some (.int (nI F)), some (.int (nI S)), some (.int (nI f)), some (.int (nI s)), some (.int dp), some (.int 1), some (.int (nI t9)), some (.int b9), some (.int (nI (k + 1))), none]) dL_act_741 (by decide) rfl (nI_1 _) rfl rfl ?_
          refine j_goto (tgt := 651) dL_act_744 (by decide) ?_
          exact ih (.inl (b9, h9)) (by show _ = (if b9 < nI t9 then (.inl (blB (nI t9) k (b9, h9)) : (Int32 × (Nat → Int32)) ⊕ (Int32 × (Nat → Int32))) else .inr (b9, h9)); rw [if_pos hc, blB_0 hv]) _ q2
        · skip
          by_cases hm : h9 k < nI t9 - b9
          · skip
            refine j_iload dL_act_651 rfl ?_
            refine j_iload dL_act_653 rfl ?_
            refine j_icmp_ge_f (tgt := 747) dL_act_655 (by decide) (nI_nle' (by omega) (by omega) (by omega)) ?_
            refine j_iload dL_act_658 rfl ?_
            refine j_iload dL_act_660 rfl ?_
            refine j_icmp_ge_f (tgt := 747) dL_act_662 (by decide) (Int32.not_le.mpr hc) ?_
            refine j_aload_n dL_act_665 rfl ?_
            refine j_get fl_L_9 dL_act_666 hwn2 hw2 rfl ?_
            refine j_iload dL_act_669 rfl ?_
            refine j_aald (a := (a1 (r1 f))) dL_act_671 hLn2 hL2 (by omega) hf (if_pos hf) ?_
            refine j_iload dL_act_672 rfl ?_
            refine j_iald dL_act_674 (hrn2 f hf) hf2 (by omega) hk rfl ?_
            refine j_if_gt_t (tgt := 681) dL_act_675 (by decide) (Int32.not_le.mp hv) ?_
            refine j_aload_n dL_act_681 rfl ?_
            refine j_get fl_L_9 dL_act_682 hwn2 hw2 rfl ?_
            refine j_iload dL_act_685 rfl ?_
            refine j_aald (a := (a1 (r1 f))) dL_act_687 hLn2 hL2 (by omega) hf (if_pos hf) ?_
            refine j_iload dL_act_688 rfl ?_
            refine j_iald dL_act_690 (hrn2 f hf) hf2 (by omega) hk rfl ?_
            refine j_iload dL_act_691 rfl ?_
            refine j_iload dL_act_693 rfl ?_
            refine j_isub dL_act_695 ?_
            refine j_icmp_ge_f (tgt := 712) dL_act_696 (by decide) (Int32.not_le.mpr hm) ?_
            refine j_aload_n dL_act_699 rfl ?_
            refine j_get fl_L_9 dL_act_700 hwn2 hw2 rfl ?_
            refine j_iload dL_act_703 rfl ?_
            refine j_aald (a := (a1 (r1 f))) dL_act_705 hLn2 hL2 (by omega) hf (if_pos hf) ?_
            refine j_iload dL_act_706 rfl ?_
            refine j_iald dL_act_708 (hrn2 f hf) hf2 (by omega) hk rfl ?_
            refine j_goto (tgt := 717) dL_act_709 (by decide) ?_
            refine j_topi (y := (if h9 k < nI t9 - b9 then h9 k else nI t9 - b9)) (if_pos hm).symm ?_
            refine j_istore (L' := [some (.ref (a1 0)), some (.ref (a1 63)), some (.int x), some (.int (nI F)), some (.int (nI S)), some (.int (nI f)), some (.int (nI s)), some (.int dp), some (.int 1), some (.int (nI t9)), some (.int b9), some (.int (nI k)), some (.int (if h9 k < nI t9 - b9 then h9 k else nI t9 - b9))]) dL_act_717 (by decide) rfl rfl ?_
            refine j_aload_n dL_act_719 rfl ?_
            refine j_get fl_L_9 dL_act_720 hwn2 hw2 rfl ?_
            refine j_iload dL_act_723 rfl ?_
            refine j_aald (a := (a1 (r1 f))) dL_act_725 hLn2 hL2 (by omega) hf (if_pos hf) ?_
            refine j_iload dL_act_726 rfl ?_
            refine j_dup2 dL_act_728 rfl rfl ?_
            refine j_iald dL_act_729 (hrn2 f hf) hf2 (by omega) hk rfl ?_
            refine j_iload dL_act_730 rfl ?_
            refine j_isub dL_act_732 ?_
            refine j_iast (j := k) dL_act_733 (hrn2 f hf) hf2 (by omega) hk ?_
            show J g mL_act 11 50 1000 734 [some (.ref (a1 0)), some (.ref (a1 63)), some (.int x), some (.int (nI F)), some (.int (nI S)), some (.int (nI f)), some (.int (nI s)), some (.int dp), some (.int 1), some (.int (nI t9)), some (.int b9), some (.int (nI k)), some (.int (if h9 k < nI t9 - b9 then h9 k else nI t9 - b9))] [] n1 a1 (va_up E2 (r1 f) (aI g S (upd h9 k ((h9 k) - (if h9 k < nI t9 - b9 then h9 k else nI t9 - b9))))) Φ Ψ
            have Y6 := X2.row (h := upd h9 k (h9 k - (if h9 k < nI t9 - b9 then h9 k else nI t9 - b9))) hf
            have D6 : CR g n1 a1 (va_up E2 (r1 f) (aI g S (upd h9 k ((h9 k) - (if h9 k < nI t9 - b9 then h9 k else nI t9 - b9))))) F S hrs su gone lv ed old cnt dr mc mr := C2.kept (fun k hk => up_ne (by have := lr2 f hf; omega))
            generalize va_up E2 (r1 f) (aI g S (upd h9 k ((h9 k) - (if h9 k < nI t9 - b9 then h9 k else nI t9 - b9)))) = E6 at Y6 D6 ⊢
            rw [mup_mup] at Y6
            refine j_iload dL_act_734 rfl ?_
            refine j_iload dL_act_736 rfl ?_
            refine j_iadd dL_act_738 ?_
            refine j_istore (L' := [some (.ref (a1 0)), some (.ref (a1 63)), some (.int x), some (.int (nI F)), some (.int (nI S)), some (.int (nI f)), some (.int (nI s)), some (.int dp), some (.int 1), some (.int (nI t9)), some (.int (b9 + (if h9 k < nI t9 - b9 then h9 k else nI t9 - b9))), some (.int (nI k)), some (.int (if h9 k < nI t9 - b9 then h9 k else nI t9 - b9))]) dL_act_739 (by decide) rfl rfl ?_
            refine j_iinc (v := nI (k + 1)) (L' := [some (.ref (a1 0)), some (.ref (a1 63)), some (.int x), some (.int (nI F)), some (.int (nI S)), some (.int (nI f)), some (.int (nI s)), some (.int dp), some (.int 1), some (.int (nI t9)), some (.int (b9 + (if h9 k < nI t9 - b9 then h9 k else nI t9 - b9))), some (.int (nI (k + 1))), some (.int (if h9 k < nI t9 - b9 then h9 k else nI t9 - b9))]) dL_act_741 (by decide) rfl (nI_1 _) rfl rfl ?_
            refine j_goto (tgt := 651) dL_act_744 (by decide) ?_
            refine j_clr 12 ?_
            exact ih (.inl (b9 + (if h9 k < nI t9 - b9 then h9 k else nI t9 - b9), upd h9 k (h9 k - (if h9 k < nI t9 - b9 then h9 k else nI t9 - b9)))) (by show _ = (if b9 < nI t9 then (.inl (blB (nI t9) k (b9, h9)) : (Int32 × (Nat → Int32)) ⊕ (Int32 × (Nat → Int32))) else .inr (b9, h9)); rw [if_pos hc, blB_1 hv]) _ ⟨D6, Y6⟩
          · skip
            refine j_iload dL_act_651 rfl ?_
            refine j_iload dL_act_653 rfl ?_
            refine j_icmp_ge_f (tgt := 747) dL_act_655 (by decide) (nI_nle' (by omega) (by omega) (by omega)) ?_
            refine j_iload dL_act_658 rfl ?_
            refine j_iload dL_act_660 rfl ?_
            refine j_icmp_ge_f (tgt := 747) dL_act_662 (by decide) (Int32.not_le.mpr hc) ?_
            refine j_aload_n dL_act_665 rfl ?_
            refine j_get fl_L_9 dL_act_666 hwn2 hw2 rfl ?_
            refine j_iload dL_act_669 rfl ?_
            refine j_aald (a := (a1 (r1 f))) dL_act_671 hLn2 hL2 (by omega) hf (if_pos hf) ?_
            refine j_iload dL_act_672 rfl ?_
            refine j_iald dL_act_674 (hrn2 f hf) hf2 (by omega) hk rfl ?_
            refine j_if_gt_t (tgt := 681) dL_act_675 (by decide) (Int32.not_le.mp hv) ?_
            refine j_aload_n dL_act_681 rfl ?_
            refine j_get fl_L_9 dL_act_682 hwn2 hw2 rfl ?_
            refine j_iload dL_act_685 rfl ?_
            refine j_aald (a := (a1 (r1 f))) dL_act_687 hLn2 hL2 (by omega) hf (if_pos hf) ?_
            refine j_iload dL_act_688 rfl ?_
            refine j_iald dL_act_690 (hrn2 f hf) hf2 (by omega) hk rfl ?_
            refine j_iload dL_act_691 rfl ?_
            refine j_iload dL_act_693 rfl ?_
            refine j_isub dL_act_695 ?_
            refine j_icmp_ge_t (tgt := 712) dL_act_696 (by decide) (Int32.not_lt.mp hm) ?_
            refine j_iload dL_act_712 rfl ?_
            refine j_iload dL_act_714 rfl ?_
            refine j_isub dL_act_716 ?_
            refine j_topi (y := (if h9 k < nI t9 - b9 then h9 k else nI t9 - b9)) (if_neg hm).symm ?_
            refine j_istore (L' := [some (.ref (a1 0)), some (.ref (a1 63)), some (.int x), some (.int (nI F)), some (.int (nI S)), some (.int (nI f)), some (.int (nI s)), some (.int dp), some (.int 1), some (.int (nI t9)), some (.int b9), some (.int (nI k)), some (.int (if h9 k < nI t9 - b9 then h9 k else nI t9 - b9))]) dL_act_717 (by decide) rfl rfl ?_
            refine j_aload_n dL_act_719 rfl ?_
            refine j_get fl_L_9 dL_act_720 hwn2 hw2 rfl ?_
            refine j_iload dL_act_723 rfl ?_
            refine j_aald (a := (a1 (r1 f))) dL_act_725 hLn2 hL2 (by omega) hf (if_pos hf) ?_
            refine j_iload dL_act_726 rfl ?_
            refine j_dup2 dL_act_728 rfl rfl ?_
            refine j_iald dL_act_729 (hrn2 f hf) hf2 (by omega) hk rfl ?_
            refine j_iload dL_act_730 rfl ?_
            refine j_isub dL_act_732 ?_
            refine j_iast (j := k) dL_act_733 (hrn2 f hf) hf2 (by omega) hk ?_
            show J g mL_act 11 50 1000 734 [some (.ref (a1 0)), some (.ref (a1 63)), some (.int x), some (.int (nI F)), some (.int (nI S)), some (.int (nI f)), some (.int (nI s)), some (.int dp), some (.int 1), some (.int (nI t9)), some (.int b9), some (.int (nI k)), some (.int (if h9 k < nI t9 - b9 then h9 k else nI t9 - b9))] [] n1 a1 (va_up E2 (r1 f) (aI g S (upd h9 k ((h9 k) - (if h9 k < nI t9 - b9 then h9 k else nI t9 - b9))))) Φ Ψ
            have Y6 := X2.row (h := upd h9 k (h9 k - (if h9 k < nI t9 - b9 then h9 k else nI t9 - b9))) hf
            have D6 : CR g n1 a1 (va_up E2 (r1 f) (aI g S (upd h9 k ((h9 k) - (if h9 k < nI t9 - b9 then h9 k else nI t9 - b9))))) F S hrs su gone lv ed old cnt dr mc mr := C2.kept (fun k hk => up_ne (by have := lr2 f hf; omega))
            generalize va_up E2 (r1 f) (aI g S (upd h9 k ((h9 k) - (if h9 k < nI t9 - b9 then h9 k else nI t9 - b9)))) = E6 at Y6 D6 ⊢
            rw [mup_mup] at Y6
            refine j_iload dL_act_734 rfl ?_
            refine j_iload dL_act_736 rfl ?_
            refine j_iadd dL_act_738 ?_
            refine j_istore (L' := [some (.ref (a1 0)), some (.ref (a1 63)), some (.int x), some (.int (nI F)), some (.int (nI S)), some (.int (nI f)), some (.int (nI s)), some (.int dp), some (.int 1), some (.int (nI t9)), some (.int (b9 + (if h9 k < nI t9 - b9 then h9 k else nI t9 - b9))), some (.int (nI k)), some (.int (if h9 k < nI t9 - b9 then h9 k else nI t9 - b9))]) dL_act_739 (by decide) rfl rfl ?_
            refine j_iinc (v := nI (k + 1)) (L' := [some (.ref (a1 0)), some (.ref (a1 63)), some (.int x), some (.int (nI F)), some (.int (nI S)), some (.int (nI f)), some (.int (nI s)), some (.int dp), some (.int 1), some (.int (nI t9)), some (.int (b9 + (if h9 k < nI t9 - b9 then h9 k else nI t9 - b9))), some (.int (nI (k + 1))), some (.int (if h9 k < nI t9 - b9 then h9 k else nI t9 - b9))]) dL_act_741 (by decide) rfl (nI_1 _) rfl rfl ?_
            refine j_goto (tgt := 651) dL_act_744 (by decide) ?_
            refine j_clr 12 ?_
            exact ih (.inl (b9 + (if h9 k < nI t9 - b9 then h9 k else nI t9 - b9), upd h9 k (h9 k - (if h9 k < nI t9 - b9 then h9 k else nI t9 - b9)))) (by show _ = (if b9 < nI t9 then (.inl (blB (nI t9) k (b9, h9)) : (Int32 × (Nat → Int32)) ⊕ (Int32 × (Nat → Int32))) else .inr (b9, h9)); rw [if_pos hc, blB_1 hv]) _ ⟨D6, Y6⟩
    · have hg := lpe_guard (c := fun (y : Int32 × (Nat → Int32)) => y.1 < nI t9) (s := blB (nI t9)) S 0 (0, m f)
      rcases hu : lpe (fun (k : Nat) (y : Int32 × (Nat → Int32)) => if y.1 < nI t9 then (.inl (blB (nI t9) k y) : (Int32 × (Nat → Int32)) ⊕ (Int32 × (Nat → Int32))) else .inr y) 0 S (0, m f) with y9 | y9
      · rw [hu] at hg
        have hy : y9 = (blR (nI t9) S (m f)) := hg
        subst hy
        intro E2 q2
        have X2 := q2.2
        obtain ⟨V2, ⟨lL2, lE2, lr2⟩, K12, K22⟩ := id X2
        obtain ⟨⟨hwn2, hLn2, hEn2, hrn2⟩, ⟨hwL2, hwE2, hLE2, hrA2⟩, hri2, hw2, hL2, hE2, hR2, -⟩ := id V2
        show J g mL_act 11 50 1000 651 [some (.ref (a1 0)), some (.ref (a1 63)), some (.int x), some (.int (nI F)), some (.int (nI S)), some (.int (nI f)), some (.int (nI s)), some (.int dp), some (.int 1), some (.int (nI t9)), some (.int ((blR (nI t9) S (m f)).1)), some (.int (nI S)), none] [] n1 a1 E2 Φ Ψ
        refine j_iload dL_act_651 rfl ?_
        refine j_iload dL_act_653 rfl ?_
        refine j_icmp_ge_t (tgt := 747) dL_act_655 (by decide) (nI_le' (by omega) (by omega) (by omega)) ?_
        refine j_clr 11 ?_
        exact tail E2 q2
      · rw [hu] at hg
        have hy : y9 = (blR (nI t9) S (m f)) := hg
        subst hy
        exact tail
set_option maxRecDepth 100000 in
set_option maxHeartbeats 4000000 in
theorem ac_mark {g : jG} {n : Nat} {ad : Nat → Nat} {E : Nat → va_E} {i F S : Nat} {hrs su : Int32} {gone : Int64} {lv ed : Nat → Int32} {old cnt : Nat} {dr : Nat → Nat → Int32} {mc : Nat} {mr : Nat → Nat → Int32} {m : Nat → Nat → Int32} {e : Nat → Int32} {A B : Nat → Nat → Nat → Int32} (C : CR g n ad E F S hrs su gone lv ed old cnt dr mc mr) (R : SR g n ad E F S su hrs gone m e cnt A mc B) (L : RS i F S su lv ed old cnt dr mc mr m e A B) (hi : i ≤ 500) (x : Int32) (f s : Nat) (hf : f < F) (hs : s < S) (dp : Int32) (hd1 : ¬ dp < -99) (hd2 : dp ≤ 99) {Φ : Option Value → jR} {Ψ : String → jR} (K : ∀ (n9 : Nat) (a9 : Nat → Nat) (E9 : Nat → va_E), n ≤ n9 → (∀ k, k < n → a9 k = ad k) → AS (i + 1) g n9 a9 E9 → Φ (some (.int 1)) n9 a9 E9) : J g mL_act 11 60 1200 766 [some (.ref (ad 0)), some (.ref (ad 63)), some (.int x), some (.int (nI F)), some (.int (nI S)), some (.int (nI f)), some (.int (nI s)), some (.int dp), some (.int 1), none, none, none, none] [] n ad E Φ Ψ := by
  obtain ⟨hF8, hS16, hF1, hS1, hold, hcn, hmc, hN, hn63⟩ := C.bd
  obtain ⟨iL0, iE0, r0, ia0, im0, X0⟩ := id R
  replace X0 : SX g n ad E iL0 iE0 r0 ia0 im0 F S su hrs gone m e cnt A mc B := X0
  obtain ⟨V0, ⟨lL0, lE0, lr0⟩, K10, K20⟩ := id X0
  obtain ⟨⟨hwn0, hLn0, hEn0, hrn0⟩, ⟨hwL0, hwE0, hLE0, hrA0⟩, hri0, hw0, hL0, hE0, hR0, -⟩ := id V0
  obtain ⟨⟨him, hXm⟩, jm, qm, hAm, hjm⟩ := id K20
  show J g mL_act 11 60 1200 766 [some (.ref (ad 0)), some (.ref (ad 63)), some (.int x), some (.int (nI F)), some (.int (nI S)), some (.int (nI f)), some (.int (nI s)), some (.int dp), some (.int 1), none, none, none, none] [] n ad E Φ Ψ
  by_cases hc : mc < 12
  · skip
    refine j_aload_n dL_act_766 rfl ?_
    refine j_get fl_L_56 dL_act_767 hwn0 hw0 rfl ?_
    refine j_alen 1 dL_act_770 him hAm rfl ?_
    refine j_bipush (v := nI 12) dL_act_771 (by decide) ?_
    refine j_icmp_ge_f (tgt := 780) dL_act_773 (by decide) (nI_nle' (by omega) (by omega) (by omega)) ?_
    refine j_iconst (v := 1) dL_act_776 (by decide) ?_
    refine j_goto (tgt := 781) dL_act_777 (by decide) ?_
    refine j_istore (L' := [some (.ref (ad 0)), some (.ref (ad 63)), some (.int x), some (.int (nI F)), some (.int (nI S)), some (.int (nI f)), some (.int (nI s)), some (.int dp), some (.int 1), none, none, none, none]) dL_act_781 (by decide) rfl rfl ?_
    refine j_aload_n dL_act_783 rfl ?_
    refine j_get fl_L_56 dL_act_784 hwn0 hw0 rfl ?_
    refine j_alen 1 dL_act_787 him hAm rfl ?_
    refine j_istore (L' := [some (.ref (ad 0)), some (.ref (ad 63)), some (.int x), some (.int (nI F)), some (.int (nI S)), some (.int (nI f)), some (.int (nI s)), some (.int dp), some (.int 1), some (.int (nI mc)), none, none, none]) dL_act_788 (by decide) rfl rfl ?_
    refine j_iload dL_act_790 rfl ?_
    refine j_if_eq_f (tgt := 814) dL_act_792 (by decide) (by decide) ?_
    refine j_aload_n dL_act_795 rfl ?_
    refine j_aload_n dL_act_796 rfl ?_
    refine j_get fl_L_56 dL_act_797 hwn0 hw0 rfl ?_
    refine j_aload_n dL_act_800 rfl ?_
    refine j_get fl_L_9 dL_act_801 hwn0 hw0 rfl ?_
    refine j_bud (bc' := F + 1 + 40) (bs' := F * S + F + 900) (by omega) (by omega) ?_
    refine j_callS (As := [.ref (ad iL0)]) (rest := [.ref (ad im0), .ref (ad 63)]) (d' := 2) (Φ' := OC g F S m n ad E) (Ψ' := fun _ _ _ _ => False) cm_X4_copied ct_X4_copied ln_L_60 dL_act_804 (by decide) rfl rfl (Nat.le_of_ble_eq_true rfl) (Nat.le_of_ble_eq_true rfl) (c_X4_copied V0.mt hF8 _) (fun v1 n1 a1 E1 q1 => ?_) (fun _ _ _ _ q => q.elim)
    obtain ⟨rfl, rfl, g1, e1, M1⟩ := q1
    rw [← g1 0 (by omega), ← g1 63 (by omega), ← g1 im0 him]
    have C1 := C.tr63 (n' := n + 1 + F) (ad' := a1) (E' := E1) (by omega) (fun k hk => g1 k (by omega)) (fun k hk => e1 k (by omega))
    have X1 := X0.tr (n' := n + 1 + F) (ad' := a1) (E' := E1) (by omega) g1 (fun k _ hk => e1 k hk)
    obtain ⟨V1, ⟨lL1, lE1, lr1⟩, K11, K21⟩ := id X1
    obtain ⟨⟨hwn1, hLn1, hEn1, hrn1⟩, ⟨hwL1, hwE1, hLE1, hrA1⟩, hri1, hw1, hL1, hE1, hR1, -⟩ := id V1
    have hA1 : E1 im0 = aP g mc (fun k => if k < mc then some (a1 (jm k)) else none) := (e1 im0 him).trans (hAm.trans (aP_cg (refs_cg (fun k hk => g1 _ (hjm k hk).2.1.1))))
    have nM : ∀ k, n ≤ k → ¬ (Mu 63 iL0 iE0 F r0 k ∨ k < 63) := fun k hk z => by
      rcases z with (z | z | z | ⟨j, hj, z⟩) | z
      · omega
      · omega
      · omega
      · have := hrn0 j hj
        omega
      · omega
    have hj1 : ∀ k, k < mc → (¬ (Mu 63 iL0 iE0 F r0 (jm k) ∨ jm k < 63) ∧ ∀ f, f < F → ¬ (Mu 63 iL0 iE0 F r0 (qm k f) ∨ qm k f < 63)) ∧ MT g (n + 1 + F) a1 E1 (jm k) (qm k) F S (B k) := fun k hk => ⟨(hjm k hk).1, (hjm k hk).2.tr (by omega) g1 (fun k9 h9 => e1 k9 (by rcases h9 with rfl | ⟨j, hj, rfl⟩ <;> first | exact (hjm k hk).2.1.1 | exact (hjm k hk).2.1.2 j hj))⟩
    refine j_iconst (v := nI 0) dL_act_807 (by decide) ?_
    refine j_bud (bc' := 0 + 1 + 30) (bs' := 0 + (mc + 1 - 0) + 800) (by omega) (by omega) ?_
    refine j_callS (As := [.ref (a1 im0), .ref (a1 n), .int (nI 0)]) (rest := [.ref (a1 63)]) (d' := 2) (Φ' := OW g jm n mc 0 (n + 1 + F) a1 E1) (Ψ' := fun _ _ _ _ => False) cm_X4_with ct_X4_with ln_L_64 dL_act_808 (by decide) rfl rfl (Nat.le_of_ble_eq_true rfl) (Nat.le_of_ble_eq_true rfl) (c_X4_with (show im0 < n + 1 + F by omega) (by omega) hA1 (fun k hk => ⟨(hj1 k hk).2.1.1, _, (hj1 k hk).2.2.1⟩) M1.2.1 (Nat.zero_le _) (by omega) _) (fun v2 n2 a2 E2 q2 => ?_) (fun _ _ _ _ q => q.elim)
    obtain ⟨rfl, rfl, g2, e2, y2⟩ := q2
    rw [← g2 0 (by omega), ← g2 63 (by omega)]
    have C2 := C1.tr63 (n' := n + 1 + F + 1) (ad' := a2) (E' := E2) (by omega) (fun k hk => g2 k (by omega)) (fun k hk => e2 k (by omega))
    have X2 := X1.tr (n' := n + 1 + F + 1) (ad' := a2) (E' := E2) (by omega) g2 (fun k _ hk => e2 k hk)
    obtain ⟨V2, ⟨lL2, lE2, lr2⟩, K12, K22⟩ := id X2
    obtain ⟨⟨hwn2, hLn2, hEn2, hrn2⟩, ⟨hwL2, hwE2, hLE2, hrA2⟩, hri2, hw2, hL2, hE2, hR2, -⟩ := id V2
    show J g mL_act 11 30 800 811 [some (.ref (a2 0)), some (.ref (a2 63)), some (.int x), some (.int (nI F)), some (.int (nI S)), some (.int (nI f)), some (.int (nI s)), some (.int dp), some (.int 1), some (.int (nI mc)), none, none, none] [.ref (a2 (n + 1 + F)), .ref (a2 63)] (n + 1 + F + 1) a2 E2 Φ Ψ
    refine j_put fl_L_56 fp_X4 dL_act_811 hwn2 hw2 (Or.inl rfl) rfl rfl (Nat.le_of_ble_eq_true rfl) ?_
    show J g mL_act 11 30 800 814 [some (.ref (a2 0)), some (.ref (a2 63)), some (.int x), some (.int (nI F)), some (.int (nI S)), some (.int (nI f)), some (.int (nI s)), some (.int dp), some (.int 1), some (.int (nI mc)), none, none, none] [] (n + 1 + F + 1) a2 (va_up E2 63 (.inr (4, [.ref (a2 iL0), .ref (a2 iE0), .int su, .int hrs, .long gone, .ref (a2 ia0), .ref (a2 (n + 1 + F))]))) Φ Ψ
    have eU : ∀ k, k ≠ 63 → (va_up E2 63 (.inr (4, [.ref (a2 iL0), .ref (a2 iE0), .int su, .int hrs, .long gone, .ref (a2 ia0), .ref (a2 (n + 1 + F))]))) k = E2 k := fun k hk => up_ne hk
    have KN : KL g (n + 1 + F + 1) a2 (va_up E2 63 (.inr (4, [.ref (a2 iL0), .ref (a2 iE0), .int su, .int hrs, .long gone, .ref (a2 ia0), .ref (a2 (n + 1 + F))]))) (fun k => Mu 63 iL0 iE0 F r0 k ∨ k < 63) (n + 1 + F) (mc + 1 - 0) F S (fun k => if k < mc - 0 then B (k + 0) else m) := KL.push hj1 M1 nM (by omega) g2 (fun k hk w => (eU k (fun z => w (Or.inl (Or.inl z)))).trans (e2 k hk)) (show n ≤ n + 1 + F by omega) (by omega) ((eU _ (by omega)).trans y2) (Nat.zero_le _)
    have R3 : SR g (n + 1 + F + 1) a2 (va_up E2 63 (.inr (4, [.ref (a2 iL0), .ref (a2 iE0), .int su, .int hrs, .long gone, .ref (a2 ia0), .ref (a2 (n + 1 + F))]))) F S su hrs gone m e cnt A (mc + 1) (fun k => if k < mc then B k else m) := ⟨iL0, iE0, r0, ia0, n + 1 + F, V2.setTop, X2.2.1, (X2.upd0 (Or.inl rfl)).1, KN⟩
    have D3 : CR g (n + 1 + F + 1) a2 (va_up E2 63 (.inr (4, [.ref (a2 iL0), .ref (a2 iE0), .int su, .int hrs, .long gone, .ref (a2 ia0), .ref (a2 (n + 1 + F))]))) F S hrs su gone lv ed old cnt dr mc mr := C2.kept (fun k hk => up_ne (by omega))
    generalize va_up E2 63 (.inr (4, [.ref (a2 iL0), .ref (a2 iE0), .int su, .int hrs, .long gone, .ref (a2 ia0), .ref (a2 (n + 1 + F))])) = E3 at R3 D3 ⊢
    refine j_aload_n dL_act_814 rfl ?_
    refine j_cVp (As := []) (rest := []) cm_X3_mark ci_X3_mark cs_X3_mark rfl ln_L_68 (ci := 3) rfl dL_act_815 (d' := 6) (by decide) (by omega) D3.1 rfl rfl (Nat.le_of_ble_eq_true rfl) (Nat.le_of_ble_eq_true rfl) (s_X3_mark D3 hc) (fun E4 q4 => ?_)
    show J g mL_act 11 30 800 818 [some (.ref (a2 0)), some (.ref (a2 63)), some (.int x), some (.int (nI F)), some (.int (nI S)), some (.int (nI f)), some (.int (nI s)), some (.int dp), some (.int 1), some (.int (nI mc)), none, none, none] [.int (nI mc)] (n + 1 + F + 1) a2 E4 Φ Ψ
    have R4 := R3.tr (Nat.le_refl _) (fun _ _ => rfl) (fun k hk _ => q4.2 k hk)
    refine j_iload dL_act_818 rfl ?_
    refine j_icmp_ne_f (tgt := 832) dL_act_820 (by decide) (nI_eq' (by omega)) ?_
    refine j_iload dL_act_823 rfl ?_
    refine j_if_eq_f (tgt := 832) dL_act_825 (by decide) (by decide) ?_
    refine j_iconst (v := 1) dL_act_828 (by decide) ?_
    refine j_goto (tgt := 833) dL_act_829 (by decide) ?_
    exact j_zret dL_act_833 rfl rfl (K _ _ _ (by omega) (fun k hk => (g2 k (by omega)).trans (g1 k hk)) ⟨F, S, hrs, su, gone, lv, ed, old, cnt, dr, mc + 1, rowUp mr mc (cpyN lv (mr mc) (F * S)), m, e, A, fun k => if k < mc then B k else m, q4.1, R4, L.mark⟩)
  · skip
    have h12 : mc = 12 := by omega
    refine j_aload_n dL_act_766 rfl ?_
    refine j_get fl_L_56 dL_act_767 hwn0 hw0 rfl ?_
    refine j_alen 1 dL_act_770 him hAm rfl ?_
    refine j_bipush (v := nI 12) dL_act_771 (by decide) ?_
    refine j_icmp_ge_t (tgt := 780) dL_act_773 (by decide) (nI_le' (by omega) (by omega) (by omega)) ?_
    refine j_iconst (v := 0) dL_act_780 (by decide) ?_
    refine j_istore (L' := [some (.ref (ad 0)), some (.ref (ad 63)), some (.int x), some (.int (nI F)), some (.int (nI S)), some (.int (nI f)), some (.int (nI s)), some (.int dp), some (.int 0), none, none, none, none]) dL_act_781 (by decide) rfl rfl ?_
    refine j_aload_n dL_act_783 rfl ?_
    refine j_get fl_L_56 dL_act_784 hwn0 hw0 rfl ?_
    refine j_alen 1 dL_act_787 him hAm rfl ?_
    refine j_istore (L' := [some (.ref (ad 0)), some (.ref (ad 63)), some (.int x), some (.int (nI F)), some (.int (nI S)), some (.int (nI f)), some (.int (nI s)), some (.int dp), some (.int 0), some (.int (nI mc)), none, none, none]) dL_act_788 (by decide) rfl rfl ?_
    refine j_iload dL_act_790 rfl ?_
    refine j_if_eq_t (tgt := 814) dL_act_792 (by decide) rfl ?_
    have hh : ∀ q : Nat, J g mL_act 11 0 0 1188 [some (.ref (ad 0)), some (.ref (ad 63)), some (.int x), some (.int (nI F)), some (.int (nI S)), some (.int (nI f)), some (.int (nI s)), some (.int dp), some (.int 0), some (.int (nI mc)), none, none, none] [.ref q] n ad E Φ Ψ := by
      intro q9
      refine j_astore (L' := [some (.ref (ad 0)), some (.ref (ad 63)), some (.int x), some (.int (nI F)), some (.int (nI S)), some (.int (nI f)), some (.int (nI s)), some (.int dp), some (.int 0), some (.ref q9), none, none, none]) dL_act_1188 (by decide) rfl rfl ?_
      refine j_iload dL_act_1190 rfl ?_
      refine j_if_ne_f (tgt := 1199) dL_act_1192 (by decide) rfl ?_
      refine j_iconst (v := 1) dL_act_1195 (by decide) ?_
      refine j_goto (tgt := 1200) dL_act_1196 (by decide) ?_
      exact j_zret dL_act_1200 rfl rfl (K _ _ _ (Nat.le_refl _) (fun _ _ => rfl) ⟨F, S, hrs, su, gone, lv, ed, old, cnt, dr, mc, mr, m, e, A, B, C, R, L.le⟩)
    refine j_bud (bc' := 1) (bs' := 6) (by decide) (by decide) ?_
    refine j_aload_n dL_act_814 rfl ?_
    exact j_cVx (As := []) (rest := []) cm_X3_mark ci_X3_mark cs_X3_mark rfl ln_L_68 (ci := 3) rfl dL_act_815 (d' := 6) (by decide) (by omega) C.1 rfl rfl (Nat.le_of_ble_eq_true rfl) (Nat.le_of_ble_eq_true rfl) (s_X3_mark_bad C h12) (Or.inr ⟨[⟨82, 187, 1188, 102⟩, ⟨188, 242, 1188, 102⟩, ⟨243, 290, 1188, 102⟩, ⟨291, 414, 1188, 102⟩, ⟨415, 507, 1188, 102⟩, ⟨508, 610, 1188, 102⟩, ⟨611, 765, 1188, 102⟩], ⟨766, 833, 1188, 102⟩, [⟨834, 843, 1188, 102⟩, ⟨844, 905, 1188, 102⟩, ⟨906, 938, 1188, 102⟩, ⟨939, 1031, 1188, 102⟩, ⟨1032, 1068, 1188, 102⟩, ⟨1069, 1134, 1188, 102⟩, ⟨1135, 1187, 1188, 102⟩], "java/lang/IllegalStateException", rfl, (fun z hz => Or.inl (by simp only [List.mem_cons, List.not_mem_nil, or_false] at hz; rcases hz with rfl | rfl | rfl | rfl | rfl | rfl | rfl <;> rfl)), by decide, by decide, cl_L_102, ca_IllegalStateException, fun q => hh q⟩)
set_option maxRecDepth 100000 in
set_option maxHeartbeats 4000000 in
theorem ac_back {g : jG} {n : Nat} {ad : Nat → Nat} {E : Nat → va_E} {i F S : Nat} {hrs su : Int32} {gone : Int64} {lv ed : Nat → Int32} {old cnt : Nat} {dr : Nat → Nat → Int32} {mc : Nat} {mr : Nat → Nat → Int32} {m : Nat → Nat → Int32} {e : Nat → Int32} {A B : Nat → Nat → Nat → Int32} (C : CR g n ad E F S hrs su gone lv ed old cnt dr mc mr) (R : SR g n ad E F S su hrs gone m e cnt A mc B) (L : RS i F S su lv ed old cnt dr mc mr m e A B) (hi : i ≤ 500) (x : Int32) (f s : Nat) (hf : f < F) (hs : s < S) (dp : Int32) (hd1 : ¬ dp < -99) (hd2 : dp ≤ 99) {Φ : Option Value → jR} {Ψ : String → jR} (K : ∀ (n9 : Nat) (a9 : Nat → Nat) (E9 : Nat → va_E), n ≤ n9 → (∀ k, k < n → a9 k = ad k) → AS (i + 1) g n9 a9 E9 → Φ (some (.int 1)) n9 a9 E9) : J g mL_act 11 60 1200 834 [some (.ref (ad 0)), some (.ref (ad 63)), some (.int x), some (.int (nI F)), some (.int (nI S)), some (.int (nI f)), some (.int (nI s)), some (.int dp), some (.int 1), none, none, none, none] [] n ad E Φ Ψ := by
  obtain ⟨hF8, hS16, hF1, hS1, hold, hcn, hmc, hN, hn63⟩ := C.bd
  obtain ⟨iL0, iE0, r0, ia0, im0, X0⟩ := id R
  replace X0 : SX g n ad E iL0 iE0 r0 ia0 im0 F S su hrs gone m e cnt A mc B := X0
  obtain ⟨V0, ⟨lL0, lE0, lr0⟩, K10, K20⟩ := id X0
  obtain ⟨⟨hwn0, hLn0, hEn0, hrn0⟩, ⟨hwL0, hwE0, hLE0, hrA0⟩, hri0, hw0, hL0, hE0, hR0, -⟩ := id V0
  obtain ⟨⟨him, hXm⟩, jm, qm, hAm, hjm⟩ := id K20
  show J g mL_act 11 60 1200 834 [some (.ref (ad 0)), some (.ref (ad 63)), some (.int x), some (.int (nI F)), some (.int (nI S)), some (.int (nI f)), some (.int (nI s)), some (.int dp), some (.int 1), none, none, none, none] [] n ad E Φ Ψ
  by_cases hz : mc = 0
  · skip
    refine j_aload_n dL_act_834 rfl ?_
    refine j_get fl_L_56 dL_act_835 hwn0 hw0 rfl ?_
    refine j_alen 1 dL_act_838 him hAm rfl ?_
    refine j_if_ne_f (tgt := 844) dL_act_839 (by decide) (nI_eq' (by omega)) ?_
    refine j_iconst (v := 1) dL_act_842 (by decide) ?_
    exact j_zret dL_act_843 rfl rfl (K _ _ _ (Nat.le_refl _) (fun _ _ => rfl) ⟨F, S, hrs, su, gone, lv, ed, old, cnt, dr, mc, mr, m, e, A, B, C, R, L.le⟩)
  · skip
    refine j_aload_n dL_act_834 rfl ?_
    refine j_get fl_L_56 dL_act_835 hwn0 hw0 rfl ?_
    refine j_alen 1 dL_act_838 him hAm rfl ?_
    refine j_if_ne_t (tgt := 844) dL_act_839 (by decide) (nI_ne0 (by omega) (by omega)) ?_
    refine j_iload_n dL_act_844 rfl ?_
    refine j_bipush (v := 6) dL_act_845 (by decide) ?_
    refine j_ishr dL_act_847 ?_
    refine j_aload_n dL_act_848 rfl ?_
    refine j_get fl_L_56 dL_act_849 hwn0 hw0 rfl ?_
    refine j_alen 1 dL_act_852 him hAm rfl ?_
    refine j_cS (As := [.int (x >>> (6 &&& 31)), .int (nI mc)]) (rest := []) cm_L_below ct_L_below ln_L_19 dL_act_853 (d' := 0) (by decide) rfl rfl (Nat.le_of_ble_eq_true rfl) (Nat.le_of_ble_eq_true rfl) (s_L_below (x >>> (6 &&& 31)) mc (by omega) (by omega)) ?_
    have hbk9 : bl (x >>> (6 &&& 31)) mc < mc := bl_lt _ (by omega)
    generalize bl (x >>> (6 &&& 31)) mc = k9 at hbk9 ⊢
    have hk9 : k9 < mc := hbk9
    refine j_istore (L' := [some (.ref (ad 0)), some (.ref (ad 63)), some (.int x), some (.int (nI F)), some (.int (nI S)), some (.int (nI f)), some (.int (nI s)), some (.int dp), some (.int 1), some (.int (nI k9)), none, none, none]) dL_act_856 (by decide) rfl rfl ?_
    refine j_aload_n dL_act_858 rfl ?_
    refine j_aload_n dL_act_859 rfl ?_
    refine j_get fl_L_56 dL_act_860 hwn0 hw0 rfl ?_
    refine j_iload dL_act_863 rfl ?_
    refine j_aaldP (a := (ad (jm k9))) dL_act_865 him hAm (by omega) hk9 (if_pos hk9) ?_
    refine j_cV (As := [.ref (ad (jm k9))]) (rest := []) cm_X4_unlike ci_X4_unlike cs_X4_unlike rfl ln_L_72 (ci := 4) rfl dL_act_866 (d' := 0) (by decide) hwn0 hw0 rfl rfl (Nat.le_of_ble_eq_true rfl) (Nat.le_of_ble_eq_true rfl) (s_X4_unlike V0 (hjm k9 hk9).2) ?_
    refine j_istore (L' := [some (.ref (ad 0)), some (.ref (ad 63)), some (.int x), some (.int (nI F)), some (.int (nI S)), some (.int (nI f)), some (.int (nI s)), some (.int dp), some (.int 1), some (.int (nI k9)), some (.int (unlC m (B k9) F S)), none, none]) dL_act_869 (by decide) rfl rfl ?_
    refine j_aload_n dL_act_871 rfl ?_
    refine j_bud (bc' := F + 1 + (1 + 0) + 40) (bs' := F * S + F + (31 + 0) + 900) (by omega) (by omega) ?_
    refine j_callV (As := []) (rest := []) (d' := 4) (Φ' := OS n ad E (fun n9 a9 E9 => SR g n9 a9 E9 F S su hrs gone m e (keC cnt) (keA cnt A m) mc B)) (Ψ' := fun _ _ _ _ => False) cm_X4_keep ci_X4_keep cs_X4_keep rfl ln_L_33 (ci := 4) rfl dL_act_872 (by decide) hwn0 hw0 rfl rfl (Nat.le_of_ble_eq_true rfl) (Nat.le_of_ble_eq_true rfl) (c_X4_keep R hcn _) (fun v1 n1 a1 E1 q1 => ?_) (fun _ _ _ _ q => q.elim)
    obtain ⟨hv1, hn1, g1, e1, R1⟩ := q1
    subst hv1
    rw [keC_eq hcn] at R1
    rw [← g1 0 (by omega), ← g1 63 (by omega)]
    have C1 := C.tr63 (n' := n1) (ad' := a1) (E' := E1) (by omega) (fun k hk => g1 k (by omega)) (fun k hk => e1 k (by omega) (by omega))
    obtain ⟨iL1, iE1, r1, ia1, im1, X1⟩ := id R1
    replace X1 : SX g n1 a1 E1 iL1 iE1 r1 ia1 im1 F S su hrs gone m e (kCnt cnt) (keA cnt A m) mc B := X1
    obtain ⟨V1, ⟨lL1, lE1, lr1⟩, K11, K21⟩ := id X1
    obtain ⟨⟨hwn1, hLn1, hEn1, hrn1⟩, ⟨hwL1, hwE1, hLE1, hrA1⟩, hri1, hw1, hL1, hE1, hR1, -⟩ := id V1
    show J g mL_act 11 40 900 875 [some (.ref (a1 0)), some (.ref (a1 63)), some (.int x), some (.int (nI F)), some (.int (nI S)), some (.int (nI f)), some (.int (nI s)), some (.int dp), some (.int 1), some (.int (nI k9)), some (.int (unlC m (B k9) F S)), none, none] [] n1 a1 E1 Φ Ψ
    obtain ⟨⟨him1, hXm1⟩, jm1, qm1, hAm1, hjm1⟩ := id K21
    refine j_aload_n dL_act_875 rfl ?_
    refine j_aload_n dL_act_876 rfl ?_
    refine j_get fl_L_56 dL_act_877 hwn1 hw1 rfl ?_
    refine j_iload dL_act_880 rfl ?_
    refine j_aaldP (a := (a1 (jm1 k9))) dL_act_882 him1 hAm1 (by omega) hk9 (if_pos hk9) ?_
    refine j_bud (bc' := F + 1 + 20) (bs' := F * S + F + 700) (by omega) (by omega) ?_
    refine j_callS (As := [.ref (a1 (jm1 k9))]) (rest := [.ref (a1 63)]) (d' := 2) (Φ' := OC g F S (B k9) n1 a1 E1) (Ψ' := fun _ _ _ _ => False) cm_X4_copied ct_X4_copied ln_L_60 dL_act_883 (by decide) rfl rfl (Nat.le_of_ble_eq_true rfl) (Nat.le_of_ble_eq_true rfl) (c_X4_copied (hjm1 k9 hk9).2 hF8 _) (fun v2 n2 a2 E2 q2 => ?_) (fun _ _ _ _ q => q.elim)
    obtain ⟨rfl, rfl, g2, e2, M2⟩ := q2
    rw [← g2 0 (by omega), ← g2 63 (by omega)]
    have C2 := C1.tr63 (n' := n1 + 1 + F) (ad' := a2) (E' := E2) (by omega) (fun k hk => g2 k (by omega)) (fun k hk => e2 k (by omega))
    have X2 := X1.tr (n' := n1 + 1 + F) (ad' := a2) (E' := E2) (by omega) g2 (fun k _ hk => e2 k hk)
    obtain ⟨V2, ⟨lL2, lE2, lr2⟩, K12, K22⟩ := id X2
    obtain ⟨⟨hwn2, hLn2, hEn2, hrn2⟩, ⟨hwL2, hwE2, hLE2, hrA2⟩, hri2, hw2, hL2, hE2, hR2, -⟩ := id V2
    show J g mL_act 11 20 700 886 [some (.ref (a2 0)), some (.ref (a2 63)), some (.int x), some (.int (nI F)), some (.int (nI S)), some (.int (nI f)), some (.int (nI s)), some (.int dp), some (.int 1), some (.int (nI k9)), some (.int (unlC m (B k9) F S)), none, none] [.ref (a2 n1), .ref (a2 63)] (n1 + 1 + F) a2 E2 Φ Ψ
    refine j_put fl_L_9 fp_X4 dL_act_886 hwn2 hw2 (Or.inl rfl) rfl rfl (Nat.le_of_ble_eq_true rfl) ?_
    show J g mL_act 11 20 700 889 [some (.ref (a2 0)), some (.ref (a2 63)), some (.int x), some (.int (nI F)), some (.int (nI S)), some (.int (nI f)), some (.int (nI s)), some (.int dp), some (.int 1), some (.int (nI k9)), some (.int (unlC m (B k9) F S)), none, none] [] (n1 + 1 + F) a2 (va_up E2 63 (.inr (4, [.ref (a2 n1), .ref (a2 iE1), .int su, .int hrs, .long gone, .ref (a2 ia1), .ref (a2 im1)]))) Φ Ψ
    have X3 := X1.level (q := n1) (n' := n1 + 1 + F) (ad' := a2) (E' := E2) (Nat.le_refl _) (Nat.le_refl _) g2 (fun k _ hk => e2 k hk) M2
    have D3 : CR g (n1 + 1 + F) a2 (va_up E2 63 (.inr (4, [.ref (a2 n1), .ref (a2 iE1), .int su, .int hrs, .long gone, .ref (a2 ia1), .ref (a2 im1)]))) F S hrs su gone lv ed old cnt dr mc mr := C2.kept (fun k hk => up_ne (by omega))
    have R3 : SR g (n1 + 1 + F) a2 (va_up E2 63 (.inr (4, [.ref (a2 n1), .ref (a2 iE1), .int su, .int hrs, .long gone, .ref (a2 ia1), .ref (a2 im1)]))) F S su hrs gone (B k9) e (kCnt cnt) (keA cnt A m) mc B := X3.sr
    generalize va_up E2 63 (.inr (4, [.ref (a2 n1), .ref (a2 iE1), .int su, .int hrs, .long gone, .ref (a2 ia1), .ref (a2 im1)])) = E3 at R3 D3 ⊢
    refine j_aload_n dL_act_889 rfl ?_
    refine j_iload dL_act_890 rfl ?_
    refine j_cVp (As := [.int (nI k9)]) (rest := []) cm_X3_back ci_X3_back cs_X3_back rfl ln_L_76 (ci := 3) rfl dL_act_892 (d' := 8) (by decide) (by omega) D3.1 rfl rfl (Nat.le_of_ble_eq_true rfl) (Nat.le_of_ble_eq_true rfl) (s_X3_back D3 k9 hk9) (fun E4 q4 => ?_)
    show J g mL_act 11 20 700 895 [some (.ref (a2 0)), some (.ref (a2 63)), some (.int x), some (.int (nI F)), some (.int (nI S)), some (.int (nI f)), some (.int (nI s)), some (.int dp), some (.int 1), some (.int (nI k9)), some (.int (unlC m (B k9) F S)), none, none] [.int (chgC lv (mr k9) (F * S))] (n1 + 1 + F) a2 E4 Φ Ψ
    have R4 := R3.tr (Nat.le_refl _) (fun _ _ => rfl) (fun k hk _ => q4.2 k hk)
    refine j_iload dL_act_895 rfl ?_
    refine j_icmp_ne_f (tgt := 904) dL_act_897 (by decide) (unl_eq L.1 (L.2.2.2.2.2.2.2 k9 hk9).1).symm ?_
    refine j_iconst (v := 1) dL_act_900 (by decide) ?_
    refine j_goto (tgt := 905) dL_act_901 (by decide) ?_
    exact j_zret dL_act_905 rfl rfl (K _ _ _ (by omega) (fun k hk => (g2 k (by omega)).trans (g1 k hk)) ⟨F, S, hrs, su, gone, cpyN (mr k9) lv (F * S), ed, kOld old cnt, kCnt cnt, rowUp dr (kSlot old cnt) (cpyN lv (dr (kSlot old cnt)) (F * S)), mc, mr, B k9, e, keA cnt A m, B, q4.1, R4, L.keep hold hcn (back_cg (L.2.2.2.2.2.2.2 k9 hk9)).1 (back_cg (lv := lv) (L.2.2.2.2.2.2.2 k9 hk9)).2⟩)
