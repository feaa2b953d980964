/-! What would be: the class tries it out on its second water. -/
theorem lpf_rel {α β : Type} {R : α → β → Prop} {b : Nat → α → α} {b' : Nat → β → β} : ∀ (k j : Nat) (a : α) (a' : β), (∀ i x y, j ≤ i → i < j + k → R x y → R (b i x) (b' i y)) → R a a' → R (lpf b j k a) (lpf b' j k a') := by
  intro k
  induction k with
  | zero => intro j a a' _ h; exact h
  | succ k ih =>
    intro j a a' hs h
    exact ih (j + 1) _ _ (fun i x y q1 q2 r => hs i x y (by omega) (by omega) r) (hs j a a' (Nat.le_refl _) (by omega) h)
/-- the same water in the first N puddles, and the same beside -/
def eqW (N : Nat) (x y : Int32 × (Nat → Int32)) : Prop := x.1 = y.1 ∧ ∀ k, k < N → x.2 k = y.2 k
theorem runB_congr {ed ed' : Nat → Int32} {S k N : Nat} {x y : Int32 × (Nat → Int32)} (he : ∀ s, s < S → ed s = ed' s) (hS : 0 < S) (hk : k < N) (h : eqW N x y) : eqW N (runB ed S k x) (runB ed' S k y) := by
  have e := he (k % S) (Nat.mod_lt _ hS)
  unfold runB
  refine ⟨?_, fun j hj => ?_⟩
  · show max0 _ = max0 _
    rw [h.1, h.2 k hk, e]
  · show upd _ _ _ _ = upd _ _ _ _
    unfold upd
    rw [h.1, h.2 k hk, e, h.2 j hj]
theorem runR_congr {ed ed' lv lv' : Nat → Int32} {F S : Nat} (he : ∀ s, s < S → ed s = ed' s) (h : ∀ k, k < F * S → lv k = lv' k) : eqW (F * S) (runR ed F S lv) (runR ed' F S lv') := by
  refine lpf_rel F 0 _ _ (fun f x y _ hf hr => ?_) ⟨rfl, h⟩
  exact lpf_rel S 0 _ _ (fun s x y _ hs hr => runB_congr he (by omega) (ixN (by omega) (by omega)) hr) hr
theorem hourR_congr {ed ed' lv lv' : Nat → Int32} {su : Int32} {F S : Nat} (he : ∀ s, s < S → ed s = ed' s) (h : ∀ k, k < F * S → lv k = lv' k) : eqW (F * S) (hourR su ed F S lv) (hourR su ed' F S lv') :=
  runR_congr he (fun k hk => by unfold dryL; rw [if_pos hk, if_pos hk, h k hk])
theorem flowR_congr {ed ed' lv lv' : Nat → Int32} {su : Int32} {F S t : Nat} (he : ∀ s, s < S → ed s = ed' s) (h : ∀ k, k < F * S → lv k = lv' k) : eqW (F * S) (flowR su ed F S t lv) (flowR su ed' F S t lv') := by
  refine lpf_rel t 0 _ _ (fun _ x y _ _ hr => ?_) ⟨rfl, h⟩
  have q := hourR_congr (su := su) he hr.2
  exact ⟨by show x.1 + _ = y.1 + _; rw [hr.1, q.1], q.2⟩
theorem sumP_congr {lv lv' : Nat → Int32} {F S fa sa fb sb : Nat} (h : ∀ k, k < F * S → lv k = lv' k) (h1 : fb < F) (h2 : sb < S) : sumP lv S fa sa fb sb = sumP lv' S fa sa fb sb := by
  refine lpf_congr _ _ _ (fun f x _ hf => lpf_congr _ _ _ (fun s x _ hs => ?_))
  rw [h _ (ixN (by omega) (by omega))]
theorem uptC_congr {lv lv' : Nat → Int32} {N : Nat} {x : Int32} (h : ∀ k, k < N → lv k = lv' k) : uptC lv N x = uptC lv' N x := by
  refine lpf_congr _ _ _ (fun k c _ hk => ?_)
  rw [h k (by omega)]
theorem lpe_rel {α β γ : Type} {R : α → β → Prop} {b : Nat → α → α ⊕ γ} {b' : Nat → β → β ⊕ γ} : ∀ (k j : Nat) (a : α) (a' : β), (∀ i x y, j ≤ i → i < j + k → R x y → (∃ u v, b i x = .inl u ∧ b' i y = .inl v ∧ R u v) ∨ ∃ r, b i x = .inr r ∧ b' i y = .inr r) → R a a' → (∃ u v, lpe b j k a = .inl u ∧ lpe b' j k a' = .inl v ∧ R u v) ∨ ∃ r, lpe b j k a = .inr r ∧ lpe b' j k a' = .inr r := by
  intro k
  induction k with
  | zero => intro j a a' _ h; exact Or.inl ⟨a, a', rfl, rfl, h⟩
  | succ k ih =>
    intro j a a' hs h
    unfold lpe
    rcases hs j a a' (Nat.le_refl _) (by omega) h with ⟨u, v, e1, e2, r⟩ | ⟨r, e1, e2⟩
    · rw [e1, e2]
      exact ih (j + 1) u v (fun i x y q1 q2 r => hs i x y (by omega) (by omega) r) r
    · rw [e1, e2]
      exact Or.inr ⟨r, rfl, rfl⟩
/-- in how many hours all is dry -/
def untilR (su : Int32) (ed : Nat → Int32) (F S : Nat) (lv : Nat → Int32) : (Nat → Int32) ⊕ Nat := lpe (fun k f => if uptC f (F * S) 0 = nI (F * S) then .inr k else .inl (hourR su ed F S f).2) 0 60 lv
def untilD (su : Int32) (ed : Nat → Int32) (F S : Nat) (lv : Nat → Int32) : Int32 := match untilR su ed F S lv with
  | .inr k => nI k
  | .inl f => if uptC f (F * S) 0 = nI (F * S) then 60 else -1
theorem untilD_congr {ed ed' lv lv' : Nat → Int32} {su : Int32} {F S : Nat} (he : ∀ s, s < S → ed s = ed' s) (h : ∀ k, k < F * S → lv k = lv' k) : untilD su ed F S lv = untilD su ed' F S lv' := by
  have hs : ∀ (i : Nat) (x y : Nat → Int32), 0 ≤ i → i < 0 + 60 → (∀ k, k < F * S → x k = y k) → (∃ u v, (if uptC x (F * S) 0 = nI (F * S) then (.inr i : (Nat → Int32) ⊕ Nat) else .inl (hourR su ed F S x).2) = .inl u ∧ (if uptC y (F * S) 0 = nI (F * S) then (.inr i : (Nat → Int32) ⊕ Nat) else .inl (hourR su ed' F S y).2) = .inl v ∧ ∀ k, k < F * S → u k = v k) ∨ ∃ r, (if uptC x (F * S) 0 = nI (F * S) then (.inr i : (Nat → Int32) ⊕ Nat) else .inl (hourR su ed F S x).2) = .inr r ∧ (if uptC y (F * S) 0 = nI (F * S) then (.inr i : (Nat → Int32) ⊕ Nat) else .inl (hourR su ed' F S y).2) = .inr r := by
    intro i x y _ _ r
    rw [uptC_congr r]
    by_cases q : uptC y (F * S) 0 = nI (F * S)
    · exact Or.inr ⟨i, if_pos q, if_pos q⟩
    · exact Or.inl ⟨_, _, if_neg q, if_neg q, (hourR_congr he r).2⟩
  unfold untilD untilR
  rcases lpe_rel (R := fun f f' => ∀ k, k < F * S → f k = f' k) 60 0 lv lv' hs h with ⟨u, v, e1, e2, r⟩ | ⟨r, e1, e2⟩
  · rw [e1, e2]
    show (if _ then _ else _) = (if _ then _ else _)
    rw [uptC_congr r]
  · rw [e1, e2]
def wantR (ed : Nat → Int32) (F S t : Nat) (lv : Nat → Int32) : Unit ⊕ Nat := lpe (fun j _ => if uptC (flowR (nI j) ed F S t lv).2 (F * S) 0 = nI (F * S) then .inr j else .inl ()) 0 10 ()
def wantD (ed : Nat → Int32) (F S t : Nat) (lv : Nat → Int32) : Int32 := match wantR ed F S t lv with
  | .inr j => nI j
  | .inl _ => -1
def edgeOver (su : Int32) (ed : Nat → Int32) (F S t b : Nat) (lv : Nat → Int32) (j : Nat) : Int32 := (flowR su (upd ed b (nI (10 * j))) F S t lv).1
def edgeR (su : Int32) (ed : Nat → Int32) (F S t b : Nat) (lv : Nat → Int32) : (Nat × Int32) ⊕ Nat := lpe (fun j (y : Nat × Int32) => if y.2 ≤ 0 then .inr y.1 else .inl (if y.2 ≤ edgeOver su ed F S t b lv j then y else (10 * j, edgeOver su ed F S t b lv j))) 0 31 (0, 2147483647)
def edgeD (su : Int32) (ed : Nat → Int32) (F S t b : Nat) (lv : Nat → Int32) : Nat := match edgeR su ed F S t b lv with
  | .inr r => r
  | .inl y => y.1
theorem outS_congr {Hm Hm' : Nat → Nat → Int32} {F o t : Nat} (h : ∀ i j, i < F → j < F → Hm i j = Hm' i j) (ho : o < F) (ht : t < F) : outS Hm F o t = outS Hm' F o t := by
  refine lpf_congr _ _ _ (fun a x _ ha => lpf_congr _ _ _ (fun b x _ hb => ?_))
  rw [h _ _ (swp_lt ho ht (by omega)) (swp_lt ho ht (by omega))]
theorem bestS_congr {Hm Hm' : Nat → Nat → Int32} {F f : Nat} (h : ∀ i j, i < F → j < F → Hm i j = Hm' i j) (hf : f < F) : bestS Hm F f = bestS Hm' F f := by
  refine lpf_congr _ _ _ (fun t x _ ht => ?_)
  show (if _ then _ else _) = (if _ then _ else _)
  rw [outS_congr h hf (by omega)]
theorem s_X0_outWithSwap' {g : jG} {n : Nat} {ad : Nat → Nat} {E : Nat → va_E} {fp iH base fc : Nat} {Hm : Nat → Nat → Int32} (Z : frs g n ad E fp iH base fc Hm) (o t : Nat) (ho : o < fc) (ht : t < fc) {v : Int32} (hv : outS Hm fc o t = v) : Ret g mX0_outWithSwap 1 [.ref (ad fp), .int (nI o), .int (nI t)] n ad E (some (.int v)) E := hv ▸ s_X0_outWithSwap Z o t ho ht
theorem s_X0_bestPartner' {g : jG} {n : Nat} {ad : Nat → Nat} {E : Nat → va_E} {fp iH base fc : Nat} {Hm : Nat → Nat → Int32} (Z : frs g n ad E fp iH base fc Hm) (f : Nat) (hf : f < fc) {v : Nat} (hv : (bestS Hm fc f).1 = v) : Ret g mX0_bestPartner 2 [.ref (ad fp), .int (nI f)] n ad E (some (.int (nI v))) E := hv ▸ s_X0_bestPartner Z f hf
theorem s_X2_allDry_t {g : jG} {n : Nat} {ad : Nat → Nat} {E : Nat → va_E} {w iL iE F S : Nat} {su : Int32} {lv ed : Nat → Int32} (W : wat g n ad E w iL iE F S su lv ed) (h : uptC lv (F * S) 0 = nI (F * S)) : Ret g mX2_allDry 2 [.ref (ad w)] n ad E (some (.int 1)) E := by
  have q := s_X2_allDry W
  rwa [if_pos h] at q
theorem s_X2_allDry_f {g : jG} {n : Nat} {ad : Nat → Nat} {E : Nat → va_E} {w iL iE F S : Nat} {su : Int32} {lv ed : Nat → Int32} (W : wat g n ad E w iL iE F S su lv ed) (h : ¬ uptC lv (F * S) 0 = nI (F * S)) : Ret g mX2_allDry 2 [.ref (ad w)] n ad E (some (.int 0)) E := by
  have q := s_X2_allDry W
  rwa [if_neg h] at q
theorem frs.count {g : jG} {n : Nat} {ad : Nat → Nat} {E : Nat → va_E} {fp iH base fc F : Nat} {Hm R : Nat → Nat → Int32} (Z : frs g n ad E fp iH base fc Hm) (hF : F ≤ 8) : frs g n ad (pup (va_up E fp (.inr (0, [.ref (ad iH), .int (nI F)]))) base 8 (fun i => aI g 8 (R i))) fp iH base F R := by
  obtain ⟨q1, ⟨q2, q3⟩, q4, q5, q6, q7⟩ := Z
  exact ⟨q1, ⟨q2, q3⟩, (pup_out (fun i hi => Ne.symm (q3 i hi).1)).trans up_eq, (pup_out (fun i hi => Ne.symm (q3 i hi).2)).trans ((up_ne (Ne.symm q2)).trans q5), fun i hi => pup_in hi, hF⟩
theorem cmat_all {lv : Nat → Int32} {S F : Nat} {Hm : Nat → Nat → Int32} : ∀ i j, i < F → j < F → cmat lv S F Hm F 0 i j = cntOf lv S i j := fun i j hi hj => if_pos (Or.inl ⟨hi, hj⟩)
theorem mean_num (x : Int64) {k : Nat} (h0 : 0 < k) (h : k < 2 ^ 31) : vf_n64 (FP.ddiv (FP.l2d x) (FP.i2d (nI k))) := by
  have hne : nI k ≠ 0 := nI_ne0 h0 h
  have h1 : FP.Core.dIsNaN (FP.Core.l2d x) = false := by
    have := FP.Core.l2d_fin x
    rw [FP.Core.notNaN_iff]
    obtain ⟨s, c, q, e⟩ := this
    rw [e]
    intro r
    cases r
  have h2 := FP.Core.i2d_fin (nI k)
  have h3 : ¬ FP.Core.DZero (FP.Core.i2d (nI k)) := by
    rw [FP.Core.zero_bits2]
    exact FP.Core.i2d_ne_zero hne
  have h4 := FP.Core.ddiv_out h1 h2 h3
  have h5 : ¬ (9218868437227405312 < (FP.Core.ddiv (FP.Core.l2d x) (FP.Core.i2d (nI k))).toNat % 2 ^ 63) := by
    rw [← FP.Core.isNaN_bits, h4]
    decide
  show (FP.Core.ddiv (FP.Core.l2d x) (FP.Core.i2d (nI k))) &&& 0x7fffffffffffffff ≤ 0x7ff0000000000000
  rw [UInt64.le_iff_toNat_le, UInt64.toNat_and]
  have h6 : (0x7fffffffffffffff : UInt64).toNat = 2 ^ 63 - 1 := by decide
  rw [h6, Nat.and_two_pow_sub_one_eq_mod]
  have h7 : (0x7ff0000000000000 : UInt64).toNat = 9218868437227405312 := by decide
  rw [h7]
  omega
theorem s_countC {g : jG} {n : Nat} {ad : Nat → Nat} {E : Nat → va_E} {F S : Nat} {hrs su : Int32} {gone : Int64} {lv ed : Nat → Int32} {old cnt mc : Nat} {dr mr : Nat → Nat → Int32} (C : CR g n ad E F S hrs su gone lv ed old cnt dr mc mr) : RetP g mX0_countIn 3 [.ref (ad 53), .ref (ad 1)] n ad E none (fun E9 => (CR g n ad E9 F S hrs su gone lv ed old cnt dr mc mr ∧ ∀ k, 63 ≤ k → E9 k = E k) ∧ ∃ Hc : Nat → Nat → Int32, (∀ i j, i < F → j < F → Hc i j = cntOf lv S i j) ∧ frs g n ad E9 53 54 55 F Hc) := by
  obtain ⟨h0, W, ⟨F4, S4, su4, lv4, ed4, T⟩, Z, Y, ⟨fc, Hm, P⟩, hFp, hSp, hn⟩ := id C
  have hF := W.2.2.2.2.2.1
  intro Φ Ψ h
  refine s_X0_countIn P W ⟨⟨by decide, by decide, by decide⟩, fun i hi => ⟨by omega, by omega, by omega⟩⟩ Φ Ψ (h _ ?_)
  have P1 := frs.count (R := fun i => cmat lv S F Hm F 0 i) P hF
  have hk : ∀ k, k < 53 ∨ 63 ≤ k → pup (va_up E 53 (.inr (0, [.ref (ad 54), .int (nI F)]))) 55 8 (fun i => aI g 8 (cmat lv S F Hm F 0 i)) k = E k := fun k hk => (pup_out (fun i hi => by omega)).trans (up_ne (by omega))
  exact ⟨⟨CR.setPairs C P1 hk, fun k hk' => hk k (Or.inr hk')⟩, _, cmat_all, P1⟩
set_option maxRecDepth 100000 in
set_option maxHeartbeats 4000000 in
theorem s_X3_outOfOrder {g : jG} {n : Nat} {ad : Nat → Nat} {E : Nat → va_E} {F S : Nat} {hrs su : Int32} {gone : Int64} {lv ed : Nat → Int32} {old cnt mc : Nat} {dr mr : Nat → Nat → Int32} (C : CR g n ad E F S hrs su gone lv ed old cnt dr mc mr) : RetP g mX3_outOfOrder 4 [.ref (ad 0)] n ad E (some (.int (outS (cntOf lv S) F 0 0))) (fun E9 => CR g n ad E9 F S hrs su gone lv ed old cnt dr mc mr ∧ ∀ k, 63 ≤ k → E9 k = E k) := by
  obtain ⟨h0, W, ⟨F4, S4, su4, lv4, ed4, T⟩, Z, Y, ⟨fc, Hm, P⟩, hFp, hSp, hn⟩ := id C
  obtain ⟨-, -, hw, hL, hE, hF, hS⟩ := id W
  obtain ⟨-, -, hz, hzO, hzr, -, -, hold, hcnt⟩ := id Z
  obtain ⟨-, -, hy, hyO, hyr, -, -, -, hmc⟩ := id Y
  have hp := P.2.2.1
  intro Φ Ψ h
  show J g mX3_outOfOrder 4 0 0 0 [some (.ref (ad 0))] [] n ad E Φ Ψ
  refine j_aload_n dX3_outOfOrder_0 rfl ?_
  refine j_get fl_X3_34 dX3_outOfOrder_1 (by omega) h0 rfl ?_
  refine j_aload_n dX3_outOfOrder_4 rfl ?_
  refine j_get fl_X3_12 dX3_outOfOrder_5 (by omega) h0 rfl ?_
  refine j_cVp (As := [.ref (ad 1)]) (rest := []) cm_X0_countIn ci_X0_countIn cs_X0_countIn rfl ln_X3_183 (ci := 0) rfl dX3_outOfOrder_8 (d' := 3) (by decide) (by omega) hp rfl rfl (Nat.le_of_ble_eq_true rfl) (Nat.le_of_ble_eq_true rfl) (s_countC C) (fun E1 q1 => ?_)
  obtain ⟨q1, Hc1, hHc1, Pc1⟩ := q1
  have C1 := q1.1
  obtain ⟨h01, W1, ⟨F41, S41, su41, lv41, ed41, T1⟩, Z1, Y1, ⟨fc1, Hm1, P1⟩, hFp1, hSp1, hn1⟩ := id C1
  obtain ⟨-, -, hw1, hL1, hE1, hF1, hS1⟩ := id W1
  obtain ⟨-, -, hz1, hzO1, hzr1, -, -, hold1, hcnt1⟩ := id Z1
  obtain ⟨-, -, hy1, hyO1, hyr1, -, -, -, hmc1⟩ := id Y1
  have hp1 := Pc1.2.2.1
  show J g mX3_outOfOrder 4 0 0 11 [some (.ref (ad 0))] [] n ad E1 Φ Ψ
  refine j_aload_n dX3_outOfOrder_11 rfl ?_
  refine j_get fl_X3_34 dX3_outOfOrder_12 (by omega) h01 rfl ?_
  refine j_iconst (v := nI 0) dX3_outOfOrder_15 (by decide) ?_
  refine j_iconst (v := nI 0) dX3_outOfOrder_16 (by decide) ?_
  refine j_cV (As := [.int (nI 0), .int (nI 0)]) (rest := []) cm_X0_outWithSwap ci_X0_outWithSwap cs_X0_outWithSwap rfl ln_X3_186 (ci := 0) rfl dX3_outOfOrder_17 (d' := 1) (by decide) (by omega) hp1 rfl rfl (Nat.le_of_ble_eq_true rfl) (Nat.le_of_ble_eq_true rfl) (s_X0_outWithSwap' Pc1 0 0 (by omega) (by omega) (outS_congr hHc1 (by omega) (by omega))) ?_
  exact j_iret dX3_outOfOrder_20 rfl (h _ ⟨C1, (fun k hk => (q1.2 k hk))⟩)
set_option maxRecDepth 100000 in
set_option maxHeartbeats 4000000 in
theorem s_X3_bestSwap {g : jG} {n : Nat} {ad : Nat → Nat} {E : Nat → va_E} {F S : Nat} {hrs su : Int32} {gone : Int64} {lv ed : Nat → Int32} {old cnt mc : Nat} {dr mr : Nat → Nat → Int32} (C : CR g n ad E F S hrs su gone lv ed old cnt dr mc mr) (a : Nat) (ha : a < F) : RetP g mX3_bestSwap 8 [.ref (ad 0), .int (nI a)] n ad E (some (.int (nI ((bestS (cntOf lv S) F a).1)))) (fun E9 => CR g n ad E9 F S hrs su gone lv ed old cnt dr mc mr ∧ ∀ k, 63 ≤ k → E9 k = E k) := by
  obtain ⟨h0, W, ⟨F4, S4, su4, lv4, ed4, T⟩, Z, Y, ⟨fc, Hm, P⟩, hFp, hSp, hn⟩ := id C
  obtain ⟨-, -, hw, hL, hE, hF, hS⟩ := id W
  obtain ⟨-, -, hz, hzO, hzr, -, -, hold, hcnt⟩ := id Z
  obtain ⟨-, -, hy, hyO, hyr, -, -, -, hmc⟩ := id Y
  have hp := P.2.2.1
  intro Φ Ψ h
  show J g mX3_bestSwap 8 0 0 0 [some (.ref (ad 0)), some (.int (nI a))] [] n ad E Φ Ψ
  refine j_aload_n dX3_bestSwap_0 rfl ?_
  refine j_iload_n dX3_bestSwap_1 rfl ?_
  refine j_cV (As := [.int (nI a)]) (rest := []) cm_X3_checkFlight ci_X3_checkFlight cs_X3_checkFlight rfl ln_X3_74 (ci := 3) rfl dX3_bestSwap_2 (d' := 7) (by decide) (by omega) h0 rfl rfl (Nat.le_of_ble_eq_true rfl) (Nat.le_of_ble_eq_true rfl) (s_checkFlight_ok C a ha) ?_
  refine j_aload_n dX3_bestSwap_5 rfl ?_
  refine j_get fl_X3_34 dX3_bestSwap_6 (by omega) h0 rfl ?_
  refine j_aload_n dX3_bestSwap_9 rfl ?_
  refine j_get fl_X3_12 dX3_bestSwap_10 (by omega) h0 rfl ?_
  refine j_cVp (As := [.ref (ad 1)]) (rest := []) cm_X0_countIn ci_X0_countIn cs_X0_countIn rfl ln_X3_183 (ci := 0) rfl dX3_bestSwap_13 (d' := 3) (by decide) (by omega) hp rfl rfl (Nat.le_of_ble_eq_true rfl) (Nat.le_of_ble_eq_true rfl) (s_countC C) (fun E1 q1 => ?_)
  obtain ⟨q1, Hc1, hHc1, Pc1⟩ := q1
  have C1 := q1.1
  obtain ⟨h01, W1, ⟨F41, S41, su41, lv41, ed41, T1⟩, Z1, Y1, ⟨fc1, Hm1, P1⟩, hFp1, hSp1, hn1⟩ := id C1
  obtain ⟨-, -, hw1, hL1, hE1, hF1, hS1⟩ := id W1
  obtain ⟨-, -, hz1, hzO1, hzr1, -, -, hold1, hcnt1⟩ := id Z1
  obtain ⟨-, -, hy1, hyO1, hyr1, -, -, -, hmc1⟩ := id Y1
  have hp1 := Pc1.2.2.1
  show J g mX3_bestSwap 8 0 0 16 [some (.ref (ad 0)), some (.int (nI a))] [] n ad E1 Φ Ψ
  refine j_aload_n dX3_bestSwap_16 rfl ?_
  refine j_get fl_X3_34 dX3_bestSwap_17 (by omega) h01 rfl ?_
  refine j_iload_n dX3_bestSwap_20 rfl ?_
  refine j_cV (As := [.int (nI a)]) (rest := []) cm_X0_bestPartner ci_X0_bestPartner cs_X0_bestPartner rfl ln_X3_203 (ci := 0) rfl dX3_bestSwap_21 (d' := 2) (by decide) (by omega) hp1 rfl rfl (Nat.le_of_ble_eq_true rfl) (Nat.le_of_ble_eq_true rfl) (s_X0_bestPartner' Pc1 a ha (congrArg Prod.fst (bestS_congr hHc1 ha))) ?_
  exact j_iret dX3_bestSwap_24 rfl (h _ ⟨C1, (fun k hk => (q1.2 k hk))⟩)
set_option maxRecDepth 100000 in
set_option maxHeartbeats 4000000 in
theorem s_X3_bestSwap_bad {g : jG} {n : Nat} {ad : Nat → Nat} {E : Nat → va_E} {F S : Nat} {hrs su : Int32} {gone : Int64} {lv ed : Nat → Int32} {old cnt mc : Nat} {dr mr : Nat → Nat → Int32} (C : CR g n ad E F S hrs su gone lv ed old cnt dr mc mr) (x : Int32) (hx : oob x F) : Thr g mX3_bestSwap 8 [.ref (ad 0), .int x] n ad E "java/lang/IndexOutOfBoundsException" := by
  obtain ⟨h0, W, ⟨F4, S4, su4, lv4, ed4, T⟩, Z, Y, ⟨fc, Hm, P⟩, hFp, hSp, hn⟩ := id C
  obtain ⟨-, -, hw, hL, hE, hF, hS⟩ := id W
  obtain ⟨-, -, hz, hzO, hzr, -, -, hold, hcnt⟩ := id Z
  obtain ⟨-, -, hy, hyO, hyr, -, -, -, hmc⟩ := id Y
  intro Φ Ψ h
  show J g mX3_bestSwap 8 1 6 0 [some (.ref (ad 0)), some (.int x)] [] n ad E Φ Ψ
  refine j_aload_n dX3_bestSwap_0 rfl ?_
  refine j_iload_n dX3_bestSwap_1 rfl ?_
  exact j_cVx (As := [.int x]) (rest := []) cm_X3_checkFlight ci_X3_checkFlight cs_X3_checkFlight rfl ln_X3_74 (ci := 3) rfl dX3_bestSwap_2 (d' := 7) (by decide) (by omega) h0 rfl rfl (Nat.le_of_ble_eq_true rfl) (Nat.le_of_ble_eq_true rfl) (s_checkFlight_bad C x hx) (jMeets_out rfl h)
set_option maxRecDepth 100000 in
set_option maxHeartbeats 4000000 in
theorem s_X3_goneIn {g : jG} {n : Nat} {ad : Nat → Nat} {E : Nat → va_E} {F S : Nat} {hrs su : Int32} {gone : Int64} {lv ed : Nat → Int32} {old cnt mc : Nat} {dr mr : Nat → Nat → Int32} (C : CR g n ad E F S hrs su gone lv ed old cnt dr mc mr) (t9 : Nat) (ht1 : 1 ≤ t9) (ht2 : t9 ≤ 40) : RetP g mX3_goneIn 7 [.ref (ad 0), .int (nI t9)] n ad E (some (.int ((flowR su ed F S t9 lv).1))) (fun E9 => CR g n ad E9 F S hrs su gone lv ed old cnt dr mc mr ∧ ∀ k, 63 ≤ k → E9 k = E k) := by
  obtain ⟨h0, W, ⟨F4, S4, su4, lv4, ed4, T⟩, Z, Y, ⟨fc, Hm, P⟩, hFp, hSp, hn⟩ := id C
  obtain ⟨-, -, hw, hL, hE, hF, hS⟩ := id W
  obtain ⟨-, -, hz, hzO, hzr, -, -, hold, hcnt⟩ := id Z
  obtain ⟨-, -, hy, hyO, hyr, -, -, -, hmc⟩ := id Y
  obtain ⟨-, -, ht, htL, htE, hFT, hST⟩ := id T
  intro Φ Ψ h
  show J g mX3_goneIn 7 0 0 0 [some (.ref (ad 0)), some (.int (nI t9))] [] n ad E Φ Ψ
  refine j_iload_n dX3_goneIn_0 rfl ?_
  refine j_iconst (v := nI 1) dX3_goneIn_1 (by decide) ?_
  refine j_bipush (v := nI 40) dX3_goneIn_2 (by decide) ?_
  refine j_cS (As := [.int (nI t9), .int (nI 1), .int (nI 40)]) (rest := []) cm_X3_checkNumber ct_X3_checkNumber ln_X3_46 dX3_goneIn_4 (d' := 6) (by decide) rfl rfl (Nat.le_of_ble_eq_true rfl) (Nat.le_of_ble_eq_true rfl) (s_checkNumber_ok (nI t9) (nI 1) (nI 40) (nI_nlt' (by omega) (by omega) (by omega)) (nI_le' (by omega) (by omega) (by omega))) ?_
  refine j_aload_n dX3_goneIn_7 rfl ?_
  refine j_get fl_X3_16 dX3_goneIn_8 (by omega) h0 rfl ?_
  refine j_aload_n dX3_goneIn_11 rfl ?_
  refine j_get fl_X3_12 dX3_goneIn_12 (by omega) h0 rfl ?_
  refine j_cV (As := [.ref (ad 1)]) (rest := []) cm_X2_copyFrom ci_X2_copyFrom cs_X2_copyFrom rfl ln_X3_189 (ci := 2) rfl dX3_goneIn_15 (d' := 1) (by decide) (by omega) ht rfl rfl (Nat.le_of_ble_eq_true rfl) (Nat.le_of_ble_eq_true rfl) (s_X2_copyFrom T W ⟨⟨by decide, by decide, by decide⟩, ⟨by decide, by decide, by decide⟩, by decide, by decide, by decide⟩) ?_
  refine j_aload_n dX3_goneIn_18 rfl ?_
  refine j_get fl_X3_16 dX3_goneIn_19 (by omega) ((up_ne (by decide)).trans ((up_ne (by decide)).trans ((up_ne (by decide)).trans h0))) rfl ?_
  refine j_iload_n dX3_goneIn_22 rfl ?_
  refine j_cV (As := [.int (nI t9)]) (rest := []) cm_X2_flowFor ci_X2_flowFor cs_X2_flowFor rfl ln_X3_108 (ci := 2) rfl dX3_goneIn_23 (d' := 3) (by decide) (by omega) ((up_ne (by decide)).trans ((up_ne (by decide)).trans up_eq)) rfl rfl (Nat.le_of_ble_eq_true rfl) (Nat.le_of_ble_eq_true rfl) (s_X2_flowFor (wat.setE (wat.setL (wat.setW T hF hS))) t9 (by omega)) ?_
  refine j_topi (y := (flowR su ed F S t9 lv).1) (flowR_congr (fun s hs => cpyN_lt hs) (fun k hk => cpyN_lt hk)).1 ?_
  exact j_iret dX3_goneIn_26 rfl (h _ ⟨CR.setTrial C (wat.setL (wat.setE (wat.setL (wat.setW T hF hS)))) (fun k hk => ((up_ne (by omega)).trans ((up_ne (by omega)).trans ((up_ne (by omega)).trans ((up_ne (by omega)).trans rfl))))), fun k hk => ((up_ne (by omega)).trans ((up_ne (by omega)).trans ((up_ne (by omega)).trans ((up_ne (by omega)).trans rfl))))⟩)
set_option maxRecDepth 100000 in
set_option maxHeartbeats 4000000 in
theorem s_X3_totalIn {g : jG} {n : Nat} {ad : Nat → Nat} {E : Nat → va_E} {F S : Nat} {hrs su : Int32} {gone : Int64} {lv ed : Nat → Int32} {old cnt mc : Nat} {dr mr : Nat → Nat → Int32} (C : CR g n ad E F S hrs su gone lv ed old cnt dr mc mr) (t9 : Nat) (ht1 : 1 ≤ t9) (ht2 : t9 ≤ 40) : RetP g mX3_totalIn 7 [.ref (ad 0), .int (nI t9)] n ad E (some (.long (sumP (flowR su ed F S t9 lv).2 S 0 0 (F - 1) (S - 1)))) (fun E9 => CR g n ad E9 F S hrs su gone lv ed old cnt dr mc mr ∧ ∀ k, 63 ≤ k → E9 k = E k) := by
  obtain ⟨h0, W, ⟨F4, S4, su4, lv4, ed4, T⟩, Z, Y, ⟨fc, Hm, P⟩, hFp, hSp, hn⟩ := id C
  obtain ⟨-, -, hw, hL, hE, hF, hS⟩ := id W
  obtain ⟨-, -, hz, hzO, hzr, -, -, hold, hcnt⟩ := id Z
  obtain ⟨-, -, hy, hyO, hyr, -, -, -, hmc⟩ := id Y
  obtain ⟨-, -, ht, htL, htE, hFT, hST⟩ := id T
  intro Φ Ψ h
  show J g mX3_totalIn 7 0 0 0 [some (.ref (ad 0)), some (.int (nI t9))] [] n ad E Φ Ψ
  refine j_iload_n dX3_totalIn_0 rfl ?_
  refine j_iconst (v := nI 1) dX3_totalIn_1 (by decide) ?_
  refine j_bipush (v := nI 40) dX3_totalIn_2 (by decide) ?_
  refine j_cS (As := [.int (nI t9), .int (nI 1), .int (nI 40)]) (rest := []) cm_X3_checkNumber ct_X3_checkNumber ln_X3_46 dX3_totalIn_4 (d' := 6) (by decide) rfl rfl (Nat.le_of_ble_eq_true rfl) (Nat.le_of_ble_eq_true rfl) (s_checkNumber_ok (nI t9) (nI 1) (nI 40) (nI_nlt' (by omega) (by omega) (by omega)) (nI_le' (by omega) (by omega) (by omega))) ?_
  refine j_aload_n dX3_totalIn_7 rfl ?_
  refine j_get fl_X3_16 dX3_totalIn_8 (by omega) h0 rfl ?_
  refine j_aload_n dX3_totalIn_11 rfl ?_
  refine j_get fl_X3_12 dX3_totalIn_12 (by omega) h0 rfl ?_
  refine j_cV (As := [.ref (ad 1)]) (rest := []) cm_X2_copyFrom ci_X2_copyFrom cs_X2_copyFrom rfl ln_X3_189 (ci := 2) rfl dX3_totalIn_15 (d' := 1) (by decide) (by omega) ht rfl rfl (Nat.le_of_ble_eq_true rfl) (Nat.le_of_ble_eq_true rfl) (s_X2_copyFrom T W ⟨⟨by decide, by decide, by decide⟩, ⟨by decide, by decide, by decide⟩, by decide, by decide, by decide⟩) ?_
  refine j_aload_n dX3_totalIn_18 rfl ?_
  refine j_get fl_X3_16 dX3_totalIn_19 (by omega) ((up_ne (by decide)).trans ((up_ne (by decide)).trans ((up_ne (by decide)).trans h0))) rfl ?_
  refine j_iload_n dX3_totalIn_22 rfl ?_
  refine j_cV (As := [.int (nI t9)]) (rest := []) cm_X2_flowFor ci_X2_flowFor cs_X2_flowFor rfl ln_X3_108 (ci := 2) rfl dX3_totalIn_23 (d' := 3) (by decide) (by omega) ((up_ne (by decide)).trans ((up_ne (by decide)).trans up_eq)) rfl rfl (Nat.le_of_ble_eq_true rfl) (Nat.le_of_ble_eq_true rfl) (s_X2_flowFor (wat.setE (wat.setL (wat.setW T hF hS))) t9 (by omega)) ?_
  refine j_pop dX3_totalIn_26 rfl ?_
  refine j_aload_n dX3_totalIn_27 rfl ?_
  refine j_get fl_X3_16 dX3_totalIn_28 (by omega) ((up_ne (by decide)).trans ((up_ne (by decide)).trans ((up_ne (by decide)).trans ((up_ne (by decide)).trans h0)))) rfl ?_
  refine j_cV (As := []) (rest := []) cm_X2_wholeSum ci_X2_wholeSum cs_X2_wholeSum rfl ln_X3_155 (ci := 2) rfl dX3_totalIn_31 (d' := 3) (by decide) (by omega) ((up_ne (by decide)).trans ((up_ne (by decide)).trans ((up_ne (by decide)).trans up_eq))) rfl rfl (Nat.le_of_ble_eq_true rfl) (Nat.le_of_ble_eq_true rfl) (s_X2_wholeSum (wat.setL (wat.setE (wat.setL (wat.setW T hF hS)))) (by omega) (by omega)) ?_
  refine j_topl (y := sumP (flowR su ed F S t9 lv).2 S 0 0 (F - 1) (S - 1)) (sumP_congr (flowR_congr (fun s hs => cpyN_lt hs) (fun k hk => cpyN_lt hk)).2 (by omega) (by omega)) ?_
  exact j_lret dX3_totalIn_34 rfl (h _ ⟨CR.setTrial C (wat.setL (wat.setE (wat.setL (wat.setW T hF hS)))) (fun k hk => ((up_ne (by omega)).trans ((up_ne (by omega)).trans ((up_ne (by omega)).trans ((up_ne (by omega)).trans rfl))))), fun k hk => ((up_ne (by omega)).trans ((up_ne (by omega)).trans ((up_ne (by omega)).trans ((up_ne (by omega)).trans rfl))))⟩)
set_option maxRecDepth 100000 in
set_option maxHeartbeats 4000000 in
theorem s_X3_goneIn_iae {g : jG} {n : Nat} {ad : Nat → Nat} {E : Nat → va_E} {F S : Nat} {hrs su : Int32} {gone : Int64} {lv ed : Nat → Int32} {old cnt mc : Nat} {dr mr : Nat → Nat → Int32} (C : CR g n ad E F S hrs su gone lv ed old cnt dr mc mr) (x : Int32) (hx : x < 1 ∨ ¬ x ≤ 40) : Thr g mX3_goneIn 7 [.ref (ad 0), .int x] n ad E "java/lang/IllegalArgumentException" := by
  obtain ⟨h0, W, ⟨F4, S4, su4, lv4, ed4, T⟩, Z, Y, ⟨fc, Hm, P⟩, hFp, hSp, hn⟩ := id C
  obtain ⟨-, -, hw, hL, hE, hF, hS⟩ := id W
  obtain ⟨-, -, hz, hzO, hzr, -, -, hold, hcnt⟩ := id Z
  obtain ⟨-, -, hy, hyO, hyr, -, -, -, hmc⟩ := id Y
  intro Φ Ψ h
  show J g mX3_goneIn 7 1 6 0 [some (.ref (ad 0)), some (.int x)] [] n ad E Φ Ψ
  refine j_iload_n dX3_goneIn_0 rfl ?_
  refine j_iconst (v := 1) dX3_goneIn_1 (by decide) ?_
  refine j_bipush (v := 40) dX3_goneIn_2 (by decide) ?_
  exact j_cSx (As := [.int x, .int 1, .int 40]) (rest := []) cm_X3_checkNumber ct_X3_checkNumber ln_X3_46 dX3_goneIn_4 (d' := 6) (by decide) rfl rfl (Nat.le_of_ble_eq_true rfl) (Nat.le_of_ble_eq_true rfl) (s_checkNumber_bad x 1 40 hx) (jMeets_out rfl h)
set_option maxRecDepth 100000 in
set_option maxHeartbeats 4000000 in
theorem s_X3_totalIn_iae {g : jG} {n : Nat} {ad : Nat → Nat} {E : Nat → va_E} {F S : Nat} {hrs su : Int32} {gone : Int64} {lv ed : Nat → Int32} {old cnt mc : Nat} {dr mr : Nat → Nat → Int32} (C : CR g n ad E F S hrs su gone lv ed old cnt dr mc mr) (x : Int32) (hx : x < 1 ∨ ¬ x ≤ 40) : Thr g mX3_totalIn 7 [.ref (ad 0), .int x] n ad E "java/lang/IllegalArgumentException" := by
  obtain ⟨h0, W, ⟨F4, S4, su4, lv4, ed4, T⟩, Z, Y, ⟨fc, Hm, P⟩, hFp, hSp, hn⟩ := id C
  obtain ⟨-, -, hw, hL, hE, hF, hS⟩ := id W
  obtain ⟨-, -, hz, hzO, hzr, -, -, hold, hcnt⟩ := id Z
  obtain ⟨-, -, hy, hyO, hyr, -, -, -, hmc⟩ := id Y
  intro Φ Ψ h
  show J g mX3_totalIn 7 1 6 0 [some (.ref (ad 0)), some (.int x)] [] n ad E Φ Ψ
  refine j_iload_n dX3_totalIn_0 rfl ?_
  refine j_iconst (v := 1) dX3_totalIn_1 (by decide) ?_
  refine j_bipush (v := 40) dX3_totalIn_2 (by decide) ?_
  exact j_cSx (As := [.int x, .int 1, .int 40]) (rest := []) cm_X3_checkNumber ct_X3_checkNumber ln_X3_46 dX3_totalIn_4 (d' := 6) (by decide) rfl rfl (Nat.le_of_ble_eq_true rfl) (Nat.le_of_ble_eq_true rfl) (s_checkNumber_bad x 1 40 hx) (jMeets_out rfl h)
set_option maxRecDepth 100000 in
set_option maxHeartbeats 4000000 in
theorem s_X3_hoursUntilDry {g : jG} {n : Nat} {ad : Nat → Nat} {E : Nat → va_E} {F S : Nat} {hrs su : Int32} {gone : Int64} {lv ed : Nat → Int32} {old cnt mc : Nat} {dr mr : Nat → Nat → Int32} (C : CR g n ad E F S hrs su gone lv ed old cnt dr mc mr) : RetP g mX3_hoursUntilDry 3 [.ref (ad 0)] n ad E (some (.int (untilD su ed F S lv))) (fun E9 => CR g n ad E9 F S hrs su gone lv ed old cnt dr mc mr ∧ ∀ k, 63 ≤ k → E9 k = E k) := by
  obtain ⟨h0, W, ⟨F4, S4, su4, lv4, ed4, T⟩, Z, Y, ⟨fc, Hm, P⟩, hFp, hSp, hn⟩ := id C
  obtain ⟨-, -, hw, hL, hE, hF, hS⟩ := id W
  obtain ⟨-, -, hz, hzO, hzr, -, -, hold, hcnt⟩ := id Z
  obtain ⟨-, -, hy, hyO, hyr, -, -, -, hmc⟩ := id Y
  obtain ⟨-, -, ht, htL, htE, hFT, hST⟩ := id T
  intro Φ Ψ h
  show J g mX3_hoursUntilDry 3 0 0 0 [some (.ref (ad 0)), none] [] n ad E Φ Ψ
  rw [← untilD_congr (su := su) (ed := cpyN ed ed4 S) (lv := cpyN lv lv4 (F * S)) (fun s hs => cpyN_lt hs) (fun k hk => cpyN_lt hk)] at h
  refine j_aload_n dX3_hoursUntilDry_0 rfl ?_
  refine j_get fl_X3_16 dX3_hoursUntilDry_1 (by omega) h0 rfl ?_
  refine j_aload_n dX3_hoursUntilDry_4 rfl ?_
  refine j_get fl_X3_12 dX3_hoursUntilDry_5 (by omega) h0 rfl ?_
  refine j_cV (As := [.ref (ad 1)]) (rest := []) cm_X2_copyFrom ci_X2_copyFrom cs_X2_copyFrom rfl ln_X3_189 (ci := 2) rfl dX3_hoursUntilDry_8 (d' := 1) (by decide) (by omega) ht rfl rfl (Nat.le_of_ble_eq_true rfl) (Nat.le_of_ble_eq_true rfl) (s_X2_copyFrom T W ⟨⟨by decide, by decide, by decide⟩, ⟨by decide, by decide, by decide⟩, by decide, by decide, by decide⟩) ?_
  refine j_iconst (v := nI 0) dX3_hoursUntilDry_11 (by decide) ?_
  refine j_istore_n (L' := [some (.ref (ad 0)), some (.int (nI 0))]) dX3_hoursUntilDry_12 (by decide) rfl rfl ?_
  refine j_E (E' := va_up (va_up (va_up (va_up E 4 (.inr (2, [.ref (ad 5), .ref (ad 6), .int (nI F), .int (nI S), .int su]))) 5 (aI g 128 (cpyN lv lv4 (F * S)))) 6 (aI g 16 (cpyN ed ed4 S))) 5 (aI g 128 (cpyN lv lv4 (F * S)))) (up_self ((up_ne (by decide)).trans up_eq)).symm ?_
  have hr : ∀ (v : Int32) (f : Nat → Int32), v = untilD su (cpyN ed ed4 S) F S (cpyN lv lv4 (F * S)) → Φ (some (.int v)) n ad (va_up (va_up (va_up (va_up E 4 (.inr (2, [.ref (ad 5), .ref (ad 6), .int (nI F), .int (nI S), .int su]))) 5 (aI g 128 (cpyN lv lv4 (F * S)))) 6 (aI g 16 (cpyN ed ed4 S))) 5 (aI g 128 f)) := fun v f hv => hv ▸ h _ ⟨CR.setTrial C (wat.setL (wat.setE (wat.setL (wat.setW T hF hS)))) (fun k hk => by rw [up_ne (by omega), up_ne (by omega), up_ne (by omega), up_ne (by omega)]), fun k hk => by rw [up_ne (by omega), up_ne (by omega), up_ne (by omega), up_ne (by omega)]⟩
  refine lpe_ind (b := fun k (f : Nat → Int32) => if uptC f (F * S) 0 = nI (F * S) then .inr k else .inl (hourR su (cpyN ed ed4 S) F S f).2) (P := fun (k : Nat) (f : Nat → Int32) => J g mX3_hoursUntilDry 3 0 0 13 [some (.ref (ad 0)), some (.int (nI k))] [] n ad (va_up (va_up (va_up (va_up E 4 (.inr (2, [.ref (ad 5), .ref (ad 6), .int (nI F), .int (nI S), .int su]))) 5 (aI g 128 (cpyN lv lv4 (F * S)))) 6 (aI g 16 (cpyN ed ed4 S))) 5 (aI g 128 f)) Φ Ψ) (Pb := fun k => ∀ f : Nat → Int32, Φ (some (.int (nI k))) n ad (va_up (va_up (va_up (va_up E 4 (.inr (2, [.ref (ad 5), .ref (ad 6), .int (nI F), .int (nI S), .int su]))) 5 (aI g 128 (cpyN lv lv4 (F * S)))) 6 (aI g 16 (cpyN ed ed4 S))) 5 (aI g 128 f))) (N := 60) 0 ?_ 60 (cpyN lv lv4 (F * S)) (by omega) ?_
  · intro k f hk0 hk ih
    show J g mX3_hoursUntilDry 3 0 0 13 [some (.ref (ad 0)), some (.int (nI k))] [] n ad (va_up (va_up (va_up (va_up E 4 (.inr (2, [.ref (ad 5), .ref (ad 6), .int (nI F), .int (nI S), .int su]))) 5 (aI g 128 (cpyN lv lv4 (F * S)))) 6 (aI g 16 (cpyN ed ed4 S))) 5 (aI g 128 f)) Φ Ψ
    by_cases hq : uptC f (F * S) 0 = nI (F * S)
    · skip
      refine j_iload_n dX3_hoursUntilDry_13 rfl ?_
      refine j_bipush (v := nI 60) dX3_hoursUntilDry_14 (by decide) ?_
      refine j_icmp_ge_f (tgt := 45) dX3_hoursUntilDry_16 (by decide) (nI_nle' (by omega) (by omega) (by omega)) ?_
      refine j_aload_n dX3_hoursUntilDry_19 rfl ?_
      refine j_get fl_X3_16 dX3_hoursUntilDry_20 (by omega) ((up_ne (by decide)).trans ((up_ne (by decide)).trans ((up_ne (by decide)).trans ((up_ne (by decide)).trans h0)))) rfl ?_
      refine j_cV (As := []) (rest := []) cm_X2_allDry ci_X2_allDry cs_X2_allDry rfl ln_X3_192 (ci := 2) rfl dX3_hoursUntilDry_23 (d' := 2) (by decide) (by omega) ((up_ne (by decide)).trans ((up_ne (by decide)).trans ((up_ne (by decide)).trans up_eq))) rfl rfl (Nat.le_of_ble_eq_true rfl) (Nat.le_of_ble_eq_true rfl) (s_X2_allDry_t (wat.setL (wat.setE (wat.setL (wat.setW T hF hS)))) hq) ?_
      refine j_if_eq_f (tgt := 31) dX3_hoursUntilDry_26 (by decide) (by decide) ?_
      refine j_iload_n dX3_hoursUntilDry_29 rfl ?_
      exact j_iret dX3_hoursUntilDry_30 rfl (ih (.inr k) (by simp only [hq, if_true]) f)
    · skip
      refine j_iload_n dX3_hoursUntilDry_13 rfl ?_
      refine j_bipush (v := nI 60) dX3_hoursUntilDry_14 (by decide) ?_
      refine j_icmp_ge_f (tgt := 45) dX3_hoursUntilDry_16 (by decide) (nI_nle' (by omega) (by omega) (by omega)) ?_
      refine j_aload_n dX3_hoursUntilDry_19 rfl ?_
      refine j_get fl_X3_16 dX3_hoursUntilDry_20 (by omega) ((up_ne (by decide)).trans ((up_ne (by decide)).trans ((up_ne (by decide)).trans ((up_ne (by decide)).trans h0)))) rfl ?_
      refine j_cV (As := []) (rest := []) cm_X2_allDry ci_X2_allDry cs_X2_allDry rfl ln_X3_192 (ci := 2) rfl dX3_hoursUntilDry_23 (d' := 2) (by decide) (by omega) ((up_ne (by decide)).trans ((up_ne (by decide)).trans ((up_ne (by decide)).trans up_eq))) rfl rfl (Nat.le_of_ble_eq_true rfl) (Nat.le_of_ble_eq_true rfl) (s_X2_allDry_f (wat.setL (wat.setE (wat.setL (wat.setW T hF hS)))) hq) ?_
      refine j_if_eq_t (tgt := 31) dX3_hoursUntilDry_26 (by decide) rfl ?_
      refine j_aload_n dX3_hoursUntilDry_31 rfl ?_
      refine j_get fl_X3_16 dX3_hoursUntilDry_32 (by omega) ((up_ne (by decide)).trans ((up_ne (by decide)).trans ((up_ne (by decide)).trans ((up_ne (by decide)).trans h0)))) rfl ?_
      refine j_cV (As := []) (rest := []) cm_X2_flowOneHour ci_X2_flowOneHour cs_X2_flowOneHour rfl ln_X3_196 (ci := 2) rfl dX3_hoursUntilDry_35 (d' := 2) (by decide) (by omega) ((up_ne (by decide)).trans ((up_ne (by decide)).trans ((up_ne (by decide)).trans up_eq))) rfl rfl (Nat.le_of_ble_eq_true rfl) (Nat.le_of_ble_eq_true rfl) (s_X2_flowOneHour (wat.setL (wat.setE (wat.setL (wat.setW T hF hS))))) ?_
      refine j_E up_up ?_
      refine j_pop dX3_hoursUntilDry_38 rfl ?_
      refine j_iinc (v := nI (k + 1)) (L' := [some (.ref (ad 0)), some (.int (nI (k + 1)))]) dX3_hoursUntilDry_39 (by decide) rfl (nI_1 _) rfl rfl ?_
      refine j_goto (tgt := 13) dX3_hoursUntilDry_42 (by decide) ?_
      exact ih (.inl _) (by simp only [hq, if_false])
  · skip
    rcases hu : untilR su (cpyN ed ed4 S) F S (cpyN lv lv4 (F * S)) with f | k
    · skip
      show lpeP _ _ (untilR su (cpyN ed ed4 S) F S (cpyN lv lv4 (F * S)))
      rw [hu]
      show J g mX3_hoursUntilDry 3 0 0 13 [some (.ref (ad 0)), some (.int (nI 60))] [] n ad (va_up (va_up (va_up (va_up E 4 (.inr (2, [.ref (ad 5), .ref (ad 6), .int (nI F), .int (nI S), .int su]))) 5 (aI g 128 (cpyN lv lv4 (F * S)))) 6 (aI g 16 (cpyN ed ed4 S))) 5 (aI g 128 f)) Φ Ψ
      by_cases hq : uptC f (F * S) 0 = nI (F * S)
      · skip
        refine j_iload_n dX3_hoursUntilDry_13 rfl ?_
        refine j_bipush (v := nI 60) dX3_hoursUntilDry_14 (by decide) ?_
        refine j_icmp_ge_t (tgt := 45) dX3_hoursUntilDry_16 (by decide) (nI_le' (by omega) (by omega) (by omega)) ?_
        refine j_aload_n dX3_hoursUntilDry_45 rfl ?_
        refine j_get fl_X3_16 dX3_hoursUntilDry_46 (by omega) ((up_ne (by decide)).trans ((up_ne (by decide)).trans ((up_ne (by decide)).trans ((up_ne (by decide)).trans h0)))) rfl ?_
        refine j_cV (As := []) (rest := []) cm_X2_allDry ci_X2_allDry cs_X2_allDry rfl ln_X3_192 (ci := 2) rfl dX3_hoursUntilDry_49 (d' := 2) (by decide) (by omega) ((up_ne (by decide)).trans ((up_ne (by decide)).trans ((up_ne (by decide)).trans up_eq))) rfl rfl (Nat.le_of_ble_eq_true rfl) (Nat.le_of_ble_eq_true rfl) (s_X2_allDry_t (wat.setL (wat.setE (wat.setL (wat.setW T hF hS)))) hq) ?_
        refine j_if_eq_f (tgt := 60) dX3_hoursUntilDry_52 (by decide) (by decide) ?_
        refine j_bipush (v := 60) dX3_hoursUntilDry_55 (by decide) ?_
        refine j_goto (tgt := 61) dX3_hoursUntilDry_57 (by decide) ?_
        exact j_iret dX3_hoursUntilDry_61 rfl (hr _ _ (by unfold untilD; rw [hu]; simp only [hq, if_true, if_false]))
      · skip
        refine j_iload_n dX3_hoursUntilDry_13 rfl ?_
        refine j_bipush (v := nI 60) dX3_hoursUntilDry_14 (by decide) ?_
        refine j_icmp_ge_t (tgt := 45) dX3_hoursUntilDry_16 (by decide) (nI_le' (by omega) (by omega) (by omega)) ?_
        refine j_aload_n dX3_hoursUntilDry_45 rfl ?_
        refine j_get fl_X3_16 dX3_hoursUntilDry_46 (by omega) ((up_ne (by decide)).trans ((up_ne (by decide)).trans ((up_ne (by decide)).trans ((up_ne (by decide)).trans h0)))) rfl ?_
        refine j_cV (As := []) (rest := []) cm_X2_allDry ci_X2_allDry cs_X2_allDry rfl ln_X3_192 (ci := 2) rfl dX3_hoursUntilDry_49 (d' := 2) (by decide) (by omega) ((up_ne (by decide)).trans ((up_ne (by decide)).trans ((up_ne (by decide)).trans up_eq))) rfl rfl (Nat.le_of_ble_eq_true rfl) (Nat.le_of_ble_eq_true rfl) (s_X2_allDry_f (wat.setL (wat.setE (wat.setL (wat.setW T hF hS)))) hq) ?_
        refine j_if_eq_t (tgt := 60) dX3_hoursUntilDry_52 (by decide) rfl ?_
        refine j_iconst (v := (-1)) dX3_hoursUntilDry_60 (by decide) ?_
        exact j_iret dX3_hoursUntilDry_61 rfl (hr _ _ (by unfold untilD; rw [hu]; simp only [hq, if_true, if_false]))
    · skip
      show lpeP _ _ (untilR su (cpyN ed ed4 S) F S (cpyN lv lv4 (F * S)))
      rw [hu]
      exact fun f => hr _ _ (by unfold untilD; rw [hu])
set_option maxRecDepth 100000 in
set_option maxHeartbeats 4000000 in
theorem s_X3_sunWanted {g : jG} {n : Nat} {ad : Nat → Nat} {E : Nat → va_E} {F S : Nat} {hrs su : Int32} {gone : Int64} {lv ed : Nat → Int32} {old cnt mc : Nat} {dr mr : Nat → Nat → Int32} (C : CR g n ad E F S hrs su gone lv ed old cnt dr mc mr) (t9 : Nat) (ht1 : 1 ≤ t9) (ht2 : t9 ≤ 40) : RetP g mX3_sunWanted 7 [.ref (ad 0), .int (nI t9)] n ad E (some (.int (wantD ed F S t9 lv))) (fun E9 => CR g n ad E9 F S hrs su gone lv ed old cnt dr mc mr ∧ ∀ k, 63 ≤ k → E9 k = E k) := by
  obtain ⟨h0, W, ⟨F4, S4, su4, lv4, ed4, T⟩, Z, Y, ⟨fc, Hm, P⟩, hFp, hSp, hn⟩ := id C
  obtain ⟨-, -, hw, hL, hE, hF, hS⟩ := id W
  obtain ⟨-, -, hz, hzO, hzr, -, -, hold, hcnt⟩ := id Z
  obtain ⟨-, -, hy, hyO, hyr, -, -, -, hmc⟩ := id Y
  intro Φ Ψ h
  show J g mX3_sunWanted 7 0 0 0 [some (.ref (ad 0)), some (.int (nI t9)), none] [] n ad E Φ Ψ
  refine j_iload_n dX3_sunWanted_0 rfl ?_
  refine j_iconst (v := nI 1) dX3_sunWanted_1 (by decide) ?_
  refine j_bipush (v := nI 40) dX3_sunWanted_2 (by decide) ?_
  refine j_cS (As := [.int (nI t9), .int (nI 1), .int (nI 40)]) (rest := []) cm_X3_checkNumber ct_X3_checkNumber ln_X3_46 dX3_sunWanted_4 (d' := 6) (by decide) rfl rfl (Nat.le_of_ble_eq_true rfl) (Nat.le_of_ble_eq_true rfl) (s_checkNumber_ok (nI t9) (nI 1) (nI 40) (nI_nlt' (by omega) (by omega) (by omega)) (nI_le' (by omega) (by omega) (by omega))) ?_
  refine j_iconst (v := nI 0) dX3_sunWanted_7 (by decide) ?_
  refine j_istore_n (L' := [some (.ref (ad 0)), some (.int (nI t9)), some (.int (nI 0))]) dX3_sunWanted_8 (by decide) rfl rfl ?_
  suffices hall : ∀ E1 : Nat → va_E, (CR g n ad E1 F S hrs su gone lv ed old cnt dr mc mr ∧ ∀ k, 63 ≤ k → E1 k = E k) → J g mX3_sunWanted 7 0 0 9 [some (.ref (ad 0)), some (.int (nI t9)), some (.int (nI 0))] [] n ad E1 Φ Ψ from hall E ⟨C, fun _ _ => rfl⟩
  refine lpe_ind (b := fun j (_ : Unit) => if uptC (flowR (nI j) ed F S t9 lv).2 (F * S) 0 = nI (F * S) then .inr j else .inl ()) (P := fun (j : Nat) (_ : Unit) => ∀ E1 : Nat → va_E, (CR g n ad E1 F S hrs su gone lv ed old cnt dr mc mr ∧ ∀ k, 63 ≤ k → E1 k = E k) → J g mX3_sunWanted 7 0 0 9 [some (.ref (ad 0)), some (.int (nI t9)), some (.int (nI j))] [] n ad E1 Φ Ψ) (Pb := fun j => ∀ E1 : Nat → va_E, (CR g n ad E1 F S hrs su gone lv ed old cnt dr mc mr ∧ ∀ k, 63 ≤ k → E1 k = E k) → Φ (some (.int (nI j))) n ad E1) (N := 10) 0 ?_ 10 () rfl ?_
  · intro j u hj0 hj ih E1 q1
    have C1 := q1.1
    obtain ⟨h01, W1, ⟨F41, S41, su41, lv41, ed41, T1⟩, Z1, Y1, ⟨fc1, Hm1, P1⟩, hFp1, hSp1, hn1⟩ := id C1
    obtain ⟨-, -, hw1, hL1, hE1, hF1, hS1⟩ := id W1
    obtain ⟨-, -, hz1, hzO1, hzr1, -, -, hold1, hcnt1⟩ := id Z1
    obtain ⟨-, -, hy1, hyO1, hyr1, -, -, -, hmc1⟩ := id Y1
    obtain ⟨-, -, ht1, htL1, htE1, hFT1, hST1⟩ := id T1
    show J g mX3_sunWanted 7 0 0 9 [some (.ref (ad 0)), some (.int (nI t9)), some (.int (nI j))] [] n ad E1 Φ Ψ
    have hc : uptC (flowR (nI j) (cpyN ed ed41 S) F S t9 (cpyN lv lv41 (F * S))).2 (F * S) 0 = uptC (flowR (nI j) ed F S t9 lv).2 (F * S) 0 := uptC_congr (flowR_congr (fun s hs => cpyN_lt hs) (fun k hk => cpyN_lt hk)).2
    refine j_iload_n dX3_sunWanted_9 rfl ?_
    refine j_bipush (v := nI 9) dX3_sunWanted_10 (by decide) ?_
    refine j_icmp_gt_f (tgt := 61) dX3_sunWanted_12 (by decide) (nI_nlt' (by omega) (by omega) (by omega)) ?_
    refine j_aload_n dX3_sunWanted_15 rfl ?_
    refine j_get fl_X3_16 dX3_sunWanted_16 (by omega) h01 rfl ?_
    refine j_aload_n dX3_sunWanted_19 rfl ?_
    refine j_get fl_X3_12 dX3_sunWanted_20 (by omega) h01 rfl ?_
    refine j_cV (As := [.ref (ad 1)]) (rest := []) cm_X2_copyFrom ci_X2_copyFrom cs_X2_copyFrom rfl ln_X3_189 (ci := 2) rfl dX3_sunWanted_23 (d' := 1) (by decide) (by omega) ht1 rfl rfl (Nat.le_of_ble_eq_true rfl) (Nat.le_of_ble_eq_true rfl) (s_X2_copyFrom T1 W1 ⟨⟨by decide, by decide, by decide⟩, ⟨by decide, by decide, by decide⟩, by decide, by decide, by decide⟩) ?_
    refine j_aload_n dX3_sunWanted_26 rfl ?_
    refine j_get fl_X3_16 dX3_sunWanted_27 (by omega) ((up_ne (by decide)).trans ((up_ne (by decide)).trans ((up_ne (by decide)).trans h01))) rfl ?_
    refine j_iload_n dX3_sunWanted_30 rfl ?_
    refine j_put fl_X3_38 fp_X2 dX3_sunWanted_31 (by omega) ((up_ne (by decide)).trans ((up_ne (by decide)).trans up_eq)) (Or.inl rfl) rfl rfl (Nat.le_of_ble_eq_true rfl) ?_
    refine j_E (E' := va_up (va_up (va_up E1 5 (aI g 128 (cpyN lv lv41 (F * S)))) 6 (aI g 16 (cpyN ed ed41 S))) 4 (.inr (2, [.ref (ad 5), .ref (ad 6), .int (nI F), .int (nI S), .int (nI j)]))) (by funext j9; simp only [va_up]; split <;> simp_all) ?_
    refine j_aload_n dX3_sunWanted_34 rfl ?_
    refine j_get fl_X3_16 dX3_sunWanted_35 (by omega) ((up_ne (by decide)).trans ((up_ne (by decide)).trans ((up_ne (by decide)).trans h01))) rfl ?_
    refine j_iload_n dX3_sunWanted_38 rfl ?_
    refine j_cV (As := [.int (nI t9)]) (rest := []) cm_X2_flowFor ci_X2_flowFor cs_X2_flowFor rfl ln_X3_108 (ci := 2) rfl dX3_sunWanted_39 (d' := 3) (by decide) (by omega) up_eq rfl rfl (Nat.le_of_ble_eq_true rfl) (Nat.le_of_ble_eq_true rfl) (s_X2_flowFor (wat.setW (wat.setE (wat.setL T1)) hF hS) t9 (by omega)) ?_
    refine j_pop dX3_sunWanted_42 rfl ?_
    by_cases hq : uptC (flowR (nI j) ed F S t9 lv).2 (F * S) 0 = nI (F * S)
    · skip
      refine j_aload_n dX3_sunWanted_43 rfl ?_
      refine j_get fl_X3_16 dX3_sunWanted_44 (by omega) ((up_ne (by decide)).trans ((up_ne (by decide)).trans ((up_ne (by decide)).trans ((up_ne (by decide)).trans h01)))) rfl ?_
      refine j_cV (As := []) (rest := []) cm_X2_allDry ci_X2_allDry cs_X2_allDry rfl ln_X3_192 (ci := 2) rfl dX3_sunWanted_47 (d' := 2) (by decide) (by omega) ((up_ne (by decide)).trans up_eq) rfl rfl (Nat.le_of_ble_eq_true rfl) (Nat.le_of_ble_eq_true rfl) (s_X2_allDry_t (wat.setL (wat.setW (wat.setE (wat.setL T1)) hF1 hS1)) (by rw [hc]; exact hq)) ?_
      refine j_if_eq_f (tgt := 55) dX3_sunWanted_50 (by decide) (by decide) ?_
      refine j_iload_n dX3_sunWanted_53 rfl ?_
      exact j_iret dX3_sunWanted_54 rfl (ih (.inr j) (by simp only [hq, if_true]) _ ⟨CR.setTrial C1 (wat.setL (wat.setW (wat.setE (wat.setL T1)) hF1 hS1)) (fun k hk => ((up_ne (by omega)).trans ((up_ne (by omega)).trans ((up_ne (by omega)).trans ((up_ne (by omega)).trans rfl))))), fun k hk => ((up_ne (by omega)).trans ((up_ne (by omega)).trans ((up_ne (by omega)).trans ((up_ne (by omega)).trans (q1.2 k hk)))))⟩)
    · skip
      refine j_aload_n dX3_sunWanted_43 rfl ?_
      refine j_get fl_X3_16 dX3_sunWanted_44 (by omega) ((up_ne (by decide)).trans ((up_ne (by decide)).trans ((up_ne (by decide)).trans ((up_ne (by decide)).trans h01)))) rfl ?_
      refine j_cV (As := []) (rest := []) cm_X2_allDry ci_X2_allDry cs_X2_allDry rfl ln_X3_192 (ci := 2) rfl dX3_sunWanted_47 (d' := 2) (by decide) (by omega) ((up_ne (by decide)).trans up_eq) rfl rfl (Nat.le_of_ble_eq_true rfl) (Nat.le_of_ble_eq_true rfl) (s_X2_allDry_f (wat.setL (wat.setW (wat.setE (wat.setL T1)) hF1 hS1)) (by rw [hc]; exact hq)) ?_
      refine j_if_eq_t (tgt := 55) dX3_sunWanted_50 (by decide) rfl ?_
      refine j_iinc (v := nI (j + 1)) (L' := [some (.ref (ad 0)), some (.int (nI t9)), some (.int (nI (j + 1)))]) dX3_sunWanted_55 (by decide) rfl (nI_1 _) rfl rfl ?_
      refine j_goto (tgt := 9) dX3_sunWanted_58 (by decide) ?_
      exact ih (.inl ()) (by simp only [hq, if_false]) _ ⟨CR.setTrial C1 (wat.setL (wat.setW (wat.setE (wat.setL T1)) hF1 hS1)) (fun k hk => ((up_ne (by omega)).trans ((up_ne (by omega)).trans ((up_ne (by omega)).trans ((up_ne (by omega)).trans rfl))))), fun k hk => ((up_ne (by omega)).trans ((up_ne (by omega)).trans ((up_ne (by omega)).trans ((up_ne (by omega)).trans (q1.2 k hk)))))⟩
  · skip
    rcases hu : wantR ed F S t9 lv with y | k
    · show lpeP _ _ (wantR ed F S t9 lv)
      rw [hu]
      intro E1 q1
      show J g mX3_sunWanted 7 0 0 9 [some (.ref (ad 0)), some (.int (nI t9)), some (.int (nI 10))] [] n ad E1 Φ Ψ
      refine j_iload_n dX3_sunWanted_9 rfl ?_
      refine j_bipush (v := nI 9) dX3_sunWanted_10 (by decide) ?_
      refine j_icmp_gt_t (tgt := 61) dX3_sunWanted_12 (by decide) (nI_lt' (by omega) (by omega) (by omega)) ?_
      refine j_iconst (v := (-1)) dX3_sunWanted_61 (by decide) ?_
      exact j_iret dX3_sunWanted_62 rfl (by have q := h E1 q1; unfold wantD at q; rw [hu] at q; exact q)
    · show lpeP _ _ (wantR ed F S t9 lv)
      rw [hu]
      intro E1 q1
      have q := h E1 q1
      unfold wantD at q
      rw [hu] at q
      exact q
set_option maxRecDepth 100000 in
set_option maxHeartbeats 4000000 in
theorem s_X3_sunWanted_iae {g : jG} {n : Nat} {ad : Nat → Nat} {E : Nat → va_E} {F S : Nat} {hrs su : Int32} {gone : Int64} {lv ed : Nat → Int32} {old cnt mc : Nat} {dr mr : Nat → Nat → Int32} (C : CR g n ad E F S hrs su gone lv ed old cnt dr mc mr) (x : Int32) (hx : x < 1 ∨ ¬ x ≤ 40) : Thr g mX3_sunWanted 7 [.ref (ad 0), .int x] n ad E "java/lang/IllegalArgumentException" := by
  obtain ⟨h0, W, ⟨F4, S4, su4, lv4, ed4, T⟩, Z, Y, ⟨fc, Hm, P⟩, hFp, hSp, hn⟩ := id C
  obtain ⟨-, -, hw, hL, hE, hF, hS⟩ := id W
  obtain ⟨-, -, hz, hzO, hzr, -, -, hold, hcnt⟩ := id Z
  obtain ⟨-, -, hy, hyO, hyr, -, -, -, hmc⟩ := id Y
  intro Φ Ψ h
  show J g mX3_sunWanted 7 1 6 0 [some (.ref (ad 0)), some (.int x), none] [] n ad E Φ Ψ
  refine j_iload_n dX3_sunWanted_0 rfl ?_
  refine j_iconst (v := 1) dX3_sunWanted_1 (by decide) ?_
  refine j_bipush (v := 40) dX3_sunWanted_2 (by decide) ?_
  exact j_cSx (As := [.int x, .int 1, .int 40]) (rest := []) cm_X3_checkNumber ct_X3_checkNumber ln_X3_46 dX3_sunWanted_4 (d' := 6) (by decide) rfl rfl (Nat.le_of_ble_eq_true rfl) (Nat.le_of_ble_eq_true rfl) (s_checkNumber_bad x 1 40 hx) (jMeets_out rfl h)
def edgeN (su : Int32) (ed : Nat → Int32) (F S t b : Nat) (lv : Nat → Int32) : (Nat × Int32) ⊕ Nat := lpe (fun j (y : Nat × Int32) => if y.2 ≤ 0 then .inr y.1 else .inl (if y.2 ≤ edgeOver su ed F S t b lv j then y else (10 * j, edgeOver su ed F S t b lv j))) 1 30 (0, edgeOver su ed F S t b lv 0)
theorem lpe_first {α β : Type} {b : Nat → α → α ⊕ β} {j k : Nat} {a x : α} (h : b j a = .inl x) : lpe b j (k + 1) a = lpe b (j + 1) k x := by
  show (match b j a with | .inl a' => lpe b (j + 1) k a' | .inr r => .inr r) = _
  rw [h]
theorem edgeN_eq (su : Int32) (ed : Nat → Int32) (F S t b : Nat) (lv : Nat → Int32) : edgeR su ed F S t b lv = edgeN su ed F S t b lv := by
  unfold edgeR edgeN
  have e : (if (2147483647 : Int32) ≤ edgeOver su ed F S t b lv 0 then ((0, 2147483647) : Nat × Int32) else (10 * 0, edgeOver su ed F S t b lv 0)) = (0, edgeOver su ed F S t b lv 0) := by
    by_cases q : (2147483647 : Int32) ≤ edgeOver su ed F S t b lv 0
    · rw [if_pos q]
      have h1 := Int32.toInt_lt (edgeOver su ed F S t b lv 0)
      have h2 : (2147483647 : Int32).toInt = 2147483647 := by decide
      rw [Int32.le_iff_toInt_le] at q
      have : (2147483647 : Int32) = edgeOver su ed F S t b lv 0 := by
        rw [← Int32.toInt_inj]
        omega
      rw [← this]
    · rw [if_neg q]
  refine (lpe_first (j := 0) (k := 30) (a := (0, 2147483647)) (x := (0, edgeOver su ed F S t b lv 0)) ?_).trans rfl
  show (if (2147483647 : Int32) ≤ 0 then (Sum.inr 0 : (Nat × Int32) ⊕ Nat) else Sum.inl (if (2147483647 : Int32) ≤ edgeOver su ed F S t b lv 0 then ((0, 2147483647) : Nat × Int32) else (10 * 0, edgeOver su ed F S t b lv 0))) = _
  rw [if_neg (by decide), e]
def meanD (lv : Nat → Int32) (F S : Nat) : UInt64 := FP.ddiv (FP.l2d (sumP lv S 0 0 (F - 1) (S - 1))) (FP.i2d (nI (F * S)))
theorem fs1 {F S : Nat} (h1 : 1 ≤ F) (h2 : 1 ≤ S) : 1 ≤ F * S := Nat.mul_le_mul h1 h2
set_option maxRecDepth 100000 in
set_option maxHeartbeats 4000000 in
theorem s_X3_meanLevel {g : jG} {n : Nat} {ad : Nat → Nat} {E : Nat → va_E} {F S : Nat} {hrs su : Int32} {gone : Int64} {lv ed : Nat → Int32} {old cnt mc : Nat} {dr mr : Nat → Nat → Int32} (C : CR g n ad E F S hrs su gone lv ed old cnt dr mc mr) : Ret g mX3_meanLevel 4 [.ref (ad 0)] n ad E (some (.double (meanD lv F S))) E := by
  obtain ⟨h0, W, ⟨F4, S4, su4, lv4, ed4, T⟩, Z, Y, ⟨fc, Hm, P⟩, hFp, hSp, hn⟩ := id C
  obtain ⟨-, -, hw, hL, hE, hF, hS⟩ := id W
  obtain ⟨-, -, hz, hzO, hzr, -, -, hold, hcnt⟩ := id Z
  obtain ⟨-, -, hy, hyO, hyr, -, -, -, hmc⟩ := id Y
  have hFS := fs128 hF hS
  have hFS1 := fs1 hFp hSp
  intro Φ Ψ h
  show J g mX3_meanLevel 4 0 0 0 [some (.ref (ad 0)), none] [] n ad E Φ Ψ
  refine j_aload_n dX3_meanLevel_0 rfl ?_
  refine j_get fl_X3_12 dX3_meanLevel_1 (by omega) h0 rfl ?_
  refine j_cV (As := []) (rest := []) cm_X2_puddleCount ci_X2_puddleCount cs_X2_puddleCount rfl ln_X3_53 (ci := 2) rfl dX3_meanLevel_4 (d' := 0) (by decide) (by omega) hw rfl rfl (Nat.le_of_ble_eq_true rfl) (Nat.le_of_ble_eq_true rfl) (s_X2_puddleCount W) ?_
  refine j_istore_n (L' := [some (.ref (ad 0)), some (.int (nI (F * S)))]) dX3_meanLevel_7 (by decide) rfl rfl ?_
  refine j_iload_n dX3_meanLevel_8 rfl ?_
  refine j_iconst (v := nI 1) dX3_meanLevel_9 (by decide) ?_
  refine j_icmp_ge_t (tgt := 17) dX3_meanLevel_10 (by decide) (nI_le' (by omega) (by omega) (by omega)) ?_
  refine j_aload_n dX3_meanLevel_17 rfl ?_
  refine j_get fl_X3_12 dX3_meanLevel_18 (by omega) h0 rfl ?_
  refine j_cV (As := []) (rest := []) cm_X2_wholeSum ci_X2_wholeSum cs_X2_wholeSum rfl ln_X3_155 (ci := 2) rfl dX3_meanLevel_21 (d' := 3) (by decide) (by omega) hw rfl rfl (Nat.le_of_ble_eq_true rfl) (Nat.le_of_ble_eq_true rfl) (s_X2_wholeSum W (by omega) (by omega)) ?_
  refine j_l2d dX3_meanLevel_24 ?_
  refine j_iload_n dX3_meanLevel_25 rfl ?_
  refine j_i2d dX3_meanLevel_26 ?_
  refine j_ddiv dX3_meanLevel_27 (mean_num _ (by omega) (by omega)) ?_
  exact j_dret dX3_meanLevel_28 rfl h
set_option maxRecDepth 100000 in
set_option maxHeartbeats 4000000 in
theorem s_X3_digested {g : jG} {n : Nat} {ad : Nat → Nat} {E : Nat → va_E} (x y : Int64) : Ret g mX3_digested 0 [.long x, .long y] n ad E (some (.long (x * 31 + y))) E := by
  intro Φ Ψ h
  show J g mX3_digested 0 0 0 0 [some (.long x), none, some (.long y), none] [] n ad E Φ Ψ
  refine j_lload_n dX3_digested_0 rfl ?_
  refine j_ldc2 dX3_digested_1 cn_X3_267 ?_
  refine j_lmul dX3_digested_4 ?_
  refine j_lload_n dX3_digested_5 rfl ?_
  refine j_ladd dX3_digested_6 ?_
  exact j_lret dX3_digested_7 rfl h
def dgF (lv : Nat → Int32) (F S f : Nat) (d : Int64) : Int64 := lpf (fun s d => d * 31 + (lv (f * S + s)).toInt64) 0 S (((((d * 31 + sumP lv S f 0 f (S - 1)) * 31 + (bestRunR lv S f).1) * 31 + (longR lv S f).1.toInt64) * 31 + (nI (highR lv S f)).toInt64) * 31 + (nI (bestS (cntOf lv S) F f).1).toInt64)
def dgFs (lv : Nat → Int32) (F S : Nat) (d : Int64) : Int64 := lpf (dgF lv F S) 0 F d
def dgSs (lv ed : Nat → Int32) (F S : Nat) (d : Int64) : Int64 := lpf (fun s d => (d * 31 + (ed s).toInt64) * 31 + sumP lv S 0 s (F - 1) s) 0 S d
def dgMs (lv : Nat → Int32) (mr : Nat → Nat → Int32) (N mc : Nat) (d : Int64) : Int64 := lpf (fun k d => d * 31 + (chgC lv (mr k) N).toInt64) 0 mc d
set_option maxRecDepth 100000 in
set_option maxHeartbeats 4000000 in
theorem s_X3_digestedFlights {g : jG} {n : Nat} {ad : Nat → Nat} {E : Nat → va_E} {F S : Nat} {hrs su : Int32} {gone : Int64} {lv ed : Nat → Int32} {old cnt mc : Nat} {dr mr : Nat → Nat → Int32} (C : CR g n ad E F S hrs su gone lv ed old cnt dr mc mr) (d0 : Int64) : RetP g mX3_digestedFlights 9 [.ref (ad 0), .long d0] n ad E (some (.long (dgFs lv F S d0))) (fun E9 => CR g n ad E9 F S hrs su gone lv ed old cnt dr mc mr ∧ ∀ k, 63 ≤ k → E9 k = E k) := by
  obtain ⟨h0, W, ⟨F4, S4, su4, lv4, ed4, T⟩, Z, Y, ⟨fc, Hm, P⟩, hFp, hSp, hn⟩ := id C
  obtain ⟨-, -, hw, hL, hE, hF, hS⟩ := id W
  obtain ⟨-, -, hz, hzO, hzr, -, -, hold, hcnt⟩ := id Z
  obtain ⟨-, -, hy, hyO, hyr, -, -, -, hmc⟩ := id Y
  have hp := P.2.2.1
  intro Φ Ψ h
  show J g mX3_digestedFlights 9 0 0 0 [some (.ref (ad 0)), some (.long d0), none, none, none, none, none] [] n ad E Φ Ψ
  refine j_lload_n dX3_digestedFlights_0 rfl ?_
  refine j_lstore_n (L' := [some (.ref (ad 0)), some (.long d0), none, some (.long d0), none, none, none]) dX3_digestedFlights_1 (by decide) rfl rfl ?_
  refine j_aload_n dX3_digestedFlights_2 rfl ?_
  refine j_get fl_X3_34 dX3_digestedFlights_3 (by omega) h0 rfl ?_
  refine j_aload_n dX3_digestedFlights_6 rfl ?_
  refine j_get fl_X3_12 dX3_digestedFlights_7 (by omega) h0 rfl ?_
  refine j_cVp (As := [.ref (ad 1)]) (rest := []) cm_X0_countIn ci_X0_countIn cs_X0_countIn rfl ln_X3_183 (ci := 0) rfl dX3_digestedFlights_10 (d' := 3) (by decide) (by omega) hp rfl rfl (Nat.le_of_ble_eq_true rfl) (Nat.le_of_ble_eq_true rfl) (s_countC C) (fun E1 q1 => ?_)
  obtain ⟨q1, Hc1, hHc1, Pc1⟩ := q1
  have C1 := q1.1
  obtain ⟨h01, W1, ⟨F41, S41, su41, lv41, ed41, T1⟩, Z1, Y1, ⟨fc1, Hm1, P1⟩, hFp1, hSp1, hn1⟩ := id C1
  obtain ⟨-, -, hw1, hL1, hE1, hF1, hS1⟩ := id W1
  obtain ⟨-, -, hz1, hzO1, hzr1, -, -, hold1, hcnt1⟩ := id Z1
  obtain ⟨-, -, hy1, hyO1, hyr1, -, -, -, hmc1⟩ := id Y1
  have hp1 := Pc1.2.2.1
  show J g mX3_digestedFlights 9 0 0 13 [some (.ref (ad 0)), some (.long d0), none, some (.long d0), none, none, none] [] n ad E1 Φ Ψ
  refine j_iconst (v := nI 0) dX3_digestedFlights_13 (by decide) ?_
  refine j_istore (L' := [some (.ref (ad 0)), some (.long d0), none, some (.long d0), none, some (.int (nI 0)), none]) dX3_digestedFlights_14 (by decide) rfl rfl ?_
  refine lpf_ind (b := dgF lv F S) (P := fun (f : Nat) (d : Int64) => J g mX3_digestedFlights 9 0 0 16 [some (.ref (ad 0)), some (.long d0), none, some (.long d), none, some (.int (nI f)), none] [] n ad E1 Φ Ψ) (N := F) 0 ?_ F d0 (by omega) ?_
  · intro f d hf0 hf ih
    show J g mX3_digestedFlights 9 0 0 16 [some (.ref (ad 0)), some (.long d0), none, some (.long d), none, some (.int (nI f)), none] [] n ad E1 Φ Ψ
    have ih0 := ih
    clear ih
    refine j_iload dX3_digestedFlights_16 rfl ?_
    refine j_aload_n dX3_digestedFlights_18 rfl ?_
    refine j_get fl_X3_12 dX3_digestedFlights_19 (by omega) h01 rfl ?_
    refine j_get fl_X3_148 dX3_digestedFlights_22 (by omega) hw1 rfl ?_
    refine j_icmp_ge_f (tgt := 133) dX3_digestedFlights_25 (by decide) (nI_nle' (by omega) (by omega) (by omega)) ?_
    refine j_lload_n dX3_digestedFlights_28 rfl ?_
    refine j_aload_n dX3_digestedFlights_29 rfl ?_
    refine j_iload dX3_digestedFlights_30 rfl ?_
    refine j_cV (As := [.int (nI f)]) (rest := [.long d]) cm_X3_flightSum ci_X3_flightSum cs_X3_flightSum rfl ln_X3_269 (ci := 3) rfl dX3_digestedFlights_32 (d' := 8) (by decide) (by omega) h01 rfl rfl (Nat.le_of_ble_eq_true rfl) (Nat.le_of_ble_eq_true rfl) (s_X3_flightSum C1 f hf) ?_
    refine j_cS (As := [.long d, .long (sumP lv S f 0 f (S - 1))]) (rest := []) cm_X3_digested ct_X3_digested ln_X3_211 dX3_digestedFlights_35 (d' := 0) (by decide) rfl rfl (Nat.le_of_ble_eq_true rfl) (Nat.le_of_ble_eq_true rfl) (s_X3_digested d (sumP lv S f 0 f (S - 1))) ?_
    refine j_lstore_n (L' := [some (.ref (ad 0)), some (.long d0), none, some (.long (d * 31 + (sumP lv S f 0 f (S - 1)))), none, some (.int (nI f)), none]) dX3_digestedFlights_38 (by decide) rfl rfl ?_
    refine j_lload_n dX3_digestedFlights_39 rfl ?_
    refine j_aload_n dX3_digestedFlights_40 rfl ?_
    refine j_iload dX3_digestedFlights_41 rfl ?_
    refine j_cV (As := [.int (nI f)]) (rest := [.long (d * 31 + (sumP lv S f 0 f (S - 1)))]) cm_X3_bestRun ci_X3_bestRun cs_X3_bestRun rfl ln_X3_272 (ci := 3) rfl dX3_digestedFlights_43 (d' := 8) (by decide) (by omega) h01 rfl rfl (Nat.le_of_ble_eq_true rfl) (Nat.le_of_ble_eq_true rfl) (s_X3_bestRun C1 f hf) ?_
    refine j_cS (As := [.long (d * 31 + (sumP lv S f 0 f (S - 1))), .long ((bestRunR lv S f).1)]) (rest := []) cm_X3_digested ct_X3_digested ln_X3_211 dX3_digestedFlights_46 (d' := 0) (by decide) rfl rfl (Nat.le_of_ble_eq_true rfl) (Nat.le_of_ble_eq_true rfl) (s_X3_digested (d * 31 + (sumP lv S f 0 f (S - 1))) ((bestRunR lv S f).1)) ?_
    refine j_lstore_n (L' := [some (.ref (ad 0)), some (.long d0), none, some (.long ((d * 31 + (sumP lv S f 0 f (S - 1))) * 31 + ((bestRunR lv S f).1))), none, some (.int (nI f)), none]) dX3_digestedFlights_49 (by decide) rfl rfl ?_
    refine j_lload_n dX3_digestedFlights_50 rfl ?_
    refine j_aload_n dX3_digestedFlights_51 rfl ?_
    refine j_iload dX3_digestedFlights_52 rfl ?_
    refine j_cV (As := [.int (nI f)]) (rest := [.long ((d * 31 + (sumP lv S f 0 f (S - 1))) * 31 + ((bestRunR lv S f).1))]) cm_X3_longestDry ci_X3_longestDry cs_X3_longestDry rfl ln_X3_275 (ci := 3) rfl dX3_digestedFlights_54 (d' := 8) (by decide) (by omega) h01 rfl rfl (Nat.le_of_ble_eq_true rfl) (Nat.le_of_ble_eq_true rfl) (s_X3_longestDry C1 f hf) ?_
    refine j_i2l dX3_digestedFlights_57 ?_
    refine j_cS (As := [.long ((d * 31 + (sumP lv S f 0 f (S - 1))) * 31 + ((bestRunR lv S f).1)), .long (((longR lv S f).1).toInt64)]) (rest := []) cm_X3_digested ct_X3_digested ln_X3_211 dX3_digestedFlights_58 (d' := 0) (by decide) rfl rfl (Nat.le_of_ble_eq_true rfl) (Nat.le_of_ble_eq_true rfl) (s_X3_digested ((d * 31 + (sumP lv S f 0 f (S - 1))) * 31 + ((bestRunR lv S f).1)) (((longR lv S f).1).toInt64)) ?_
    refine j_lstore_n (L' := [some (.ref (ad 0)), some (.long d0), none, some (.long (((d * 31 + (sumP lv S f 0 f (S - 1))) * 31 + ((bestRunR lv S f).1)) * 31 + (((longR lv S f).1).toInt64))), none, some (.int (nI f)), none]) dX3_digestedFlights_61 (by decide) rfl rfl ?_
    refine j_lload_n dX3_digestedFlights_62 rfl ?_
    refine j_aload_n dX3_digestedFlights_63 rfl ?_
    refine j_iload dX3_digestedFlights_64 rfl ?_
    refine j_cV (As := [.int (nI f)]) (rest := [.long (((d * 31 + (sumP lv S f 0 f (S - 1))) * 31 + ((bestRunR lv S f).1)) * 31 + (((longR lv S f).1).toInt64))]) cm_X3_highestAt ci_X3_highestAt cs_X3_highestAt rfl ln_X3_278 (ci := 3) rfl dX3_digestedFlights_66 (d' := 8) (by decide) (by omega) h01 rfl rfl (Nat.le_of_ble_eq_true rfl) (Nat.le_of_ble_eq_true rfl) (s_X3_highestAt C1 f hf) ?_
    refine j_i2l dX3_digestedFlights_69 ?_
    refine j_cS (As := [.long (((d * 31 + (sumP lv S f 0 f (S - 1))) * 31 + ((bestRunR lv S f).1)) * 31 + (((longR lv S f).1).toInt64)), .long ((nI (highR lv S f)).toInt64)]) (rest := []) cm_X3_digested ct_X3_digested ln_X3_211 dX3_digestedFlights_70 (d' := 0) (by decide) rfl rfl (Nat.le_of_ble_eq_true rfl) (Nat.le_of_ble_eq_true rfl) (s_X3_digested (((d * 31 + (sumP lv S f 0 f (S - 1))) * 31 + ((bestRunR lv S f).1)) * 31 + (((longR lv S f).1).toInt64)) ((nI (highR lv S f)).toInt64)) ?_
    refine j_lstore_n (L' := [some (.ref (ad 0)), some (.long d0), none, some (.long ((((d * 31 + (sumP lv S f 0 f (S - 1))) * 31 + ((bestRunR lv S f).1)) * 31 + (((longR lv S f).1).toInt64)) * 31 + ((nI (highR lv S f)).toInt64))), none, some (.int (nI f)), none]) dX3_digestedFlights_73 (by decide) rfl rfl ?_
    refine j_lload_n dX3_digestedFlights_74 rfl ?_
    refine j_aload_n dX3_digestedFlights_75 rfl ?_
    refine j_get fl_X3_34 dX3_digestedFlights_76 (by omega) h01 rfl ?_
    refine j_iload dX3_digestedFlights_79 rfl ?_
    refine j_cV (As := [.int (nI f)]) (rest := [.long ((((d * 31 + (sumP lv S f 0 f (S - 1))) * 31 + ((bestRunR lv S f).1)) * 31 + (((longR lv S f).1).toInt64)) * 31 + ((nI (highR lv S f)).toInt64))]) cm_X0_bestPartner ci_X0_bestPartner cs_X0_bestPartner rfl ln_X3_203 (ci := 0) rfl dX3_digestedFlights_81 (d' := 2) (by decide) (by omega) hp1 rfl rfl (Nat.le_of_ble_eq_true rfl) (Nat.le_of_ble_eq_true rfl) (s_X0_bestPartner' Pc1 f hf (congrArg Prod.fst (bestS_congr hHc1 hf))) ?_
    refine j_i2l dX3_digestedFlights_84 ?_
    refine j_cS (As := [.long ((((d * 31 + (sumP lv S f 0 f (S - 1))) * 31 + ((bestRunR lv S f).1)) * 31 + (((longR lv S f).1).toInt64)) * 31 + ((nI (highR lv S f)).toInt64)), .long ((nI ((bestS (cntOf lv S) F f).1)).toInt64)]) (rest := []) cm_X3_digested ct_X3_digested ln_X3_211 dX3_digestedFlights_85 (d' := 0) (by decide) rfl rfl (Nat.le_of_ble_eq_true rfl) (Nat.le_of_ble_eq_true rfl) (s_X3_digested ((((d * 31 + (sumP lv S f 0 f (S - 1))) * 31 + ((bestRunR lv S f).1)) * 31 + (((longR lv S f).1).toInt64)) * 31 + ((nI (highR lv S f)).toInt64)) ((nI ((bestS (cntOf lv S) F f).1)).toInt64)) ?_
    refine j_lstore_n (L' := [some (.ref (ad 0)), some (.long d0), none, some (.long (((((d * 31 + (sumP lv S f 0 f (S - 1))) * 31 + ((bestRunR lv S f).1)) * 31 + (((longR lv S f).1).toInt64)) * 31 + ((nI (highR lv S f)).toInt64)) * 31 + ((nI ((bestS (cntOf lv S) F f).1)).toInt64))), none, some (.int (nI f)), none]) dX3_digestedFlights_88 (by decide) rfl rfl ?_
    refine j_iconst (v := nI 0) dX3_digestedFlights_89 (by decide) ?_
    refine j_istore (L' := [some (.ref (ad 0)), some (.long d0), none, some (.long (((((d * 31 + (sumP lv S f 0 f (S - 1))) * 31 + ((bestRunR lv S f).1)) * 31 + (((longR lv S f).1).toInt64)) * 31 + ((nI (highR lv S f)).toInt64)) * 31 + ((nI ((bestS (cntOf lv S) F f).1)).toInt64))), none, some (.int (nI f)), some (.int (nI 0))]) dX3_digestedFlights_90 (by decide) rfl rfl ?_
    refine lpf_ind (b := fun s d => d * 31 + (lv (f * S + s)).toInt64) (P := fun (s : Nat) (d : Int64) => J g mX3_digestedFlights 9 0 0 92 [some (.ref (ad 0)), some (.long d0), none, some (.long d), none, some (.int (nI f)), some (.int (nI s))] [] n ad E1 Φ Ψ) (N := S) 0 ?_ S (((((d * 31 + (sumP lv S f 0 f (S - 1))) * 31 + ((bestRunR lv S f).1)) * 31 + (((longR lv S f).1).toInt64)) * 31 + ((nI (highR lv S f)).toInt64)) * 31 + ((nI ((bestS (cntOf lv S) F f).1)).toInt64)) (by omega) ?_
    · intro s d hs0 hs ih
      show J g mX3_digestedFlights 9 0 0 92 [some (.ref (ad 0)), some (.long d0), none, some (.long d), none, some (.int (nI f)), some (.int (nI s))] [] n ad E1 Φ Ψ
      refine j_iload dX3_digestedFlights_92 rfl ?_
      refine j_aload_n dX3_digestedFlights_94 rfl ?_
      refine j_get fl_X3_12 dX3_digestedFlights_95 (by omega) h01 rfl ?_
      refine j_get fl_X3_77 dX3_digestedFlights_98 (by omega) hw1 rfl ?_
      refine j_icmp_ge_f (tgt := 127) dX3_digestedFlights_101 (by decide) (nI_nle' (by omega) (by omega) (by omega)) ?_
      refine j_lload_n dX3_digestedFlights_104 rfl ?_
      refine j_aload_n dX3_digestedFlights_105 rfl ?_
      refine j_get fl_X3_12 dX3_digestedFlights_106 (by omega) h01 rfl ?_
      refine j_iload dX3_digestedFlights_109 rfl ?_
      refine j_iload dX3_digestedFlights_111 rfl ?_
      refine j_cV (As := [.int (nI f), .int (nI s)]) (rest := [.long d]) cm_X2_level ci_X2_level cs_X2_level rfl ln_X3_66 (ci := 2) rfl dX3_digestedFlights_113 (d' := 1) (by decide) (by omega) hw1 rfl rfl (Nat.le_of_ble_eq_true rfl) (Nat.le_of_ble_eq_true rfl) (s_X2_level W1 f s (ix128 hF hS hf hs)) ?_
      refine j_i2l dX3_digestedFlights_116 ?_
      refine j_cS (As := [.long d, .long ((lv (f * S + s)).toInt64)]) (rest := []) cm_X3_digested ct_X3_digested ln_X3_211 dX3_digestedFlights_117 (d' := 0) (by decide) rfl rfl (Nat.le_of_ble_eq_true rfl) (Nat.le_of_ble_eq_true rfl) (s_X3_digested d ((lv (f * S + s)).toInt64)) ?_
      refine j_lstore_n (L' := [some (.ref (ad 0)), some (.long d0), none, some (.long (d * 31 + ((lv (f * S + s)).toInt64))), none, some (.int (nI f)), some (.int (nI s))]) dX3_digestedFlights_120 (by decide) rfl rfl ?_
      refine j_iinc (v := nI (s + 1)) (L' := [some (.ref (ad 0)), some (.long d0), none, some (.long (d * 31 + ((lv (f * S + s)).toInt64))), none, some (.int (nI f)), some (.int (nI (s + 1)))]) dX3_digestedFlights_121 (by decide) rfl (nI_1 _) rfl rfl ?_
      refine j_goto (tgt := 92) dX3_digestedFlights_124 (by decide) ?_
      exact ih _ rfl
    · skip
      show J g mX3_digestedFlights 9 0 0 92 [some (.ref (ad 0)), some (.long d0), none, some (.long (lpf (fun s d => d * 31 + (lv (f * S + s)).toInt64) 0 S (((((d * 31 + (sumP lv S f 0 f (S - 1))) * 31 + ((bestRunR lv S f).1)) * 31 + (((longR lv S f).1).toInt64)) * 31 + ((nI (highR lv S f)).toInt64)) * 31 + ((nI ((bestS (cntOf lv S) F f).1)).toInt64)))), none, some (.int (nI f)), some (.int (nI S))] [] n ad E1 Φ Ψ
      refine j_iload dX3_digestedFlights_92 rfl ?_
      refine j_aload_n dX3_digestedFlights_94 rfl ?_
      refine j_get fl_X3_12 dX3_digestedFlights_95 (by omega) h01 rfl ?_
      refine j_get fl_X3_77 dX3_digestedFlights_98 (by omega) hw1 rfl ?_
      refine j_icmp_ge_t (tgt := 127) dX3_digestedFlights_101 (by decide) (nI_le' (by omega) (by omega) (by omega)) ?_
      refine j_iinc (v := nI (f + 1)) (L' := [some (.ref (ad 0)), some (.long d0), none, some (.long (lpf (fun s d => d * 31 + (lv (f * S + s)).toInt64) 0 S (((((d * 31 + (sumP lv S f 0 f (S - 1))) * 31 + ((bestRunR lv S f).1)) * 31 + (((longR lv S f).1).toInt64)) * 31 + ((nI (highR lv S f)).toInt64)) * 31 + ((nI ((bestS (cntOf lv S) F f).1)).toInt64)))), none, some (.int (nI (f + 1))), some (.int (nI S))]) dX3_digestedFlights_127 (by decide) rfl (nI_1 _) rfl rfl ?_
      refine j_goto (tgt := 16) dX3_digestedFlights_130 (by decide) ?_
      refine j_clr 6 ?_
      exact ih0 _ rfl
  · skip
    show J g mX3_digestedFlights 9 0 0 16 [some (.ref (ad 0)), some (.long d0), none, some (.long (dgFs lv F S d0)), none, some (.int (nI F)), none] [] n ad E1 Φ Ψ
    refine j_iload dX3_digestedFlights_16 rfl ?_
    refine j_aload_n dX3_digestedFlights_18 rfl ?_
    refine j_get fl_X3_12 dX3_digestedFlights_19 (by omega) h01 rfl ?_
    refine j_get fl_X3_148 dX3_digestedFlights_22 (by omega) hw1 rfl ?_
    refine j_icmp_ge_t (tgt := 133) dX3_digestedFlights_25 (by decide) (nI_le' (by omega) (by omega) (by omega)) ?_
    refine j_lload_n dX3_digestedFlights_133 rfl ?_
    exact j_lret dX3_digestedFlights_134 rfl (h _ q1)
set_option maxRecDepth 100000 in
set_option maxHeartbeats 4000000 in
theorem s_X3_digestedSteps {g : jG} {n : Nat} {ad : Nat → Nat} {E : Nat → va_E} {F S : Nat} {hrs su : Int32} {gone : Int64} {lv ed : Nat → Int32} {old cnt mc : Nat} {dr mr : Nat → Nat → Int32} (C : CR g n ad E F S hrs su gone lv ed old cnt dr mc mr) (d0 : Int64) : Ret g mX3_digestedSteps 9 [.ref (ad 0), .long d0] n ad E (some (.long (dgSs lv ed F S d0))) E := by
  obtain ⟨h0, W, ⟨F4, S4, su4, lv4, ed4, T⟩, Z, Y, ⟨fc, Hm, P⟩, hFp, hSp, hn⟩ := id C
  obtain ⟨-, -, hw, hL, hE, hF, hS⟩ := id W
  obtain ⟨-, -, hz, hzO, hzr, -, -, hold, hcnt⟩ := id Z
  obtain ⟨-, -, hy, hyO, hyr, -, -, -, hmc⟩ := id Y
  intro Φ Ψ h
  show J g mX3_digestedSteps 9 0 0 0 [some (.ref (ad 0)), some (.long d0), none, none, none, none] [] n ad E Φ Ψ
  refine j_lload_n dX3_digestedSteps_0 rfl ?_
  refine j_lstore_n (L' := [some (.ref (ad 0)), some (.long d0), none, some (.long d0), none, none]) dX3_digestedSteps_1 (by decide) rfl rfl ?_
  refine j_iconst (v := nI 0) dX3_digestedSteps_2 (by decide) ?_
  refine j_istore (L' := [some (.ref (ad 0)), some (.long d0), none, some (.long d0), none, some (.int (nI 0))]) dX3_digestedSteps_3 (by decide) rfl rfl ?_
  refine lpf_ind (b := fun s d => (d * 31 + (ed s).toInt64) * 31 + sumP lv S 0 s (F - 1) s) (P := fun (s : Nat) (d : Int64) => J g mX3_digestedSteps 9 0 0 5 [some (.ref (ad 0)), some (.long d0), none, some (.long d), none, some (.int (nI s))] [] n ad E Φ Ψ) (N := S) 0 ?_ S d0 (by omega) ?_
  · intro s d hs0 hs ih
    show J g mX3_digestedSteps 9 0 0 5 [some (.ref (ad 0)), some (.long d0), none, some (.long d), none, some (.int (nI s))] [] n ad E Φ Ψ
    refine j_iload dX3_digestedSteps_5 rfl ?_
    refine j_aload_n dX3_digestedSteps_7 rfl ?_
    refine j_get fl_X3_12 dX3_digestedSteps_8 (by omega) h0 rfl ?_
    refine j_get fl_X3_77 dX3_digestedSteps_11 (by omega) hw rfl ?_
    refine j_icmp_ge_f (tgt := 46) dX3_digestedSteps_14 (by decide) (nI_nle' (by omega) (by omega) (by omega)) ?_
    refine j_lload_n dX3_digestedSteps_17 rfl ?_
    refine j_aload_n dX3_digestedSteps_18 rfl ?_
    refine j_iload dX3_digestedSteps_19 rfl ?_
    refine j_cV (As := [.int (nI s)]) (rest := [.long d]) cm_X3_edgeOf ci_X3_edgeOf cs_X3_edgeOf rfl ln_X3_281 (ci := 3) rfl dX3_digestedSteps_21 (d' := 8) (by decide) (by omega) h0 rfl rfl (Nat.le_of_ble_eq_true rfl) (Nat.le_of_ble_eq_true rfl) (s_X3_edgeOf C s hs) ?_
    refine j_i2l dX3_digestedSteps_24 ?_
    refine j_cS (As := [.long d, .long ((ed s).toInt64)]) (rest := []) cm_X3_digested ct_X3_digested ln_X3_211 dX3_digestedSteps_25 (d' := 0) (by decide) rfl rfl (Nat.le_of_ble_eq_true rfl) (Nat.le_of_ble_eq_true rfl) (s_X3_digested d ((ed s).toInt64)) ?_
    refine j_lstore_n (L' := [some (.ref (ad 0)), some (.long d0), none, some (.long (d * 31 + ((ed s).toInt64))), none, some (.int (nI s))]) dX3_digestedSteps_28 (by decide) rfl rfl ?_
    refine j_lload_n dX3_digestedSteps_29 rfl ?_
    refine j_aload_n dX3_digestedSteps_30 rfl ?_
    refine j_iload dX3_digestedSteps_31 rfl ?_
    refine j_cV (As := [.int (nI s)]) (rest := [.long (d * 31 + ((ed s).toInt64))]) cm_X3_stepSum ci_X3_stepSum cs_X3_stepSum rfl ln_X3_284 (ci := 3) rfl dX3_digestedSteps_33 (d' := 8) (by decide) (by omega) h0 rfl rfl (Nat.le_of_ble_eq_true rfl) (Nat.le_of_ble_eq_true rfl) (s_X3_stepSum C s hs) ?_
    refine j_cS (As := [.long (d * 31 + ((ed s).toInt64)), .long (sumP lv S 0 s (F - 1) s)]) (rest := []) cm_X3_digested ct_X3_digested ln_X3_211 dX3_digestedSteps_36 (d' := 0) (by decide) rfl rfl (Nat.le_of_ble_eq_true rfl) (Nat.le_of_ble_eq_true rfl) (s_X3_digested (d * 31 + ((ed s).toInt64)) (sumP lv S 0 s (F - 1) s)) ?_
    refine j_lstore_n (L' := [some (.ref (ad 0)), some (.long d0), none, some (.long ((d * 31 + ((ed s).toInt64)) * 31 + (sumP lv S 0 s (F - 1) s))), none, some (.int (nI s))]) dX3_digestedSteps_39 (by decide) rfl rfl ?_
    refine j_iinc (v := nI (s + 1)) (L' := [some (.ref (ad 0)), some (.long d0), none, some (.long ((d * 31 + ((ed s).toInt64)) * 31 + (sumP lv S 0 s (F - 1) s))), none, some (.int (nI (s + 1)))]) dX3_digestedSteps_40 (by decide) rfl (nI_1 _) rfl rfl ?_
    refine j_goto (tgt := 5) dX3_digestedSteps_43 (by decide) ?_
    exact ih _ rfl
  · skip
    show J g mX3_digestedSteps 9 0 0 5 [some (.ref (ad 0)), some (.long d0), none, some (.long (dgSs lv ed F S d0)), none, some (.int (nI S))] [] n ad E Φ Ψ
    refine j_iload dX3_digestedSteps_5 rfl ?_
    refine j_aload_n dX3_digestedSteps_7 rfl ?_
    refine j_get fl_X3_12 dX3_digestedSteps_8 (by omega) h0 rfl ?_
    refine j_get fl_X3_77 dX3_digestedSteps_11 (by omega) hw rfl ?_
    refine j_icmp_ge_t (tgt := 46) dX3_digestedSteps_14 (by decide) (nI_le' (by omega) (by omega) (by omega)) ?_
    refine j_lload_n dX3_digestedSteps_46 rfl ?_
    exact j_lret dX3_digestedSteps_47 rfl h
set_option maxRecDepth 100000 in
set_option maxHeartbeats 4000000 in
theorem s_X3_digestedMarks {g : jG} {n : Nat} {ad : Nat → Nat} {E : Nat → va_E} {F S : Nat} {hrs su : Int32} {gone : Int64} {lv ed : Nat → Int32} {old cnt mc : Nat} {dr mr : Nat → Nat → Int32} (C : CR g n ad E F S hrs su gone lv ed old cnt dr mc mr) (d0 : Int64) : Ret g mX3_digestedMarks 9 [.ref (ad 0), .long d0] n ad E (some (.long (dgMs lv mr (F * S) mc d0))) E := by
  obtain ⟨h0, W, ⟨F4, S4, su4, lv4, ed4, T⟩, Z, Y, ⟨fc, Hm, P⟩, hFp, hSp, hn⟩ := id C
  obtain ⟨-, -, hw, hL, hE, hF, hS⟩ := id W
  obtain ⟨-, -, hz, hzO, hzr, -, -, hold, hcnt⟩ := id Z
  obtain ⟨-, -, hy, hyO, hyr, -, -, -, hmc⟩ := id Y
  intro Φ Ψ h
  show J g mX3_digestedMarks 9 0 0 0 [some (.ref (ad 0)), some (.long d0), none, none, none, none] [] n ad E Φ Ψ
  refine j_lload_n dX3_digestedMarks_0 rfl ?_
  refine j_lstore_n (L' := [some (.ref (ad 0)), some (.long d0), none, some (.long d0), none, none]) dX3_digestedMarks_1 (by decide) rfl rfl ?_
  refine j_iconst (v := nI 0) dX3_digestedMarks_2 (by decide) ?_
  refine j_istore (L' := [some (.ref (ad 0)), some (.long d0), none, some (.long d0), none, some (.int (nI 0))]) dX3_digestedMarks_3 (by decide) rfl rfl ?_
  refine lpf_ind (b := fun k d => d * 31 + (chgC lv (mr k) (F * S)).toInt64) (P := fun (k : Nat) (d : Int64) => J g mX3_digestedMarks 9 0 0 5 [some (.ref (ad 0)), some (.long d0), none, some (.long d), none, some (.int (nI k))] [] n ad E Φ Ψ) (N := mc) 0 ?_ mc d0 (by omega) ?_
  · intro k d hk0 hk ih
    show J g mX3_digestedMarks 9 0 0 5 [some (.ref (ad 0)), some (.long d0), none, some (.long d), none, some (.int (nI k))] [] n ad E Φ Ψ
    refine j_iload dX3_digestedMarks_5 rfl ?_
    refine j_aload_n dX3_digestedMarks_7 rfl ?_
    refine j_get fl_X3_28 dX3_digestedMarks_8 (by omega) h0 rfl ?_
    refine j_get fl_X3_89 dX3_digestedMarks_11 (by omega) hy rfl ?_
    refine j_icmp_ge_f (tgt := 35) dX3_digestedMarks_14 (by decide) (nI_nle' (by omega) (by omega) (by omega)) ?_
    refine j_lload_n dX3_digestedMarks_17 rfl ?_
    refine j_aload_n dX3_digestedMarks_18 rfl ?_
    refine j_iload dX3_digestedMarks_19 rfl ?_
    refine j_cV (As := [.int (nI k)]) (rest := [.long d]) cm_X3_changedSince ci_X3_changedSince cs_X3_changedSince rfl ln_X3_287 (ci := 3) rfl dX3_digestedMarks_21 (d' := 8) (by decide) (by omega) h0 rfl rfl (Nat.le_of_ble_eq_true rfl) (Nat.le_of_ble_eq_true rfl) (s_X3_changedSince C k hk) ?_
    refine j_i2l dX3_digestedMarks_24 ?_
    refine j_cS (As := [.long d, .long ((chgC lv (mr k) (F * S)).toInt64)]) (rest := []) cm_X3_digested ct_X3_digested ln_X3_211 dX3_digestedMarks_25 (d' := 0) (by decide) rfl rfl (Nat.le_of_ble_eq_true rfl) (Nat.le_of_ble_eq_true rfl) (s_X3_digested d ((chgC lv (mr k) (F * S)).toInt64)) ?_
    refine j_lstore_n (L' := [some (.ref (ad 0)), some (.long d0), none, some (.long (d * 31 + ((chgC lv (mr k) (F * S)).toInt64))), none, some (.int (nI k))]) dX3_digestedMarks_28 (by decide) rfl rfl ?_
    refine j_iinc (v := nI (k + 1)) (L' := [some (.ref (ad 0)), some (.long d0), none, some (.long (d * 31 + ((chgC lv (mr k) (F * S)).toInt64))), none, some (.int (nI (k + 1)))]) dX3_digestedMarks_29 (by decide) rfl (nI_1 _) rfl rfl ?_
    refine j_goto (tgt := 5) dX3_digestedMarks_32 (by decide) ?_
    exact ih _ rfl
  · skip
    show J g mX3_digestedMarks 9 0 0 5 [some (.ref (ad 0)), some (.long d0), none, some (.long (dgMs lv mr (F * S) mc d0)), none, some (.int (nI mc))] [] n ad E Φ Ψ
    refine j_iload dX3_digestedMarks_5 rfl ?_
    refine j_aload_n dX3_digestedMarks_7 rfl ?_
    refine j_get fl_X3_28 dX3_digestedMarks_8 (by omega) h0 rfl ?_
    refine j_get fl_X3_89 dX3_digestedMarks_11 (by omega) hy rfl ?_
    refine j_icmp_ge_t (tgt := 35) dX3_digestedMarks_14 (by decide) (nI_le' (by omega) (by omega) (by omega)) ?_
    refine j_lload_n dX3_digestedMarks_35 rfl ?_
    exact j_lret dX3_digestedMarks_36 rfl h
def dgHead (hrs su : Int32) (gone : Int64) (lv ed : Nat → Int32) (F S cnt mc : Nat) : Int64 := ((((((((((((((2281 * 31 + (nI F).toInt64) * 31 + (nI S).toInt64) * 31 + hrs.toInt64) * 31 + su.toInt64) * 31 + (nI mc).toInt64) * 31 + (nI cnt).toInt64) * 31 + gone) * 31 + sumP lv S 0 0 (F - 1) (S - 1)) * 31 + (uptC lv (F * S) 0).toInt64) * 31 + (nI (driestR lv F S).1).toInt64) * 31 + (outS (cntOf lv S) F 0 0).toInt64) * 31 + (untilD su ed F S lv).toInt64) * 31 + sumP (flowR su ed F S 3 lv).2 S 0 0 (F - 1) (S - 1)) * 31 + (flowR su ed F S 3 lv).1.toInt64) * 31 + (wantD ed F S 5 lv).toInt64
def dgAll (hrs su : Int32) (gone : Int64) (lv ed : Nat → Int32) (F S cnt mc : Nat) (mr : Nat → Nat → Int32) : Int64 := dgMs lv mr (F * S) mc (dgSs lv ed F S (dgFs lv F S (dgHead hrs su gone lv ed F S cnt mc)))
set_option maxRecDepth 100000 in
set_option maxHeartbeats 4000000 in
theorem s_X3_digest {g : jG} {n : Nat} {ad : Nat → Nat} {E : Nat → va_E} {F S : Nat} {hrs su : Int32} {gone : Int64} {lv ed : Nat → Int32} {old cnt mc : Nat} {dr mr : Nat → Nat → Int32} (C : CR g n ad E F S hrs su gone lv ed old cnt dr mc mr) : RetP g mX3_digest 10 [.ref (ad 0)] n ad E (some (.long (dgAll hrs su gone lv ed F S cnt mc mr))) (fun E9 => CR g n ad E9 F S hrs su gone lv ed old cnt dr mc mr ∧ ∀ k, 63 ≤ k → E9 k = E k) := by
  obtain ⟨h0, W, ⟨F4, S4, su4, lv4, ed4, T⟩, Z, Y, ⟨fc, Hm, P⟩, hFp, hSp, hn⟩ := id C
  obtain ⟨-, -, hw, hL, hE, hF, hS⟩ := id W
  obtain ⟨-, -, hz, hzO, hzr, -, -, hold, hcnt⟩ := id Z
  obtain ⟨-, -, hy, hyO, hyr, -, -, -, hmc⟩ := id Y
  intro Φ Ψ h
  show J g mX3_digest 10 0 0 0 [some (.ref (ad 0)), none, none] [] n ad E Φ Ψ
  refine j_ldc2 dX3_digest_0 cn_X3_206 ?_
  refine j_aload_n dX3_digest_3 rfl ?_
  refine j_cV (As := []) (rest := [.long 2281]) cm_X3_flights ci_X3_flights cs_X3_flights rfl ln_X3_208 (ci := 3) rfl dX3_digest_4 (d' := 0) (by decide) (by omega) h0 rfl rfl (Nat.le_of_ble_eq_true rfl) (Nat.le_of_ble_eq_true rfl) (s_X3_flights C) ?_
  refine j_i2l dX3_digest_7 ?_
  refine j_cS (As := [.long 2281, .long ((nI F).toInt64)]) (rest := []) cm_X3_digested ct_X3_digested ln_X3_211 dX3_digest_8 (d' := 0) (by decide) rfl rfl (Nat.le_of_ble_eq_true rfl) (Nat.le_of_ble_eq_true rfl) (s_X3_digested 2281 ((nI F).toInt64)) ?_
  refine j_lstore_n (L' := [some (.ref (ad 0)), some (.long (2281 * 31 + ((nI F).toInt64))), none]) dX3_digest_11 (by decide) rfl rfl ?_
  refine j_lload_n dX3_digest_12 rfl ?_
  refine j_aload_n dX3_digest_13 rfl ?_
  refine j_cV (As := []) (rest := [.long (2281 * 31 + ((nI F).toInt64))]) cm_X3_steps ci_X3_steps cs_X3_steps rfl ln_X3_214 (ci := 3) rfl dX3_digest_14 (d' := 0) (by decide) (by omega) h0 rfl rfl (Nat.le_of_ble_eq_true rfl) (Nat.le_of_ble_eq_true rfl) (s_X3_steps C) ?_
  refine j_i2l dX3_digest_17 ?_
  refine j_cS (As := [.long (2281 * 31 + ((nI F).toInt64)), .long ((nI S).toInt64)]) (rest := []) cm_X3_digested ct_X3_digested ln_X3_211 dX3_digest_18 (d' := 0) (by decide) rfl rfl (Nat.le_of_ble_eq_true rfl) (Nat.le_of_ble_eq_true rfl) (s_X3_digested (2281 * 31 + ((nI F).toInt64)) ((nI S).toInt64)) ?_
  refine j_lstore_n (L' := [some (.ref (ad 0)), some (.long ((2281 * 31 + ((nI F).toInt64)) * 31 + ((nI S).toInt64))), none]) dX3_digest_21 (by decide) rfl rfl ?_
  refine j_lload_n dX3_digest_22 rfl ?_
  refine j_aload_n dX3_digest_23 rfl ?_
  refine j_cV (As := []) (rest := [.long ((2281 * 31 + ((nI F).toInt64)) * 31 + ((nI S).toInt64))]) cm_X3_hours ci_X3_hours cs_X3_hours rfl ln_X3_217 (ci := 3) rfl dX3_digest_24 (d' := 0) (by decide) (by omega) h0 rfl rfl (Nat.le_of_ble_eq_true rfl) (Nat.le_of_ble_eq_true rfl) (s_X3_hours C) ?_
  refine j_i2l dX3_digest_27 ?_
  refine j_cS (As := [.long ((2281 * 31 + ((nI F).toInt64)) * 31 + ((nI S).toInt64)), .long hrs.toInt64]) (rest := []) cm_X3_digested ct_X3_digested ln_X3_211 dX3_digest_28 (d' := 0) (by decide) rfl rfl (Nat.le_of_ble_eq_true rfl) (Nat.le_of_ble_eq_true rfl) (s_X3_digested ((2281 * 31 + ((nI F).toInt64)) * 31 + ((nI S).toInt64)) hrs.toInt64) ?_
  refine j_lstore_n (L' := [some (.ref (ad 0)), some (.long (((2281 * 31 + ((nI F).toInt64)) * 31 + ((nI S).toInt64)) * 31 + hrs.toInt64)), none]) dX3_digest_31 (by decide) rfl rfl ?_
  refine j_lload_n dX3_digest_32 rfl ?_
  refine j_aload_n dX3_digest_33 rfl ?_
  refine j_cV (As := []) (rest := [.long (((2281 * 31 + ((nI F).toInt64)) * 31 + ((nI S).toInt64)) * 31 + hrs.toInt64)]) cm_X3_sun ci_X3_sun cs_X3_sun rfl ln_X3_220 (ci := 3) rfl dX3_digest_34 (d' := 0) (by decide) (by omega) h0 rfl rfl (Nat.le_of_ble_eq_true rfl) (Nat.le_of_ble_eq_true rfl) (s_X3_sun C) ?_
  refine j_i2l dX3_digest_37 ?_
  refine j_cS (As := [.long (((2281 * 31 + ((nI F).toInt64)) * 31 + ((nI S).toInt64)) * 31 + hrs.toInt64), .long su.toInt64]) (rest := []) cm_X3_digested ct_X3_digested ln_X3_211 dX3_digest_38 (d' := 0) (by decide) rfl rfl (Nat.le_of_ble_eq_true rfl) (Nat.le_of_ble_eq_true rfl) (s_X3_digested (((2281 * 31 + ((nI F).toInt64)) * 31 + ((nI S).toInt64)) * 31 + hrs.toInt64) su.toInt64) ?_
  refine j_lstore_n (L' := [some (.ref (ad 0)), some (.long ((((2281 * 31 + ((nI F).toInt64)) * 31 + ((nI S).toInt64)) * 31 + hrs.toInt64) * 31 + su.toInt64)), none]) dX3_digest_41 (by decide) rfl rfl ?_
  refine j_lload_n dX3_digest_42 rfl ?_
  refine j_aload_n dX3_digest_43 rfl ?_
  refine j_cV (As := []) (rest := [.long ((((2281 * 31 + ((nI F).toInt64)) * 31 + ((nI S).toInt64)) * 31 + hrs.toInt64) * 31 + su.toInt64)]) cm_X3_marks ci_X3_marks cs_X3_marks rfl ln_X3_223 (ci := 3) rfl dX3_digest_44 (d' := 0) (by decide) (by omega) h0 rfl rfl (Nat.le_of_ble_eq_true rfl) (Nat.le_of_ble_eq_true rfl) (s_X3_marks C) ?_
  refine j_i2l dX3_digest_47 ?_
  refine j_cS (As := [.long ((((2281 * 31 + ((nI F).toInt64)) * 31 + ((nI S).toInt64)) * 31 + hrs.toInt64) * 31 + su.toInt64), .long ((nI mc).toInt64)]) (rest := []) cm_X3_digested ct_X3_digested ln_X3_211 dX3_digest_48 (d' := 0) (by decide) rfl rfl (Nat.le_of_ble_eq_true rfl) (Nat.le_of_ble_eq_true rfl) (s_X3_digested ((((2281 * 31 + ((nI F).toInt64)) * 31 + ((nI S).toInt64)) * 31 + hrs.toInt64) * 31 + su.toInt64) ((nI mc).toInt64)) ?_
  refine j_lstore_n (L' := [some (.ref (ad 0)), some (.long (((((2281 * 31 + ((nI F).toInt64)) * 31 + ((nI S).toInt64)) * 31 + hrs.toInt64) * 31 + su.toInt64) * 31 + ((nI mc).toInt64))), none]) dX3_digest_51 (by decide) rfl rfl ?_
  refine j_lload_n dX3_digest_52 rfl ?_
  refine j_aload_n dX3_digest_53 rfl ?_
  refine j_cV (As := []) (rest := [.long (((((2281 * 31 + ((nI F).toInt64)) * 31 + ((nI S).toInt64)) * 31 + hrs.toInt64) * 31 + su.toInt64) * 31 + ((nI mc).toInt64))]) cm_X3_deeds ci_X3_deeds cs_X3_deeds rfl ln_X3_226 (ci := 3) rfl dX3_digest_54 (d' := 0) (by decide) (by omega) h0 rfl rfl (Nat.le_of_ble_eq_true rfl) (Nat.le_of_ble_eq_true rfl) (s_X3_deeds C) ?_
  refine j_i2l dX3_digest_57 ?_
  refine j_cS (As := [.long (((((2281 * 31 + ((nI F).toInt64)) * 31 + ((nI S).toInt64)) * 31 + hrs.toInt64) * 31 + su.toInt64) * 31 + ((nI mc).toInt64)), .long ((nI cnt).toInt64)]) (rest := []) cm_X3_digested ct_X3_digested ln_X3_211 dX3_digest_58 (d' := 0) (by decide) rfl rfl (Nat.le_of_ble_eq_true rfl) (Nat.le_of_ble_eq_true rfl) (s_X3_digested (((((2281 * 31 + ((nI F).toInt64)) * 31 + ((nI S).toInt64)) * 31 + hrs.toInt64) * 31 + su.toInt64) * 31 + ((nI mc).toInt64)) ((nI cnt).toInt64)) ?_
  refine j_lstore_n (L' := [some (.ref (ad 0)), some (.long ((((((2281 * 31 + ((nI F).toInt64)) * 31 + ((nI S).toInt64)) * 31 + hrs.toInt64) * 31 + su.toInt64) * 31 + ((nI mc).toInt64)) * 31 + ((nI cnt).toInt64))), none]) dX3_digest_61 (by decide) rfl rfl ?_
  refine j_lload_n dX3_digest_62 rfl ?_
  refine j_aload_n dX3_digest_63 rfl ?_
  refine j_cV (As := []) (rest := [.long ((((((2281 * 31 + ((nI F).toInt64)) * 31 + ((nI S).toInt64)) * 31 + hrs.toInt64) * 31 + su.toInt64) * 31 + ((nI mc).toInt64)) * 31 + ((nI cnt).toInt64))]) cm_X3_gone ci_X3_gone cs_X3_gone rfl ln_X3_229 (ci := 3) rfl dX3_digest_64 (d' := 0) (by decide) (by omega) h0 rfl rfl (Nat.le_of_ble_eq_true rfl) (Nat.le_of_ble_eq_true rfl) (s_X3_gone C) ?_
  refine j_cS (As := [.long ((((((2281 * 31 + ((nI F).toInt64)) * 31 + ((nI S).toInt64)) * 31 + hrs.toInt64) * 31 + su.toInt64) * 31 + ((nI mc).toInt64)) * 31 + ((nI cnt).toInt64)), .long gone]) (rest := []) cm_X3_digested ct_X3_digested ln_X3_211 dX3_digest_67 (d' := 0) (by decide) rfl rfl (Nat.le_of_ble_eq_true rfl) (Nat.le_of_ble_eq_true rfl) (s_X3_digested ((((((2281 * 31 + ((nI F).toInt64)) * 31 + ((nI S).toInt64)) * 31 + hrs.toInt64) * 31 + su.toInt64) * 31 + ((nI mc).toInt64)) * 31 + ((nI cnt).toInt64)) gone) ?_
  refine j_lstore_n (L' := [some (.ref (ad 0)), some (.long (((((((2281 * 31 + ((nI F).toInt64)) * 31 + ((nI S).toInt64)) * 31 + hrs.toInt64) * 31 + su.toInt64) * 31 + ((nI mc).toInt64)) * 31 + ((nI cnt).toInt64)) * 31 + gone)), none]) dX3_digest_70 (by decide) rfl rfl ?_
  refine j_lload_n dX3_digest_71 rfl ?_
  refine j_aload_n dX3_digest_72 rfl ?_
  refine j_cV (As := []) (rest := [.long (((((((2281 * 31 + ((nI F).toInt64)) * 31 + ((nI S).toInt64)) * 31 + hrs.toInt64) * 31 + su.toInt64) * 31 + ((nI mc).toInt64)) * 31 + ((nI cnt).toInt64)) * 31 + gone)]) cm_X3_total ci_X3_total cs_X3_total rfl ln_X3_232 (ci := 3) rfl dX3_digest_73 (d' := 4) (by decide) (by omega) h0 rfl rfl (Nat.le_of_ble_eq_true rfl) (Nat.le_of_ble_eq_true rfl) (s_X3_total C) ?_
  refine j_cS (As := [.long (((((((2281 * 31 + ((nI F).toInt64)) * 31 + ((nI S).toInt64)) * 31 + hrs.toInt64) * 31 + su.toInt64) * 31 + ((nI mc).toInt64)) * 31 + ((nI cnt).toInt64)) * 31 + gone), .long (sumP lv S 0 0 (F - 1) (S - 1))]) (rest := []) cm_X3_digested ct_X3_digested ln_X3_211 dX3_digest_76 (d' := 0) (by decide) rfl rfl (Nat.le_of_ble_eq_true rfl) (Nat.le_of_ble_eq_true rfl) (s_X3_digested (((((((2281 * 31 + ((nI F).toInt64)) * 31 + ((nI S).toInt64)) * 31 + hrs.toInt64) * 31 + su.toInt64) * 31 + ((nI mc).toInt64)) * 31 + ((nI cnt).toInt64)) * 31 + gone) (sumP lv S 0 0 (F - 1) (S - 1))) ?_
  refine j_lstore_n (L' := [some (.ref (ad 0)), some (.long ((((((((2281 * 31 + ((nI F).toInt64)) * 31 + ((nI S).toInt64)) * 31 + hrs.toInt64) * 31 + su.toInt64) * 31 + ((nI mc).toInt64)) * 31 + ((nI cnt).toInt64)) * 31 + gone) * 31 + (sumP lv S 0 0 (F - 1) (S - 1)))), none]) dX3_digest_79 (by decide) rfl rfl ?_
  refine j_lload_n dX3_digest_80 rfl ?_
  refine j_aload_n dX3_digest_81 rfl ?_
  refine j_cV (As := []) (rest := [.long ((((((((2281 * 31 + ((nI F).toInt64)) * 31 + ((nI S).toInt64)) * 31 + hrs.toInt64) * 31 + su.toInt64) * 31 + ((nI mc).toInt64)) * 31 + ((nI cnt).toInt64)) * 31 + gone) * 31 + (sumP lv S 0 0 (F - 1) (S - 1)))]) cm_X3_dry ci_X3_dry cs_X3_dry rfl ln_X3_235 (ci := 3) rfl dX3_digest_82 (d' := 2) (by decide) (by omega) h0 rfl rfl (Nat.le_of_ble_eq_true rfl) (Nat.le_of_ble_eq_true rfl) (s_X3_dry C) ?_
  refine j_i2l dX3_digest_85 ?_
  refine j_cS (As := [.long ((((((((2281 * 31 + ((nI F).toInt64)) * 31 + ((nI S).toInt64)) * 31 + hrs.toInt64) * 31 + su.toInt64) * 31 + ((nI mc).toInt64)) * 31 + ((nI cnt).toInt64)) * 31 + gone) * 31 + (sumP lv S 0 0 (F - 1) (S - 1))), .long ((uptC lv (F * S) 0).toInt64)]) (rest := []) cm_X3_digested ct_X3_digested ln_X3_211 dX3_digest_86 (d' := 0) (by decide) rfl rfl (Nat.le_of_ble_eq_true rfl) (Nat.le_of_ble_eq_true rfl) (s_X3_digested ((((((((2281 * 31 + ((nI F).toInt64)) * 31 + ((nI S).toInt64)) * 31 + hrs.toInt64) * 31 + su.toInt64) * 31 + ((nI mc).toInt64)) * 31 + ((nI cnt).toInt64)) * 31 + gone) * 31 + (sumP lv S 0 0 (F - 1) (S - 1))) ((uptC lv (F * S) 0).toInt64)) ?_
  refine j_lstore_n (L' := [some (.ref (ad 0)), some (.long (((((((((2281 * 31 + ((nI F).toInt64)) * 31 + ((nI S).toInt64)) * 31 + hrs.toInt64) * 31 + su.toInt64) * 31 + ((nI mc).toInt64)) * 31 + ((nI cnt).toInt64)) * 31 + gone) * 31 + (sumP lv S 0 0 (F - 1) (S - 1))) * 31 + ((uptC lv (F * S) 0).toInt64))), none]) dX3_digest_89 (by decide) rfl rfl ?_
  refine j_lload_n dX3_digest_90 rfl ?_
  refine j_aload_n dX3_digest_91 rfl ?_
  refine j_cV (As := []) (rest := [.long (((((((((2281 * 31 + ((nI F).toInt64)) * 31 + ((nI S).toInt64)) * 31 + hrs.toInt64) * 31 + su.toInt64) * 31 + ((nI mc).toInt64)) * 31 + ((nI cnt).toInt64)) * 31 + gone) * 31 + (sumP lv S 0 0 (F - 1) (S - 1))) * 31 + ((uptC lv (F * S) 0).toInt64))]) cm_X3_driestFlight ci_X3_driestFlight cs_X3_driestFlight rfl ln_X3_238 (ci := 3) rfl dX3_digest_92 (d' := 3) (by decide) (by omega) h0 rfl rfl (Nat.le_of_ble_eq_true rfl) (Nat.le_of_ble_eq_true rfl) (s_X3_driestFlight C) ?_
  refine j_i2l dX3_digest_95 ?_
  refine j_cS (As := [.long (((((((((2281 * 31 + ((nI F).toInt64)) * 31 + ((nI S).toInt64)) * 31 + hrs.toInt64) * 31 + su.toInt64) * 31 + ((nI mc).toInt64)) * 31 + ((nI cnt).toInt64)) * 31 + gone) * 31 + (sumP lv S 0 0 (F - 1) (S - 1))) * 31 + ((uptC lv (F * S) 0).toInt64)), .long ((nI ((driestR lv F S).1)).toInt64)]) (rest := []) cm_X3_digested ct_X3_digested ln_X3_211 dX3_digest_96 (d' := 0) (by decide) rfl rfl (Nat.le_of_ble_eq_true rfl) (Nat.le_of_ble_eq_true rfl) (s_X3_digested (((((((((2281 * 31 + ((nI F).toInt64)) * 31 + ((nI S).toInt64)) * 31 + hrs.toInt64) * 31 + su.toInt64) * 31 + ((nI mc).toInt64)) * 31 + ((nI cnt).toInt64)) * 31 + gone) * 31 + (sumP lv S 0 0 (F - 1) (S - 1))) * 31 + ((uptC lv (F * S) 0).toInt64)) ((nI ((driestR lv F S).1)).toInt64)) ?_
  refine j_lstore_n (L' := [some (.ref (ad 0)), some (.long ((((((((((2281 * 31 + ((nI F).toInt64)) * 31 + ((nI S).toInt64)) * 31 + hrs.toInt64) * 31 + su.toInt64) * 31 + ((nI mc).toInt64)) * 31 + ((nI cnt).toInt64)) * 31 + gone) * 31 + (sumP lv S 0 0 (F - 1) (S - 1))) * 31 + ((uptC lv (F * S) 0).toInt64)) * 31 + ((nI ((driestR lv F S).1)).toInt64))), none]) dX3_digest_99 (by decide) rfl rfl ?_
  refine j_lload_n dX3_digest_100 rfl ?_
  refine j_aload_n dX3_digest_101 rfl ?_
  refine j_cVp (As := []) (rest := [.long ((((((((((2281 * 31 + ((nI F).toInt64)) * 31 + ((nI S).toInt64)) * 31 + hrs.toInt64) * 31 + su.toInt64) * 31 + ((nI mc).toInt64)) * 31 + ((nI cnt).toInt64)) * 31 + gone) * 31 + (sumP lv S 0 0 (F - 1) (S - 1))) * 31 + ((uptC lv (F * S) 0).toInt64)) * 31 + ((nI ((driestR lv F S).1)).toInt64))]) cm_X3_outOfOrder ci_X3_outOfOrder cs_X3_outOfOrder rfl ln_X3_241 (ci := 3) rfl dX3_digest_102 (d' := 4) (by decide) (by omega) h0 rfl rfl (Nat.le_of_ble_eq_true rfl) (Nat.le_of_ble_eq_true rfl) (s_X3_outOfOrder C) (fun E1 q1 => ?_)
  have C1 := q1.1
  obtain ⟨h01, W1, ⟨F41, S41, su41, lv41, ed41, T1⟩, Z1, Y1, ⟨fc1, Hm1, P1⟩, hFp1, hSp1, hn1⟩ := id C1
  obtain ⟨-, -, hw1, hL1, hE1, hF1, hS1⟩ := id W1
  obtain ⟨-, -, hz1, hzO1, hzr1, -, -, hold1, hcnt1⟩ := id Z1
  obtain ⟨-, -, hy1, hyO1, hyr1, -, -, -, hmc1⟩ := id Y1
  show J g mX3_digest 10 0 0 105 [some (.ref (ad 0)), some (.long ((((((((((2281 * 31 + ((nI F).toInt64)) * 31 + ((nI S).toInt64)) * 31 + hrs.toInt64) * 31 + su.toInt64) * 31 + ((nI mc).toInt64)) * 31 + ((nI cnt).toInt64)) * 31 + gone) * 31 + (sumP lv S 0 0 (F - 1) (S - 1))) * 31 + ((uptC lv (F * S) 0).toInt64)) * 31 + ((nI ((driestR lv F S).1)).toInt64))), none] [.int (outS (cntOf lv S) F 0 0), .long ((((((((((2281 * 31 + ((nI F).toInt64)) * 31 + ((nI S).toInt64)) * 31 + hrs.toInt64) * 31 + su.toInt64) * 31 + ((nI mc).toInt64)) * 31 + ((nI cnt).toInt64)) * 31 + gone) * 31 + (sumP lv S 0 0 (F - 1) (S - 1))) * 31 + ((uptC lv (F * S) 0).toInt64)) * 31 + ((nI ((driestR lv F S).1)).toInt64))] n ad E1 Φ Ψ
  refine j_i2l dX3_digest_105 ?_
  refine j_cS (As := [.long ((((((((((2281 * 31 + ((nI F).toInt64)) * 31 + ((nI S).toInt64)) * 31 + hrs.toInt64) * 31 + su.toInt64) * 31 + ((nI mc).toInt64)) * 31 + ((nI cnt).toInt64)) * 31 + gone) * 31 + (sumP lv S 0 0 (F - 1) (S - 1))) * 31 + ((uptC lv (F * S) 0).toInt64)) * 31 + ((nI ((driestR lv F S).1)).toInt64)), .long ((outS (cntOf lv S) F 0 0).toInt64)]) (rest := []) cm_X3_digested ct_X3_digested ln_X3_211 dX3_digest_106 (d' := 0) (by decide) rfl rfl (Nat.le_of_ble_eq_true rfl) (Nat.le_of_ble_eq_true rfl) (s_X3_digested ((((((((((2281 * 31 + ((nI F).toInt64)) * 31 + ((nI S).toInt64)) * 31 + hrs.toInt64) * 31 + su.toInt64) * 31 + ((nI mc).toInt64)) * 31 + ((nI cnt).toInt64)) * 31 + gone) * 31 + (sumP lv S 0 0 (F - 1) (S - 1))) * 31 + ((uptC lv (F * S) 0).toInt64)) * 31 + ((nI ((driestR lv F S).1)).toInt64)) ((outS (cntOf lv S) F 0 0).toInt64)) ?_
  refine j_lstore_n (L' := [some (.ref (ad 0)), some (.long (((((((((((2281 * 31 + ((nI F).toInt64)) * 31 + ((nI S).toInt64)) * 31 + hrs.toInt64) * 31 + su.toInt64) * 31 + ((nI mc).toInt64)) * 31 + ((nI cnt).toInt64)) * 31 + gone) * 31 + (sumP lv S 0 0 (F - 1) (S - 1))) * 31 + ((uptC lv (F * S) 0).toInt64)) * 31 + ((nI ((driestR lv F S).1)).toInt64)) * 31 + ((outS (cntOf lv S) F 0 0).toInt64))), none]) dX3_digest_109 (by decide) rfl rfl ?_
  refine j_lload_n dX3_digest_110 rfl ?_
  refine j_aload_n dX3_digest_111 rfl ?_
  refine j_cVp (As := []) (rest := [.long (((((((((((2281 * 31 + ((nI F).toInt64)) * 31 + ((nI S).toInt64)) * 31 + hrs.toInt64) * 31 + su.toInt64) * 31 + ((nI mc).toInt64)) * 31 + ((nI cnt).toInt64)) * 31 + gone) * 31 + (sumP lv S 0 0 (F - 1) (S - 1))) * 31 + ((uptC lv (F * S) 0).toInt64)) * 31 + ((nI ((driestR lv F S).1)).toInt64)) * 31 + ((outS (cntOf lv S) F 0 0).toInt64))]) cm_X3_hoursUntilDry ci_X3_hoursUntilDry cs_X3_hoursUntilDry rfl ln_X3_244 (ci := 3) rfl dX3_digest_112 (d' := 3) (by decide) (by omega) h01 rfl rfl (Nat.le_of_ble_eq_true rfl) (Nat.le_of_ble_eq_true rfl) (s_X3_hoursUntilDry C1) (fun E2 q2 => ?_)
  have C2 := q2.1
  have q2 := (⟨q2.1, fun k hk => (q2.2 k hk).trans (q1.2 k hk)⟩ : CR g n ad E2 F S hrs su gone lv ed old cnt dr mc mr ∧ ∀ k, 63 ≤ k → E2 k = E k)
  obtain ⟨h02, W2, ⟨F42, S42, su42, lv42, ed42, T2⟩, Z2, Y2, ⟨fc2, Hm2, P2⟩, hFp2, hSp2, hn2⟩ := id C2
  obtain ⟨-, -, hw2, hL2, hE2, hF2, hS2⟩ := id W2
  obtain ⟨-, -, hz2, hzO2, hzr2, -, -, hold2, hcnt2⟩ := id Z2
  obtain ⟨-, -, hy2, hyO2, hyr2, -, -, -, hmc2⟩ := id Y2
  show J g mX3_digest 10 0 0 115 [some (.ref (ad 0)), some (.long (((((((((((2281 * 31 + ((nI F).toInt64)) * 31 + ((nI S).toInt64)) * 31 + hrs.toInt64) * 31 + su.toInt64) * 31 + ((nI mc).toInt64)) * 31 + ((nI cnt).toInt64)) * 31 + gone) * 31 + (sumP lv S 0 0 (F - 1) (S - 1))) * 31 + ((uptC lv (F * S) 0).toInt64)) * 31 + ((nI ((driestR lv F S).1)).toInt64)) * 31 + ((outS (cntOf lv S) F 0 0).toInt64))), none] [.int (untilD su ed F S lv), .long (((((((((((2281 * 31 + ((nI F).toInt64)) * 31 + ((nI S).toInt64)) * 31 + hrs.toInt64) * 31 + su.toInt64) * 31 + ((nI mc).toInt64)) * 31 + ((nI cnt).toInt64)) * 31 + gone) * 31 + (sumP lv S 0 0 (F - 1) (S - 1))) * 31 + ((uptC lv (F * S) 0).toInt64)) * 31 + ((nI ((driestR lv F S).1)).toInt64)) * 31 + ((outS (cntOf lv S) F 0 0).toInt64))] n ad E2 Φ Ψ
  refine j_i2l dX3_digest_115 ?_
  refine j_cS (As := [.long (((((((((((2281 * 31 + ((nI F).toInt64)) * 31 + ((nI S).toInt64)) * 31 + hrs.toInt64) * 31 + su.toInt64) * 31 + ((nI mc).toInt64)) * 31 + ((nI cnt).toInt64)) * 31 + gone) * 31 + (sumP lv S 0 0 (F - 1) (S - 1))) * 31 + ((uptC lv (F * S) 0).toInt64)) * 31 + ((nI ((driestR lv F S).1)).toInt64)) * 31 + ((outS (cntOf lv S) F 0 0).toInt64)), .long ((untilD su ed F S lv).toInt64)]) (rest := []) cm_X3_digested ct_X3_digested ln_X3_211 dX3_digest_116 (d' := 0) (by decide) rfl rfl (Nat.le_of_ble_eq_true rfl) (Nat.le_of_ble_eq_true rfl) (s_X3_digested (((((((((((2281 * 31 + ((nI F).toInt64)) * 31 + ((nI S).toInt64)) * 31 + hrs.toInt64) * 31 + su.toInt64) * 31 + ((nI mc).toInt64)) * 31 + ((nI cnt).toInt64)) * 31 + gone) * 31 + (sumP lv S 0 0 (F - 1) (S - 1))) * 31 + ((uptC lv (F * S) 0).toInt64)) * 31 + ((nI ((driestR lv F S).1)).toInt64)) * 31 + ((outS (cntOf lv S) F 0 0).toInt64)) ((untilD su ed F S lv).toInt64)) ?_
  refine j_lstore_n (L' := [some (.ref (ad 0)), some (.long ((((((((((((2281 * 31 + ((nI F).toInt64)) * 31 + ((nI S).toInt64)) * 31 + hrs.toInt64) * 31 + su.toInt64) * 31 + ((nI mc).toInt64)) * 31 + ((nI cnt).toInt64)) * 31 + gone) * 31 + (sumP lv S 0 0 (F - 1) (S - 1))) * 31 + ((uptC lv (F * S) 0).toInt64)) * 31 + ((nI ((driestR lv F S).1)).toInt64)) * 31 + ((outS (cntOf lv S) F 0 0).toInt64)) * 31 + ((untilD su ed F S lv).toInt64))), none]) dX3_digest_119 (by decide) rfl rfl ?_
  refine j_lload_n dX3_digest_120 rfl ?_
  refine j_aload_n dX3_digest_121 rfl ?_
  refine j_iconst (v := nI 3) dX3_digest_122 (by decide) ?_
  refine j_cVp (As := [.int (nI 3)]) (rest := [.long ((((((((((((2281 * 31 + ((nI F).toInt64)) * 31 + ((nI S).toInt64)) * 31 + hrs.toInt64) * 31 + su.toInt64) * 31 + ((nI mc).toInt64)) * 31 + ((nI cnt).toInt64)) * 31 + gone) * 31 + (sumP lv S 0 0 (F - 1) (S - 1))) * 31 + ((uptC lv (F * S) 0).toInt64)) * 31 + ((nI ((driestR lv F S).1)).toInt64)) * 31 + ((outS (cntOf lv S) F 0 0).toInt64)) * 31 + ((untilD su ed F S lv).toInt64))]) cm_X3_totalIn ci_X3_totalIn cs_X3_totalIn rfl ln_X3_247 (ci := 3) rfl dX3_digest_123 (d' := 7) (by decide) (by omega) h02 rfl rfl (Nat.le_of_ble_eq_true rfl) (Nat.le_of_ble_eq_true rfl) (s_X3_totalIn C2 3 (by omega) (by omega)) (fun E3 q3 => ?_)
  have C3 := q3.1
  have q3 := (⟨q3.1, fun k hk => (q3.2 k hk).trans (q2.2 k hk)⟩ : CR g n ad E3 F S hrs su gone lv ed old cnt dr mc mr ∧ ∀ k, 63 ≤ k → E3 k = E k)
  obtain ⟨h03, W3, ⟨F43, S43, su43, lv43, ed43, T3⟩, Z3, Y3, ⟨fc3, Hm3, P3⟩, hFp3, hSp3, hn3⟩ := id C3
  obtain ⟨-, -, hw3, hL3, hE3, hF3, hS3⟩ := id W3
  obtain ⟨-, -, hz3, hzO3, hzr3, -, -, hold3, hcnt3⟩ := id Z3
  obtain ⟨-, -, hy3, hyO3, hyr3, -, -, -, hmc3⟩ := id Y3
  show J g mX3_digest 10 0 0 126 [some (.ref (ad 0)), some (.long ((((((((((((2281 * 31 + ((nI F).toInt64)) * 31 + ((nI S).toInt64)) * 31 + hrs.toInt64) * 31 + su.toInt64) * 31 + ((nI mc).toInt64)) * 31 + ((nI cnt).toInt64)) * 31 + gone) * 31 + (sumP lv S 0 0 (F - 1) (S - 1))) * 31 + ((uptC lv (F * S) 0).toInt64)) * 31 + ((nI ((driestR lv F S).1)).toInt64)) * 31 + ((outS (cntOf lv S) F 0 0).toInt64)) * 31 + ((untilD su ed F S lv).toInt64))), none] [.long (sumP (flowR su ed F S 3 lv).2 S 0 0 (F - 1) (S - 1)), .long ((((((((((((2281 * 31 + ((nI F).toInt64)) * 31 + ((nI S).toInt64)) * 31 + hrs.toInt64) * 31 + su.toInt64) * 31 + ((nI mc).toInt64)) * 31 + ((nI cnt).toInt64)) * 31 + gone) * 31 + (sumP lv S 0 0 (F - 1) (S - 1))) * 31 + ((uptC lv (F * S) 0).toInt64)) * 31 + ((nI ((driestR lv F S).1)).toInt64)) * 31 + ((outS (cntOf lv S) F 0 0).toInt64)) * 31 + ((untilD su ed F S lv).toInt64))] n ad E3 Φ Ψ
  refine j_cS (As := [.long ((((((((((((2281 * 31 + ((nI F).toInt64)) * 31 + ((nI S).toInt64)) * 31 + hrs.toInt64) * 31 + su.toInt64) * 31 + ((nI mc).toInt64)) * 31 + ((nI cnt).toInt64)) * 31 + gone) * 31 + (sumP lv S 0 0 (F - 1) (S - 1))) * 31 + ((uptC lv (F * S) 0).toInt64)) * 31 + ((nI ((driestR lv F S).1)).toInt64)) * 31 + ((outS (cntOf lv S) F 0 0).toInt64)) * 31 + ((untilD su ed F S lv).toInt64)), .long (sumP (flowR su ed F S 3 lv).2 S 0 0 (F - 1) (S - 1))]) (rest := []) cm_X3_digested ct_X3_digested ln_X3_211 dX3_digest_126 (d' := 0) (by decide) rfl rfl (Nat.le_of_ble_eq_true rfl) (Nat.le_of_ble_eq_true rfl) (s_X3_digested ((((((((((((2281 * 31 + ((nI F).toInt64)) * 31 + ((nI S).toInt64)) * 31 + hrs.toInt64) * 31 + su.toInt64) * 31 + ((nI mc).toInt64)) * 31 + ((nI cnt).toInt64)) * 31 + gone) * 31 + (sumP lv S 0 0 (F - 1) (S - 1))) * 31 + ((uptC lv (F * S) 0).toInt64)) * 31 + ((nI ((driestR lv F S).1)).toInt64)) * 31 + ((outS (cntOf lv S) F 0 0).toInt64)) * 31 + ((untilD su ed F S lv).toInt64)) (sumP (flowR su ed F S 3 lv).2 S 0 0 (F - 1) (S - 1))) ?_
  refine j_lstore_n (L' := [some (.ref (ad 0)), some (.long (((((((((((((2281 * 31 + ((nI F).toInt64)) * 31 + ((nI S).toInt64)) * 31 + hrs.toInt64) * 31 + su.toInt64) * 31 + ((nI mc).toInt64)) * 31 + ((nI cnt).toInt64)) * 31 + gone) * 31 + (sumP lv S 0 0 (F - 1) (S - 1))) * 31 + ((uptC lv (F * S) 0).toInt64)) * 31 + ((nI ((driestR lv F S).1)).toInt64)) * 31 + ((outS (cntOf lv S) F 0 0).toInt64)) * 31 + ((untilD su ed F S lv).toInt64)) * 31 + (sumP (flowR su ed F S 3 lv).2 S 0 0 (F - 1) (S - 1)))), none]) dX3_digest_129 (by decide) rfl rfl ?_
  refine j_lload_n dX3_digest_130 rfl ?_
  refine j_aload_n dX3_digest_131 rfl ?_
  refine j_iconst (v := nI 3) dX3_digest_132 (by decide) ?_
  refine j_cVp (As := [.int (nI 3)]) (rest := [.long (((((((((((((2281 * 31 + ((nI F).toInt64)) * 31 + ((nI S).toInt64)) * 31 + hrs.toInt64) * 31 + su.toInt64) * 31 + ((nI mc).toInt64)) * 31 + ((nI cnt).toInt64)) * 31 + gone) * 31 + (sumP lv S 0 0 (F - 1) (S - 1))) * 31 + ((uptC lv (F * S) 0).toInt64)) * 31 + ((nI ((driestR lv F S).1)).toInt64)) * 31 + ((outS (cntOf lv S) F 0 0).toInt64)) * 31 + ((untilD su ed F S lv).toInt64)) * 31 + (sumP (flowR su ed F S 3 lv).2 S 0 0 (F - 1) (S - 1)))]) cm_X3_goneIn ci_X3_goneIn cs_X3_goneIn rfl ln_X3_251 (ci := 3) rfl dX3_digest_133 (d' := 7) (by decide) (by omega) h03 rfl rfl (Nat.le_of_ble_eq_true rfl) (Nat.le_of_ble_eq_true rfl) (s_X3_goneIn C3 3 (by omega) (by omega)) (fun E4 q4 => ?_)
  have C4 := q4.1
  have q4 := (⟨q4.1, fun k hk => (q4.2 k hk).trans (q3.2 k hk)⟩ : CR g n ad E4 F S hrs su gone lv ed old cnt dr mc mr ∧ ∀ k, 63 ≤ k → E4 k = E k)
  obtain ⟨h04, W4, ⟨F44, S44, su44, lv44, ed44, T4⟩, Z4, Y4, ⟨fc4, Hm4, P4⟩, hFp4, hSp4, hn4⟩ := id C4
  obtain ⟨-, -, hw4, hL4, hE4, hF4, hS4⟩ := id W4
  obtain ⟨-, -, hz4, hzO4, hzr4, -, -, hold4, hcnt4⟩ := id Z4
  obtain ⟨-, -, hy4, hyO4, hyr4, -, -, -, hmc4⟩ := id Y4
  show J g mX3_digest 10 0 0 136 [some (.ref (ad 0)), some (.long (((((((((((((2281 * 31 + ((nI F).toInt64)) * 31 + ((nI S).toInt64)) * 31 + hrs.toInt64) * 31 + su.toInt64) * 31 + ((nI mc).toInt64)) * 31 + ((nI cnt).toInt64)) * 31 + gone) * 31 + (sumP lv S 0 0 (F - 1) (S - 1))) * 31 + ((uptC lv (F * S) 0).toInt64)) * 31 + ((nI ((driestR lv F S).1)).toInt64)) * 31 + ((outS (cntOf lv S) F 0 0).toInt64)) * 31 + ((untilD su ed F S lv).toInt64)) * 31 + (sumP (flowR su ed F S 3 lv).2 S 0 0 (F - 1) (S - 1)))), none] [.int ((flowR su ed F S 3 lv).1), .long (((((((((((((2281 * 31 + ((nI F).toInt64)) * 31 + ((nI S).toInt64)) * 31 + hrs.toInt64) * 31 + su.toInt64) * 31 + ((nI mc).toInt64)) * 31 + ((nI cnt).toInt64)) * 31 + gone) * 31 + (sumP lv S 0 0 (F - 1) (S - 1))) * 31 + ((uptC lv (F * S) 0).toInt64)) * 31 + ((nI ((driestR lv F S).1)).toInt64)) * 31 + ((outS (cntOf lv S) F 0 0).toInt64)) * 31 + ((untilD su ed F S lv).toInt64)) * 31 + (sumP (flowR su ed F S 3 lv).2 S 0 0 (F - 1) (S - 1)))] n ad E4 Φ Ψ
  refine j_i2l dX3_digest_136 ?_
  refine j_cS (As := [.long (((((((((((((2281 * 31 + ((nI F).toInt64)) * 31 + ((nI S).toInt64)) * 31 + hrs.toInt64) * 31 + su.toInt64) * 31 + ((nI mc).toInt64)) * 31 + ((nI cnt).toInt64)) * 31 + gone) * 31 + (sumP lv S 0 0 (F - 1) (S - 1))) * 31 + ((uptC lv (F * S) 0).toInt64)) * 31 + ((nI ((driestR lv F S).1)).toInt64)) * 31 + ((outS (cntOf lv S) F 0 0).toInt64)) * 31 + ((untilD su ed F S lv).toInt64)) * 31 + (sumP (flowR su ed F S 3 lv).2 S 0 0 (F - 1) (S - 1))), .long (((flowR su ed F S 3 lv).1).toInt64)]) (rest := []) cm_X3_digested ct_X3_digested ln_X3_211 dX3_digest_137 (d' := 0) (by decide) rfl rfl (Nat.le_of_ble_eq_true rfl) (Nat.le_of_ble_eq_true rfl) (s_X3_digested (((((((((((((2281 * 31 + ((nI F).toInt64)) * 31 + ((nI S).toInt64)) * 31 + hrs.toInt64) * 31 + su.toInt64) * 31 + ((nI mc).toInt64)) * 31 + ((nI cnt).toInt64)) * 31 + gone) * 31 + (sumP lv S 0 0 (F - 1) (S - 1))) * 31 + ((uptC lv (F * S) 0).toInt64)) * 31 + ((nI ((driestR lv F S).1)).toInt64)) * 31 + ((outS (cntOf lv S) F 0 0).toInt64)) * 31 + ((untilD su ed F S lv).toInt64)) * 31 + (sumP (flowR su ed F S 3 lv).2 S 0 0 (F - 1) (S - 1))) (((flowR su ed F S 3 lv).1).toInt64)) ?_
  refine j_lstore_n (L' := [some (.ref (ad 0)), some (.long ((((((((((((((2281 * 31 + ((nI F).toInt64)) * 31 + ((nI S).toInt64)) * 31 + hrs.toInt64) * 31 + su.toInt64) * 31 + ((nI mc).toInt64)) * 31 + ((nI cnt).toInt64)) * 31 + gone) * 31 + (sumP lv S 0 0 (F - 1) (S - 1))) * 31 + ((uptC lv (F * S) 0).toInt64)) * 31 + ((nI ((driestR lv F S).1)).toInt64)) * 31 + ((outS (cntOf lv S) F 0 0).toInt64)) * 31 + ((untilD su ed F S lv).toInt64)) * 31 + (sumP (flowR su ed F S 3 lv).2 S 0 0 (F - 1) (S - 1))) * 31 + (((flowR su ed F S 3 lv).1).toInt64))), none]) dX3_digest_140 (by decide) rfl rfl ?_
  refine j_lload_n dX3_digest_141 rfl ?_
  refine j_aload_n dX3_digest_142 rfl ?_
  refine j_iconst (v := nI 5) dX3_digest_143 (by decide) ?_
  refine j_cVp (As := [.int (nI 5)]) (rest := [.long ((((((((((((((2281 * 31 + ((nI F).toInt64)) * 31 + ((nI S).toInt64)) * 31 + hrs.toInt64) * 31 + su.toInt64) * 31 + ((nI mc).toInt64)) * 31 + ((nI cnt).toInt64)) * 31 + gone) * 31 + (sumP lv S 0 0 (F - 1) (S - 1))) * 31 + ((uptC lv (F * S) 0).toInt64)) * 31 + ((nI ((driestR lv F S).1)).toInt64)) * 31 + ((outS (cntOf lv S) F 0 0).toInt64)) * 31 + ((untilD su ed F S lv).toInt64)) * 31 + (sumP (flowR su ed F S 3 lv).2 S 0 0 (F - 1) (S - 1))) * 31 + (((flowR su ed F S 3 lv).1).toInt64))]) cm_X3_sunWanted ci_X3_sunWanted cs_X3_sunWanted rfl ln_X3_254 (ci := 3) rfl dX3_digest_144 (d' := 7) (by decide) (by omega) h04 rfl rfl (Nat.le_of_ble_eq_true rfl) (Nat.le_of_ble_eq_true rfl) (s_X3_sunWanted C4 5 (by omega) (by omega)) (fun E5 q5 => ?_)
  have C5 := q5.1
  have q5 := (⟨q5.1, fun k hk => (q5.2 k hk).trans (q4.2 k hk)⟩ : CR g n ad E5 F S hrs su gone lv ed old cnt dr mc mr ∧ ∀ k, 63 ≤ k → E5 k = E k)
  obtain ⟨h05, W5, ⟨F45, S45, su45, lv45, ed45, T5⟩, Z5, Y5, ⟨fc5, Hm5, P5⟩, hFp5, hSp5, hn5⟩ := id C5
  obtain ⟨-, -, hw5, hL5, hE5, hF5, hS5⟩ := id W5
  obtain ⟨-, -, hz5, hzO5, hzr5, -, -, hold5, hcnt5⟩ := id Z5
  obtain ⟨-, -, hy5, hyO5, hyr5, -, -, -, hmc5⟩ := id Y5
  show J g mX3_digest 10 0 0 147 [some (.ref (ad 0)), some (.long ((((((((((((((2281 * 31 + ((nI F).toInt64)) * 31 + ((nI S).toInt64)) * 31 + hrs.toInt64) * 31 + su.toInt64) * 31 + ((nI mc).toInt64)) * 31 + ((nI cnt).toInt64)) * 31 + gone) * 31 + (sumP lv S 0 0 (F - 1) (S - 1))) * 31 + ((uptC lv (F * S) 0).toInt64)) * 31 + ((nI ((driestR lv F S).1)).toInt64)) * 31 + ((outS (cntOf lv S) F 0 0).toInt64)) * 31 + ((untilD su ed F S lv).toInt64)) * 31 + (sumP (flowR su ed F S 3 lv).2 S 0 0 (F - 1) (S - 1))) * 31 + (((flowR su ed F S 3 lv).1).toInt64))), none] [.int (wantD ed F S 5 lv), .long ((((((((((((((2281 * 31 + ((nI F).toInt64)) * 31 + ((nI S).toInt64)) * 31 + hrs.toInt64) * 31 + su.toInt64) * 31 + ((nI mc).toInt64)) * 31 + ((nI cnt).toInt64)) * 31 + gone) * 31 + (sumP lv S 0 0 (F - 1) (S - 1))) * 31 + ((uptC lv (F * S) 0).toInt64)) * 31 + ((nI ((driestR lv F S).1)).toInt64)) * 31 + ((outS (cntOf lv S) F 0 0).toInt64)) * 31 + ((untilD su ed F S lv).toInt64)) * 31 + (sumP (flowR su ed F S 3 lv).2 S 0 0 (F - 1) (S - 1))) * 31 + (((flowR su ed F S 3 lv).1).toInt64))] n ad E5 Φ Ψ
  refine j_i2l dX3_digest_147 ?_
  refine j_cS (As := [.long ((((((((((((((2281 * 31 + ((nI F).toInt64)) * 31 + ((nI S).toInt64)) * 31 + hrs.toInt64) * 31 + su.toInt64) * 31 + ((nI mc).toInt64)) * 31 + ((nI cnt).toInt64)) * 31 + gone) * 31 + (sumP lv S 0 0 (F - 1) (S - 1))) * 31 + ((uptC lv (F * S) 0).toInt64)) * 31 + ((nI ((driestR lv F S).1)).toInt64)) * 31 + ((outS (cntOf lv S) F 0 0).toInt64)) * 31 + ((untilD su ed F S lv).toInt64)) * 31 + (sumP (flowR su ed F S 3 lv).2 S 0 0 (F - 1) (S - 1))) * 31 + (((flowR su ed F S 3 lv).1).toInt64)), .long ((wantD ed F S 5 lv).toInt64)]) (rest := []) cm_X3_digested ct_X3_digested ln_X3_211 dX3_digest_148 (d' := 0) (by decide) rfl rfl (Nat.le_of_ble_eq_true rfl) (Nat.le_of_ble_eq_true rfl) (s_X3_digested ((((((((((((((2281 * 31 + ((nI F).toInt64)) * 31 + ((nI S).toInt64)) * 31 + hrs.toInt64) * 31 + su.toInt64) * 31 + ((nI mc).toInt64)) * 31 + ((nI cnt).toInt64)) * 31 + gone) * 31 + (sumP lv S 0 0 (F - 1) (S - 1))) * 31 + ((uptC lv (F * S) 0).toInt64)) * 31 + ((nI ((driestR lv F S).1)).toInt64)) * 31 + ((outS (cntOf lv S) F 0 0).toInt64)) * 31 + ((untilD su ed F S lv).toInt64)) * 31 + (sumP (flowR su ed F S 3 lv).2 S 0 0 (F - 1) (S - 1))) * 31 + (((flowR su ed F S 3 lv).1).toInt64)) ((wantD ed F S 5 lv).toInt64)) ?_
  refine j_lstore_n (L' := [some (.ref (ad 0)), some (.long (((((((((((((((2281 * 31 + ((nI F).toInt64)) * 31 + ((nI S).toInt64)) * 31 + hrs.toInt64) * 31 + su.toInt64) * 31 + ((nI mc).toInt64)) * 31 + ((nI cnt).toInt64)) * 31 + gone) * 31 + (sumP lv S 0 0 (F - 1) (S - 1))) * 31 + ((uptC lv (F * S) 0).toInt64)) * 31 + ((nI ((driestR lv F S).1)).toInt64)) * 31 + ((outS (cntOf lv S) F 0 0).toInt64)) * 31 + ((untilD su ed F S lv).toInt64)) * 31 + (sumP (flowR su ed F S 3 lv).2 S 0 0 (F - 1) (S - 1))) * 31 + (((flowR su ed F S 3 lv).1).toInt64)) * 31 + ((wantD ed F S 5 lv).toInt64))), none]) dX3_digest_151 (by decide) rfl rfl ?_
  show J g mX3_digest 10 0 0 152 [some (.ref (ad 0)), some (.long (dgHead hrs su gone lv ed F S cnt mc)), none] [] n ad E5 Φ Ψ
  refine j_aload_n dX3_digest_152 rfl ?_
  refine j_lload_n dX3_digest_153 rfl ?_
  refine j_cVp (As := [.long (dgHead hrs su gone lv ed F S cnt mc)]) (rest := []) cm_X3_digestedFlights ci_X3_digestedFlights cs_X3_digestedFlights rfl ln_X3_257 (ci := 3) rfl dX3_digest_154 (d' := 9) (by decide) (by omega) h05 rfl rfl (Nat.le_of_ble_eq_true rfl) (Nat.le_of_ble_eq_true rfl) (s_X3_digestedFlights C5 (dgHead hrs su gone lv ed F S cnt mc)) (fun E6 q6 => ?_)
  have C6 := q6.1
  have q6 := (⟨q6.1, fun k hk => (q6.2 k hk).trans (q5.2 k hk)⟩ : CR g n ad E6 F S hrs su gone lv ed old cnt dr mc mr ∧ ∀ k, 63 ≤ k → E6 k = E k)
  obtain ⟨h06, W6, ⟨F46, S46, su46, lv46, ed46, T6⟩, Z6, Y6, ⟨fc6, Hm6, P6⟩, hFp6, hSp6, hn6⟩ := id C6
  obtain ⟨-, -, hw6, hL6, hE6, hF6, hS6⟩ := id W6
  obtain ⟨-, -, hz6, hzO6, hzr6, -, -, hold6, hcnt6⟩ := id Z6
  obtain ⟨-, -, hy6, hyO6, hyr6, -, -, -, hmc6⟩ := id Y6
  show J g mX3_digest 10 0 0 157 [some (.ref (ad 0)), some (.long (dgHead hrs su gone lv ed F S cnt mc)), none] [.long (dgFs lv F S (dgHead hrs su gone lv ed F S cnt mc))] n ad E6 Φ Ψ
  refine j_lstore_n (L' := [some (.ref (ad 0)), some (.long (dgFs lv F S (dgHead hrs su gone lv ed F S cnt mc))), none]) dX3_digest_157 (by decide) rfl rfl ?_
  refine j_aload_n dX3_digest_158 rfl ?_
  refine j_lload_n dX3_digest_159 rfl ?_
  refine j_cV (As := [.long (dgFs lv F S (dgHead hrs su gone lv ed F S cnt mc))]) (rest := []) cm_X3_digestedSteps ci_X3_digestedSteps cs_X3_digestedSteps rfl ln_X3_261 (ci := 3) rfl dX3_digest_160 (d' := 9) (by decide) (by omega) h06 rfl rfl (Nat.le_of_ble_eq_true rfl) (Nat.le_of_ble_eq_true rfl) (s_X3_digestedSteps C6 (dgFs lv F S (dgHead hrs su gone lv ed F S cnt mc))) ?_
  refine j_lstore_n (L' := [some (.ref (ad 0)), some (.long (dgSs lv ed F S (dgFs lv F S (dgHead hrs su gone lv ed F S cnt mc)))), none]) dX3_digest_163 (by decide) rfl rfl ?_
  refine j_aload_n dX3_digest_164 rfl ?_
  refine j_lload_n dX3_digest_165 rfl ?_
  refine j_cV (As := [.long (dgSs lv ed F S (dgFs lv F S (dgHead hrs su gone lv ed F S cnt mc)))]) (rest := []) cm_X3_digestedMarks ci_X3_digestedMarks cs_X3_digestedMarks rfl ln_X3_264 (ci := 3) rfl dX3_digest_166 (d' := 9) (by decide) (by omega) h06 rfl rfl (Nat.le_of_ble_eq_true rfl) (Nat.le_of_ble_eq_true rfl) (s_X3_digestedMarks C6 (dgSs lv ed F S (dgFs lv F S (dgHead hrs su gone lv ed F S cnt mc)))) ?_
  exact j_lret dX3_digest_169 rfl (h _ q6)
