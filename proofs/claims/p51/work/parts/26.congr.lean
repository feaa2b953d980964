/-! The same water answers the same. -/
section CG
variable {F S : Nat} {lv lv' ed ed' : Nat → Int32}
theorem dryP_cg {fa sa fb sb : Nat} (h : ∀ k, k < F * S → lv k = lv' k) (h1 : fb < F) (h2 : sb < S) : dryP lv S fa sa fb sb = dryP lv' S fa sa fb sb := by
  refine lpf_congr _ _ _ (fun f x _ hf => lpf_congr _ _ _ (fun s x _ hs => ?_))
  rw [h _ (ixN (by omega) (by omega))]
theorem reach_cg {a : Nat} {x : Int32} (h : ∀ k, k < F * S → lv k = lv' k) (ha : a < F) : reachR lv S a x = reachR lv' S a x := by
  refine lpe_congr _ _ _ (fun s y _ hs => ?_)
  rw [h _ (ixN ha (by omega))]
theorem run_cg {a : Nat} (h : ∀ k, k < F * S → lv k = lv' k) (ha : a < F) : bestRunR lv S a = bestRunR lv' S a := by
  refine lpf_congr _ _ _ (fun s y _ hs => ?_)
  unfold runB2
  rw [h _ (ixN ha (by omega))]
theorem long_cg {a : Nat} (h : ∀ k, k < F * S → lv k = lv' k) (ha : a < F) : longR lv S a = longR lv' S a := by
  refine lpf_congr _ _ _ (fun s y _ hs => ?_)
  rw [h _ (ixN ha (by omega))]
theorem driest_cg (h : ∀ k, k < F * S → lv k = lv' k) (hS : 1 ≤ S) : driestR lv F S = driestR lv' F S := by
  refine lpf_congr _ _ _ (fun f y _ hf => ?_)
  rw [dryP_cg h (show f < F by omega) (show S - 1 < S by omega)]
theorem low_cg {fa sa fb sb : Nat} (h : ∀ k, k < F * S → lv k = lv' k) (h1 : fb < F) (h2 : sb < S) : lowR lv S fa sa fb sb = lowR lv' S fa sa fb sb := by
  refine lpf_congr _ _ _ (fun f x _ hf => lpf_congr _ _ _ (fun s x _ hs => ?_))
  rw [h _ (ixN (by omega) (by omega))]
theorem high_cg {a : Nat} (h : ∀ k, k < F * S → lv k = lv' k) (ha : a < F) (hS : 1 ≤ S) : highR lv S a = highR lv' S a := by
  have key := lpf_rel (R := fun (x y : Nat) => x = y ∧ x < S) (b := fun s h => if lv (a * S + s) ≤ lv (a * S + h) then h else s) (b' := fun s h => if lv' (a * S + s) ≤ lv' (a * S + h) then h else s) (S - 1) 1 0 0 (fun s x y _ hs r => ?_) ⟨rfl, by omega⟩
  · exact key.1
  · obtain ⟨rfl, hx⟩ := r
    refine ⟨?_, ?_⟩
    · show (if lv (a * S + s) ≤ lv (a * S + x) then x else s) = if lv' (a * S + s) ≤ lv' (a * S + x) then x else s
      rw [h _ (ixN ha (by omega)), h _ (ixN ha hx)]
    · show (if lv (a * S + s) ≤ lv (a * S + x) then x else s) < S
      split <;> omega
theorem order_cg {N : Nat} {x : Int32} (h : ∀ k, k < N → lv k = lv' k) : orderR lv N x = orderR lv' N x := by
  refine lpf_congr _ _ _ (fun k y _ hk => ?_)
  rw [h k (by omega), uptC_congr h]
theorem cnt_cg {a b : Nat} (h : ∀ k, k < F * S → lv k = lv' k) (ha : a < F) (hb : b < F) : cntOf lv S a b = cntOf lv' S a b := by
  refine lpf_congr _ _ _ (fun s x _ hs => lpf_congr _ _ _ (fun t x _ ht => ?_))
  rw [h _ (ixN ha (by omega)), h _ (ixN hb (by split at ht <;> omega))]
theorem out_cg {o t : Nat} (h : ∀ k, k < F * S → lv k = lv' k) (ho : o < F) (ht : t < F) : outS (cntOf lv S) F o t = outS (cntOf lv' S) F o t := outS_congr (fun i j hi hj => cnt_cg h hi hj) ho ht
theorem best_cg {a : Nat} (h : ∀ k, k < F * S → lv k = lv' k) (ha : a < F) : bestS (cntOf lv S) F a = bestS (cntOf lv' S) F a := bestS_congr (fun i j hi hj => cnt_cg h hi hj) ha
theorem want_cg {t : Nat} (he : ∀ s, s < S → ed s = ed' s) (h : ∀ k, k < F * S → lv k = lv' k) : wantD ed F S t lv = wantD ed' F S t lv' := by
  have e : wantR ed F S t lv = wantR ed' F S t lv' := by
    refine lpe_congr _ _ _ (fun j y _ hj => ?_)
    rw [uptC_congr (flowR_congr he h).2]
  unfold wantD
  rw [e]
theorem dcnt_cg {N : Nat} (h : ∀ k, k < N → lv k = lv' k) : dcnt lv N = dcnt lv' N := by
  induction N with
  | zero => rfl
  | succ N ih => rw [dcnt_s, dcnt_s, ih (fun k hk => h k (by omega)), h N (by omega)]
theorem mean_cg (h : ∀ k, k < F * S → lv k = lv' k) (hF : 1 ≤ F) (hS : 1 ≤ S) : meanD lv F S = meanD lv' F S := by
  unfold meanD
  rw [sumP_congr h (show F - 1 < F by omega) (show S - 1 < S by omega)]
theorem chg_cg {a : Nat} {row row' : Nat → Int32} (h : ∀ k, k < F * S → lv k = lv' k) (hr : ∀ k, k < F * S → row k = row' k) : chgC lv row (F * S) = chgC lv' row' (F * S) := chgC_congr h hr
end CG
