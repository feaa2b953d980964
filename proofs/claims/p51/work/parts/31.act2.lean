/-! act: splash, swap, turn, bail. -/
def splM (m : Nat → Nat → Int32) (fa sa fb sb : Nat) (x : Int32) : Nat → Nat → Int32 := lpf (fun p m => lpf (fun q m => mup m p (upd (m p) q (m p q + x))) sa (sb + 1 - sa) m) fa (fb + 1 - fa) m
theorem spl_eq {m : Nat → Nat → Int32} {lv : Nat → Int32} {F S fa sa fb sb : Nat} {x : Int32} (h : ∀ k, k < F * S → lv k = flS m S k) (h3 : fb < F) (h4 : sb < S) : ∀ k, k < F * S → splL lv S fa sa fb sb x k = flS (splM m fa sa fb sb x) S k := by
  refine lpf_rel (R := fun (l : Nat → Int32) (m : Nat → Nat → Int32) => ∀ k, k < F * S → l k = flS m S k) (fb + 1 - fa) fa lv m (fun p l m _ hp r => ?_) h
  refine lpf_rel (R := fun (l : Nat → Int32) (m : Nat → Nat → Int32) => ∀ k, k < F * S → l k = flS m S k) (sb + 1 - sa) sa l m (fun q l m _ hq r => ?_) r
  intro k hk
  rw [flS_cell m _ (show q < S by omega)]
  exact upd_cg (by rw [fl_of r (show p < F by omega) (show q < S by omega)]) r k hk
theorem swm_eq {m : Nat → Nat → Int32} {lv : Nat → Int32} {F S a b : Nat} (h : ∀ k, k < F * S → lv k = flS m S k) (hS : 1 ≤ S) (ha : a < F) (hb : b < F) : ∀ k, k < F * S → swpL lv S a b k = flS (fun f => m (swp a b f)) S k := by
  intro k hk
  have hd := divF hk
  have hm := modS (k := k) hS
  have e := swpL_at lv (a := a) (b := b) (f := k / S) hm
  rw [Nat.mul_comm, Nat.div_add_mod] at e
  rw [e, ← fl_of h (swp_lt ha hb hd) hm]
  rfl
theorem sw_cnt {m : Nat → Nat → Int32} {lv : Nat → Int32} {F S a b : Nat} (h : ∀ k, k < F * S → lv k = flS m S k) (ha : a < F) (hb : b < F) : nI S - alkC lv S a b = lpf (fun k c => if m a k = m b k then c + 0 else c + 1) 0 S 0 := by
  unfold alkC
  rw [← cnt_two (p := fun s => lv (a * S + s) = lv (b * S + s)) S, Int32.add_sub_cancel]
  refine lpf_congr _ _ _ (fun k c _ hk => ?_)
  rw [fl_of h ha (show k < S by omega), fl_of h hb (show k < S by omega), Int32.add_zero]
def mdF (m : Nat → Nat → Int32) (f S t : Nat) : Nat → Int32 := fun k => if k < t then m f (S - 1 - k) else 0
theorem trn_eq {m : Nat → Nat → Int32} {lv : Nat → Int32} {F S a : Nat} (h : ∀ k, k < F * S → lv k = flS m S k) (hS : 1 ≤ S) (ha : a < F) : ∀ k, k < F * S → turnL lv S a k = flS (mup m a (mdF m a S S)) S k := by
  intro k hk
  have hd := divF hk
  have hm := modS (k := k) hS
  have ek := Nat.div_add_mod k S
  rw [Nat.mul_comm] at ek
  unfold turnL flS mup
  by_cases q : k / S = a
  · rw [q] at ek
    rw [if_pos (by omega), if_pos q]
    unfold mdF
    rw [if_pos hm, fl_of h ha (show S - 1 - k % S < S by omega)]
    congr 1
    omega
  · rw [if_neg q, if_neg, h k hk]
    · rfl
    · intro z
      have : k / S = a := by
        rcases Nat.lt_or_gt_of_ne q with z1 | z1
        · have := Nat.mul_le_mul_right S z1
          rw [Nat.succ_mul] at this
          omega
        · have := Nat.mul_le_mul_right S z1
          rw [Nat.succ_mul] at this
          omega
      exact q this
theorem trn_cnt {m : Nat → Nat → Int32} {lv : Nat → Int32} {F S a : Nat} (h : ∀ k, k < F * S → lv k = flS m S k) (ha : a < F) : chgC (turnL lv S a) lv (F * S) = lpf (fun k c => if m a (S - 1 - k) = m a k then c + 0 else c + 1) 0 S 0 := by
  rw [trnC_eq lv ha]
  unfold trnC
  refine lpf_congr _ _ _ (fun k c _ hk => ?_)
  rw [fl_of h ha (show k < S by omega), fl_of h ha (show S - 1 - k < S by omega), Int32.add_zero]
/-- a row put in by its reference -/
theorem rw_fn {ad r : Nat → Nat} {F f q : Nat} (hf : f < F) : va_up (fun j => if j < F then some (ad (r j)) else none) f (some (ad q)) = fun j => if j < F then some (ad ((fun j => if j = f then q else r j) j)) else none := by
  funext j
  unfold va_up
  dsimp only
  by_cases h : j = f
  · subst h
    rw [if_pos rfl, if_pos hf, if_pos rfl]
  · rw [if_neg h, if_neg h]
theorem SRZ.setRow {g : jG} {n : Nat} {ad : Nat → Nat} {E : Nat → va_E} {iL iE : Nat} {r : Nat → Nat} {ia im F S : Nat} {sun hrs : Int32} {gone : Int64} {m : Nat → Nat → Int32} {e : Nat → Int32} {c mc : Nat} {A B : Nat → Nat → Nat → Int32} {f q : Nat} {h : Nat → Int32} (V : SV g n ad E 63 iL iE r F S sun hrs gone m e (.ref (ad ia)) (.ref (ad im))) (l : 63 ≤ iL ∧ 63 ≤ iE ∧ ∀ f, f < F → 63 ≤ r f) (K1 : KL g n ad E (fun k => (Mu 63 iL iE F r k ∨ k < 63) ∨ k = q) ia c F S A) (K2 : KL g n ad E (fun k => (Mu 63 iL iE F r k ∨ k < 63) ∨ k = q) im mc F S B) (hf : f < F) (hq : q < n) (hq63 : 64 ≤ q) (hqL : q ≠ iL) (hqE : q ≠ iE) (hqr : ∀ f, f < F → q ≠ r f) (hqh : E q = aI g S h) : SR g n ad (va_up E iL (aO g F (va_up (fun j => if j < F then some (ad (r j)) else none) f (some (ad q))))) F S sun hrs gone (mup m f h) e c A mc B := by
  obtain ⟨⟨b1, b2, b3, b4⟩, ⟨d1, d2, d3, d4⟩, h3, h4, h5, h6, h7, h8⟩ := V
  rw [rw_fn hf]
  have hX : ∀ k, k < n → ¬ ((Mu 63 iL iE F r k ∨ k < 63) ∨ k = q) → ¬ (Mu 63 iL iE F (fun j => if j = f then q else r j) k ∨ k < 63) := fun k _ w z => by
    rcases z with (z | z | z | ⟨j, hj, z⟩) | z
    · exact w (Or.inl (Or.inl (Or.inl z)))
    · exact w (Or.inl (Or.inl (Or.inr (Or.inl z))))
    · exact w (Or.inl (Or.inl (Or.inr (Or.inr (Or.inl z)))))
    · dsimp only at z
      by_cases y : j = f
      · rw [if_pos y] at z
        exact w (Or.inr z)
      · rw [if_neg y] at z
        exact w (Or.inl (Or.inl (Or.inr (Or.inr (Or.inr ⟨j, hj, z⟩)))))
    · exact w (Or.inl (Or.inr z))
  have hE : ∀ k, k < n → ¬ ((Mu 63 iL iE F r k ∨ k < 63) ∨ k = q) → va_up E iL (aO g F (fun j => if j < F then some (ad ((fun j => if j = f then q else r j) j)) else none)) k = E k := fun k _ w => up_ne (fun z => w (Or.inl (Or.inl (Or.inr (Or.inl z)))))
  refine ⟨iL, iE, fun j => if j = f then q else r j, ia, im, ⟨⟨b1, b2, b3, fun j hj => ?_⟩, ⟨d1, d2, d3, fun j hj => ?_⟩, fun j j' hj hj' z => ?_, (up_ne d1).trans h4, up_eq, (up_ne (Ne.symm d3)).trans h6, fun j hj => ?_, h8⟩, ⟨l.1, l.2.1, fun j hj => ?_⟩, K1.tr (Nat.le_refl _) (fun _ _ => rfl) hE hX, K2.tr (Nat.le_refl _) (fun _ _ => rfl) hE hX⟩
  · dsimp only
    split
    · exact hq
    · exact b4 j hj
  · dsimp only
    split
    · exact ⟨by omega, hqL, hqE⟩
    · exact d4 j hj
  · dsimp only at z
    by_cases y : j = f
    · rw [if_pos y] at z
      by_cases y' : j' = f
      · rw [y, y']
      · rw [if_neg y'] at z
        exact absurd z (hqr j' hj')
    · rw [if_neg y] at z
      by_cases y' : j' = f
      · rw [if_pos y'] at z
        exact absurd z.symm (hqr j hj)
      · rw [if_neg y'] at z
        exact h3 j j' hj hj' z
  · dsimp only
    unfold mup
    by_cases y : j = f
    · rw [if_pos y, if_pos y]
      exact (up_ne hqL).trans hqh
    · rw [if_neg y, if_neg y]
      exact (up_ne (d4 j hj).2.1).trans (h7 j hj)
  · dsimp only
    split
    · omega
    · exact l.2.2 j hj
/-- a loop with a guard, taken out of its early end -/
theorem lpe_guard {α : Type} {c : α → Prop} [DecidablePred c] {s : Nat → α → α} : ∀ (k j : Nat) (a : α), lpeP (fun y => y = lpf (fun i y => if c y then s i y else y) j k a) (fun y => y = lpf (fun i y => if c y then s i y else y) j k a) (lpe (fun i y => if c y then (.inl (s i y) : α ⊕ α) else .inr y) j k a)
  | 0, j, a => rfl
  | k + 1, j, a => by
    unfold lpe
    by_cases h : c a
    · rw [if_pos h]
      have e : lpf (fun i y => if c y then s i y else y) j (k + 1) a = lpf (fun i y => if c y then s i y else y) (j + 1) k (s j a) := by
        show lpf _ (j + 1) k (if c a then s j a else a) = _
        rw [if_pos h]
      rw [e]
      show lpeP _ _ (lpe _ (j + 1) k (s j a))
      exact lpe_guard k (j + 1) (s j a)
    · rw [if_neg h]
      show a = lpf (fun i y => if c y then s i y else y) j (k + 1) a
      exact (lpf_id (b := fun i y => if c y then s i y else y) (k + 1) j a (fun i _ _ => if_neg h)).symm
def blB (x : Int32) (k : Nat) (y : Int32 × (Nat → Int32)) : Int32 × (Nat → Int32) := if y.2 k ≤ 0 then y else (y.1 + (if y.2 k < x - y.1 then y.2 k else x - y.1), upd y.2 k (y.2 k - (if y.2 k < x - y.1 then y.2 k else x - y.1)))
def blR (x : Int32) (S : Nat) (h : Nat → Int32) : Int32 × (Nat → Int32) := lpf (fun k y => if y.1 < x then blB x k y else y) 0 S (0, h)
theorem bl_eq {m : Nat → Nat → Int32} {lv : Nat → Int32} {F S a : Nat} {x : Int32} (h : ∀ k, k < F * S → lv k = flS m S k) (ha : a < F) (hx1 : 1 ≤ x.toInt) : (bailR lv S a x).1 = (blR x S (m a)).1 ∧ ∀ k, k < F * S → (bailR lv S a x).2 k = flS (mup m a (blR x S (m a)).2) S k := by
  have key := lpf_rel (R := fun (z : Int32 × (Nat → Int32)) (y : Int32 × (Nat → Int32)) => z.1 = y.1 ∧ (∀ k, k < F * S → z.2 k = flS (mup m a y.2) S k) ∧ 0 ≤ y.1.toInt ∧ y.1.toInt ≤ x.toInt) (b := fun s y => (y.1 + bailT x y.1 (y.2 (a * S + s)), upd y.2 (a * S + s) (y.2 (a * S + s) + -bailT x y.1 (y.2 (a * S + s))))) (b' := fun k y => if y.1 < x then blB x k y else y) S 0 (0, lv) (0, m a) (fun s z y _ hs r => ?_) ⟨rfl, by intro k hk; rw [mup_self]; exact h k hk, by show 0 ≤ (0 : Int32).toInt; rw [z_i]; omega, by show (0 : Int32).toInt ≤ _; rw [z_i]; omega⟩
  · exact ⟨key.1, key.2.1⟩
  · obtain ⟨r1, r2, r3, r4⟩ := r
    have hs' : s < S := by omega
    have hv : z.2 (a * S + s) = y.2 s := by
      rw [r2 _ (ixN ha hs'), flS_at _ hs']
      exact congrFun mup_at s
    have ex := Int32.toInt_lt x
    have exb : (x - y.1).toInt = x.toInt - y.1.toInt := sub_i (by omega) (by omega)
    -- what the class takes
    have nothing : bailT x z.1 (z.2 (a * S + s)) = 0 → (z.1 + bailT x z.1 (z.2 (a * S + s)), upd z.2 (a * S + s) (z.2 (a * S + s) + -bailT x z.1 (z.2 (a * S + s)))) = z := fun q => by
      rw [q, Int32.add_zero, Int32.neg_zero, Int32.add_zero]
      refine Prod.ext rfl (funext fun k => ?_)
      show upd z.2 (a * S + s) (z.2 (a * S + s)) k = z.2 k
      unfold upd
      by_cases c : k = a * S + s
      · rw [if_pos c, c]
      · rw [if_neg c]
    rw [hv, r1] at nothing
    show (z.1 + bailT x z.1 (z.2 (a * S + s))) = _ ∧ _
    by_cases c0 : y.1 < x
    · have c0' := c0
      rw [Int32.lt_iff_toInt_lt] at c0'
      rw [if_pos c0]
      unfold blB
      by_cases c1 : y.2 s ≤ 0
      · rw [if_pos c1]
        have b0 : bailT x y.1 (y.2 s) = 0 := by
          unfold bailT
          rw [max0_le c1, if_neg]
          rw [Int32.lt_iff_toInt_lt, z_i, exb]
          omega
        rw [hv, r1, b0, Int32.add_zero, Int32.neg_zero, Int32.add_zero]
        refine ⟨rfl, fun k hk => ?_, r3, r4⟩
        show upd z.2 (a * S + s) (y.2 s) k = _
        rw [← r2 k hk]
        unfold upd
        by_cases c : k = a * S + s
        · rw [if_pos c, c, hv]
        · rw [if_neg c]
      · rw [if_neg c1]
        have c1' := c1
        rw [Int32.le_iff_toInt_le, z_i] at c1'
        have eb : bailT x y.1 (y.2 s) = if y.2 s < x - y.1 then y.2 s else x - y.1 := by
          unfold bailT
          rw [max0_gt c1]
          by_cases d1 : x - y.1 < y.2 s
          · rw [if_pos d1, if_neg]
            rw [Int32.lt_iff_toInt_lt] at d1 ⊢
            omega
          · rw [if_neg d1]
            by_cases d2 : y.2 s < x - y.1
            · rw [if_pos d2]
            · rw [if_neg d2, ← Int32.toInt_inj]
              rw [Int32.lt_iff_toInt_lt] at d1 d2
              omega
        rw [hv, r1, eb]
        have et : 0 ≤ (if y.2 s < x - y.1 then y.2 s else x - y.1).toInt ∧ (if y.2 s < x - y.1 then y.2 s else x - y.1).toInt ≤ x.toInt - y.1.toInt := by
          by_cases d2 : y.2 s < x - y.1
          · rw [if_pos d2]
            rw [Int32.lt_iff_toInt_lt] at d2
            omega
          · rw [if_neg d2]
            omega
        have ea : (y.1 + (if y.2 s < x - y.1 then y.2 s else x - y.1)).toInt = y.1.toInt + (if y.2 s < x - y.1 then y.2 s else x - y.1).toInt := add_i (by omega) (by omega)
        refine ⟨rfl, fun k hk => ?_, by show 0 ≤ (y.1 + _ : Int32).toInt; omega, by show (y.1 + _ : Int32).toInt ≤ _; omega⟩
        show upd z.2 (a * S + s) (y.2 s + -(if y.2 s < x - y.1 then y.2 s else x - y.1)) k = flS (mup m a (upd y.2 s (y.2 s - (if y.2 s < x - y.1 then y.2 s else x - y.1)))) S k
        have e3 : mup m a (upd y.2 s (y.2 s - (if y.2 s < x - y.1 then y.2 s else x - y.1))) = mup (mup m a y.2) a (upd (mup m a y.2 a) s (y.2 s - (if y.2 s < x - y.1 then y.2 s else x - y.1))) := by rw [mup_mup, mup_at]
        rw [e3, flS_cell _ _ hs', Int32.sub_eq_add_neg (y.2 s)]
        exact upd_cg rfl r2 k hk
    · have c0' := c0
      rw [Int32.lt_iff_toInt_lt] at c0'
      rw [if_neg c0]
      have b0 : bailT x y.1 (y.2 s) = 0 := by
        unfold bailT
        have e0 : x - y.1 = 0 := by
          rw [← Int32.toInt_inj, exb, z_i]
          omega
        rw [e0]
        unfold max0
        by_cases d : 0 < y.2 s
        · rw [if_pos d, if_pos d]
        · rw [if_neg d]
          split <;> rfl
      rw [hv, r1, b0, Int32.add_zero, Int32.neg_zero, Int32.add_zero]
      refine ⟨rfl, fun k hk => ?_, r3, r4⟩
      show upd z.2 (a * S + s) (y.2 s) k = _
      rw [← r2 k hk]
      unfold upd
      by_cases c : k = a * S + s
      · rw [if_pos c, c, hv]
      · rw [if_neg c]
set_option maxRecDepth 100000 in
set_option maxHeartbeats 4000000 in
theorem ac_splash {g : jG} {n : Nat} {ad : Nat → Nat} {E : Nat → va_E} {i F S : Nat} {hrs su : Int32} {gone : Int64} {lv ed : Nat → Int32} {old cnt : Nat} {dr : Nat → Nat → Int32} {mc : Nat} {mr : Nat → Nat → Int32} {m : Nat → Nat → Int32} {e : Nat → Int32} {A B : Nat → Nat → Nat → Int32} (C : CR g n ad E F S hrs su gone lv ed old cnt dr mc mr) (R : SR g n ad E F S su hrs gone m e cnt A mc B) (L : RS i F S su lv ed old cnt dr mc mr m e A B) (hi : i ≤ 500) (x : Int32) (f s : Nat) (hf : f < F) (hs : s < S) (dp : Int32) (hd1 : ¬ dp < -99) (hd2 : dp ≤ 99) {Φ : Option Value → jR} {Ψ : String → jR} (K : ∀ (n9 : Nat) (a9 : Nat → Nat) (E9 : Nat → va_E), n ≤ n9 → (∀ k, k < n → a9 k = ad k) → AS (i + 1) g n9 a9 E9 → Φ (some (.int 1)) n9 a9 E9) : J g mL_act 11 60 1200 291 [some (.ref (ad 0)), some (.ref (ad 63)), some (.int x), some (.int (nI F)), some (.int (nI S)), some (.int (nI f)), some (.int (nI s)), some (.int dp), some (.int 1), none, none, none, none] [] n ad E Φ Ψ := by
  obtain ⟨hF8, hS16, hF1, hS1, hold, hcn, hmc, hN, hn63⟩ := C.bd
  obtain ⟨iL0, iE0, r0, ia0, im0, X0⟩ := id R
  replace X0 : SX g n ad E iL0 iE0 r0 ia0 im0 F S su hrs gone m e cnt A mc B := X0
  obtain ⟨V0, ⟨lL0, lE0, lr0⟩, K10, K20⟩ := id X0
  obtain ⟨⟨hwn0, hLn0, hEn0, hrn0⟩, ⟨hwL0, hwE0, hLE0, hrA0⟩, hri0, hw0, hL0, hE0, hR0, -⟩ := id V0
  show J g mL_act 11 60 1200 291 [some (.ref (ad 0)), some (.ref (ad 63)), some (.int x), some (.int (nI F)), some (.int (nI S)), some (.int (nI f)), some (.int (nI s)), some (.int dp), some (.int 1), none, none, none, none] [] n ad E Φ Ψ
  refine j_iload dL_act_291 rfl ?_
  refine j_iload_n dL_act_293 rfl ?_
  refine j_bipush (v := 6) dL_act_294 (by decide) ?_
  refine j_ishr dL_act_296 ?_
  refine j_iload_n dL_act_297 rfl ?_
  refine j_iload dL_act_298 rfl ?_
  refine j_isub dL_act_300 ?_
  refine j_topi (y := nI (F - f)) (pk_sub (by omega)) ?_
  refine j_cS (As := [.int (x >>> (6 &&& 31)), .int (nI (F - f))]) (rest := [.int (nI f)]) cm_L_below ct_L_below ln_L_19 dL_act_301 (d' := 0) (by decide) rfl rfl (Nat.le_of_ble_eq_true rfl) (Nat.le_of_ble_eq_true rfl) (s_L_below (x >>> (6 &&& 31)) (F - f) (by omega) (by omega)) ?_
  have hby : bl (x >>> (6 &&& 31)) (F - f) < F - f := bl_lt _ (by omega)
  generalize bl (x >>> (6 &&& 31)) (F - f) = y at hby ⊢
  refine j_iadd dL_act_304 ?_
  refine j_topi (y := nI (f + y)) (nI_add _ _) ?_
  refine j_istore (L' := [some (.ref (ad 0)), some (.ref (ad 63)), some (.int x), some (.int (nI F)), some (.int (nI S)), some (.int (nI f)), some (.int (nI s)), some (.int dp), some (.int 1), some (.int (nI (f + y))), none, none, none]) dL_act_305 (by decide) rfl rfl ?_
  refine j_iload dL_act_307 rfl ?_
  refine j_iload_n dL_act_309 rfl ?_
  refine j_bipush (v := 8) dL_act_310 (by decide) ?_
  refine j_ishr dL_act_312 ?_
  refine j_iload dL_act_313 rfl ?_
  refine j_iload dL_act_315 rfl ?_
  refine j_isub dL_act_317 ?_
  refine j_topi (y := nI (S - s)) (pk_sub (by omega)) ?_
  refine j_cS (As := [.int (x >>> (8 &&& 31)), .int (nI (S - s))]) (rest := [.int (nI s)]) cm_L_below ct_L_below ln_L_19 dL_act_318 (d' := 0) (by decide) rfl rfl (Nat.le_of_ble_eq_true rfl) (Nat.le_of_ble_eq_true rfl) (s_L_below (x >>> (8 &&& 31)) (S - s) (by omega) (by omega)) ?_
  have hbz : bl (x >>> (8 &&& 31)) (S - s) < S - s := bl_lt _ (by omega)
  generalize bl (x >>> (8 &&& 31)) (S - s) = z at hbz ⊢
  refine j_iadd dL_act_321 ?_
  refine j_topi (y := nI (s + z)) (nI_add _ _) ?_
  refine j_istore (L' := [some (.ref (ad 0)), some (.ref (ad 63)), some (.int x), some (.int (nI F)), some (.int (nI S)), some (.int (nI f)), some (.int (nI s)), some (.int dp), some (.int 1), some (.int (nI (f + y))), some (.int (nI (s + z))), none, none]) dL_act_322 (by decide) rfl rfl ?_
  have hfb : f ≤ f + y ∧ f + y < F := by omega
  have hsb : s ≤ s + z ∧ s + z < S := by omega
  generalize f + y = fb at hfb ⊢
  generalize s + z = sb at hsb ⊢
  show J g mL_act 11 60 1200 324 [some (.ref (ad 0)), some (.ref (ad 63)), some (.int x), some (.int (nI F)), some (.int (nI S)), some (.int (nI f)), some (.int (nI s)), some (.int dp), some (.int 1), some (.int (nI fb)), some (.int (nI sb)), none, none] [] n ad E Φ Ψ
  refine j_aload_n dL_act_324 rfl ?_
  refine j_bud (bc' := F + 1 + (1 + 0) + 50) (bs' := F * S + F + (31 + 0) + 1000) (by omega) (by omega) ?_
  refine j_callV (As := []) (rest := []) (d' := 4) (Φ' := OS n ad E (fun n9 a9 E9 => SR g n9 a9 E9 F S su hrs gone m e (keC cnt) (keA cnt A m) mc B)) (Ψ' := fun _ _ _ _ => False) cm_X4_keep ci_X4_keep cs_X4_keep rfl ln_L_33 (ci := 4) rfl dL_act_325 (by decide) hwn0 hw0 rfl rfl (Nat.le_of_ble_eq_true rfl) (Nat.le_of_ble_eq_true rfl) (c_X4_keep R hcn _) (fun v1 n1 a1 E1 q1 => ?_) (fun _ _ _ _ q => q.elim)
  obtain ⟨hv1, hn1, g1, e1, R1⟩ := q1
  subst hv1
  rw [keC_eq hcn] at R1
  rw [← g1 0 (by omega), ← g1 63 (by omega)]
  have C1 := C.tr63 (n' := n1) (ad' := a1) (E' := E1) (by omega) (fun k hk => g1 k (by omega)) (fun k hk => e1 k (by omega) (by omega))
  obtain ⟨iL1, iE1, r1, ia1, im1, X1⟩ := id R1
  replace X1 : SX g n1 a1 E1 iL1 iE1 r1 ia1 im1 F S su hrs gone m e (kCnt cnt) (keA cnt A m) mc B := X1
  obtain ⟨V1, ⟨lL1, lE1, lr1⟩, K11, K21⟩ := id X1
  obtain ⟨⟨hwn1, hLn1, hEn1, hrn1⟩, ⟨hwL1, hwE1, hLE1, hrA1⟩, hri1, hw1, hL1, hE1, hR1, -⟩ := id V1
  show J g mL_act 11 50 1000 328 [some (.ref (a1 0)), some (.ref (a1 63)), some (.int x), some (.int (nI F)), some (.int (nI S)), some (.int (nI f)), some (.int (nI s)), some (.int dp), some (.int 1), some (.int (nI fb)), some (.int (nI sb)), none, none] [] n1 a1 E1 Φ Ψ
  refine j_iload dL_act_328 rfl ?_
  refine j_istore (L' := [some (.ref (a1 0)), some (.ref (a1 63)), some (.int x), some (.int (nI F)), some (.int (nI S)), some (.int (nI f)), some (.int (nI s)), some (.int dp), some (.int 1), some (.int (nI fb)), some (.int (nI sb)), some (.int (nI f)), none]) dL_act_330 (by decide) rfl rfl ?_
  suffices hall : ∀ E9 : Nat → va_E, (CR g n1 a1 E9 F S hrs su gone lv ed old cnt dr mc mr ∧ SX g n1 a1 E9 iL1 iE1 r1 ia1 im1 F S su hrs gone m e (kCnt cnt) (keA cnt A m) mc B) → J g mL_act 11 50 1000 332 [some (.ref (a1 0)), some (.ref (a1 63)), some (.int x), some (.int (nI F)), some (.int (nI S)), some (.int (nI f)), some (.int (nI s)), some (.int dp), some (.int 1), some (.int (nI fb)), some (.int (nI sb)), some (.int (nI f)), none] [] n1 a1 E9 Φ Ψ from hall E1 ⟨C1, X1⟩
  refine lpf_ind (b := fun (p : Nat) (m9 : Nat → Nat → Int32) => lpf (fun (q : Nat) (m9 : Nat → Nat → Int32) => mup m9 p (upd (m9 p) q (m9 p q + dp))) s (sb + 1 - s) m9) (P := fun (p : Nat) (m2 : Nat → Nat → Int32) => ∀ E9 : Nat → va_E, (CR g n1 a1 E9 F S hrs su gone lv ed old cnt dr mc mr ∧ SX g n1 a1 E9 iL1 iE1 r1 ia1 im1 F S su hrs gone m2 e (kCnt cnt) (keA cnt A m) mc B) → J g mL_act 11 50 1000 332 [some (.ref (a1 0)), some (.ref (a1 63)), some (.int x), some (.int (nI F)), some (.int (nI S)), some (.int (nI f)), some (.int (nI s)), some (.int dp), some (.int 1), some (.int (nI fb)), some (.int (nI sb)), some (.int (nI p)), none] [] n1 a1 E9 Φ Ψ) (N := fb + 1) f ?_ (fb + 1 - f) m (by omega) ?_
  · intro p m2 hp0 hp ih E2 q2
    have C2 := q2.1
    have X2 := q2.2
    obtain ⟨V2, ⟨lL2, lE2, lr2⟩, K12, K22⟩ := id X2
    obtain ⟨⟨hwn2, hLn2, hEn2, hrn2⟩, ⟨hwL2, hwE2, hLE2, hrA2⟩, hri2, hw2, hL2, hE2, hR2, -⟩ := id V2
    show J g mL_act 11 50 1000 332 [some (.ref (a1 0)), some (.ref (a1 63)), some (.int x), some (.int (nI F)), some (.int (nI S)), some (.int (nI f)), some (.int (nI s)), some (.int dp), some (.int 1), some (.int (nI fb)), some (.int (nI sb)), some (.int (nI p)), none] [] n1 a1 E2 Φ Ψ
    refine j_iload dL_act_332 rfl ?_
    refine j_iload dL_act_334 rfl ?_
    refine j_icmp_gt_f (tgt := 377) dL_act_336 (by decide) (nI_nlt' (by omega) (by omega) (by omega)) ?_
    refine j_iload dL_act_339 rfl ?_
    refine j_istore (L' := [some (.ref (a1 0)), some (.ref (a1 63)), some (.int x), some (.int (nI F)), some (.int (nI S)), some (.int (nI f)), some (.int (nI s)), some (.int dp), some (.int 1), some (.int (nI fb)), some (.int (nI sb)), some (.int (nI p)), some (.int (nI s))]) dL_act_341 (by decide) rfl rfl ?_
    suffices hall2 : ∀ E9 : Nat → va_E, (CR g n1 a1 E9 F S hrs su gone lv ed old cnt dr mc mr ∧ SX g n1 a1 E9 iL1 iE1 r1 ia1 im1 F S su hrs gone m2 e (kCnt cnt) (keA cnt A m) mc B) → J g mL_act 11 50 1000 343 [some (.ref (a1 0)), some (.ref (a1 63)), some (.int x), some (.int (nI F)), some (.int (nI S)), some (.int (nI f)), some (.int (nI s)), some (.int dp), some (.int 1), some (.int (nI fb)), some (.int (nI sb)), some (.int (nI p)), some (.int (nI s))] [] n1 a1 E9 Φ Ψ from hall2 E2 q2
    refine lpf_ind (b := fun (q : Nat) (m9 : Nat → Nat → Int32) => mup m9 p (upd (m9 p) q (m9 p q + dp))) (P := fun (q : Nat) (m3 : Nat → Nat → Int32) => ∀ E9 : Nat → va_E, (CR g n1 a1 E9 F S hrs su gone lv ed old cnt dr mc mr ∧ SX g n1 a1 E9 iL1 iE1 r1 ia1 im1 F S su hrs gone m3 e (kCnt cnt) (keA cnt A m) mc B) → J g mL_act 11 50 1000 343 [some (.ref (a1 0)), some (.ref (a1 63)), some (.int x), some (.int (nI F)), some (.int (nI S)), some (.int (nI f)), some (.int (nI s)), some (.int dp), some (.int 1), some (.int (nI fb)), some (.int (nI sb)), some (.int (nI p)), some (.int (nI q))] [] n1 a1 E9 Φ Ψ) (N := sb + 1) s ?_ (sb + 1 - s) m2 (by omega) ?_
    · intro q m3 hq0 hq ih2 E3 q3
      have C3 := q3.1
      have X3 := q3.2
      obtain ⟨V3, ⟨lL3, lE3, lr3⟩, K13, K23⟩ := id X3
      obtain ⟨⟨hwn3, hLn3, hEn3, hrn3⟩, ⟨hwL3, hwE3, hLE3, hrA3⟩, hri3, hw3, hL3, hE3, hR3, -⟩ := id V3
      show J g mL_act 11 50 1000 343 [some (.ref (a1 0)), some (.ref (a1 63)), some (.int x), some (.int (nI F)), some (.int (nI S)), some (.int (nI f)), some (.int (nI s)), some (.int dp), some (.int 1), some (.int (nI fb)), some (.int (nI sb)), some (.int (nI p)), some (.int (nI q))] [] n1 a1 E3 Φ Ψ
      refine j_iload dL_act_343 rfl ?_
      refine j_iload dL_act_345 rfl ?_
      refine j_icmp_gt_f (tgt := 371) dL_act_347 (by decide) (nI_nlt' (by omega) (by omega) (by omega)) ?_
      refine j_aload_n dL_act_350 rfl ?_
      refine j_get fl_L_9 dL_act_351 hwn3 hw3 rfl ?_
      refine j_iload dL_act_354 rfl ?_
      refine j_aald (a := (a1 (r1 p))) dL_act_356 hLn3 hL3 (by omega) (show p < F by omega) (if_pos (show p < F by omega)) ?_
      refine j_iload dL_act_357 rfl ?_
      refine j_dup2 dL_act_359 rfl rfl ?_
      refine j_iald dL_act_360 (hrn3 p (show p < F by omega)) (hR3 p (show p < F by omega)) (by omega) (by omega) rfl ?_
      refine j_iload dL_act_361 rfl ?_
      refine j_iadd dL_act_363 ?_
      refine j_iast (j := q) dL_act_364 (hrn3 p (show p < F by omega)) (hR3 p (show p < F by omega)) (by omega) (by omega) ?_
      show J g mL_act 11 50 1000 365 [some (.ref (a1 0)), some (.ref (a1 63)), some (.int x), some (.int (nI F)), some (.int (nI S)), some (.int (nI f)), some (.int (nI s)), some (.int dp), some (.int 1), some (.int (nI fb)), some (.int (nI sb)), some (.int (nI p)), some (.int (nI q))] [] n1 a1 (va_up E3 (r1 p) (aI g S (upd (m3 p) q (((m3 p) q) + dp)))) Φ Ψ
      have Y4 := X3.row (h := upd (m3 p) q (m3 p q + dp)) (show p < F by omega)
      have D4 : CR g n1 a1 (va_up E3 (r1 p) (aI g S (upd (m3 p) q (((m3 p) q) + dp)))) F S hrs su gone lv ed old cnt dr mc mr := C3.kept (fun k hk => up_ne (by have := lr3 p (show p < F by omega); omega))
      generalize va_up E3 (r1 p) (aI g S (upd (m3 p) q (((m3 p) q) + dp))) = E4 at Y4 D4 ⊢
      refine j_iinc (v := nI (q + 1)) (L' := [some (.ref (a1 0)), some (.ref (a1 63)), some (.int x), some (.int (nI F)), some (.int (nI S)), some (.int (nI f)), some (.int (nI s)), some (.int dp), some (.int 1), some (.int (nI fb)), some (.int (nI sb)), some (.int (nI p)), some (.int (nI (q + 1)))]) dL_act_365 (by decide) rfl (nI_1 _) rfl rfl ?_
      refine j_goto (tgt := 343) dL_act_368 (by decide) ?_
      exact ih2 _ rfl _ ⟨D4, Y4⟩
    · intro E3 q3
      show J g mL_act 11 50 1000 343 [some (.ref (a1 0)), some (.ref (a1 63)), some (.int x), some (.int (nI F)), some (.int (nI S)), some (.int (nI f)), some (.int (nI s)), some (.int dp), some (.int 1), some (.int (nI fb)), some (.int (nI sb)), some (.int (nI p)), some (.int (nI (sb + 1)))] [] n1 a1 E3 Φ Ψ
      refine j_iload dL_act_343 rfl ?_
      refine j_iload dL_act_345 rfl ?_
      refine j_icmp_gt_t (tgt := 371) dL_act_347 (by decide) (nI_lt' (by omega) (by omega) (by omega)) ?_
      refine j_iinc (v := nI (p + 1)) (L' := [some (.ref (a1 0)), some (.ref (a1 63)), some (.int x), some (.int (nI F)), some (.int (nI S)), some (.int (nI f)), some (.int (nI s)), some (.int dp), some (.int 1), some (.int (nI fb)), some (.int (nI sb)), some (.int (nI (p + 1))), some (.int (nI (sb + 1)))]) dL_act_371 (by decide) rfl (nI_1 _) rfl rfl ?_
      refine j_goto (tgt := 332) dL_act_374 (by decide) ?_
      refine j_clr 12 ?_
      exact ih _ rfl _ q3
  · intro E2 q2
    have C2 := q2.1
    have X2 := q2.2
    obtain ⟨V2, ⟨lL2, lE2, lr2⟩, K12, K22⟩ := id X2
    obtain ⟨⟨hwn2, hLn2, hEn2, hrn2⟩, ⟨hwL2, hwE2, hLE2, hrA2⟩, hri2, hw2, hL2, hE2, hR2, -⟩ := id V2
    replace X2 : SX g n1 a1 E2 iL1 iE1 r1 ia1 im1 F S su hrs gone (splM m f s fb sb dp) e (kCnt cnt) (keA cnt A m) mc B := X2
    show J g mL_act 11 50 1000 332 [some (.ref (a1 0)), some (.ref (a1 63)), some (.int x), some (.int (nI F)), some (.int (nI S)), some (.int (nI f)), some (.int (nI s)), some (.int dp), some (.int 1), some (.int (nI fb)), some (.int (nI sb)), some (.int (nI (fb + 1))), none] [] n1 a1 E2 Φ Ψ
    refine j_iload dL_act_332 rfl ?_
    refine j_iload dL_act_334 rfl ?_
    refine j_icmp_gt_t (tgt := 377) dL_act_336 (by decide) (nI_lt' (by omega) (by omega) (by omega)) ?_
    refine j_aload_n dL_act_377 rfl ?_
    refine j_iload dL_act_378 rfl ?_
    refine j_iload dL_act_380 rfl ?_
    refine j_iload dL_act_382 rfl ?_
    refine j_iload dL_act_384 rfl ?_
    refine j_iload dL_act_386 rfl ?_
    refine j_cVp (As := [.int (nI f), .int (nI s), .int (nI fb), .int (nI sb), .int dp]) (rest := []) cm_X3_splash ci_X3_splash cs_X3_splash rfl ln_L_40 (ci := 3) rfl dL_act_388 (d' := 10) (by decide) (by omega) C2.1 rfl rfl (Nat.le_of_ble_eq_true rfl) (Nat.le_of_ble_eq_true rfl) (s_X3_splash C2 f s fb sb hf hs hfb.2 hsb.2 hfb.1 hsb.1 dp hd1 hd2) (fun E5 q5 => ?_)
    show J g mL_act 11 50 1000 391 [some (.ref (a1 0)), some (.ref (a1 63)), some (.int x), some (.int (nI F)), some (.int (nI S)), some (.int (nI f)), some (.int (nI s)), some (.int dp), some (.int 1), some (.int (nI fb)), some (.int (nI sb)), some (.int (nI (fb + 1))), none] [.int (nI ((fb - f + 1) * (sb - s + 1)))] n1 a1 E5 Φ Ψ
    have X5 := X2.tr (Nat.le_refl _) (fun _ _ => rfl) (fun k hk _ => q5.2 k hk)
    obtain ⟨V5, ⟨lL5, lE5, lr5⟩, K15, K25⟩ := id X5
    obtain ⟨⟨hwn5, hLn5, hEn5, hrn5⟩, ⟨hwL5, hwE5, hLE5, hrA5⟩, hri5, hw5, hL5, hE5, hR5, -⟩ := id V5
    refine j_iload dL_act_391 rfl ?_
    refine j_iload dL_act_393 rfl ?_
    refine j_isub dL_act_395 ?_
    refine j_topi (y := nI (fb - f)) (pk_sub (by omega)) ?_
    refine j_iconst (v := nI 1) dL_act_396 (by decide) ?_
    refine j_iadd dL_act_397 ?_
    refine j_topi (y := nI ((fb - f) + 1)) (nI_add _ _) ?_
    refine j_iload dL_act_398 rfl ?_
    refine j_iload dL_act_400 rfl ?_
    refine j_isub dL_act_402 ?_
    refine j_topi (y := nI (sb - s)) (pk_sub (by omega)) ?_
    refine j_iconst (v := nI 1) dL_act_403 (by decide) ?_
    refine j_iadd dL_act_404 ?_
    refine j_topi (y := nI ((sb - s) + 1)) (nI_add _ _) ?_
    refine j_imul dL_act_405 ?_
    refine j_topi (y := nI (((fb - f) + 1) * ((sb - s) + 1))) (pk_mul _ _) ?_
    refine j_icmp_ne_f (tgt := 413) dL_act_406 (by decide) rfl ?_
    refine j_iconst (v := 1) dL_act_409 (by decide) ?_
    refine j_goto (tgt := 414) dL_act_410 (by decide) ?_
    exact j_zret dL_act_414 rfl rfl (K _ _ _ hn1 g1 ⟨F, S, hrs, su, gone, splL lv S f s fb sb dp, ed, kOld old cnt, kCnt cnt, rowUp dr (kSlot old cnt) (cpyN lv (dr (kSlot old cnt)) (F * S)), mc, mr, splM m f s fb sb dp, e, keA cnt A m, B, q5.1, X5.sr, L.keep hold hcn (spl_eq L.1 hfb.2 hsb.2) (spl_bd hsb.1 hsb.2 (i99' hd1 hd2).1 (i99' hd1 hd2).2 (by omega) (by omega) L.2.2.1)⟩)
set_option maxRecDepth 100000 in
set_option maxHeartbeats 4000000 in
theorem ac_swap {g : jG} {n : Nat} {ad : Nat → Nat} {E : Nat → va_E} {i F S : Nat} {hrs su : Int32} {gone : Int64} {lv ed : Nat → Int32} {old cnt : Nat} {dr : Nat → Nat → Int32} {mc : Nat} {mr : Nat → Nat → Int32} {m : Nat → Nat → Int32} {e : Nat → Int32} {A B : Nat → Nat → Nat → Int32} (C : CR g n ad E F S hrs su gone lv ed old cnt dr mc mr) (R : SR g n ad E F S su hrs gone m e cnt A mc B) (L : RS i F S su lv ed old cnt dr mc mr m e A B) (hi : i ≤ 500) (x : Int32) (f s : Nat) (hf : f < F) (hs : s < S) (dp : Int32) (hd1 : ¬ dp < -99) (hd2 : dp ≤ 99) {Φ : Option Value → jR} {Ψ : String → jR} (K : ∀ (n9 : Nat) (a9 : Nat → Nat) (E9 : Nat → va_E), n ≤ n9 → (∀ k, k < n → a9 k = ad k) → AS (i + 1) g n9 a9 E9 → Φ (some (.int 1)) n9 a9 E9) : J g mL_act 11 60 1200 415 [some (.ref (ad 0)), some (.ref (ad 63)), some (.int x), some (.int (nI F)), some (.int (nI S)), some (.int (nI f)), some (.int (nI s)), some (.int dp), some (.int 1), none, none, none, none] [] n ad E Φ Ψ := by
  obtain ⟨hF8, hS16, hF1, hS1, hold, hcn, hmc, hN, hn63⟩ := C.bd
  obtain ⟨iL0, iE0, r0, ia0, im0, X0⟩ := id R
  replace X0 : SX g n ad E iL0 iE0 r0 ia0 im0 F S su hrs gone m e cnt A mc B := X0
  obtain ⟨V0, ⟨lL0, lE0, lr0⟩, K10, K20⟩ := id X0
  obtain ⟨⟨hwn0, hLn0, hEn0, hrn0⟩, ⟨hwL0, hwE0, hLE0, hrA0⟩, hri0, hw0, hL0, hE0, hR0, -⟩ := id V0
  show J g mL_act 11 60 1200 415 [some (.ref (ad 0)), some (.ref (ad 63)), some (.int x), some (.int (nI F)), some (.int (nI S)), some (.int (nI f)), some (.int (nI s)), some (.int dp), some (.int 1), none, none, none, none] [] n ad E Φ Ψ
  refine j_iload_n dL_act_415 rfl ?_
  refine j_bipush (v := 6) dL_act_416 (by decide) ?_
  refine j_ishr dL_act_418 ?_
  refine j_iload_n dL_act_419 rfl ?_
  refine j_cS (As := [.int (x >>> (6 &&& 31)), .int (nI F)]) (rest := []) cm_L_below ct_L_below ln_L_19 dL_act_420 (d' := 0) (by decide) rfl rfl (Nat.le_of_ble_eq_true rfl) (Nat.le_of_ble_eq_true rfl) (s_L_below (x >>> (6 &&& 31)) F (by omega) (by omega)) ?_
  have hbt9 : bl (x >>> (6 &&& 31)) F < F := bl_lt _ (by omega)
  generalize bl (x >>> (6 &&& 31)) F = t9 at hbt9 ⊢
  have ht : t9 < F := hbt9
  refine j_istore (L' := [some (.ref (ad 0)), some (.ref (ad 63)), some (.int x), some (.int (nI F)), some (.int (nI S)), some (.int (nI f)), some (.int (nI s)), some (.int dp), some (.int 1), some (.int (nI t9)), none, none, none]) dL_act_423 (by decide) rfl rfl ?_
  refine j_iconst (v := 0) dL_act_425 (by decide) ?_
  refine j_istore (L' := [some (.ref (ad 0)), some (.ref (ad 63)), some (.int x), some (.int (nI F)), some (.int (nI S)), some (.int (nI f)), some (.int (nI s)), some (.int dp), some (.int 1), some (.int (nI t9)), some (.int 0), none, none]) dL_act_426 (by decide) rfl rfl ?_
  refine j_iconst (v := nI 0) dL_act_428 (by decide) ?_
  refine j_istore (L' := [some (.ref (ad 0)), some (.ref (ad 63)), some (.int x), some (.int (nI F)), some (.int (nI S)), some (.int (nI f)), some (.int (nI s)), some (.int dp), some (.int 1), some (.int (nI t9)), some (.int 0), some (.int (nI 0)), none]) dL_act_429 (by decide) rfl rfl ?_
  refine lpf_ind (b := fun k c => if m f k = m t9 k then c + 0 else c + 1) (P := fun (k : Nat) (c : Int32) => J g mL_act 11 60 1200 431 [some (.ref (ad 0)), some (.ref (ad 63)), some (.int x), some (.int (nI F)), some (.int (nI S)), some (.int (nI f)), some (.int (nI s)), some (.int dp), some (.int 1), some (.int (nI t9)), some (.int c), some (.int (nI k)), none] [] n ad E Φ Ψ) (N := S) 0 ?_ S 0 (by omega) ?_
  · intro k c hk0 hk ih
    show J g mL_act 11 60 1200 431 [some (.ref (ad 0)), some (.ref (ad 63)), some (.int x), some (.int (nI F)), some (.int (nI S)), some (.int (nI f)), some (.int (nI s)), some (.int dp), some (.int 1), some (.int (nI t9)), some (.int c), some (.int (nI k)), none] [] n ad E Φ Ψ
    refine j_iload dL_act_431 rfl ?_
    refine j_iload dL_act_433 rfl ?_
    refine j_icmp_ge_f (tgt := 477) dL_act_435 (by decide) (nI_nle' (by omega) (by omega) (by omega)) ?_
    refine j_iload dL_act_438 rfl ?_
    refine j_aload_n dL_act_440 rfl ?_
    refine j_get fl_L_9 dL_act_441 hwn0 hw0 rfl ?_
    refine j_iload dL_act_444 rfl ?_
    refine j_aald (a := (ad (r0 f))) dL_act_446 hLn0 hL0 (by omega) hf (if_pos hf) ?_
    refine j_iload dL_act_447 rfl ?_
    refine j_iald dL_act_449 (hrn0 f hf) (hR0 f hf) (by omega) (by omega) rfl ?_
    refine j_aload_n dL_act_450 rfl ?_
    refine j_get fl_L_9 dL_act_451 hwn0 hw0 rfl ?_
    refine j_iload dL_act_454 rfl ?_
    refine j_aald (a := (ad (r0 t9))) dL_act_456 hLn0 hL0 (by omega) ht (if_pos ht) ?_
    refine j_iload dL_act_457 rfl ?_
    refine j_iald dL_act_459 (hrn0 t9 ht) (hR0 t9 ht) (by omega) (by omega) rfl ?_
    refine j_icmp_ne (tgt := 467) dL_act_460 (by decide) (fun hq => ?_) (fun hq => ?_)
    · skip
      refine j_iconst (v := 1) dL_act_467 (by decide) ?_
      refine j_iadd dL_act_468 ?_
      refine j_istore (L' := [some (.ref (ad 0)), some (.ref (ad 63)), some (.int x), some (.int (nI F)), some (.int (nI S)), some (.int (nI f)), some (.int (nI s)), some (.int dp), some (.int 1), some (.int (nI t9)), some (.int (c + 1)), some (.int (nI k)), none]) dL_act_469 (by decide) rfl rfl ?_
      refine j_iinc (v := nI (k + 1)) (L' := [some (.ref (ad 0)), some (.ref (ad 63)), some (.int x), some (.int (nI F)), some (.int (nI S)), some (.int (nI f)), some (.int (nI s)), some (.int dp), some (.int 1), some (.int (nI t9)), some (.int (c + 1)), some (.int (nI (k + 1))), none]) dL_act_471 (by decide) rfl (nI_1 _) rfl rfl ?_
      refine j_goto (tgt := 431) dL_act_474 (by decide) ?_
      exact ih (c + 1) (by simp only [hq, if_true, if_false])
    · skip
      refine j_iconst (v := 0) dL_act_463 (by decide) ?_
      refine j_goto (tgt := 468) dL_act_464 (by decide) ?_
      refine j_iadd dL_act_468 ?_
      refine j_istore (L' := [some (.ref (ad 0)), some (.ref (ad 63)), some (.int x), some (.int (nI F)), some (.int (nI S)), some (.int (nI f)), some (.int (nI s)), some (.int dp), some (.int 1), some (.int (nI t9)), some (.int (c + 0)), some (.int (nI k)), none]) dL_act_469 (by decide) rfl rfl ?_
      refine j_iinc (v := nI (k + 1)) (L' := [some (.ref (ad 0)), some (.ref (ad 63)), some (.int x), some (.int (nI F)), some (.int (nI S)), some (.int (nI f)), some (.int (nI s)), some (.int dp), some (.int 1), some (.int (nI t9)), some (.int (c + 0)), some (.int (nI (k + 1))), none]) dL_act_471 (by decide) rfl (nI_1 _) rfl rfl ?_
      refine j_goto (tgt := 431) dL_act_474 (by decide) ?_
      exact ih (c + 0) (by simp only [hq, if_true, if_false])
  · skip
    show J g mL_act 11 60 1200 431 [some (.ref (ad 0)), some (.ref (ad 63)), some (.int x), some (.int (nI F)), some (.int (nI S)), some (.int (nI f)), some (.int (nI s)), some (.int dp), some (.int 1), some (.int (nI t9)), some (.int (lpf (fun k c => if m f k = m t9 k then c + 0 else c + 1) 0 S 0)), some (.int (nI S)), none] [] n ad E Φ Ψ
    refine j_iload dL_act_431 rfl ?_
    refine j_iload dL_act_433 rfl ?_
    refine j_icmp_ge_t (tgt := 477) dL_act_435 (by decide) (nI_le' (by omega) (by omega) (by omega)) ?_
    refine j_aload_n dL_act_477 rfl ?_
    refine j_bud (bc' := F + 1 + (1 + 0) + 50) (bs' := F * S + F + (31 + 0) + 1000) (by omega) (by omega) ?_
    refine j_callV (As := []) (rest := []) (d' := 4) (Φ' := OS n ad E (fun n9 a9 E9 => SR g n9 a9 E9 F S su hrs gone m e (keC cnt) (keA cnt A m) mc B)) (Ψ' := fun _ _ _ _ => False) cm_X4_keep ci_X4_keep cs_X4_keep rfl ln_L_33 (ci := 4) rfl dL_act_478 (by decide) hwn0 hw0 rfl rfl (Nat.le_of_ble_eq_true rfl) (Nat.le_of_ble_eq_true rfl) (c_X4_keep R hcn _) (fun v1 n1 a1 E1 q1 => ?_) (fun _ _ _ _ q => q.elim)
    obtain ⟨hv1, hn1, g1, e1, R1⟩ := q1
    subst hv1
    rw [keC_eq hcn] at R1
    rw [← g1 0 (by omega), ← g1 63 (by omega)]
    have C1 := C.tr63 (n' := n1) (ad' := a1) (E' := E1) (by omega) (fun k hk => g1 k (by omega)) (fun k hk => e1 k (by omega) (by omega))
    obtain ⟨iL1, iE1, r1, ia1, im1, X1⟩ := id R1
    replace X1 : SX g n1 a1 E1 iL1 iE1 r1 ia1 im1 F S su hrs gone m e (kCnt cnt) (keA cnt A m) mc B := X1
    obtain ⟨V1, ⟨lL1, lE1, lr1⟩, K11, K21⟩ := id X1
    obtain ⟨⟨hwn1, hLn1, hEn1, hrn1⟩, ⟨hwL1, hwE1, hLE1, hrA1⟩, hri1, hw1, hL1, hE1, hR1, -⟩ := id V1
    show J g mL_act 11 50 1000 481 [some (.ref (a1 0)), some (.ref (a1 63)), some (.int x), some (.int (nI F)), some (.int (nI S)), some (.int (nI f)), some (.int (nI s)), some (.int dp), some (.int 1), some (.int (nI t9)), some (.int (lpf (fun k c => if m f k = m t9 k then c + 0 else c + 1) 0 S 0)), some (.int (nI S)), none] [] n1 a1 E1 Φ Ψ
    refine j_aload_n dL_act_481 rfl ?_
    refine j_iload dL_act_482 rfl ?_
    refine j_iload dL_act_484 rfl ?_
    refine j_cV (As := [.int (nI f), .int (nI t9)]) (rest := []) cm_X4_swap ci_X4_swap cs_X4_swap rfl ln_L_44 (ci := 4) rfl dL_act_486 (d' := 0) (by decide) hwn1 hw1 rfl rfl (Nat.le_of_ble_eq_true rfl) (Nat.le_of_ble_eq_true rfl) (s_X4_swap V1 f t9 hf ht) ?_
    show J g mL_act 11 50 1000 489 [some (.ref (a1 0)), some (.ref (a1 63)), some (.int x), some (.int (nI F)), some (.int (nI S)), some (.int (nI f)), some (.int (nI s)), some (.int dp), some (.int 1), some (.int (nI t9)), some (.int (lpf (fun k c => if m f k = m t9 k then c + 0 else c + 1) 0 S 0)), some (.int (nI S)), none] [] n1 a1 (va_up E1 iL1 (aO g F (fun f9 => if f9 < F then some (a1 (swR f t9 r1 f9)) else none))) Φ Ψ
    have Y2 := X1.swap hf ht
    have D2 : CR g n1 a1 (va_up E1 iL1 (aO g F (fun f9 => if f9 < F then some (a1 (swR f t9 r1 f9)) else none))) F S hrs su gone lv ed old cnt dr mc mr := C1.kept (fun k hk => up_ne (by omega))
    generalize va_up E1 iL1 (aO g F (fun f9 => if f9 < F then some (a1 (swR f t9 r1 f9)) else none)) = E2 at Y2 D2 ⊢
    replace Y2 : SX g n1 a1 E2 iL1 iE1 (swR f t9 r1) ia1 im1 F S su hrs gone (fun f9 => m (swp f t9 f9)) e (kCnt cnt) (keA cnt A m) mc B := Y2
    have X2 := Y2
    obtain ⟨⟨⟨hwn2, -⟩, -⟩, -⟩ := id X2
    show J g mL_act 11 50 1000 489 [some (.ref (a1 0)), some (.ref (a1 63)), some (.int x), some (.int (nI F)), some (.int (nI S)), some (.int (nI f)), some (.int (nI s)), some (.int dp), some (.int 1), some (.int (nI t9)), some (.int (lpf (fun k c => if m f k = m t9 k then c + 0 else c + 1) 0 S 0)), some (.int (nI S)), none] [] n1 a1 E2 Φ Ψ
    refine j_aload_n dL_act_489 rfl ?_
    refine j_iload dL_act_490 rfl ?_
    refine j_iload dL_act_492 rfl ?_
    refine j_cVp (As := [.int (nI f), .int (nI t9)]) (rest := []) cm_X3_swap ci_X3_swap cs_X3_swap rfl ln_L_47 (ci := 3) rfl dL_act_494 (d' := 8) (by decide) (by omega) D2.1 rfl rfl (Nat.le_of_ble_eq_true rfl) (Nat.le_of_ble_eq_true rfl) (s_X3_swap D2 f t9 hf ht) (fun E3 q3 => ?_)
    show J g mL_act 11 50 1000 497 [some (.ref (a1 0)), some (.ref (a1 63)), some (.int x), some (.int (nI F)), some (.int (nI S)), some (.int (nI f)), some (.int (nI s)), some (.int dp), some (.int 1), some (.int (nI t9)), some (.int (lpf (fun k c => if m f k = m t9 k then c + 0 else c + 1) 0 S 0)), some (.int (nI S)), none] [.int (nI S - alkC lv S f t9)] n1 a1 E3 Φ Ψ
    have X3 := X2.tr (Nat.le_refl _) (fun _ _ => rfl) (fun k hk _ => q3.2 k hk)
    refine j_iload dL_act_497 rfl ?_
    refine j_icmp_ne_f (tgt := 506) dL_act_499 (by decide) (sw_cnt L.1 hf ht) ?_
    refine j_iconst (v := 1) dL_act_502 (by decide) ?_
    refine j_goto (tgt := 507) dL_act_503 (by decide) ?_
    exact j_zret dL_act_507 rfl rfl (K _ _ _ hn1 g1 ⟨F, S, hrs, su, gone, swpL lv S f t9, ed, kOld old cnt, kCnt cnt, rowUp dr (kSlot old cnt) (cpyN lv (dr (kSlot old cnt)) (F * S)), mc, mr, fun f9 => m (swp f t9 f9), e, keA cnt A m, B, q3.1, X3.sr, L.keep hold hcn (swm_eq L.1 hS1 hf ht) ((swp_bd hS1 hf ht L.2.2.1).le (by omega) (by omega))⟩)
theorem md_step (m : Nat → Nat → Int32) (f S t : Nat) : upd (mdF m f S t) t (m f (S - 1 - t)) = mdF m f S (t + 1) := by
  funext k
  unfold upd mdF
  by_cases q : k = t
  · subst q
    rw [if_pos rfl, if_pos (Nat.lt_succ_self _)]
  · rw [if_neg q]
    by_cases q2 : k < t
    · rw [if_pos q2, if_pos (by omega)]
    · rw [if_neg q2, if_neg (by omega)]
set_option maxRecDepth 100000 in
set_option maxHeartbeats 4000000 in
theorem ac_turn {g : jG} {n : Nat} {ad : Nat → Nat} {E : Nat → va_E} {i F S : Nat} {hrs su : Int32} {gone : Int64} {lv ed : Nat → Int32} {old cnt : Nat} {dr : Nat → Nat → Int32} {mc : Nat} {mr : Nat → Nat → Int32} {m : Nat → Nat → Int32} {e : Nat → Int32} {A B : Nat → Nat → Nat → Int32} (C : CR g n ad E F S hrs su gone lv ed old cnt dr mc mr) (R : SR g n ad E F S su hrs gone m e cnt A mc B) (L : RS i F S su lv ed old cnt dr mc mr m e A B) (hi : i ≤ 500) (x : Int32) (f s : Nat) (hf : f < F) (hs : s < S) (dp : Int32) (hd1 : ¬ dp < -99) (hd2 : dp ≤ 99) {Φ : Option Value → jR} {Ψ : String → jR} (K : ∀ (n9 : Nat) (a9 : Nat → Nat) (E9 : Nat → va_E), n ≤ n9 → (∀ k, k < n → a9 k = ad k) → AS (i + 1) g n9 a9 E9 → Φ (some (.int 1)) n9 a9 E9) : J g mL_act 11 60 1200 508 [some (.ref (ad 0)), some (.ref (ad 63)), some (.int x), some (.int (nI F)), some (.int (nI S)), some (.int (nI f)), some (.int (nI s)), some (.int dp), some (.int 1), none, none, none, none] [] n ad E Φ Ψ := by
  obtain ⟨hF8, hS16, hF1, hS1, hold, hcn, hmc, hN, hn63⟩ := C.bd
  obtain ⟨iL0, iE0, r0, ia0, im0, X0⟩ := id R
  replace X0 : SX g n ad E iL0 iE0 r0 ia0 im0 F S su hrs gone m e cnt A mc B := X0
  obtain ⟨V0, ⟨lL0, lE0, lr0⟩, K10, K20⟩ := id X0
  obtain ⟨⟨hwn0, hLn0, hEn0, hrn0⟩, ⟨hwL0, hwE0, hLE0, hrA0⟩, hri0, hw0, hL0, hE0, hR0, -⟩ := id V0
  show J g mL_act 11 60 1200 508 [some (.ref (ad 0)), some (.ref (ad 63)), some (.int x), some (.int (nI F)), some (.int (nI S)), some (.int (nI f)), some (.int (nI s)), some (.int dp), some (.int 1), none, none, none, none] [] n ad E Φ Ψ
  refine j_iconst (v := 0) dL_act_508 (by decide) ?_
  refine j_istore (L' := [some (.ref (ad 0)), some (.ref (ad 63)), some (.int x), some (.int (nI F)), some (.int (nI S)), some (.int (nI f)), some (.int (nI s)), some (.int dp), some (.int 1), some (.int 0), none, none, none]) dL_act_509 (by decide) rfl rfl ?_
  refine j_iload dL_act_511 rfl ?_
  refine j_bud (bc' := 58 + 1) (bs' := 1100 + S) (by omega) (by omega) ?_
  refine j_newI (bc := 58) (bs := 1100) (N := S) ac_int (by omega) dL_act_513 (fun a5 g5 => ?_)
  rw [← g5 0 (by omega), ← g5 63 (by omega)]
  refine j_astore (L' := [some (.ref (a5 0)), some (.ref (a5 63)), some (.int x), some (.int (nI F)), some (.int (nI S)), some (.int (nI f)), some (.int (nI s)), some (.int dp), some (.int 1), some (.int 0), some (.ref (a5 n)), none, none]) dL_act_515 (by decide) rfl rfl ?_
  refine j_iconst (v := nI 0) dL_act_517 (by decide) ?_
  refine j_istore (L' := [some (.ref (a5 0)), some (.ref (a5 63)), some (.int x), some (.int (nI F)), some (.int (nI S)), some (.int (nI f)), some (.int (nI s)), some (.int dp), some (.int 1), some (.int 0), some (.ref (a5 n)), some (.int (nI 0)), none]) dL_act_518 (by decide) rfl rfl ?_
  suffices hall : ∀ E9 : Nat → va_E, ((∀ k, k < n → E9 k = E k) ∧ E9 n = aI g S (mdF m f S 0)) → J g mL_act 11 58 1100 520 [some (.ref (a5 0)), some (.ref (a5 63)), some (.int x), some (.int (nI F)), some (.int (nI S)), some (.int (nI f)), some (.int (nI s)), some (.int dp), some (.int 1), some (.int 0), some (.ref (a5 n)), some (.int (nI 0)), none] [] (n + 1) a5 E9 Φ Ψ from hall _ ⟨fun k hk => up_ne (by omega), up_eq.trans (congrArg (aI g S) (funext fun k => (if_neg (Nat.not_lt_zero k)).symm))⟩
  refine lpf_ind (b := fun k c => if m f (S - 1 - k) = m f k then c + 0 else c + 1) (P := fun (t : Nat) (c9 : Int32) => ∀ E9 : Nat → va_E, ((∀ k, k < n → E9 k = E k) ∧ E9 n = aI g S (mdF m f S t)) → J g mL_act 11 58 1100 520 [some (.ref (a5 0)), some (.ref (a5 63)), some (.int x), some (.int (nI F)), some (.int (nI S)), some (.int (nI f)), some (.int (nI s)), some (.int dp), some (.int 1), some (.int c9), some (.ref (a5 n)), some (.int (nI t)), none] [] (n + 1) a5 E9 Φ Ψ) (N := S) 0 ?_ S 0 (by omega) ?_
  · intro t c9 ht0 ht ih E2 q2
    have X2 := X0.tr (n' := n + 1) (ad' := a5) (E' := E2) (by omega) g5 (fun k _ hk => q2.1 k hk)
    have C2 := C.tr63 (n' := n + 1) (ad' := a5) (E' := E2) (by omega) (fun k hk => g5 k (by omega)) (fun k hk => q2.1 k (by omega))
    obtain ⟨V2, ⟨lL2, lE2, lr2⟩, K12, K22⟩ := id X2
    obtain ⟨⟨hwn2, hLn2, hEn2, hrn2⟩, ⟨hwL2, hwE2, hLE2, hrA2⟩, hri2, hw2, hL2, hE2, hR2, -⟩ := id V2
    show J g mL_act 11 58 1100 520 [some (.ref (a5 0)), some (.ref (a5 63)), some (.int x), some (.int (nI F)), some (.int (nI S)), some (.int (nI f)), some (.int (nI s)), some (.int dp), some (.int 1), some (.int c9), some (.ref (a5 n)), some (.int (nI t)), none] [] (n + 1) a5 E2 Φ Ψ
    refine j_iload dL_act_520 rfl ?_
    refine j_iload dL_act_522 rfl ?_
    refine j_icmp_ge_f (tgt := 581) dL_act_524 (by decide) (nI_nle' (by omega) (by omega) (by omega)) ?_
    refine j_aload dL_act_527 rfl ?_
    refine j_iload dL_act_529 rfl ?_
    refine j_aload_n dL_act_531 rfl ?_
    refine j_get fl_L_9 dL_act_532 hwn2 hw2 rfl ?_
    refine j_iload dL_act_535 rfl ?_
    refine j_aald (a := (a5 (r0 f))) dL_act_537 hLn2 hL2 (by omega) hf (if_pos hf) ?_
    refine j_iload dL_act_538 rfl ?_
    refine j_iconst (v := nI 1) dL_act_540 (by decide) ?_
    refine j_isub dL_act_541 ?_
    refine j_topi (y := nI (S - 1)) (pk_sub (by omega)) ?_
    refine j_iload dL_act_542 rfl ?_
    refine j_isub dL_act_544 ?_
    refine j_topi (y := nI ((S - 1) - t)) (pk_sub (by omega)) ?_
    refine j_iald dL_act_545 (hrn2 f hf) (hR2 f hf) (by omega) (by omega) rfl ?_
    refine j_iast (j := t) dL_act_546 (by omega) q2.2 (by omega) ht ?_
    refine j_iload dL_act_547 rfl ?_
    refine j_aload dL_act_549 rfl ?_
    refine j_iload dL_act_551 rfl ?_
    refine j_iald dL_act_553 (by omega) up_eq (by omega) ht rfl ?_
    refine j_topi (y := m f (S - 1 - t)) (if_pos rfl) ?_
    refine j_aload_n dL_act_554 rfl ?_
    refine j_get fl_L_9 dL_act_555 hwn2 ((up_ne (by omega)).trans hw2) rfl ?_
    refine j_iload dL_act_558 rfl ?_
    refine j_aald (a := (a5 (r0 f))) dL_act_560 hLn2 ((up_ne (by omega)).trans hL2) (by omega) hf (if_pos hf) ?_
    refine j_iload dL_act_561 rfl ?_
    refine j_iald dL_act_563 (hrn2 f hf) ((up_ne (Ne.symm (by have := hrn0 f hf; omega))).trans (hR2 f hf)) (by omega) ht rfl ?_
    refine j_icmp_ne (tgt := 571) dL_act_564 (by decide) (fun hq => ?_) (fun hq => ?_)
    · skip
      refine j_iconst (v := 1) dL_act_571 (by decide) ?_
      refine j_iadd dL_act_572 ?_
      refine j_istore (L' := [some (.ref (a5 0)), some (.ref (a5 63)), some (.int x), some (.int (nI F)), some (.int (nI S)), some (.int (nI f)), some (.int (nI s)), some (.int dp), some (.int 1), some (.int (c9 + 1)), some (.ref (a5 n)), some (.int (nI t)), none]) dL_act_573 (by decide) rfl rfl ?_
      refine j_iinc (v := nI (t + 1)) (L' := [some (.ref (a5 0)), some (.ref (a5 63)), some (.int x), some (.int (nI F)), some (.int (nI S)), some (.int (nI f)), some (.int (nI s)), some (.int dp), some (.int 1), some (.int (c9 + 1)), some (.ref (a5 n)), some (.int (nI (t + 1))), none]) dL_act_575 (by decide) rfl (nI_1 _) rfl rfl ?_
      refine j_goto (tgt := 520) dL_act_578 (by decide) ?_
      exact ih (c9 + 1) (by simp only [hq, if_true, if_false]) _ ⟨fun k hk => (up_ne (by omega)).trans (q2.1 k hk), up_eq.trans (congrArg (aI g S) (md_step m f S t))⟩
    · skip
      refine j_iconst (v := 0) dL_act_567 (by decide) ?_
      refine j_goto (tgt := 572) dL_act_568 (by decide) ?_
      refine j_iadd dL_act_572 ?_
      refine j_istore (L' := [some (.ref (a5 0)), some (.ref (a5 63)), some (.int x), some (.int (nI F)), some (.int (nI S)), some (.int (nI f)), some (.int (nI s)), some (.int dp), some (.int 1), some (.int (c9 + 0)), some (.ref (a5 n)), some (.int (nI t)), none]) dL_act_573 (by decide) rfl rfl ?_
      refine j_iinc (v := nI (t + 1)) (L' := [some (.ref (a5 0)), some (.ref (a5 63)), some (.int x), some (.int (nI F)), some (.int (nI S)), some (.int (nI f)), some (.int (nI s)), some (.int dp), some (.int 1), some (.int (c9 + 0)), some (.ref (a5 n)), some (.int (nI (t + 1))), none]) dL_act_575 (by decide) rfl (nI_1 _) rfl rfl ?_
      refine j_goto (tgt := 520) dL_act_578 (by decide) ?_
      exact ih (c9 + 0) (by simp only [hq, if_true, if_false]) _ ⟨fun k hk => (up_ne (by omega)).trans (q2.1 k hk), up_eq.trans (congrArg (aI g S) (md_step m f S t))⟩
  · intro E3 q3
    have X3 := X0.tr (n' := n + 1) (ad' := a5) (E' := E3) (by omega) g5 (fun k _ hk => q3.1 k hk)
    have C3 := C.tr63 (n' := n + 1) (ad' := a5) (E' := E3) (by omega) (fun k hk => g5 k (by omega)) (fun k hk => q3.1 k (by omega))
    obtain ⟨V3, ⟨lL3, lE3, lr3⟩, K13, K23⟩ := id X3
    obtain ⟨⟨hwn3, hLn3, hEn3, hrn3⟩, ⟨hwL3, hwE3, hLE3, hrA3⟩, hri3, hw3, hL3, hE3, hR3, -⟩ := id V3
    show J g mL_act 11 58 1100 520 [some (.ref (a5 0)), some (.ref (a5 63)), some (.int x), some (.int (nI F)), some (.int (nI S)), some (.int (nI f)), some (.int (nI s)), some (.int dp), some (.int 1), some (.int (lpf (fun k c => if m f (S - 1 - k) = m f k then c + 0 else c + 1) 0 S 0)), some (.ref (a5 n)), some (.int (nI S)), none] [] (n + 1) a5 E3 Φ Ψ
    refine j_iload dL_act_520 rfl ?_
    refine j_iload dL_act_522 rfl ?_
    refine j_icmp_ge_t (tgt := 581) dL_act_524 (by decide) (nI_le' (by omega) (by omega) (by omega)) ?_
    refine j_aload_n dL_act_581 rfl ?_
    have nX : ∀ k, k < n → ¬ (Mu 63 iL0 iE0 F r0 k ∨ k < 63) → ¬ ((Mu 63 iL0 iE0 F r0 k ∨ k < 63) ∨ (fun k : Nat => k = n) k) := fun k hk w z => z.elim w (fun y => by dsimp only at y; omega)
    have RZ : SRZ (fun k => k = n) g (n + 1) a5 E3 F S su hrs gone m e cnt A mc B := ⟨iL0, iE0, r0, ia0, im0, X3.1, X3.2.1, fun k hk z => by have hk' : k = n := hk; rcases z with z | z | z | ⟨j, hj, z⟩ <;> first | (have := hrn0 j hj; omega) | omega, K10.tr (by omega) g5 (fun k hk _ => q3.1 k hk) nX, K20.tr (by omega) g5 (fun k hk _ => q3.1 k hk) nX⟩
    refine j_bud (bc' := F + 1 + (1 + 0) + 40) (bs' := F * S + F + (31 + 0) + 900) (by omega) (by omega) ?_
    refine j_callV (As := []) (rest := []) (d' := 4) (Φ' := OS (n + 1) a5 E3 (fun n9 a9 E9 => SRZ (fun k => k = n) g n9 a9 E9 F S su hrs gone m e (keC cnt) (keA cnt A m) mc B)) (Ψ' := fun _ _ _ _ => False) cm_X4_keep ci_X4_keep cs_X4_keep rfl ln_L_33 (ci := 4) rfl dL_act_582 (by decide) hwn3 hw3 rfl rfl (Nat.le_of_ble_eq_true rfl) (Nat.le_of_ble_eq_true rfl) (c_X4_keepZ RZ (fun k z => by omega) hcn _) (fun v1 n1 a1 E1 q1 => ?_) (fun _ _ _ _ q => q.elim)
    obtain ⟨hv1, hn1, g1, e1, R1⟩ := q1
    subst hv1
    rw [keC_eq hcn] at R1
    rw [← g1 0 (by omega), ← g1 63 (by omega), ← g1 n (by omega)]
    have C1 := C3.tr63 (n' := n1) (ad' := a1) (E' := E1) (by omega) (fun k hk => g1 k (by omega)) (fun k hk => e1 k (by omega) (by omega))
    obtain ⟨iL1, iE1, r1, ia1, im1, V1, ⟨lL1, lE1, lr1⟩, hZ1, K11, K21⟩ := R1
    obtain ⟨⟨hwn1, hLn1, hEn1, hrn1⟩, ⟨hwL1, hwE1, hLE1, hrA1⟩, hri1, hw1, hL1, hE1, hR1, -⟩ := id V1
    have hnM := hZ1 n rfl
    have hmade := (e1 n (by omega) (by omega)).trans q3.2
    show J g mL_act 11 40 900 585 [some (.ref (a1 0)), some (.ref (a1 63)), some (.int x), some (.int (nI F)), some (.int (nI S)), some (.int (nI f)), some (.int (nI s)), some (.int dp), some (.int 1), some (.int (lpf (fun k c => if m f (S - 1 - k) = m f k then c + 0 else c + 1) 0 S 0)), some (.ref (a1 n)), some (.int (nI S)), none] [] n1 a1 E1 Φ Ψ
    refine j_aload_n dL_act_585 rfl ?_
    refine j_get fl_L_9 dL_act_586 hwn1 hw1 rfl ?_
    refine j_iload dL_act_589 rfl ?_
    refine j_aload dL_act_591 rfl ?_
    refine j_aastO (j := f) dL_act_593 hLn1 (by omega) hL1 hmade (by omega) hf ?_
    show J g mL_act 11 40 900 594 [some (.ref (a1 0)), some (.ref (a1 63)), some (.int x), some (.int (nI F)), some (.int (nI S)), some (.int (nI f)), some (.int (nI s)), some (.int dp), some (.int 1), some (.int (lpf (fun k c => if m f (S - 1 - k) = m f k then c + 0 else c + 1) 0 S 0)), some (.ref (a1 n)), some (.int (nI S)), none] [] n1 a1 (va_up E1 iL1 (aO g F (va_up (fun f => if f < F then some (a1 (r1 f)) else none) f (some (a1 n))))) Φ Ψ
    have R2 := SRZ.setRow V1 ⟨lL1, lE1, lr1⟩ K11 K21 hf (show n < n1 by omega) (by omega) (fun z => hnM (Or.inr (Or.inl z))) (fun z => hnM (Or.inr (Or.inr (Or.inl z)))) (fun j hj z => hnM (Or.inr (Or.inr (Or.inr ⟨j, hj, z⟩)))) hmade
    have D2 : CR g n1 a1 (va_up E1 iL1 (aO g F (va_up (fun f => if f < F then some (a1 (r1 f)) else none) f (some (a1 n))))) F S hrs su gone lv ed old cnt dr mc mr := C1.kept (fun k hk => up_ne (by omega))
    generalize va_up E1 iL1 (aO g F (va_up (fun f => if f < F then some (a1 (r1 f)) else none) f (some (a1 n)))) = E2 at R2 D2 ⊢
    refine j_aload_n dL_act_594 rfl ?_
    refine j_iload dL_act_595 rfl ?_
    refine j_cVp (As := [.int (nI f)]) (rest := []) cm_X3_turn ci_X3_turn cs_X3_turn rfl ln_L_49 (ci := 3) rfl dL_act_597 (d' := 8) (by decide) (by omega) D2.1 rfl rfl (Nat.le_of_ble_eq_true rfl) (Nat.le_of_ble_eq_true rfl) (s_X3_turn D2 f hf) (fun E4 q4 => ?_)
    show J g mL_act 11 40 900 600 [some (.ref (a1 0)), some (.ref (a1 63)), some (.int x), some (.int (nI F)), some (.int (nI S)), some (.int (nI f)), some (.int (nI s)), some (.int dp), some (.int 1), some (.int (lpf (fun k c => if m f (S - 1 - k) = m f k then c + 0 else c + 1) 0 S 0)), some (.ref (a1 n)), some (.int (nI S)), none] [.int (chgC (turnL lv S f) lv (F * S))] n1 a1 E4 Φ Ψ
    have R4 := R2.tr (Nat.le_refl _) (fun _ _ => rfl) (fun k hk _ => q4.2 k hk)
    refine j_iload dL_act_600 rfl ?_
    refine j_icmp_ne_f (tgt := 609) dL_act_602 (by decide) (trn_cnt L.1 hf) ?_
    refine j_iconst (v := 1) dL_act_605 (by decide) ?_
    refine j_goto (tgt := 610) dL_act_606 (by decide) ?_
    exact j_zret dL_act_610 rfl rfl (K _ _ _ (by omega) (fun k hk => (g1 k (by omega)).trans (g5 k hk)) ⟨F, S, hrs, su, gone, turnL lv S f, ed, kOld old cnt, kCnt cnt, rowUp dr (kSlot old cnt) (cpyN lv (dr (kSlot old cnt)) (F * S)), mc, mr, mup m f (mdF m f S S), e, keA cnt A m, B, q4.1, R4, L.keep hold hcn (trn_eq L.1 hS1 hf) ((turn_bd hf L.2.2.1).le (by omega) (by omega))⟩)
