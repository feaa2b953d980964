/-! Sums, dry ones, runs, the highest: what the law says of them. -/
def vv (lv : Nat → Int32) (S a b : Nat) : Int64 := (lv (a * S + b)).toInt64
theorem is_add (f f' : Nat → Int64) : ∀ k, is64 (fun i => f i + f' i) k = is64 f k + is64 f' k
  | 0 => (Int64.add_zero 0).symm
  | k + 1 => by
    show is64 (fun i => f i + f' i) k + (f k + f' k) = (is64 f k + f k) + (is64 f' k + f' k)
    rw [is_add f f' k, Int64.add_assoc, Int64.add_assoc, ← Int64.add_assoc (is64 f' k), Int64.add_comm (is64 f' k) (f k), Int64.add_assoc]
theorem is_zero : ∀ k, is64 (fun _ => 0) k = 0
  | 0 => rfl
  | k + 1 => by
    show is64 (fun _ => 0) k + 0 = 0
    rw [is_zero k, Int64.add_zero]
theorem is_comm (f : Nat → Nat → Int64) (b : Nat) : ∀ a, is64 (fun i => is64 (fun j => f i j) b) a = is64 (fun j => is64 (fun i => f i j) a) b
  | 0 => (is_zero b).symm
  | a + 1 => by
    show is64 (fun i => is64 (fun j => f i j) b) a + is64 (fun j => f a j) b = is64 (fun j => is64 (fun i => f i j) a + f a j) b
    rw [is_comm f b a, ← is_add]
theorem is_split (f : Nat → Int64) (p : Nat) : ∀ k, is64 f (p + k) = is64 f p + is64 (fun i => f (p + i)) k
  | 0 => (Int64.add_zero _).symm
  | k + 1 => by
    show is64 f (p + k) + f (p + k) = is64 f p + (is64 (fun i => f (p + i)) k + f (p + k))
    rw [is_split f p k, Int64.add_assoc]
theorem sum_rect (lv : Nat → Int32) (S fa sa fb sb : Nat) : sumP lv S fa sa fb sb = is64 (fun a => is64 (fun b => vv lv S (fa + a) (sa + b)) (sb + 1 - sa)) (fb + 1 - fa) := sumP_is lv S fa sa fb sb
theorem sum_all (lv : Nat → Int32) {F S : Nat} (hF : 1 ≤ F) (hS : 1 ≤ S) : sumP lv S 0 0 (F - 1) (S - 1) = is64 (fun a => is64 (fun b => vv lv S a b) S) F := by
  rw [sum_rect, show F - 1 + 1 - 0 = F by omega, show S - 1 + 1 - 0 = S by omega]
  exact is_congr _ (fun a _ => is_congr _ (fun b _ => by rw [Nat.zero_add, Nat.zero_add]))
theorem sum_flight (lv : Nat → Int32) {S : Nat} (f : Nat) (hS : 1 ≤ S) : sumP lv S f 0 f (S - 1) = is64 (fun b => vv lv S f b) S := by
  rw [sum_rect, show f + 1 - f = 0 + 1 by omega, show S - 1 + 1 - 0 = S by omega]
  show 0 + is64 (fun b => vv lv S (f + 0) (0 + b)) S = _
  rw [Int64.zero_add]
  exact is_congr _ (fun b _ => by rw [Nat.zero_add, Nat.add_zero])
theorem sum_step (lv : Nat → Int32) {F S : Nat} (s : Nat) (hF : 1 ≤ F) : sumP lv S 0 s (F - 1) s = is64 (fun a => vv lv S a s) F := by
  rw [sum_rect, show F - 1 + 1 - 0 = F by omega, show s + 1 - s = 0 + 1 by omega]
  refine is_congr _ (fun a _ => ?_)
  show 0 + vv lv S (0 + a) (s + 0) = _
  rw [Int64.zero_add, Nat.zero_add, Nat.add_zero]
theorem sum_flights (lv : Nat → Int32) {F S : Nat} (hF : 1 ≤ F) (hS : 1 ≤ S) : lpf (fun f (x : Int64) => x + sumP lv S f 0 f (S - 1)) 0 F 0 = sumP lv S 0 0 (F - 1) (S - 1) := by
  rw [lpf_is, Int64.zero_add, sum_all lv hF hS]
  exact is_congr _ (fun a _ => by rw [Nat.zero_add]; exact sum_flight lv a hS)
theorem sum_steps (lv : Nat → Int32) {F S : Nat} (hF : 1 ≤ F) (hS : 1 ≤ S) : lpf (fun s (x : Int64) => x + sumP lv S 0 s (F - 1) s) 0 S 0 = sumP lv S 0 0 (F - 1) (S - 1) := by
  rw [lpf_is, Int64.zero_add, sum_all lv hF hS, is_comm]
  exact is_congr _ (fun a _ => by rw [Nat.zero_add]; exact sum_step lv a hF)
/-- the four parts -/
def rc (lv : Nat → Int32) (S fa sa nf ns : Nat) : Int64 := is64 (fun a => is64 (fun b => vv lv S (fa + a) (sa + b)) ns) nf
theorem rc_cols (lv : Nat → Int32) (S fa sa nf p q : Nat) : rc lv S fa sa nf (p + q) = rc lv S fa sa nf p + rc lv S fa (sa + p) nf q := by
  unfold rc
  rw [← is_add]
  refine is_congr _ (fun a _ => ?_)
  rw [is_split]
  congr 1
  exact is_congr _ (fun b _ => by rw [Nat.add_assoc])
theorem rc_rows (lv : Nat → Int32) (S fa sa p q ns : Nat) : rc lv S fa sa (p + q) ns = rc lv S fa sa p ns + rc lv S (fa + p) sa q ns := by
  unfold rc
  rw [is_split]
  congr 1
  exact is_congr _ (fun a _ => is_congr _ (fun b _ => by rw [Nat.add_assoc]))
theorem sum_four (lv : Nat → Int32) {F S f t : Nat} (hf : f < F) (ht : t < S) : ((sumP lv S 0 0 f t + rc lv S 0 (t + 1) (f + 1) (S - (t + 1))) + rc lv S (f + 1) 0 (F - (f + 1)) (t + 1)) + rc lv S (f + 1) (t + 1) (F - (f + 1)) (S - (t + 1)) = sumP lv S 0 0 (F - 1) (S - 1) := by
  have e1 : sumP lv S 0 0 f t = rc lv S 0 0 (f + 1) (t + 1) := sum_rect lv S 0 0 f t
  have e2 : sumP lv S 0 0 (F - 1) (S - 1) = rc lv S 0 0 (f + 1 + (F - (f + 1))) (t + 1 + (S - (t + 1))) := by
    rw [sum_rect, show F - 1 + 1 - 0 = f + 1 + (F - (f + 1)) by omega, show S - 1 + 1 - 0 = t + 1 + (S - (t + 1)) by omega]
    rfl
  rw [e1, e2, rc_rows lv S 0 0 (f + 1) (F - (f + 1)) (t + 1 + (S - (t + 1))), rc_cols lv S 0 0 (f + 1) (t + 1) (S - (t + 1)), rc_cols lv S (0 + (f + 1)) 0 (F - (f + 1)) (t + 1) (S - (t + 1)), Nat.zero_add, Nat.zero_add, Int64.add_assoc]
theorem rc_0c (lv : Nat → Int32) (S fa sa nf : Nat) : rc lv S fa sa nf 0 = 0 := is_zero nf
theorem rc_of (lv : Nat → Int32) (S : Nat) {fa sa fb sb nf ns : Nat} (h1 : fb + 1 - fa = nf) (h2 : sb + 1 - sa = ns) : sumP lv S fa sa fb sb = rc lv S fa sa nf ns := by
  rw [sum_rect, h1, h2]
  rfl
/-! dry ones -/
theorem dryP_row1 (lv : Nat → Int32) {S : Nat} (a : Nat) (hS : 1 ≤ S) : dryP lv S a 0 a (S - 1) = lpf (fun s x => if 0 < lv (a * S + s) then x else x + 1) 0 S 0 := by
  unfold dryP
  rw [show a + 1 - a = 0 + 1 by omega, show S - 1 + 1 - 0 = S by omega]
  rfl
theorem cnt_from {p : Nat → Prop} [DecidablePred p] : ∀ (k j : Nat) (x : Int32), lpf (fun s x => if p s then x else x + 1) j k x = x + lpf (fun s x => if p s then x else x + 1) j k 0
  | 0, j, x => (Int32.add_zero x).symm
  | k + 1, j, x => by
    show lpf _ (j + 1) k (if p j then x else x + 1) = x + lpf _ (j + 1) k (if p j then 0 else 0 + 1)
    rw [cnt_from k (j + 1) (if p j then x else x + 1), cnt_from k (j + 1) (if p j then 0 else 0 + 1)]
    by_cases h : p j
    · rw [if_pos h, if_pos h, Int32.zero_add]
    · rw [if_neg h, if_neg h, Int32.zero_add, Int32.add_assoc]
theorem dry_flights (lv : Nat → Int32) {F S : Nat} (hS : 1 ≤ S) : lpf (fun f c => c + dryP lv S f 0 f (S - 1)) 0 F 0 = uptC lv (F * S) 0 := by
  unfold uptC
  rw [← lpf_flat (b := fun k c => if 0 < lv k then c else c + 1) S F 0]
  refine lpf_congr _ _ _ (fun f c _ _ => ?_)
  rw [dryP_row1 lv f hS]
  exact (cnt_from (p := fun s => 0 < lv (f * S + s)) S 0 c).symm
theorem long_dry (lv : Nat → Int32) {S : Nat} (a : Nat) (hS : 1 ≤ S) (hS2 : S ≤ 16) : ¬ dryP lv S a 0 a (S - 1) < (longR lv S a).1 ∧ ¬ (longR lv S a).1 < 0 := by
  rw [dryP_row1 lv a hS]
  have key := lpf_relI (R := fun i (y : Int32 × Int32) (c : Int32) => ∃ l e q : Nat, y = (nI l, nI e) ∧ c = nI q ∧ l ≤ q ∧ e ≤ q ∧ q ≤ i) (b := fun s y => (if y.1 < (if 0 < lv (a * S + s) then 0 else y.2 + 1) then (if 0 < lv (a * S + s) then 0 else y.2 + 1) else y.1, if 0 < lv (a * S + s) then 0 else y.2 + 1)) (b' := fun s x => if 0 < lv (a * S + s) then x else x + 1) S 0 (0, 0) 0 (fun i y c _ hi r => ?_) ⟨0, 0, 0, rfl, rfl, Nat.le_refl _, Nat.le_refl _, Nat.le_refl _⟩
  · obtain ⟨l, e, q, h1, h2, h3, h4, h5⟩ := key
    have hl : (longR lv S a).1 = nI l := congrArg Prod.fst h1
    rw [hl, h2]
    exact ⟨nI_nlt' (by omega) (by omega) h3, nI_pos (by omega)⟩
  · obtain ⟨l, e, q, rfl, rfl, h3, h4, h5⟩ := r
    by_cases hw : 0 < lv (a * S + i)
    · refine ⟨l, 0, q, ?_, if_pos hw, h3, Nat.zero_le _, by omega⟩
      show (if nI l < (if 0 < lv (a * S + i) then 0 else nI e + 1) then (if 0 < lv (a * S + i) then (0 : Int32) else nI e + 1) else nI l, if 0 < lv (a * S + i) then (0 : Int32) else nI e + 1) = _
      rw [if_pos hw, if_neg (nI_pos (by omega))]
      rfl
    · have e1 : (if 0 < lv (a * S + i) then (0 : Int32) else nI e + 1) = nI (e + 1) := by rw [if_neg hw, nI_1]
      have e2 : (if 0 < lv (a * S + i) then nI q else nI q + 1) = nI (q + 1) := by rw [if_neg hw, nI_1]
      by_cases hm : l < e + 1
      · refine ⟨e + 1, e + 1, q + 1, ?_, e2, by omega, by omega, by omega⟩
        show (if nI l < (if 0 < lv (a * S + i) then (0 : Int32) else nI e + 1) then (if 0 < lv (a * S + i) then (0 : Int32) else nI e + 1) else nI l, if 0 < lv (a * S + i) then (0 : Int32) else nI e + 1) = _
        rw [e1, if_pos (nI_lt' (by omega) (by omega) hm)]
      · refine ⟨l, e + 1, q + 1, ?_, e2, by omega, by omega, by omega⟩
        show (if nI l < (if 0 < lv (a * S + i) then (0 : Int32) else nI e + 1) then (if 0 < lv (a * S + i) then (0 : Int32) else nI e + 1) else nI l, if 0 < lv (a * S + i) then (0 : Int32) else nI e + 1) = _
        rw [e1, if_neg (nI_nlt' (by omega) (by omega) (by omega))]
theorem driest_top (lv : Nat → Int32) {F S : Nat} (hF : 1 ≤ F) (hS : 1 ≤ S) (hS2 : S ≤ 16) : (driestR lv F S).1 < F ∧ ∀ k, k < F → ¬ dryP lv S (driestR lv F S).1 0 (driestR lv F S).1 (S - 1) < dryP lv S k 0 k (S - 1) := by
  have key := lpf_inv (P := fun i (y : Nat × Int32) => (i = 0 ∧ y = (0, -1)) ∨ (y.1 < i ∧ y.2 = dryP lv S y.1 0 y.1 (S - 1) ∧ ∀ k, k < i → dryP lv S k 0 k (S - 1) ≤ y.2)) (b := fun f y => if dryP lv S f 0 f (S - 1) ≤ y.2 then y else (f, dryP lv S f 0 f (S - 1))) F 0 (0, -1) (fun i y _ hi r => ?_) (Or.inl ⟨rfl, rfl⟩)
  · rw [Nat.zero_add] at key
    rcases key with ⟨h, -⟩ | ⟨h1, h2, h3⟩
    · omega
    · refine ⟨h1, fun k hk => ?_⟩
      have := h3 k hk
      rw [h2] at this
      exact Int32.not_lt.mpr this
  · right
    obtain ⟨c, hc, ec⟩ := dryP_row lv (f := i) hS
    rcases r with ⟨h1, h2⟩ | ⟨h1, h2, h3⟩
    · subst h1
      subst h2
      have hn : ¬ dryP lv S 0 0 0 (S - 1) ≤ (-1 : Int32) := by
        rw [ec, Int32.le_iff_toInt_le, nI_toInt (by omega)]
        have : (-1 : Int32).toInt = -1 := by decide
        omega
      have e : (if dryP lv S 0 0 0 (S - 1) ≤ ((0, -1) : Nat × Int32).2 then ((0, -1) : Nat × Int32) else (0, dryP lv S 0 0 0 (S - 1))) = (0, dryP lv S 0 0 0 (S - 1)) := if_neg hn
      rw [e]
      refine ⟨Nat.one_pos, rfl, fun k hk => ?_⟩
      rw [show k = 0 by omega]
      exact Int32.le_refl _
    · by_cases q : dryP lv S i 0 i (S - 1) ≤ y.2
      · rw [if_pos q]
        refine ⟨by omega, h2, fun k hk => ?_⟩
        by_cases z : k = i
        · rw [z]; exact q
        · exact h3 k (by omega)
      · rw [if_neg q]
        refine ⟨Nat.lt_succ_self _, rfl, fun k hk => ?_⟩
        by_cases z : k = i
        · rw [z]; exact Int32.le_refl _
        · have := h3 k (by omega)
          rw [Int32.le_iff_toInt_le] at this q ⊢
          show _ ≤ (dryP lv S i 0 i (S - 1)).toInt
          omega
theorem high_top (lv : Nat → Int32) {S : Nat} (a : Nat) (hS : 1 ≤ S) : highR lv S a < S ∧ ∀ t, t < S → ¬ lv (a * S + highR lv S a) < lv (a * S + t) ∧ (t < highR lv S a → ¬ lv (a * S + t) = lv (a * S + highR lv S a)) := by
  have key := lpf_inv (P := fun i (h : Nat) => h < i ∧ ∀ t, t < i → lv (a * S + t) ≤ lv (a * S + h) ∧ (t < h → ¬ lv (a * S + t) = lv (a * S + h))) (b := fun s h => if lv (a * S + s) ≤ lv (a * S + h) then h else s) (S - 1) 1 0 (fun i h _ hi r => ?_) ⟨Nat.one_pos, fun t ht => by rw [show t = 0 by omega]; exact ⟨Int32.le_refl _, fun q => absurd q (Nat.lt_irrefl _)⟩⟩
  · rw [show 1 + (S - 1) = S by omega] at key
    exact ⟨key.1, fun t ht => ⟨Int32.not_lt.mpr (key.2 t ht).1, (key.2 t ht).2⟩⟩
  · obtain ⟨h1, h2⟩ := r
    by_cases q : lv (a * S + i) ≤ lv (a * S + h)
    · rw [if_pos q]
      refine ⟨by omega, fun t ht => ?_⟩
      by_cases z : t = i
      · rw [z]; exact ⟨q, fun w => by omega⟩
      · exact h2 t (by omega)
    · rw [if_neg q]
      refine ⟨Nat.lt_succ_self _, fun t ht => ?_⟩
      by_cases z : t = i
      · rw [z]; exact ⟨Int32.le_refl _, fun w => absurd w (Nat.lt_irrefl _)⟩
      · have := (h2 t (by omega)).1
        rw [Int32.le_iff_toInt_le] at this q
        refine ⟨?_, fun _ w => ?_⟩
        · rw [Int32.le_iff_toInt_le]; omega
        · rw [w] at this; omega
/-! runs -/
theorem add_l {x y : Int64} (h1 : -9223372036854775808 ≤ x.toInt + y.toInt) (h2 : x.toInt + y.toInt < 9223372036854775808) : (x + y).toInt = x.toInt + y.toInt := by
  rw [Int64.toInt_add]
  exact Int.bmod_eq_of_le (by omega) (by omega)
theorem z_l : (0 : Int64).toInt = 0 := by decide
theorem vv_bd (lv : Nat → Int32) (S a b : Nat) : -2147483648 ≤ (vv lv S a b).toInt ∧ (vv lv S a b).toInt ≤ 2147483647 := by
  unfold vv
  rw [Int32.toInt_toInt64]
  have h1 := Int32.le_toInt (lv (a * S + b))
  have h2 := Int32.toInt_lt (lv (a * S + b))
  omega
theorem run_top (lv : Nat → Int32) {S : Nat} (a : Nat) (hS : 1 ≤ S) (hS2 : S ≤ 16) : sumP lv S a 0 a (S - 1) ≤ (bestRunR lv S a).1 ∧ ∀ t, t < S → (lv (a * S + t)).toInt64 ≤ (bestRunR lv S a).1 := by
  rw [← bestRunN_eq lv a hS, sum_flight lv a hS]
  have key := lpf_inv (P := fun i (y : Int64 × Int64) => y.2.toInt ≤ y.1.toInt ∧ (is64 (fun b => vv lv S a b) i).toInt ≤ y.2.toInt ∧ (∀ t, t < i → (vv lv S a t).toInt ≤ y.1.toInt) ∧ -2147483648 * (i : Int) ≤ (is64 (fun b => vv lv S a b) i).toInt ∧ y.1.toInt ≤ 2147483648 * (i : Int)) (b := runB2 lv S a) (S - 1) 1 ((lv (a * S + 0)).toInt64, (lv (a * S + 0)).toInt64) (fun i y h1 hi r => ?_) ⟨Int.le_refl _, ?_, fun t ht => ?_, ?_, ?_⟩
  · rw [show 1 + (S - 1) = S by omega] at key
    obtain ⟨k1, k2, k3, -⟩ := key
    refine ⟨?_, fun t ht => ?_⟩
    · rw [Int64.le_iff_toInt_le]
      exact Int.le_trans k2 k1
    · rw [Int64.le_iff_toInt_le]
      exact k3 t ht
  · obtain ⟨r1, r2, r3, r4, r5⟩ := r
    have hb := vv_bd lv S a i
    have e0 : (if y.2 < 0 then (0 : Int64) else y.2).toInt = if y.2.toInt < 0 then 0 else y.2.toInt := by
      by_cases q : y.2 < 0
      · rw [if_pos q, if_pos (by rw [Int64.lt_iff_toInt_lt, z_l] at q; exact q), z_l]
      · rw [if_neg q, if_neg (by rw [Int64.lt_iff_toInt_lt, z_l] at q; exact q)]
    have hm : 0 ≤ (if y.2 < 0 then (0 : Int64) else y.2).toInt ∧ y.2.toInt ≤ (if y.2 < 0 then (0 : Int64) else y.2).toInt ∧ (if y.2 < 0 then (0 : Int64) else y.2).toInt ≤ 2147483648 * (i : Int) := by
      rw [e0]
      split <;> omega
    have e2 : ((if y.2 < 0 then (0 : Int64) else y.2) + vv lv S a i).toInt = (if y.2 < 0 then (0 : Int64) else y.2).toInt + (vv lv S a i).toInt := add_l (by omega) (by omega)
    have eS : (is64 (fun b => vv lv S a b) (i + 1)).toInt = (is64 (fun b => vv lv S a b) i).toInt + (vv lv S a i).toInt := (show (is64 (fun b => vv lv S a b) i + vv lv S a i).toInt = _ from add_l (by omega) (by omega))
    show (runB2 lv S a i y).2.toInt ≤ (runB2 lv S a i y).1.toInt ∧ _ ∧ (∀ t, t < i + 1 → _ ≤ (runB2 lv S a i y).1.toInt) ∧ _ ∧ (runB2 lv S a i y).1.toInt ≤ _
    have f2 : (runB2 lv S a i y).2 = (if y.2 < 0 then (0 : Int64) else y.2) + vv lv S a i := rfl
    have f1 : (runB2 lv S a i y).1 = if ((if y.2 < 0 then (0 : Int64) else y.2) + vv lv S a i) < y.1 then y.1 else (if y.2 < 0 then (0 : Int64) else y.2) + vv lv S a i := rfl
    have g1 : (runB2 lv S a i y).1.toInt = if (runB2 lv S a i y).2.toInt < y.1.toInt then y.1.toInt else (runB2 lv S a i y).2.toInt := by
      rw [f1, f2]
      by_cases q : ((if y.2 < 0 then (0 : Int64) else y.2) + vv lv S a i) < y.1
      · rw [if_pos q, if_pos (Int64.lt_iff_toInt_lt.mp q)]
      · rw [if_neg q, if_neg (fun z => q (Int64.lt_iff_toInt_lt.mpr z))]
    have eW : (runB2 lv S a i y).2.toInt = (if y.2 < 0 then (0 : Int64) else y.2).toInt + (vv lv S a i).toInt := by rw [f2]; exact e2
    have hA : (runB2 lv S a i y).2.toInt ≤ (runB2 lv S a i y).1.toInt ∧ y.1.toInt ≤ (runB2 lv S a i y).1.toInt ∧ ((runB2 lv S a i y).1.toInt = (runB2 lv S a i y).2.toInt ∨ (runB2 lv S a i y).1.toInt = y.1.toInt) := by
      rw [g1]
      by_cases q : (runB2 lv S a i y).2.toInt < y.1.toInt
      · rw [if_pos q]; omega
      · rw [if_neg q]; omega
    generalize (runB2 lv S a i y).1.toInt = A at hA ⊢
    generalize (runB2 lv S a i y).2.toInt = W at hA eW ⊢
    generalize (if y.2 < 0 then (0 : Int64) else y.2).toInt = M at hm eW
    rw [eS]
    refine ⟨by omega, by omega, fun t ht => ?_, by omega, by omega⟩
    by_cases z : t = i
    · rw [z]; omega
    · have := r3 t (by omega)
      omega
  · show (0 + vv lv S a 0).toInt ≤ (vv lv S a 0).toInt
    rw [Int64.zero_add]
    exact Int.le_refl _
  · rw [show t = 0 by omega]
    exact Int.le_refl _
  · show _ ≤ (0 + vv lv S a 0).toInt
    rw [Int64.zero_add]
    have := (vv_bd lv S a 0).1
    omega
  · have := (vv_bd lv S a 0).2
    show (vv lv S a 0).toInt ≤ _
    omega
