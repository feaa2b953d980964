/-! Places of dry ones, first to reach, levels in order. -/
def dpl (lv : Nat → Int32) (N k : Nat) : Nat := match dryAtR lv N (nI k) with
  | .inr q => q
  | .inl _ => 0
theorem dpl_ok {lv : Nat → Int32} {N k : Nat} (hN : N < 2 ^ 31) (hk : k < dcnt lv N) : dryAtR lv N (nI k) = .inr (dpl lv N k) ∧ dpl lv N k < N ∧ ¬ 0 < lv (dpl lv N k) ∧ dcnt lv (dpl lv N k) = k := by
  obtain ⟨q, h1, h2, h3⟩ := dry_place lv N hk
  have e := dryAt_some hN h1 h2 h3
  have e2 : dpl lv N k = q := by
    unfold dpl
    rw [e]
  rw [e2]
  exact ⟨e, h1, h2, h3⟩
def pvl (lv : Nat → Int32) (N : Nat) : Nat → Int32
  | 0 => -1
  | k + 1 => nI (dpl lv N k)
theorem m1_i : (-1 : Int32).toInt = -1 := by decide
theorem pvl_lt {lv : Nat → Int32} {N k : Nat} (hN : N < 2 ^ 31) (hk : k < dcnt lv N) : ¬ nI (dpl lv N k) ≤ pvl lv N k := by
  obtain ⟨-, h1, h2, h3⟩ := dpl_ok hN hk
  cases k with
  | zero =>
    show ¬ nI _ ≤ -1
    rw [Int32.le_iff_toInt_le, nI_toInt (by omega), m1_i]
    omega
  | succ k =>
    obtain ⟨-, g1, g2, g3⟩ := dpl_ok (lv := lv) (N := N) (k := k) hN (by omega)
    refine nI_nle' (by omega) (by omega) (Nat.not_le.mp fun z => ?_)
    have := dcnt_mono lv z
    omega
theorem sum_pre (lv : Nat → Int32) (S f t : Nat) : sumP lv S f 0 f t = is64 (fun b => vv lv S f b) (t + 1) := by
  rw [sum_rect, show f + 1 - f = 0 + 1 by omega, show t + 1 - 0 = t + 1 by omega]
  show 0 + is64 (fun b => vv lv S (f + 0) (0 + b)) (t + 1) = _
  rw [Int64.zero_add]
  exact is_congr _ (fun b _ => by rw [Nat.zero_add, Nat.add_zero])
theorem reach_pre (lv : Nat → Int32) (S a : Nat) (x : Int32) : ∀ k, (lpe (fun s y => if lg_cmp (y + (lv (a * S + s)).toInt64) x.toInt64 < 0 then (.inl (y + (lv (a * S + s)).toInt64) : Int64 ⊕ Nat) else .inr s) 0 k 0 = .inl (is64 (fun b => vv lv S a b) k) ∧ ∀ j, j < k → is64 (fun b => vv lv S a b) (j + 1) < x.toInt64) ∨ ∃ s, lpe (fun s y => if lg_cmp (y + (lv (a * S + s)).toInt64) x.toInt64 < 0 then (.inl (y + (lv (a * S + s)).toInt64) : Int64 ⊕ Nat) else .inr s) 0 k 0 = .inr s ∧ s < k ∧ ¬ is64 (fun b => vv lv S a b) (s + 1) < x.toInt64 ∧ ∀ j, j < s → is64 (fun b => vv lv S a b) (j + 1) < x.toInt64
  | 0 => Or.inl ⟨rfl, fun j hj => absurd hj (Nat.not_lt_zero j)⟩
  | k + 1 => by
    rcases reach_pre lv S a x k with ⟨e, h⟩ | ⟨s, e, h1, h2, h3⟩
    · rw [lpe_last, e]
      have e9 : is64 (fun b => vv lv S a b) k + (lv (a * S + (0 + k))).toInt64 = is64 (fun b => vv lv S a b) (k + 1) := by
        rw [Nat.zero_add]
        rfl
      show ((if lg_cmp (is64 (fun b => vv lv S a b) k + (lv (a * S + (0 + k))).toInt64) x.toInt64 < 0 then (.inl (is64 (fun b => vv lv S a b) k + (lv (a * S + (0 + k))).toInt64) : Int64 ⊕ Nat) else .inr (0 + k)) = _ ∧ _) ∨ ∃ s, (if lg_cmp (is64 (fun b => vv lv S a b) k + (lv (a * S + (0 + k))).toInt64) x.toInt64 < 0 then (.inl (is64 (fun b => vv lv S a b) k + (lv (a * S + (0 + k))).toInt64) : Int64 ⊕ Nat) else .inr (0 + k)) = .inr s ∧ _
      rw [e9]
      by_cases q : is64 (fun b => vv lv S a b) (k + 1) < x.toInt64
      · left
        refine ⟨if_pos ((lg_cmp_lt _ _).mpr q), fun j hj => ?_⟩
        by_cases w : j = k
        · rw [w]; exact q
        · exact h j (by omega)
      · right
        exact ⟨k, by rw [if_neg (fun z => q ((lg_cmp_lt _ _).mp z)), Nat.zero_add], Nat.lt_succ_self k, q, h⟩
    · right
      refine ⟨s, ?_, by omega, h2, h3⟩
      rw [lpe_last, e]
theorem reach_ok (lv : Nat → Int32) {S : Nat} (a : Nat) (x : Int32) (hS : 1 ≤ S) : (∃ y, reachR lv S a x = .inl y ∧ sumP lv S a 0 a (S - 1) < x.toInt64) ∨ ∃ s, reachR lv S a x = .inr s ∧ s < S ∧ ¬ sumP lv S a 0 a s < x.toInt64 ∧ (0 < s → sumP lv S a 0 a (s - 1) < x.toInt64) := by
  rcases reach_pre lv S a x S with ⟨e, h⟩ | ⟨s, e, h1, h2, h3⟩
  · left
    refine ⟨_, e, ?_⟩
    rw [sum_pre]
    exact h (S - 1) (by omega)
  · right
    refine ⟨s, e, h1, ?_, fun hs => ?_⟩
    · rw [sum_pre]; exact h2
    · rw [sum_pre]; exact h3 (s - 1) (by omega)
/-! how many are up to a level -/
def upN (lv : Nat → Int32) (x : Int32) : Nat → Nat
  | 0 => 0
  | k + 1 => upN lv x k + (if x < lv k then 0 else 1)
theorem uptC_upN (lv : Nat → Int32) (x : Int32) : ∀ N, uptC lv N x = nI (upN lv x N)
  | 0 => rfl
  | N + 1 => by
    have ih := uptC_upN lv x N
    unfold uptC at ih ⊢
    rw [lpf_last, ih, Nat.zero_add]
    show _ = nI (upN lv x N + (if x < lv N then 0 else 1))
    by_cases w : x < lv N
    · rw [if_pos w, if_pos w, Nat.add_zero]
    · rw [if_neg w, if_neg w, nI_1]
theorem upN_le (lv : Nat → Int32) (x : Int32) : ∀ N, upN lv x N ≤ N
  | 0 => Nat.le_refl _
  | N + 1 => by
    have := upN_le lv x N
    show upN lv x N + _ ≤ _
    split <;> omega
theorem upN_0 {lv : Nat → Int32} {x : Int32} : ∀ N, (∀ k, k < N → x < lv k) → upN lv x N = 0
  | 0, _ => rfl
  | N + 1, h => by
    show upN lv x N + (if x < lv N then 0 else 1) = 0
    rw [upN_0 N (fun k hk => h k (by omega)), if_pos (h N (by omega))]
theorem upN_all {lv : Nat → Int32} {x : Int32} : ∀ N, (∀ k, k < N → ¬ x < lv k) → upN lv x N = N
  | 0, _ => rfl
  | N + 1, h => by
    show upN lv x N + (if x < lv N then 0 else 1) = N + 1
    rw [upN_all N (fun k hk => h k (by omega)), if_neg (h N (by omega))]
theorem upN_cg {lv : Nat → Int32} {x y : Int32} : ∀ N, (∀ k, k < N → (x < lv k ↔ y < lv k)) → upN lv x N = upN lv y N
  | 0, _ => rfl
  | N + 1, h => by
    show upN lv x N + (if x < lv N then 0 else 1) = upN lv y N + (if y < lv N then 0 else 1)
    rw [upN_cg N (fun k hk => h k (by omega))]
    have := h N (by omega)
    by_cases q : x < lv N
    · rw [if_pos q, if_pos (this.mp q)]
    · rw [if_neg q, if_neg (fun z => q (this.mpr z))]
theorem upN_pos {lv : Nat → Int32} {x : Int32} {k : Nat} : ∀ N, k < N → ¬ x < lv k → 1 ≤ upN lv x N
  | 0, h, _ => absurd h (Nat.not_lt_zero _)
  | N + 1, h, q => by
    show 1 ≤ upN lv x N + (if x < lv N then 0 else 1)
    by_cases w : k = N
    · subst w
      rw [if_neg q]
      omega
    · have := upN_pos (lv := lv) (x := x) N (by omega) q
      omega
theorem upN_full {lv : Nat → Int32} {x : Int32} : ∀ N, upN lv x N = N → ∀ k, k < N → ¬ x < lv k
  | 0, _, k, hk => absurd hk (Nat.not_lt_zero k)
  | N + 1, h, k, hk => by
    have h1 := upN_le lv x N
    have h2 : upN lv x N + (if x < lv N then 0 else 1) = N + 1 := h
    by_cases w : x < lv N
    · rw [if_pos w] at h2
      omega
    · rw [if_neg w] at h2
      by_cases z : k = N
      · rw [z]; exact w
      · exact upN_full N (by omega) k (by omega)
theorem top_up (lv : Nat → Int32) (y : Int32) : ∀ N, (∀ k, k < N → y < lv k) ∨ ∃ j, j < N ∧ ¬ y < lv j ∧ ∀ k, k < N → ¬ y < lv k → lv k ≤ lv j
  | 0 => Or.inl (fun k hk => absurd hk (Nat.not_lt_zero k))
  | N + 1 => by
    have cs := top_up lv y N
    by_cases q : y < lv N
    · rcases cs with h | ⟨j, h1, h2, h3⟩
      · left
        intro k hk
        by_cases z : k = N
        · rw [z]; exact q
        · exact h k (by omega)
      · right
        refine ⟨j, by omega, h2, fun k hk hy => ?_⟩
        by_cases z : k = N
        · rw [z] at hy; exact absurd q hy
        · exact h3 k (by omega) hy
    · right
      rcases cs with h | ⟨j, h1, h2, h3⟩
      · refine ⟨N, by omega, q, fun k hk hy => ?_⟩
        by_cases z : k = N
        · rw [z]; exact Int32.le_refl _
        · exact absurd (h k (by omega)) hy
      · by_cases w : lv j ≤ lv N
        · refine ⟨N, by omega, q, fun k hk hy => ?_⟩
          by_cases z : k = N
          · rw [z]; exact Int32.le_refl _
          · exact Int32.le_trans (h3 k (by omega) hy) w
        · refine ⟨j, by omega, h2, fun k hk hy => ?_⟩
          by_cases z : k = N
          · rw [z]
            rw [Int32.le_iff_toInt_le] at w ⊢
            omega
          · exact h3 k (by omega) hy
theorem max_i : (2147483647 : Int32).toInt = 2147483647 := by decide
theorem order_ok (lv : Nat → Int32) {N p : Nat} (hN : N < 2 ^ 31) (hp : p < N) : (∃ k, k < N ∧ orderR lv N (nI p) = lv k ∧ p < upN lv (lv k) N) ∧ ∀ j, j < N → p < upN lv (lv j) N → orderR lv N (nI p) ≤ lv j := by
  have hup : ∀ x, ¬ uptC lv N x ≤ nI p ↔ p < upN lv x N := fun x => by
    have := upN_le lv x N
    rw [uptC_upN]
    constructor
    · intro h
      exact Nat.not_le.mp (fun z => h (nI_le' (by omega) (by omega) z))
    · intro h
      exact nI_nle' (by omega) (by omega) h
  have key := lpf_inv (P := fun i (y : Int32) => (∀ j, j < i → p < upN lv (lv j) N → y ≤ lv j) ∧ (y = 2147483647 ∨ ∃ k, k < i ∧ y = lv k ∧ p < upN lv (lv k) N)) (b := fun k y => if y ≤ lv k then y else if uptC lv N (lv k) ≤ nI p then y else lv k) N 0 2147483647 (fun i y _ hi r => ?_) ⟨fun j hj => absurd hj (Nat.not_lt_zero j), Or.inl rfl⟩
  · rw [Nat.zero_add] at key
    obtain ⟨h1, h2⟩ := key
    change (∀ j, j < N → p < upN lv (lv j) N → orderR lv N (nI p) ≤ lv j) at h1
    refine ⟨?_, h1⟩
    rcases h2 with h2 | ⟨k, hk, e, hu⟩
    · change orderR lv N (nI p) = 2147483647 at h2
      obtain ⟨k, hk, hm⟩ := max_ex lv N (by omega)
      have hu : upN lv (lv k) N = N := upN_all N (fun j hj => Int32.not_lt.mpr (hm j hj))
      have := h1 k hk (by omega)
      refine ⟨k, hk, ?_, by omega⟩
      rw [h2] at this ⊢
      exact Int32.le_antisymm this (le_max _)
    · exact ⟨k, hk, e, hu⟩
  · obtain ⟨r1, r2⟩ := r
    by_cases q1 : y ≤ lv i
    · have e : (if y ≤ lv i then y else if uptC lv N (lv i) ≤ nI p then y else lv i) = y := if_pos q1
      rw [e]
      refine ⟨fun j hj hu => ?_, r2.imp id (fun ⟨k, hk, z⟩ => ⟨k, by omega, z⟩)⟩
      by_cases w : j = i
      · rw [w]; exact q1
      · exact r1 j (by omega) hu
    · by_cases q2 : uptC lv N (lv i) ≤ nI p
      · have e : (if y ≤ lv i then y else if uptC lv N (lv i) ≤ nI p then y else lv i) = y := (if_neg q1).trans (if_pos q2)
        rw [e]
        refine ⟨fun j hj hu => ?_, r2.imp id (fun ⟨k, hk, z⟩ => ⟨k, by omega, z⟩)⟩
        by_cases w : j = i
        · rw [w] at hu; exact absurd q2 ((hup _).mpr hu)
        · exact r1 j (by omega) hu
      · have e : (if y ≤ lv i then y else if uptC lv N (lv i) ≤ nI p then y else lv i) = lv i := (if_neg q1).trans (if_neg q2)
        rw [e]
        refine ⟨fun j hj hu => ?_, Or.inr ⟨i, Nat.lt_succ_self i, rfl, (hup _).mp q2⟩⟩
        by_cases w : j = i
        · rw [w]; exact Int32.le_refl _
        · have := r1 j (by omega) hu
          rw [Int32.le_iff_toInt_le] at this q1 ⊢
          omega
theorem order_mono (lv : Nat → Int32) {N p : Nat} (hN : N < 2 ^ 31) (hp : p < N) (h0 : 0 < p) : ¬ orderR lv N (nI p) < orderR lv N (nI (p - 1)) := by
  obtain ⟨⟨k, hk, e, hu⟩, -⟩ := order_ok lv hN hp
  have := (order_ok lv (p := p - 1) hN (by omega)).2 k hk (by omega)
  rw [e]
  exact Int32.not_lt.mpr this
theorem order_up (lv : Nat → Int32) {N p : Nat} (hN : N < 2 ^ 31) (hp : p < N) : ¬ uptC lv N (orderR lv N (nI p)) ≤ nI p := by
  obtain ⟨⟨k, hk, e, hu⟩, -⟩ := order_ok lv hN hp
  have := upN_le lv (lv k) N
  rw [e, uptC_upN]
  exact nI_nle' (by omega) (by omega) hu
theorem order_down (lv : Nat → Int32) {N p : Nat} {lo hi : Int} (hN : N < 2 ^ 31) (hp : p < N) (hb : BD lo hi N lv) (hlo : -1000000 ≤ lo) : ¬ nI p < uptC lv N (orderR lv N (nI p) - 1) := by
  obtain ⟨⟨k, hk, e, hu⟩, hm⟩ := order_ok lv hN hp
  have hbk := (hb k hk).1
  have hb2 := Int32.toInt_lt (lv k)
  have e1 : (1 : Int32).toInt = 1 := by decide
  have es : (lv k - 1).toInt = (lv k).toInt - 1 := by rw [sub_i (by omega) (by omega), e1]
  have hle := upN_le lv (lv k - 1) N
  rw [uptC_upN, e]
  refine nI_nlt' (by omega) (by omega) (Nat.not_lt.mp fun z => ?_)
  rcases top_up lv (lv k - 1) N with h | ⟨j, h1, h2, h3⟩
  · rw [upN_0 N h] at z
    omega
  · have ec : upN lv (lv k - 1) N = upN lv (lv j) N := upN_cg N (fun t ht => by
      constructor
      · intro w
        rw [Int32.lt_iff_toInt_lt] at w h2 ⊢
        omega
      · intro w
        refine Decidable.byContradiction fun u => ?_
        have := h3 t ht u
        rw [Int32.le_iff_toInt_le] at this
        rw [Int32.lt_iff_toInt_lt] at w
        omega)
    have := hm j h1 (by omega)
    rw [e, Int32.le_iff_toInt_le] at this
    rw [Int32.lt_iff_toInt_lt] at h2
    omega
theorem order_last (lv : Nat → Int32) {N : Nat} (hN : N < 2 ^ 31) (h1 : 1 ≤ N) : uptC lv N (orderR lv N (nI (N - 1))) = nI N := by
  obtain ⟨⟨k, hk, e, hu⟩, -⟩ := order_ok lv (p := N - 1) hN (by omega)
  have := upN_le lv (lv k) N
  rw [e, uptC_upN, show upN lv (lv k) N = N by omega]
theorem low_flat (lv : Nat → Int32) {F S : Nat} (hF : 1 ≤ F) (hS : 1 ≤ S) : lowR lv S 0 0 (F - 1) (S - 1) = lpf (fun k x => if lv k < x then lv k else x) 0 (F * S) 2147483647 := by
  unfold lowR
  rw [show F - 1 + 1 - 0 = F by omega, show S - 1 + 1 - 0 = S by omega]
  exact lpf_flat (b := fun k x => if lv k < x then lv k else x) S F 2147483647
theorem order_low (lv : Nat → Int32) {F S : Nat} (hF : 1 ≤ F) (hS : 1 ≤ S) (hN : F * S < 2 ^ 31) : lowR lv S 0 0 (F - 1) (S - 1) = orderR lv (F * S) (nI 0) := by
  have hN1 := fs1 hF hS
  rw [low_flat lv hF hS]
  have key := lpf_inv (P := fun i (y : Int32) => (∀ j, j < i → y ≤ lv j) ∧ (y = 2147483647 ∨ ∃ k, k < i ∧ y = lv k)) (b := fun k x => if lv k < x then lv k else x) (F * S) 0 2147483647 (fun i y _ hi r => ?_) ⟨fun j hj => absurd hj (Nat.not_lt_zero j), Or.inl rfl⟩
  · rw [Nat.zero_add] at key
    generalize lpf (fun k x => if lv k < x then lv k else x) 0 (F * S) 2147483647 = y at key ⊢
    obtain ⟨h1, h2⟩ := key
    have h3 : ∃ k, k < F * S ∧ y = lv k := by
      rcases h2 with h2 | h2
      · refine ⟨0, by omega, ?_⟩
        have := h1 0 (by omega)
        rw [h2] at this ⊢
        exact Int32.le_antisymm this (le_max _)
      · exact h2
    obtain ⟨k, hk, e⟩ := h3
    obtain ⟨⟨k2, hk2, e2, -⟩, hm⟩ := order_ok lv (p := 0) hN (by omega)
    refine Int32.le_antisymm ?_ ?_
    · rw [e2]; exact h1 k2 hk2
    · rw [e]
      exact hm k hk (upN_pos _ hk (fun z => by rw [Int32.lt_iff_toInt_lt] at z; omega))
  · obtain ⟨r1, r2⟩ := r
    by_cases q : lv i < y
    · have e : (if lv i < y then lv i else y) = lv i := if_pos q
      rw [e]
      refine ⟨fun j hj => ?_, Or.inr ⟨i, Nat.lt_succ_self i, rfl⟩⟩
      by_cases w : j = i
      · rw [w]; exact Int32.le_refl _
      · have := r1 j (by omega)
        rw [Int32.le_iff_toInt_le] at this ⊢
        rw [Int32.lt_iff_toInt_lt] at q
        omega
    · have e : (if lv i < y then lv i else y) = y := if_neg q
      rw [e]
      refine ⟨fun j hj => ?_, r2.imp id (fun ⟨k, hk, z⟩ => ⟨k, by omega, z⟩)⟩
      by_cases w : j = i
      · rw [w]; exact Int32.not_lt.mp q
      · exact r1 j (by omega)
/-! pairs out of order, and the best swap -/
theorem sm_le {f h : Nat → Nat} : ∀ k, (∀ i, i < k → f i ≤ h i) → sm f k ≤ sm h k
  | 0, _ => Nat.le_refl _
  | k + 1, q => by
    have h1 := sm_le k (fun i hi => q i (by omega))
    have h2 := q k (by omega)
    rw [sm_s, sm_s]
    omega
theorem sm_one : ∀ k, sm (fun _ => 1) k = k
  | 0 => rfl
  | k + 1 => by rw [sm_s, sm_one k]
theorem sm_id : ∀ k, 2 * sm (fun i => i) k = k * (k - 1)
  | 0 => rfl
  | k + 1 => by
    rw [sm_s, Nat.mul_add, sm_id k]
    cases k with
    | zero => rfl
    | succ k =>
      show (k + 1) * k + 2 * (k + 1) = (k + 2) * (k + 1)
      rw [Nat.mul_comm (k + 2), ← Nat.mul_comm (k + 1) 2, ← Nat.mul_add]
theorem pairs_le (lv : Nat → Int32) (N : Nat) : pairsN lv N ≤ N * (N - 1) / 2 := by
  have h : pairsN lv N ≤ sm (fun i => i) N := sm_le N (fun y hy => by
    rw [← g1_col lv (Nat.le_of_lt hy)]
    refine Nat.le_trans (sm_le (h := fun _ => 1) y (fun x _ => ?_)) (Nat.le_of_eq (sm_one y))
    unfold c1
    split <;> omega)
  have := sm_id N
  omega
theorem pairs_lt (lv : Nat → Int32) {N : Nat} (hN : N ≤ 128) : pairsN lv N ≤ 8128 := by
  have h := pairs_le lv N
  have h2 : N * (N - 1) ≤ 128 * 127 := Nat.mul_le_mul hN (by omega)
  omega
/-- the water with two flights swapped -/
def swL (lv : Nat → Int32) (S o t : Nat) : Nat → Int32 := fun k => lv (swp o t (k / S) * S + k % S)
theorem swL_at (lv : Nat → Int32) {S o t f s : Nat} (hs : s < S) : swL lv S o t (f * S + s) = lv (swp o t f * S + s) := by
  unfold swL
  rw [div_ix hs, mod_ix hs]
theorem out_pairs (lv : Nat → Int32) (F S o t : Nat) : outS (cntOf lv S) F o t = nI (pairsN (swL lv S o t) (F * S)) := (pairs_out lv (swL lv S o t) (fun _ _ _ hs => swL_at lv hs)).symm
theorem pick_ok (o : Nat → Int32) {F : Nat} (hF : 1 ≤ F) (hx : ∀ t, (o t).toInt < 2147483647) : (lpf (fun t (b : Nat × Int32) => if b.2 ≤ o t then b else (t, o t)) 0 F (0, 2147483647)).1 < F ∧ ∀ t, t < F → ¬ o t < o (lpf (fun t (b : Nat × Int32) => if b.2 ≤ o t then b else (t, o t)) 0 F (0, 2147483647)).1 := by
  have key := lpf_inv (P := fun i (b : Nat × Int32) => (i = 0 ∧ b = (0, 2147483647)) ∨ (b.1 < i ∧ b.2 = o b.1 ∧ ∀ t, t < i → b.2 ≤ o t)) (b := fun t (b : Nat × Int32) => if b.2 ≤ o t then b else (t, o t)) F 0 (0, 2147483647) (fun i b _ hi r => ?_) (Or.inl ⟨rfl, rfl⟩)
  · rw [Nat.zero_add] at key
    rcases key with ⟨h, -⟩ | ⟨h1, h2, h3⟩
    · omega
    · rw [h2] at h3
      exact ⟨h1, fun t ht => Int32.not_lt.mpr (h3 t ht)⟩
  · right
    rcases r with ⟨h1, h2⟩ | ⟨h1, h2, h3⟩
    · subst h1
      subst h2
      have hn : ¬ (2147483647 : Int32) ≤ o 0 := by
        have := hx 0
        rw [Int32.le_iff_toInt_le, max_i]
        omega
      have e : (if ((0, 2147483647) : Nat × Int32).2 ≤ o 0 then ((0, 2147483647) : Nat × Int32) else (0, o 0)) = (0, o 0) := if_neg hn
      rw [e]
      exact ⟨Nat.one_pos, rfl, fun t ht => by rw [show t = 0 by omega]; exact Int32.le_refl _⟩
    · by_cases q : b.2 ≤ o i
      · rw [if_pos q]
        refine ⟨by omega, h2, fun t ht => ?_⟩
        by_cases z : t = i
        · rw [z]; exact q
        · exact h3 t (by omega)
      · rw [if_neg q]
        refine ⟨Nat.lt_succ_self _, rfl, fun t ht => ?_⟩
        by_cases z : t = i
        · rw [z]; exact Int32.le_refl _
        · have := h3 t (by omega)
          rw [Int32.le_iff_toInt_le] at this q ⊢
          show (o i).toInt ≤ _
          omega
theorem best_ok (lv : Nat → Int32) {F S : Nat} (f : Nat) (hF : 1 ≤ F) (hN : F * S ≤ 128) : (bestS (cntOf lv S) F f).1 < F ∧ ∀ t, t < F → ¬ outS (cntOf lv S) F f t < outS (cntOf lv S) F f (bestS (cntOf lv S) F f).1 := by
  refine pick_ok (outS (cntOf lv S) F f) hF (fun t => ?_)
  have := pairs_lt (swL lv S f t) hN
  rw [out_pairs, nI_toInt (by omega)]
  omega
theorem out_same (lv : Nat → Int32) (F S f : Nat) : outS (cntOf lv S) F f f = outS (cntOf lv S) F 0 0 := by
  have e : ∀ a, swp f f a = a := fun a => by
    unfold swp
    split
    · omega
    · rfl
  unfold outS
  simp only [e, swp_same]
/-- the Sim's pairs with two flights swapped -/
theorem sim_pairs {m : Nat → Nat → Int32} {lv : Nat → Int32} {F S : Nat} (hl : ∀ k, k < F * S → lv k = flS m S k) {o t : Nat} (ho : o < F) (ht : t < F) : prC (fun f => m (swp o t f)) F S = outS (cntOf lv S) F o t := by
  rw [prC_eq]
  refine pairs_out lv _ (fun f s hf hs => ?_)
  rw [flS_at _ hs]
  exact fl_of hl (swp_lt ho ht hf) hs
