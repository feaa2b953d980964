/-! Pairs out of order, the best partner, the best edge: both sides' reckonings made one. -/
def sm (f : Nat → Nat) : Nat → Nat
  | 0 => 0
  | k + 1 => sm f k + f k
theorem sm_s (f : Nat → Nat) (k : Nat) : sm f (k + 1) = sm f k + f k := rfl
theorem sm_congr {f g : Nat → Nat} : ∀ k, (∀ i, i < k → f i = g i) → sm f k = sm g k
  | 0, _ => rfl
  | k + 1, h => by rw [sm_s, sm_s, sm_congr k (fun i hi => h i (by omega)), h k (by omega)]
theorem sm_zero {f : Nat → Nat} {k : Nat} (h : ∀ i, i < k → f i = 0) : sm f k = 0 := by
  induction k with
  | zero => rfl
  | succ k ih => rw [sm_s, ih (fun i hi => h i (by omega)), h k (by omega)]
theorem sm_split (f : Nat → Nat) (m : Nat) : ∀ k, sm f (m + k) = sm f m + sm (fun i => f (m + i)) k
  | 0 => rfl
  | k + 1 => by
    show sm f (m + k) + f (m + k) = _
    rw [sm_split f m k, sm_s, Nat.add_assoc]
theorem sm_add (f g : Nat → Nat) : ∀ k, sm (fun i => f i + g i) k = sm f k + sm g k
  | 0 => rfl
  | k + 1 => by rw [sm_s, sm_s, sm_s, sm_add f g k]; omega
theorem sm_comm (f : Nat → Nat → Nat) (b : Nat) : ∀ a, sm (fun i => sm (fun j => f i j) b) a = sm (fun j => sm (fun i => f i j) a) b
  | 0 => (sm_zero (fun _ _ => rfl)).symm
  | a + 1 => by
    rw [sm_s, sm_comm f b a, ← sm_add]
    exact sm_congr b (fun _ _ => rfl)
theorem sm_flat (f : Nat → Nat) (S : Nat) : ∀ F, sm f (F * S) = sm (fun a => sm (fun s => f (a * S + s)) S) F
  | 0 => by rw [Nat.zero_mul]; rfl
  | F + 1 => by rw [Nat.succ_mul, sm_split, sm_flat f S F, sm_s]
theorem sm_tail (f : Nat → Nat) {j N : Nat} (h : j ≤ N) : sm (fun i => f (j + i)) (N - j) = sm (fun i => if j ≤ i then f i else 0) N := by
  have e : N = j + (N - j) := by omega
  rw [show sm (fun i => if j ≤ i then f i else 0) N = sm (fun i => if j ≤ i then f i else 0) (j + (N - j)) by rw [← e], sm_split, sm_zero (fun i hi => if_neg (by omega)), Nat.zero_add]
  exact sm_congr _ (fun i _ => (if_pos (by omega)).symm)
theorem lpf_nI {b : Nat → Int32 → Int32} {f : Nat → Nat} {j m : Nat} : ∀ k, (∀ i m, j ≤ i → i < j + k → b i (nI m) = nI (m + f i)) → lpf b j k (nI m) = nI (m + sm (fun i => f (j + i)) k)
  | 0, _ => rfl
  | k + 1, h => by rw [lpf_last, lpf_nI k (fun i m h1 h2 => h i m h1 (by omega)), h (j + k) _ (by omega) (by omega), sm_s, Nat.add_assoc]
def c1 (lv : Nat → Int32) (x y : Nat) : Nat := if lv x ≤ lv y then 0 else 1
theorem c1_add (lv : Nat → Int32) (x y m : Nat) : (if lv x ≤ lv y then nI m else nI m + 1) = nI (m + c1 lv x y) := by
  unfold c1
  by_cases h : lv x ≤ lv y
  · rw [if_pos h, if_pos h, Nat.add_zero]
  · rw [if_neg h, if_neg h, nI_1]
def g1 (lv : Nat → Int32) (x y : Nat) : Nat := if x < y then c1 lv x y else 0
theorem g1_col (lv : Nat → Int32) {j N : Nat} (h : j ≤ N) : sm (fun i => c1 lv i j) j = sm (fun i => g1 lv i j) N := by
  rw [show sm (fun i => g1 lv i j) N = sm (fun i => g1 lv i j) (j + (N - j)) by rw [show j + (N - j) = N by omega], sm_split, (sm_zero (fun i _ => if_neg (by omega)) : sm (fun i => g1 lv (j + i) j) (N - j) = 0), Nat.add_zero]
  exact sm_congr j (fun i hi => (if_pos hi).symm)
/-- pairs of a flight before and a flight behind -/
def h1 (lv : Nat → Int32) (S a b : Nat) : Nat := sm (fun s => sm (fun u => if a = b ∧ u ≤ s then 0 else c1 lv (a * S + s) (b * S + u)) S) S
theorem cnt_eq (lv : Nat → Int32) (S a b : Nat) : cntOf lv S a b = nI (h1 lv S a b) := by
  unfold cntOf
  rw [show (0 : Int32) = nI 0 from rfl]
  rw [lpf_nI (f := fun s => sm (fun u => if a = b ∧ u ≤ s then 0 else c1 lv (a * S + s) (b * S + u)) S) S (fun s m h1 h2 => ?_)]
  · rw [Nat.zero_add]
    congr 1
    exact sm_congr S (fun s _ => by rw [Nat.zero_add])
  · have hj : (if a = b then s + 1 else 0) ≤ S := by split <;> omega
    rw [lpf_nI (f := fun u => c1 lv (a * S + s) (b * S + u)) _ (fun i m _ _ => c1_add lv _ _ m), sm_tail (fun u => c1 lv (a * S + s) (b * S + u)) hj]
    congr 2
    refine sm_congr S (fun u _ => ?_)
    by_cases e : a = b
    · rw [if_pos e]
      by_cases q : u ≤ s
      · rw [if_neg (by omega), if_pos ⟨e, q⟩]
      · rw [if_pos (by omega), if_neg (fun r => q r.2)]
    · rw [if_neg e, if_pos (by omega), if_neg (fun r => e r.1)]
theorem out_eq (lv : Nat → Int32) (S F o t : Nat) : outS (cntOf lv S) F o t = nI (sm (fun a => sm (fun i => h1 lv S (swp o t a) (swp o t (a + i))) (F - a)) F) := by
  unfold outS
  rw [show (0 : Int32) = nI 0 from rfl]
  rw [lpf_nI (f := fun a => sm (fun i => h1 lv S (swp o t a) (swp o t (a + i))) (F - a)) F (fun a m _ _ => ?_)]
  · rw [Nat.zero_add]
    congr 1
    exact sm_congr F (fun a _ => by rw [Nat.zero_add])
  · exact lpf_nI (f := fun b => h1 lv S (swp o t a) (swp o t b)) (F - a) (fun b m _ _ => by rw [cnt_eq, nI_add])
theorem swp_inj {o t a b : Nat} : swp o t a = swp o t b ↔ a = b := by
  unfold swp
  constructor
  · intro h
    split at h <;> split at h <;> (try split at h) <;> (try split at h) <;> omega
  · intro h
    rw [h]
/-- the pairs of other levels whose flights are those of lv, swapped -/
def pairsN (lv : Nat → Int32) (N : Nat) : Nat := sm (fun y => sm (fun x => g1 lv x y) N) N
theorem pairs_out (lv lv' : Nat → Int32) {F S o t : Nat} (h : ∀ f s, f < F → s < S → lv' (f * S + s) = lv (swp o t f * S + s)) : nI (pairsN lv' (F * S)) = outS (cntOf lv S) F o t := by
  unfold pairsN
  rw [out_eq, sm_comm, sm_flat]
  congr 1
  refine sm_congr F (fun a ha => ?_)
  rw [show sm (fun s => sm (fun j => g1 lv' (a * S + s) j) (F * S)) S = sm (fun s => sm (fun b => sm (fun u => g1 lv' (a * S + s) (b * S + u)) S) F) S from sm_congr S (fun s _ => sm_flat _ S F)]
  rw [sm_comm, show sm (fun j => sm (fun i => sm (fun u => g1 lv' (a * S + i) (j * S + u)) S) S) F = sm (fun j => sm (fun i => sm (fun u => g1 lv' (a * S + i) (j * S + u)) S) S) (a + (F - a)) by rw [show a + (F - a) = F by omega], sm_split]
  have z : sm (fun j => sm (fun i => sm (fun u => g1 lv' (a * S + i) (j * S + u)) S) S) a = 0 := sm_zero (k := a) (fun b hb => sm_zero (fun s hs => sm_zero (fun u hu => if_neg (by have : (b + 1) * S ≤ a * S := Nat.mul_le_mul_right _ hb; rw [Nat.succ_mul] at this; omega))))
  rw [z, Nat.zero_add]
  refine sm_congr (F - a) (fun i hi => sm_congr S (fun s hs => sm_congr S (fun u hu => ?_)))
  have e1 := h a s ha hs
  have e2 := h (a + i) u (by omega) hu
  have ec : c1 lv' (a * S + s) ((a + i) * S + u) = c1 lv (swp o t a * S + s) (swp o t (a + i) * S + u) := by
    unfold c1
    rw [e1, e2]
  unfold g1
  rw [ec]
  by_cases q : i = 0
  · subst q
    rw [Nat.add_zero]
    by_cases r : u ≤ s
    · rw [if_neg (by omega), if_pos ⟨rfl, r⟩]
    · rw [if_pos (by omega), if_neg (fun z => r z.2)]
  · have hlt : (a + 1) * S ≤ (a + i) * S := Nat.mul_le_mul_right _ (by omega)
    rw [Nat.succ_mul] at hlt
    rw [if_pos (by omega), if_neg (fun z => q (by have := swp_inj.mp z.1; omega))]
theorem swp_same (f : Nat) : swp 0 0 f = f := by
  unfold swp
  split
  · omega
  · rfl
theorem lt_iff_nle {x y : Int32} : x < y ↔ ¬ y ≤ x := by
  rw [Int32.lt_iff_toInt_lt, Int32.le_iff_toInt_le]
  omega
theorem nI_nm1 {k : Nat} (h : k < 2 ^ 31) : ¬ nI k = -1 := by
  intro e
  have := congrArg Int32.toInt e
  rw [nI_toInt h] at this
  have h2 : (-1 : Int32).toInt = -1 := by decide
  omega