/-! Plain facts: loops taken apart, and the two sides' ways of reckoning made one. -/
theorem lpf_split {α : Type} {b : Nat → α → α} : ∀ (k1 k2 j : Nat) (a : α), lpf b j (k1 + k2) a = lpf b (j + k1) k2 (lpf b j k1 a) := by
  intro k1
  induction k1 with
  | zero => intro k2 j a; rw [Nat.zero_add]; rfl
  | succ k1 ih =>
    intro k2 j a
    rw [show k1 + 1 + k2 = (k1 + k2) + 1 by omega]
    show lpf b (j + 1) (k1 + k2) (b j a) = lpf b (j + (k1 + 1)) k2 (lpf b (j + 1) k1 (b j a))
    rw [ih, show j + 1 + k1 = j + (k1 + 1) by omega]
theorem lpf_last {α : Type} {b : Nat → α → α} (k j : Nat) (a : α) : lpf b j (k + 1) a = b (j + k) (lpf b j k a) := by
  rw [lpf_split k 1 j a]
  rfl
theorem lpf_shift {α : Type} {b : Nat → α → α} (q : Nat) : ∀ (k j : Nat) (a : α), lpf b (q + j) k a = lpf (fun i => b (q + i)) j k a := by
  intro k
  induction k with
  | zero => intro j a; rfl
  | succ k ih =>
    intro j a
    show lpf b (q + j + 1) k (b (q + j) a) = lpf (fun i => b (q + i)) (j + 1) k (b (q + j) a)
    rw [← ih, show q + j + 1 = q + (j + 1) by omega]
theorem lpf_id {α : Type} {b : Nat → α → α} : ∀ (k j : Nat) (a : α), (∀ i, j ≤ i → i < j + k → b i a = a) → lpf b j k a = a := by
  intro k
  induction k with
  | zero => intro j a _; rfl
  | succ k ih =>
    intro j a h
    show lpf b (j + 1) k (b j a) = a
    rw [h j (Nat.le_refl _) (by omega)]
    exact ih (j + 1) a (fun i h1 h2 => h i (by omega) (by omega))
theorem lpf_flatJ {α : Type} {b : Nat → α → α} (S : Nat) : ∀ (k j : Nat) (a : α), lpf (fun f a => lpf (fun s a => b (f * S + s) a) 0 S a) j k a = lpf b (j * S) (k * S) a := by
  intro k
  induction k with
  | zero => intro j a; rw [Nat.zero_mul]; rfl
  | succ k ih =>
    intro j a
    show lpf (fun f a => lpf (fun s a => b (f * S + s) a) 0 S a) (j + 1) k (lpf (fun s a => b (j * S + s) a) 0 S a) = _
    rw [ih, show (k + 1) * S = S + k * S by rw [Nat.succ_mul, Nat.add_comm], lpf_split S (k * S), Nat.succ_mul]
    have e := lpf_shift (b := b) (j * S) S 0 a
    rw [Nat.add_zero] at e
    rw [e]
theorem lpf_flat {α : Type} {b : Nat → α → α} (S F : Nat) (a : α) : lpf (fun f a => lpf (fun s a => b (f * S + s) a) 0 S a) 0 F a = lpf b 0 (F * S) a := by
  have := lpf_flatJ (b := b) S F 0 a
  rwa [Nat.zero_mul] at this
theorem lpf_relI {α β : Type} {R : Nat → α → β → Prop} {b : Nat → α → α} {b' : Nat → β → β} : ∀ (k j : Nat) (a : α) (a' : β), (∀ i x y, j ≤ i → i < j + k → R i x y → R (i + 1) (b i x) (b' i y)) → R j a a' → R (j + k) (lpf b j k a) (lpf b' j k a') := by
  intro k
  induction k with
  | zero => intro j a a' _ h; exact h
  | succ k ih =>
    intro j a a' hs h
    have := ih (j + 1) _ _ (fun i x y q1 q2 r => hs i x y (by omega) (by omega) r) (hs j a a' (Nat.le_refl _) (by omega) h)
    rwa [show j + 1 + k = j + (k + 1) by omega] at this
theorem lpf_inv {α : Type} {P : Nat → α → Prop} {b : Nat → α → α} (k j : Nat) (a : α) (hs : ∀ i x, j ≤ i → i < j + k → P i x → P (i + 1) (b i x)) (h : P j a) : P (j + k) (lpf b j k a) :=
  lpf_relI (R := fun i x (_ : α) => P i x) (b' := b) k j a a (fun i x y q1 q2 r => hs i x q1 q2 r) h
theorem lpe_last {α β : Type} {b : Nat → α → α ⊕ β} : ∀ (k j : Nat) (a : α), lpe b j (k + 1) a = match lpe b j k a with
    | .inl x => b (j + k) x
    | .inr r => .inr r := by
  intro k
  induction k with
  | zero =>
    intro j a
    show (match b j a with | .inl a' => lpe b (j + 1) 0 a' | .inr r => .inr r) = b (j + 0) a
    rw [Nat.add_zero]
    cases b j a <;> rfl
  | succ k ih =>
    intro j a
    have e : lpe b j (k + 1 + 1) a = match b j a with | .inl a' => lpe b (j + 1) (k + 1) a' | .inr r => .inr r := rfl
    have e2 : lpe b j (k + 1) a = match b j a with | .inl a' => lpe b (j + 1) k a' | .inr r => .inr r := rfl
    rw [e, e2]
    cases b j a with
    | inl a' => rw [show j + (k + 1) = j + 1 + k by omega]; exact ih (j + 1) a'
    | inr r => rfl
theorem lpe_stop {α β : Type} {b : Nat → α → α ⊕ β} {j k : Nat} {a : α} {r : β} (h : lpe b j k a = .inr r) : ∀ m, lpe b j (k + m) a = .inr r := by
  intro m
  induction m with
  | zero => exact h
  | succ m ih =>
    rw [show k + (m + 1) = k + m + 1 by omega, lpe_last, ih]
/-! an hour, puddle by puddle -/
def hmB (su : Int32) (ed : Nat → Int32) (S k : Nat) (a : Int32 × (Nat → Int32)) : Int32 × (Nat → Int32) := (max0 (dryv su (a.2 k) + a.1 - ed (k % S)), upd (upd a.2 k (dryv su (a.2 k) + a.1)) k (dryv su (a.2 k) + a.1 - max0 (dryv su (a.2 k) + a.1 - ed (k % S))))
def hourM (su : Int32) (ed : Nat → Int32) (F S : Nat) (lv : Nat → Int32) : Int32 × (Nat → Int32) := lpf (hmB su ed S) 0 (F * S) (0, lv)
theorem hourM_eq (su : Int32) (ed : Nat → Int32) (F S : Nat) (lv : Nat → Int32) : hourM su ed F S lv = hourR su ed F S lv := by
  have key := lpf_relI (R := fun i (x y : Int32 × (Nat → Int32)) => x.1 = y.1 ∧ ∀ k, y.2 k = if i ≤ k ∧ k < F * S then dryv su (x.2 k) else x.2 k) (b := hmB su ed S) (b' := runB ed S) (F * S) 0 (0, lv) (0, dryL su (F * S) lv) (fun i x y _ hi r => ?_) ⟨rfl, fun k => ?_⟩
  · rw [Nat.zero_add] at key
    have e : hourR su ed F S lv = lpf (runB ed S) 0 (F * S) (0, dryL su (F * S) lv) := by
      unfold hourR runR
      exact lpf_flat (b := runB ed S) S F _
    rw [e]
    unfold hourM
    refine Prod.ext key.1 (funext fun k => ?_)
    rw [key.2 k, if_neg]
    omega
  · obtain ⟨r1, r2⟩ := r
    have ei : y.2 i = dryv su (x.2 i) := by rw [r2 i, if_pos ⟨Nat.le_refl _, by omega⟩]
    refine ⟨?_, fun k => ?_⟩
    · show max0 _ = max0 _
      rw [ei, r1]
    · show upd y.2 i _ k = if i + 1 ≤ k ∧ k < F * S then dryv su (upd (upd x.2 i _) i _ k) else upd (upd x.2 i _) i _ k
      unfold upd
      by_cases h : k = i
      · subst h
        rw [if_pos rfl, if_pos rfl, if_neg (by omega), ei, r1]
      · rw [if_neg h, if_neg h, if_neg h, r2 k]
        by_cases q : i ≤ k ∧ k < F * S
        · rw [if_pos q, if_pos (by omega)]
        · rw [if_neg q, if_neg (by omega)]
  · show dryL su (F * S) lv k = _
    unfold dryL
    by_cases q : k < F * S
    · rw [if_pos q, if_pos (by omega)]
    · rw [if_neg q, if_neg (by omega)]
/-! counting -/
def dcnt (lv : Nat → Int32) : Nat → Nat
  | 0 => 0
  | k + 1 => dcnt lv k + (if 0 < lv k then 0 else 1)
theorem dcnt_s (lv : Nat → Int32) (N : Nat) : dcnt lv (N + 1) = dcnt lv N + (if 0 < lv N then 0 else 1) := rfl
theorem dcnt_le (lv : Nat → Int32) : ∀ N, dcnt lv N ≤ N
  | 0 => Nat.le_refl _
  | N + 1 => by
    have := dcnt_le lv N
    rw [dcnt_s]
    split <;> omega
theorem dcnt_mono (lv : Nat → Int32) {i j : Nat} (h : i ≤ j) : dcnt lv i ≤ dcnt lv j := by
  induction j with
  | zero => rw [Nat.le_zero.mp h]; exact Nat.le_refl _
  | succ j ih =>
    by_cases q : i = j + 1
    · rw [q]; exact Nat.le_refl _
    · refine Nat.le_trans (ih (by omega)) ?_
      show dcnt lv j ≤ dcnt lv j + _
      omega
theorem dcnt_dry (lv : Nat → Int32) {i j : Nat} (h : i < j) (hd : ¬ 0 < lv i) : dcnt lv i < dcnt lv j := by
  refine Nat.lt_of_lt_of_le ?_ (dcnt_mono lv h)
  show dcnt lv i < dcnt lv i + (if 0 < lv i then 0 else 1)
  rw [if_neg hd]
  omega
theorem uptC_dcnt (lv : Nat → Int32) : ∀ N, uptC lv N 0 = nI (dcnt lv N)
  | 0 => rfl
  | N + 1 => by
    have ih := uptC_dcnt lv N
    unfold uptC at ih ⊢
    rw [lpf_last, ih, Nat.zero_add, dcnt_s]
    by_cases h : 0 < lv N
    · rw [if_pos h, if_pos h, Nat.add_zero]
    · rw [if_neg h, if_neg h, nI_1]
theorem allDry_iff {lv : Nat → Int32} {N : Nat} (hN : N < 2 ^ 31) : uptC lv N 0 = nI N ↔ ∀ k, k < N → ¬ 0 < lv k := by
  rw [uptC_dcnt, nI_eq (Nat.lt_of_le_of_lt (dcnt_le lv N) hN) hN]
  constructor
  · intro h k hk hw
    have e : ∀ M, k < M → dcnt lv M < M := by
      intro M
      induction M with
      | zero => omega
      | succ M ih =>
        intro hM
        show dcnt lv M + _ < M + 1
        by_cases q : k = M
        · subst q
          rw [if_pos hw]
          have := dcnt_le lv k
          omega
        · have := ih (by omega)
          split <;> omega
    have := e N hk
    omega
  · intro h
    induction N with
    | zero => rfl
    | succ M ih =>
      show dcnt lv M + (if 0 < lv M then 0 else 1) = M + 1
      rw [if_neg (h M (by omega)), ih (by omega) (fun k hk => h k (by omega))]
theorem dryP_flat (lv : Nat → Int32) {F S : Nat} (hF : 1 ≤ F) (hS : 1 ≤ S) : dryP lv S 0 0 (F - 1) (S - 1) = uptC lv (F * S) 0 := by
  unfold dryP uptC
  rw [show F - 1 + 1 - 0 = F by omega, show S - 1 + 1 - 0 = S by omega]
  exact lpf_flat (b := fun k x => if 0 < lv k then x else x + 1) S F 0
/-- which puddle is the p-th dry one -/
theorem dry_place (lv : Nat → Int32) {p : Nat} : ∀ N, p < dcnt lv N → ∃ k, k < N ∧ ¬ 0 < lv k ∧ dcnt lv k = p
  | 0, h => absurd h (Nat.not_lt_zero _)
  | N + 1, h => by
    by_cases q : p < dcnt lv N
    · obtain ⟨k, h1, h2⟩ := dry_place lv N q
      exact ⟨k, by omega, h2⟩
    · have h' : p < dcnt lv N + (if 0 < lv N then 0 else 1) := h
      by_cases w : 0 < lv N
      · rw [if_pos w] at h'
        omega
      · rw [if_neg w] at h'
        exact ⟨N, by omega, w, by omega⟩
theorem dryAt_pre (lv : Nat → Int32) (x : Int32) : ∀ N, (∀ k, k < N → ¬ 0 < lv k → ¬ nI (dcnt lv k) = x) → dryAtR lv N x = .inl (nI (dcnt lv N))
  | 0, _ => rfl
  | N + 1, h => by
    have ih := dryAt_pre lv x N (fun k hk => h k (by omega))
    unfold dryAtR at ih ⊢
    rw [lpe_last, ih]
    show (if 0 < lv (0 + N) then _ else _) = _
    rw [Nat.zero_add, dcnt_s]
    by_cases w : 0 < lv N
    · rw [if_pos w, if_pos w, Nat.add_zero]
    · rw [if_neg w, if_neg w, if_neg (h N (by omega) w), nI_1]
theorem dryAt_some {lv : Nat → Int32} {N p k : Nat} (hN : N < 2 ^ 31) (hk : k < N) (hd : ¬ 0 < lv k) (hp : dcnt lv k = p) : dryAtR lv N (nI p) = .inr k := by
  have h0 := dryAt_pre lv (nI p) k (fun i hi hdi e => by
    have := dcnt_dry lv hi hdi
    have h1 := dcnt_le lv i
    have h2 := dcnt_le lv k
    rw [nI_eq (by omega) (by omega)] at e
    omega)
  have h1 : dryAtR lv (k + 1) (nI p) = .inr k := by
    unfold dryAtR at h0 ⊢
    rw [lpe_last, h0]
    show (if 0 < lv (0 + k) then _ else _) = _
    rw [Nat.zero_add, if_neg hd, hp, if_pos rfl]
  have := lpe_stop (b := fun k c => if 0 < lv k then (.inl c : Int32 ⊕ Nat) else if c = nI p then .inr k else .inl (c + 1)) h1 (N - (k + 1))
  rwa [show k + 1 + (N - (k + 1)) = N by omega] at this
theorem dryAt_none {lv : Nat → Int32} {N : Nat} {x : Int32} (hN : N < 2 ^ 31) (hx : oob x (dcnt lv N)) : dryAtR lv N x = .inl (nI (dcnt lv N)) := by
  refine dryAt_pre lv x N (fun k hk hd e => ?_)
  rw [← e] at hx
  exact not_oob (dcnt_dry lv hk hd) (Nat.lt_of_le_of_lt (dcnt_le lv N) hN) hx
theorem cnt_nI {p : Nat → Prop} [DecidablePred p] : ∀ (k j c : Nat), ∃ c', c ≤ c' ∧ c' ≤ c + k ∧ lpf (fun s x => if p s then x else x + 1) j k (nI c) = nI c' := by
  intro k
  induction k with
  | zero => intro j c; exact ⟨c, Nat.le_refl _, Nat.le_refl _, rfl⟩
  | succ k ih =>
    intro j c
    by_cases h : p j
    · obtain ⟨c', h1, h2, h3⟩ := ih (j + 1) c
      refine ⟨c', h1, by omega, ?_⟩
      show lpf _ (j + 1) k (if p j then nI c else nI c + 1) = _
      rw [if_pos h]
      exact h3
    · obtain ⟨c', h1, h2, h3⟩ := ih (j + 1) (c + 1)
      refine ⟨c', by omega, by omega, ?_⟩
      show lpf _ (j + 1) k (if p j then nI c else nI c + 1) = _
      rw [if_neg h, nI_1]
      exact h3
theorem dryP_row (lv : Nat → Int32) {S f : Nat} (hS : 1 ≤ S) : ∃ c, c ≤ S ∧ dryP lv S f 0 f (S - 1) = nI c := by
  unfold dryP
  rw [show f + 1 - f = 1 by omega, show S - 1 + 1 - 0 = S by omega]
  obtain ⟨c', h1, h2, h3⟩ := cnt_nI (p := fun s => 0 < lv (f * S + s)) S 0 0
  exact ⟨c', by omega, h3⟩
/-! the two sides' other reckonings -/
theorem le_max (x : Int32) : x ≤ 2147483647 := by
  rw [Int32.le_iff_toInt_le]
  have h1 := Int32.toInt_lt x
  have h2 : (2147483647 : Int32).toInt = 2147483647 := by decide
  omega
theorem max_ex (lv : Nat → Int32) : ∀ N, 0 < N → ∃ k, k < N ∧ ∀ j, j < N → lv j ≤ lv k
  | 0, h => absurd h (Nat.lt_irrefl _)
  | N + 1, _ => by
    by_cases q : N = 0
    · subst q
      refine ⟨0, by omega, fun j hj => ?_⟩
      rw [show j = 0 by omega]
      exact Int32.le_refl _
    · obtain ⟨k, h1, h2⟩ := max_ex lv N (by omega)
      by_cases w : lv k ≤ lv N
      · refine ⟨N, by omega, fun j hj => ?_⟩
        by_cases r : j = N
        · rw [r]; exact Int32.le_refl _
        · exact Int32.le_trans (h2 j (by omega)) w
      · refine ⟨k, by omega, fun j hj => ?_⟩
        by_cases r : j = N
        · rw [r]
          rw [Int32.le_iff_toInt_le] at w ⊢
          omega
        · exact h2 j (by omega)
theorem uptC_all (lv : Nat → Int32) (x : Int32) : ∀ N, (∀ j, j < N → lv j ≤ x) → uptC lv N x = nI N
  | 0, _ => rfl
  | N + 1, h => by
    have ih := uptC_all lv x N (fun j hj => h j (by omega))
    unfold uptC at ih ⊢
    rw [lpf_last, ih, Nat.zero_add, if_neg, nI_1]
    have := h N (by omega)
    rw [Int32.le_iff_toInt_le] at this
    rw [Int32.lt_iff_toInt_lt]
    omega
/-- in how many hours all is dry, with one round more -/
def untilM (su : Int32) (ed : Nat → Int32) (F S : Nat) (lv : Nat → Int32) : (Nat → Int32) ⊕ Nat := lpe (fun k f => if uptC f (F * S) 0 = nI (F * S) then .inr k else .inl (hourR su ed F S f).2) 0 61 lv
theorem untilM_eq (su : Int32) (ed : Nat → Int32) (F S : Nat) (lv : Nat → Int32) : untilD su ed F S lv = match untilM su ed F S lv with
    | .inr k => nI k
    | .inl _ => -1 := by
  unfold untilD untilM untilR
  rw [lpe_last 60 0 lv]
  cases lpe (fun k f => if uptC f (F * S) 0 = nI (F * S) then (.inr k : (Nat → Int32) ⊕ Nat) else .inl (hourR su ed F S f).2) 0 60 lv with
  | inr k => rfl
  | inl f =>
    show (if _ then _ else _) = match (if uptC f (F * S) 0 = nI (F * S) then (.inr (0 + 60) : (Nat → Int32) ⊕ Nat) else .inl (hourR su ed F S f).2) with | .inr k => nI k | .inl _ => -1
    by_cases q : uptC f (F * S) 0 = nI (F * S)
    · rw [if_pos q, if_pos q]; rfl
    · rw [if_neg q, if_neg q]
/-! a flight swapped, turned, bailed -/
def swpN (lv : Nat → Int32) (S a b m : Nat) : Nat → Int32 := fun k => if a * S ≤ k ∧ k < a * S + m then lv (k - a * S + b * S) else if b * S ≤ k ∧ k < b * S + m then lv (k - b * S + a * S) else lv k
theorem rows_apart {S a b : Nat} (h : a ≠ b) : a * S + S ≤ b * S ∨ b * S + S ≤ a * S := by
  rcases Nat.lt_or_gt_of_ne h with q | q
  · left
    have : (a + 1) * S ≤ b * S := Nat.mul_le_mul_right _ q
    rw [Nat.succ_mul] at this
    exact this
  · right
    have : (b + 1) * S ≤ a * S := Nat.mul_le_mul_right _ q
    rw [Nat.succ_mul] at this
    exact this
theorem swpN_step (lv : Nat → Int32) {S a b m : Nat} (hm : m < S) : upd (upd (swpN lv S a b m) (a * S + m) (swpN lv S a b m (b * S + m))) (b * S + m) (swpN lv S a b m (a * S + m)) = swpN lv S a b (m + 1) := by
  have hap : a * S = b * S ∨ a * S + S ≤ b * S ∨ b * S + S ≤ a * S := by
    by_cases h : a = b
    · left; rw [h]
    · right; exact rows_apart h
  funext k
  unfold upd swpN
  generalize a * S = p at hap ⊢
  generalize b * S = q at hap ⊢
  by_cases h1 : k = q + m
  · subst h1
    rw [if_pos rfl, if_neg (by omega), if_neg (by omega)]
    by_cases h2 : p = q
    · subst h2
      rw [if_pos (by omega)]
      congr 1
      omega
    · rw [if_neg (by omega), if_pos (by omega)]
      congr 1
      omega
  · rw [if_neg h1]
    by_cases h2 : k = p + m
    · subst h2
      rw [if_pos rfl, if_neg (by omega), if_neg (by omega), if_pos (by omega)]
      congr 1
      omega
    · rw [if_neg h2]
      by_cases h3 : p ≤ k ∧ k < p + m
      · rw [if_pos h3, if_pos (by omega)]
      · rw [if_neg h3, if_neg (show ¬ (p ≤ k ∧ k < p + (m + 1)) by omega)]
        by_cases h4 : q ≤ k ∧ k < q + m
        · rw [if_pos h4, if_pos (by omega)]
        · rw [if_neg h4, if_neg (by omega)]
theorem swpN_0 (lv : Nat → Int32) (S a b : Nat) : swpN lv S a b 0 = lv := by
  funext k
  unfold swpN
  rw [if_neg (by omega), if_neg (by omega)]
theorem swpL_eq (lv : Nat → Int32) (S a b : Nat) : swpL lv S a b = swpN lv S a b S := by
  have key := lpf_inv (P := fun m (f : Nat → Int32) => f = swpN lv S a b m) (b := fun s y => upd (upd y (a * S + s) (y (b * S + s))) (b * S + s) (y (a * S + s))) S 0 lv (fun i x _ hi r => by subst r; exact swpN_step lv (by omega)) (swpN_0 lv S a b).symm
  rwa [Nat.zero_add] at key
theorem swpL_at (lv : Nat → Int32) {S a b f s : Nat} (hs : s < S) : swpL lv S a b (f * S + s) = lv (swp a b f * S + s) := by
  rw [swpL_eq]
  unfold swpN swp
  by_cases h1 : f = a
  · subst h1
    rw [if_pos (by omega), if_pos rfl]
    congr 1
    omega
  · have h2 := rows_apart (S := S) h1
    rw [if_neg (by omega), if_neg h1]
    by_cases h3 : f = b
    · subst h3
      rw [if_pos (by omega), if_pos rfl]
      congr 1
      omega
    · have h4 := rows_apart (S := S) h3
      rw [if_neg (by omega), if_neg h3]
theorem swpL_swpL (lv : Nat → Int32) (S a b : Nat) : swpL (swpL lv S a b) S a b = lv := by
  rw [swpL_eq, swpL_eq]
  have hap : a * S = b * S ∨ a * S + S ≤ b * S ∨ b * S + S ≤ a * S := by
    by_cases h : a = b
    · left; rw [h]
    · right; exact rows_apart h
  funext k
  unfold swpN
  generalize a * S = p at hap ⊢
  generalize b * S = q at hap ⊢
  by_cases h1 : p ≤ k ∧ k < p + S
  · rw [if_pos h1]
    by_cases h2 : p = q
    · subst h2
      rw [if_pos (by omega)]
      congr 1
      omega
    · rw [if_neg (by omega), if_pos (by omega)]
      congr 1
      omega
  · rw [if_neg h1]
    by_cases h2 : q ≤ k ∧ k < q + S
    · rw [if_pos h2, if_pos (by omega)]
      congr 1
      omega
    · rw [if_neg h2, if_neg h1, if_neg h2]
/-- the two ways of counting come to all -/
theorem cnt_two {p : Nat → Prop} [DecidablePred p] : ∀ k, lpf (fun s x => if p s then x else x + 1) 0 k 0 + lpf (fun s x => if p s then x + 1 else x) 0 k (0 : Int32) = nI k
  | 0 => rfl
  | k + 1 => by
    have ih := cnt_two (p := p) k
    rw [lpf_last, lpf_last, Nat.zero_add, ← nI_1, ← ih]
    by_cases h : p k
    · rw [if_pos h, if_pos h, Int32.add_assoc]
    · rw [if_neg h, if_neg h, Int32.add_assoc, Int32.add_assoc, Int32.add_comm 1]
def chB (S a b s : Nat) (y : Int32 × (Nat → Int32)) : Int32 × (Nat → Int32) := (if y.2 (a * S + s) = y.2 (b * S + s) then y.1 else y.1 + 1, upd (upd y.2 (a * S + s) (y.2 (b * S + s))) (b * S + s) (y.2 (a * S + s)))
def chM (lv : Nat → Int32) (S a b : Nat) : Int32 × (Nat → Int32) := lpf (chB S a b) 0 S (0, lv)
theorem chM_eq (lv : Nat → Int32) (S a b : Nat) : chM lv S a b = (nI S - alkC lv S a b, swpL lv S a b) := by
  have key := lpf_relI (R := fun m (x : Int32 × (Nat → Int32)) (y : Int32) => x = (y, swpN lv S a b m)) (b := chB S a b) (b' := fun s x => if lv (a * S + s) = lv (b * S + s) then x else x + 1) S 0 (0, lv) 0 (fun i x y _ hi r => ?_) (by rw [swpN_0])
  · rw [Nat.zero_add] at key
    unfold chM
    rw [key, swpL_eq]
    congr 1
    unfold alkC
    rw [← cnt_two (p := fun s => lv (a * S + s) = lv (b * S + s)) S]
    rw [Int32.add_sub_cancel]
  · subst r
    unfold chB
    refine Prod.ext ?_ (swpN_step lv (by omega))
    have e1 : swpN lv S a b i (a * S + i) = lv (a * S + i) := by
      unfold swpN
      have hap : a * S = b * S ∨ a * S + S ≤ b * S ∨ b * S + S ≤ a * S := by
        by_cases h : a = b
        · left; rw [h]
        · right; exact rows_apart h
      rw [if_neg (by omega), if_neg (by omega)]
    have e2 : swpN lv S a b i (b * S + i) = lv (b * S + i) := by
      unfold swpN
      have hap : a * S = b * S ∨ a * S + S ≤ b * S ∨ b * S + S ≤ a * S := by
        by_cases h : a = b
        · left; rw [h]
        · right; exact rows_apart h
      rw [if_neg (by omega), if_neg (by omega)]
    show (if swpN lv S a b i (a * S + i) = swpN lv S a b i (b * S + i) then y else y + 1) = _
    rw [e1, e2]
def trnC (lv : Nat → Int32) (S a : Nat) : Int32 := lpf (fun s c => if lv (a * S + (S - 1 - s)) = lv (a * S + s) then c else c + 1) 0 S 0
theorem trnC_eq (lv : Nat → Int32) {F S a : Nat} (ha : a < F) : chgC (turnL lv S a) lv (F * S) = trnC lv S a := by
  have hN : F * S = a * S + (S + (F * S - (a * S + S))) := by
    have : (a + 1) * S ≤ F * S := Nat.mul_le_mul_right _ ha
    rw [Nat.succ_mul] at this
    omega
  have i1 : lpf (fun k c => if turnL lv S a k = lv k then c else c + 1) 0 (a * S) (0 : Int32) = 0 := lpf_id (a * S) 0 0 (fun i _ hi => if_pos (by unfold turnL; rw [if_neg (by omega)]))
  have i2 : ∀ c : Int32, lpf (fun k c => if turnL lv S a k = lv k then c else c + 1) (a * S + S) (F * S - (a * S + S)) c = c := fun c => lpf_id _ _ _ (fun i hi _ => if_pos (by unfold turnL; rw [if_neg (by omega)]))
  unfold chgC
  rw [hN, lpf_split (a * S), lpf_split S, i1, Nat.zero_add, i2]
  have e := lpf_shift (b := fun k c => if turnL lv S a k = lv k then c else c + 1) (a * S) S 0 (0 : Int32)
  rw [Nat.add_zero] at e
  rw [e]
  unfold trnC
  refine lpf_congr S 0 0 (fun s x _ hs => ?_)
  have : turnL lv S a (a * S + s) = lv (a * S + (S - 1 - s)) := by
    unfold turnL
    rw [if_pos (by omega)]
    congr 1
    omega
  show (if _ then _ else _) = (if _ then _ else _)
  rw [this]
theorem bailT_eq (x b v : Int32) : (if max0 v < x - b then max0 v else x - b) = bailT x b v := by
  unfold bailT
  by_cases h : max0 v < x - b
  · rw [if_pos h, if_neg]
    rw [Int32.lt_iff_toInt_lt] at h ⊢
    omega
  · rw [if_neg h]
    by_cases q : x - b < max0 v
    · rw [if_pos q]
    · rw [if_neg q, ← Int32.toInt_inj]
      rw [Int32.lt_iff_toInt_lt] at h q
      omega
theorem left_eq (x b t : Int32) : x - b - t = x - (b + t) := by
  exact Int32.sub_sub x b t
theorem back_eq (x b : Int32) : x - (x - b) = b := by
  rw [Int32.sub_eq_add_neg x (x - b), Int32.sub_eq_add_neg x b, Int32.neg_add, Int32.sub_eq_add_neg, Int32.neg_neg, ← Int32.add_assoc, Int32.add_right_neg, Int32.zero_add]
