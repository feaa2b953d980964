/-! Sums in whole numbers, an hour, bailing. -/
def zs (f : Nat → Int) : Nat → Int
  | 0 => 0
  | k + 1 => zs f k + f k
theorem zs_s (f : Nat → Int) (k : Nat) : zs f (k + 1) = zs f k + f k := rfl
theorem zs_cg {f h : Nat → Int} : ∀ k, (∀ i, i < k → f i = h i) → zs f k = zs h k
  | 0, _ => rfl
  | k + 1, q => by rw [zs_s, zs_s, zs_cg k (fun i hi => q i (by omega)), q k (by omega)]
theorem zs_up {f h : Nat → Int} {ix : Nat} (ho : ∀ k, k ≠ ix → h k = f k) : ∀ N, zs h N = if ix < N then zs f N - f ix + h ix else zs f N
  | 0 => rfl
  | N + 1 => by
    rw [zs_s, zs_s, zs_up ho N]
    by_cases q : ix < N
    · rw [if_pos q, if_pos (by omega), ho N (by omega)]
      omega
    · rw [if_neg q]
      by_cases w : ix = N
      · subst w
        rw [if_pos (Nat.lt_succ_self _)]
        omega
      · rw [if_neg (by omega), ho N (by omega)]
theorem zs_eq {f h : Nat → Int} : ∀ N, (∀ k, k < N → h k ≤ f k) → zs h N ≤ zs f N ∧ (zs h N = zs f N → ∀ k, k < N → h k = f k)
  | 0, _ => ⟨Int.le_refl _, fun _ k hk => absurd hk (Nat.not_lt_zero k)⟩
  | N + 1, q => by
    obtain ⟨a, b⟩ := zs_eq N (fun k hk => q k (by omega))
    have c := q N (by omega)
    rw [zs_s, zs_s]
    refine ⟨by omega, fun e k hk => ?_⟩
    by_cases w : k = N
    · rw [w]; omega
    · exact b (by omega) k (by omega)
theorem zs_bd {f : Nat → Int} : ∀ N, (∀ k, k < N → -2147483648 ≤ f k ∧ f k ≤ 2147483647) → -2147483648 * (N : Int) ≤ zs f N ∧ zs f N ≤ 2147483648 * (N : Int)
  | 0, _ => ⟨Int.le_refl _, Int.le_refl _⟩
  | N + 1, q => by
    have a := zs_bd N (fun k hk => q k (by omega))
    have b := q N (by omega)
    rw [zs_s]
    omega
theorem i32_bd (x : Int32) : -2147483648 ≤ x.toInt ∧ x.toInt ≤ 2147483647 := by
  have h1 := Int32.le_toInt x
  have h2 := Int32.toInt_lt x
  omega
theorem is_zs (f : Nat → Int32) : ∀ N, N ≤ 1000 → (is64 (fun k => (f k).toInt64) N).toInt = zs (fun k => (f k).toInt) N
  | 0, _ => z_l
  | N + 1, h => by
    have ih := is_zs f N (by omega)
    have b := zs_bd (f := fun k => (f k).toInt) N (fun k _ => i32_bd (f k))
    have c := i32_bd (f N)
    show (is64 (fun k => (f k).toInt64) N + (f N).toInt64).toInt = _
    rw [add_l, ih, Int32.toInt_toInt64, zs_s]
    · rw [ih, Int32.toInt_toInt64]; omega
    · rw [ih, Int32.toInt_toInt64]; omega
theorem sum_whole (lv : Nat → Int32) {F S : Nat} (hF : 1 ≤ F) (hS : 1 ≤ S) : sumP lv S 0 0 (F - 1) (S - 1) = is64 (fun k => (lv k).toInt64) (F * S) := by
  unfold sumP
  rw [show F - 1 + 1 - 0 = F by omega, show S - 1 + 1 - 0 = S by omega, lpf_flat (b := fun k x => x + (lv k).toInt64) S F 0, lpf_is, Int64.zero_add]
  exact is_congr _ (fun k _ => by rw [Nat.zero_add])
theorem sum_int (lv : Nat → Int32) {F S : Nat} (hF : 1 ≤ F) (hS : 1 ≤ S) (hN : F * S ≤ 128) : (sumP lv S 0 0 (F - 1) (S - 1)).toInt = zs (fun k => (lv k).toInt) (F * S) := by
  rw [sum_whole lv hF hS]
  exact is_zs lv _ (by omega)
theorem sub_l {x y : Int64} (h1 : -9223372036854775808 ≤ x.toInt - y.toInt) (h2 : x.toInt - y.toInt < 9223372036854775808) : (x - y).toInt = x.toInt - y.toInt := by
  rw [Int64.toInt_sub]
  exact Int.bmod_eq_of_le (by omega) (by omega)
/-- what dries of a level in an hour -/
def dmn (su x : Int32) : Int32 := if (if 0 < x then x else 0) < su then (if 0 < x then x else 0) else su
theorem dmn_i {su x : Int32} (h0 : 0 ≤ su.toInt) (h9 : su.toInt ≤ 9) : (dryv su x).toInt = x.toInt - (dmn su x).toInt ∧ 0 ≤ (dmn su x).toInt ∧ (dmn su x).toInt ≤ 9 := by
  have hb := i32_bd x
  unfold dryv dmn
  by_cases q : x ≤ 0
  · have q' := q
    rw [Int32.le_iff_toInt_le, z_i] at q'
    have n0 : ¬ 0 < x := fun z => by rw [Int32.lt_iff_toInt_lt, z_i] at z; omega
    rw [if_pos q, if_neg n0]
    by_cases w : 0 < su
    · rw [if_pos w, z_i]; omega
    · rw [if_neg w]
      rw [Int32.lt_iff_toInt_lt, z_i] at w
      omega
  · have q' := q
    rw [Int32.le_iff_toInt_le, z_i] at q'
    have n0 : 0 < x := by rw [Int32.lt_iff_toInt_lt, z_i]; omega
    have es : (x - su).toInt = x.toInt - su.toInt := sub_i (by omega) (by omega)
    rw [if_neg q, if_pos n0]
    by_cases w : x < su
    · have w' := w
      rw [Int32.lt_iff_toInt_lt] at w'
      have n1 : ¬ 0 < x - su := fun z => by rw [Int32.lt_iff_toInt_lt, z_i, es] at z; omega
      rw [if_pos w, if_neg n1, z_i]; omega
    · have w' := w
      rw [Int32.lt_iff_toInt_lt] at w'
      rw [if_neg w]
      by_cases u : 0 < x - su
      · rw [if_pos u, es]; omega
      · rw [if_neg u, z_i]
        rw [Int32.lt_iff_toInt_lt, z_i, es] at u
        omega
theorem hour_all {su : Int32} {ed lv : Nat → Int32} {F S : Nat} {lo hi : Int} (hS : 1 ≤ S) (hN : F * S ≤ 128) (hs0 : 0 ≤ su.toInt) (hs9 : su.toInt ≤ 9) (he : EB S ed) (hlo : lo ≤ 0) (hlo2 : -1000000 ≤ lo) (hhi : 999 ≤ hi) (hhi2 : hi ≤ 52000) (h : BD lo hi (F * S) lv) : zs (fun k => ((hourR su ed F S lv).2 k).toInt) (F * S) + (hourR su ed F S lv).1.toInt + zs (fun k => (dmn su (lv k)).toInt) (F * S) = zs (fun k => (lv k).toInt) (F * S) ∧ ∀ j, j < F * S → ¬ ed (j % S) < (hourR su ed F S lv).2 j := by
  rw [← hourM_eq]
  have key := lpf_inv (P := fun (k : Nat) (a : Int32 × (Nat → Int32)) => (0 ≤ a.1.toInt ∧ a.1.toInt ≤ (k : Int) * 52000 ∧ BD lo hi (F * S) a.2) ∧ (∀ j, k ≤ j → a.2 j = lv j) ∧ (∀ j, j < k → ¬ ed (j % S) < a.2 j) ∧ zs (fun j => (a.2 j).toInt) (F * S) + a.1.toInt + zs (fun j => (dmn su (lv j)).toInt) k = zs (fun j => (lv j).toInt) (F * S)) (b := hmB su ed S) (F * S) 0 (0, lv) (fun k a _ hk p => ?_) ⟨⟨by show 0 ≤ (0 : Int32).toInt; rw [z_i]; omega, by show (0 : Int32).toInt ≤ _; rw [z_i]; omega, h⟩, fun _ _ => rfl, fun j hj => absurd hj (Nat.not_lt_zero j), by show zs (fun j => (lv j).toInt) (F * S) + (0 : Int32).toInt + 0 = _; rw [z_i]; omega⟩
  · unfold hourM
    rw [Nat.zero_add] at key
    exact ⟨key.2.2.2, key.2.2.1⟩
  · obtain ⟨o, f⟩ := a
    obtain ⟨⟨p1, p2, p3⟩, p4, p5, p6⟩ := p
    replace p1 : 0 ≤ o.toInt := p1
    replace p2 : o.toInt ≤ (k : Int) * 52000 := p2
    replace p3 : BD lo hi (F * S) f := p3
    replace p4 : ∀ j, k ≤ j → f j = lv j := p4
    replace p5 : ∀ j, j < k → ¬ ed (j % S) < f j := p5
    replace p6 : zs (fun j => (f j).toInt) (F * S) + o.toInt + zs (fun j => (dmn su (lv j)).toInt) k = zs (fun j => (lv j).toInt) (F * S) := p6
    have hk' : k < F * S := by omega
    have hd := dryv_bd hs0 hs9 (p3 k hk').1 (p3 k hk').2 hlo hhi
    have hdm := dmn_i (x := f k) hs0 hs9
    have hE := he (k % S) (Nat.mod_lt _ hS)
    have ei : (dryv su (f k) + o).toInt = (dryv su (f k)).toInt + o.toInt := add_i (by omega) (by omega)
    have eo : (dryv su (f k) + o - ed (k % S)).toInt = (dryv su (f k)).toInt + o.toInt - (ed (k % S)).toInt := by rw [sub_i (by omega) (by omega), ei]
    have em := max0_i (dryv su (f k) + o - ed (k % S))
    rw [eo] at em
    have el : (dryv su (f k) + o - max0 (dryv su (f k) + o - ed (k % S))).toInt = (dryv su (f k)).toInt + o.toInt - (max0 (dryv su (f k) + o - ed (k % S))).toInt := by
      rw [sub_i, ei]
      · rw [ei, em]; split <;> omega
      · rw [ei, em]; split <;> omega
    have eb : hmB su ed S k (o, f) = (max0 (dryv su (f k) + o - ed (k % S)), upd (upd f k (dryv su (f k) + o)) k (dryv su (f k) + o - max0 (dryv su (f k) + o - ed (k % S)))) := rfl
    rw [eb]
    generalize hM : max0 (dryv su (f k) + o - ed (k % S)) = M at em el ⊢
    generalize hV : dryv su (f k) + o - M = V at el ⊢
    have hu : ∀ j, upd (upd f k (dryv su (f k) + o)) k V j = if j = k then V else f j := fun j => by
      unfold upd
      by_cases q : j = k
      · rw [if_pos q, if_pos q]
      · rw [if_neg q, if_neg q, if_neg q]
    have eV : upd (upd f k (dryv su (f k) + o)) k V k = V := by rw [hu, if_pos rfl]
    refine ⟨⟨?_, ?_, fun j hj => ?_⟩, fun j hj => ?_, fun j hj => ?_, ?_⟩
    · show 0 ≤ M.toInt
      split at em <;> omega
    · show M.toInt ≤ ((k + 1 : Nat) : Int) * 52000
      split at em <;> omega
    · show lo ≤ (upd _ k V j).toInt ∧ (upd _ k V j).toInt ≤ hi
      rw [hu]
      by_cases q : j = k
      · rw [if_pos q]
        split at em <;> omega
      · rw [if_neg q]
        exact p3 j hj
    · show upd _ k V j = lv j
      rw [hu, if_neg (by omega)]
      exact p4 j (by omega)
    · show ¬ ed (j % S) < upd _ k V j
      rw [hu]
      by_cases q : j = k
      · rw [if_pos q, q, Int32.lt_iff_toInt_lt]
        split at em <;> omega
      · rw [if_neg q]
        exact p5 j (by omega)
    · show zs (fun j => (upd (upd f k (dryv su (f k) + o)) k V j).toInt) (F * S) + M.toInt + zs (fun j => (dmn su (lv j)).toInt) (k + 1) = _
      rw [zs_up (f := fun j => (f j).toInt) (ix := k) (fun j hj => by show (upd _ k V j).toInt = _; rw [hu, if_neg hj]) (F * S), if_pos hk', zs_s]
      show zs (fun j => (f j).toInt) (F * S) - (f k).toInt + (upd _ k V k).toInt + M.toInt + (zs (fun j => (dmn su (lv j)).toInt) k + (dmn su (lv k)).toInt) = _
      rw [eV]
      have e4 := p4 k (Nat.le_refl _)
      rw [e4] at hdm el hd ⊢
      omega
theorem hour_sum {su : Int32} {ed lv : Nat → Int32} {F S : Nat} {lo hi : Int} (hF : 1 ≤ F) (hS : 1 ≤ S) (hN : F * S ≤ 128) (hs0 : 0 ≤ su.toInt) (hs9 : su.toInt ≤ 9) (he : EB S ed) (hlo : lo ≤ 0) (hlo2 : -1000000 ≤ lo) (hhi : 999 ≤ hi) (hhi2 : hi ≤ 52000) (h : BD lo hi (F * S) lv) : sumP (hourR su ed F S lv).2 S 0 0 (F - 1) (S - 1) = sumP lv S 0 0 (F - 1) (S - 1) - lpf (fun k (x : Int64) => x + (dmn su (lv k)).toInt64) 0 (F * S) 0 - (hourR su ed F S lv).1.toInt64 := by
  have ha := (hour_all hS hN hs0 hs9 he hlo hlo2 hhi hhi2 h).1
  have hb := hour_bd hS hN hs0 hs9 he hlo hlo2 hhi hhi2 h
  have e1 := sum_int (hourR su ed F S lv).2 hF hS hN
  have e2 := sum_int lv hF hS hN
  have e3 : lpf (fun k (x : Int64) => x + (dmn su (lv k)).toInt64) 0 (F * S) 0 = is64 (fun k => (dmn su (lv k)).toInt64) (F * S) := by
    rw [lpf_is, Int64.zero_add]
    exact is_congr _ (fun k _ => by rw [Nat.zero_add])
  have e4 := is_zs (fun k => dmn su (lv k)) (F * S) (by omega)
  have b2 := zs_bd (f := fun k => (lv k).toInt) (F * S) (fun k _ => i32_bd _)
  have b4 := zs_bd (f := fun k => (dmn su (lv k)).toInt) (F * S) (fun k _ => i32_bd _)
  have e5 : (sumP lv S 0 0 (F - 1) (S - 1) - is64 (fun k => (dmn su (lv k)).toInt64) (F * S)).toInt = (sumP lv S 0 0 (F - 1) (S - 1)).toInt - (is64 (fun k => (dmn su (lv k)).toInt64) (F * S)).toInt := sub_l (by omega) (by omega)
  rw [e3, ← Int64.toInt_inj, sub_l, e5, e1, e2, e4, Int32.toInt_toInt64]
  · omega
  · rw [e5, e2, e4, Int32.toInt_toInt64]; omega
  · rw [e5, e2, e4, Int32.toInt_toInt64]; omega
/-! hours -/
theorem flow_s (su : Int32) (ed : Nat → Int32) (F S : Nat) (lv : Nat → Int32) (t : Nat) : flowR su ed F S (t + 1) lv = ((flowR su ed F S t lv).1 + (hourR su ed F S (flowR su ed F S t lv).2).1, (hourR su ed F S (flowR su ed F S t lv).2).2) := lpf_last t 0 (0, lv)
theorem flow_1 (su : Int32) (ed : Nat → Int32) (F S : Nat) (lv : Nat → Int32) : flowR su ed F S 1 lv = hourR su ed F S lv := by
  show (0 + (hourR su ed F S lv).1, (hourR su ed F S lv).2) = _
  rw [Int32.zero_add]
theorem flow_le {su : Int32} {ed lv : Nat → Int32} {F S : Nat} {lo hi : Int} (hS : 1 ≤ S) (hN : F * S ≤ 128) (hs0 : 0 ≤ su.toInt) (hs9 : su.toInt ≤ 9) (he : EB S ed) (hlo : lo ≤ 0) (hlo2 : -1000000 ≤ lo) (hhi : 999 ≤ hi) (hhi2 : hi ≤ 52000) (h : BD lo hi (F * S) lv) : ∀ t, t ≤ 62 → 0 ≤ (flowR su ed F S t lv).1.toInt ∧ (flowR su ed F S t lv).1.toInt ≤ (t : Int) * 6656000 ∧ BD lo hi (F * S) (flowR su ed F S t lv).2
  | 0, _ => ⟨by show 0 ≤ (0 : Int32).toInt; rw [z_i]; omega, by show (0 : Int32).toInt ≤ _; rw [z_i]; omega, h⟩
  | t + 1, ht => by
    obtain ⟨a, b, c⟩ := flow_le hS hN hs0 hs9 he hlo hlo2 hhi hhi2 h t (by omega)
    obtain ⟨x, y, z⟩ := hour_bd hS hN hs0 hs9 he hlo hlo2 hhi hhi2 c
    rw [flow_s]
    have e : ((flowR su ed F S t lv).1 + (hourR su ed F S (flowR su ed F S t lv).2).1).toInt = (flowR su ed F S t lv).1.toInt + (hourR su ed F S (flowR su ed F S t lv).2).1.toInt := add_i (by omega) (by omega)
    refine ⟨?_, ?_, z⟩
    · show 0 ≤ ((flowR su ed F S t lv).1 + (hourR su ed F S (flowR su ed F S t lv).2).1).toInt
      omega
    · show ((flowR su ed F S t lv).1 + (hourR su ed F S (flowR su ed F S t lv).2).1).toInt ≤ _
      omega
theorem flow_64 {su : Int32} {ed lv : Nat → Int32} {F S t : Nat} {lo hi : Int} (hS : 1 ≤ S) (hN : F * S ≤ 128) (hs0 : 0 ≤ su.toInt) (hs9 : su.toInt ≤ 9) (he : EB S ed) (hlo : lo ≤ 0) (hlo2 : -1000000 ≤ lo) (hhi : 999 ≤ hi) (hhi2 : hi ≤ 52000) (h : BD lo hi (F * S) lv) (ht : t ≤ 60) (gone : Int64) : gone + (flowR su ed F S t lv).1.toInt64 + (hourR su ed F S (flowR su ed F S t lv).2).1.toInt64 = gone + (flowR su ed F S (t + 1) lv).1.toInt64 := by
  obtain ⟨a, b, c⟩ := flow_le hS hN hs0 hs9 he hlo hlo2 hhi hhi2 h t (by omega)
  obtain ⟨x, y, z⟩ := hour_bd hS hN hs0 hs9 he hlo hlo2 hhi hhi2 c
  rw [flow_s, Int64.add_assoc]
  congr 1
  show _ = ((flowR su ed F S t lv).1 + (hourR su ed F S (flowR su ed F S t lv).2).1).toInt64
  rw [← Int64.toInt_inj, Int32.toInt_toInt64, add_i (by omega) (by omega), add_l, Int32.toInt_toInt64, Int32.toInt_toInt64]
  · rw [Int32.toInt_toInt64, Int32.toInt_toInt64]; omega
  · rw [Int32.toInt_toInt64, Int32.toInt_toInt64]; omega
/-- all dry -/
def aD (N : Nat) (lv : Nat → Int32) : Prop := uptC lv N 0 = nI N
theorem aD_iff {lv : Nat → Int32} {N : Nat} (hN : N < 2 ^ 31) : aD N lv ↔ dcnt lv N = N := by
  have := dcnt_le lv N
  unfold aD
  rw [uptC_dcnt, nI_eq (by omega) hN]
theorem hour_dry {su : Int32} {ed lv : Nat → Int32} {F S : Nat} {lo hi : Int} (hS : 1 ≤ S) (hN : F * S ≤ 128) (he : EB S ed) (hlo2 : -1000000 ≤ lo) (h : BD lo hi (F * S) lv) (hd : aD (F * S) lv) : aD (F * S) (hourR su ed F S lv).2 := by
  unfold aD at hd ⊢
  rw [allDry_iff (by omega)] at hd ⊢
  rw [← hourM_eq]
  have key := lpf_inv (P := fun (_ : Nat) (a : Int32 × (Nat → Int32)) => a.1 = 0 ∧ ∀ j, j < F * S → a.2 j = lv j) (b := hmB su ed S) (F * S) 0 (0, lv) (fun k a _ hk p => ?_) ⟨rfl, fun _ _ => rfl⟩
  · intro k hk
    have := key.2 k hk
    unfold hourM
    rw [this]
    exact hd k hk
  · obtain ⟨o, f⟩ := a
    obtain ⟨p1, p2⟩ := p
    replace p1 : o = 0 := p1
    replace p2 : ∀ j, j < F * S → f j = lv j := p2
    subst p1
    have hk' : k < F * S := by omega
    have e := p2 k hk'
    have hb := (h k hk').1
    have hdk := hd k hk'
    have hE := he (k % S) (Nat.mod_lt _ hS)
    have hle : lv k ≤ 0 := Int32.not_lt.mp hdk
    have e1 : dryv su (f k) + 0 = lv k := by
      rw [e, Int32.add_zero]
      exact if_pos hle
    have e2 : max0 (dryv su (f k) + 0 - ed (k % S)) = 0 := by
      rw [e1]
      refine max0_le ?_
      rw [Int32.le_iff_toInt_le, z_i] at hle ⊢
      rw [sub_i (by omega) (by omega)]
      omega
    have eb : hmB su ed S k (0, f) = (max0 (dryv su (f k) + 0 - ed (k % S)), upd (upd f k (dryv su (f k) + 0)) k (dryv su (f k) + 0 - max0 (dryv su (f k) + 0 - ed (k % S)))) := rfl
    rw [eb, e2, e1]
    refine ⟨rfl, fun j hj => ?_⟩
    show upd (upd f k (lv k)) k (lv k - 0) j = lv j
    unfold upd
    by_cases q : j = k
    · rw [if_pos q, q, Int32.sub_zero]
    · rw [if_neg q, if_neg q]
      exact p2 j hj
theorem until_pre (su : Int32) (ed : Nat → Int32) (F S : Nat) (lv : Nat → Int32) : ∀ k, (lpe (fun k f => if uptC f (F * S) 0 = nI (F * S) then (.inr k : (Nat → Int32) ⊕ Nat) else .inl (hourR su ed F S f).2) 0 k lv = .inl (flowR su ed F S k lv).2 ∧ ∀ j, j < k → ¬ aD (F * S) (flowR su ed F S j lv).2) ∨ ∃ r, lpe (fun k f => if uptC f (F * S) 0 = nI (F * S) then (.inr k : (Nat → Int32) ⊕ Nat) else .inl (hourR su ed F S f).2) 0 k lv = .inr r ∧ r < k ∧ aD (F * S) (flowR su ed F S r lv).2 ∧ ∀ j, j < r → ¬ aD (F * S) (flowR su ed F S j lv).2
  | 0 => Or.inl ⟨rfl, fun j hj => absurd hj (Nat.not_lt_zero j)⟩
  | k + 1 => by
    rcases until_pre su ed F S lv k with ⟨e, h⟩ | ⟨r, e, h1, h2, h3⟩
    · rw [lpe_last, e]
      show ((if uptC (flowR su ed F S k lv).2 (F * S) 0 = nI (F * S) then (.inr (0 + k) : (Nat → Int32) ⊕ Nat) else .inl (hourR su ed F S (flowR su ed F S k lv).2).2) = _ ∧ _) ∨ ∃ r, (if uptC (flowR su ed F S k lv).2 (F * S) 0 = nI (F * S) then (.inr (0 + k) : (Nat → Int32) ⊕ Nat) else .inl (hourR su ed F S (flowR su ed F S k lv).2).2) = .inr r ∧ _
      by_cases q : aD (F * S) (flowR su ed F S k lv).2
      · right
        exact ⟨k, by rw [Nat.zero_add]; exact if_pos q, Nat.lt_succ_self k, q, h⟩
      · left
        refine ⟨(if_neg q).trans (by rw [flow_s]), fun j hj => ?_⟩
        by_cases w : j = k
        · rw [w]; exact q
        · exact h j (by omega)
    · right
      refine ⟨r, ?_, by omega, h2, h3⟩
      rw [lpe_last, e]
theorem until_ok (su : Int32) (ed : Nat → Int32) (F S : Nat) (lv : Nat → Int32) : (untilD su ed F S lv = -1 ∧ ¬ aD (F * S) lv) ∨ ∃ r, r ≤ 60 ∧ untilD su ed F S lv = nI r ∧ aD (F * S) (flowR su ed F S r lv).2 ∧ ∀ j, j < r → ¬ aD (F * S) (flowR su ed F S j lv).2 := by
  rw [untilM_eq]
  unfold untilM
  rcases until_pre su ed F S lv 61 with ⟨e, h⟩ | ⟨r, e, h1, h2, h3⟩
  · left
    rw [e]
    exact ⟨rfl, h 0 (by omega)⟩
  · right
    rw [e]
    exact ⟨r, by omega, rfl, h2, h3⟩
theorem until_60 (su : Int32) (ed : Nat → Int32) (F S : Nat) (lv : Nat → Int32) : ¬ (60 : Int32) < untilD su ed F S lv := by
  rcases until_ok su ed F S lv with ⟨e, -⟩ | ⟨r, h, e, -⟩
  · rw [e]; decide
  · rw [e]
    show ¬ nI 60 < nI r
    exact nI_nlt' (by omega) (by omega) h
theorem until_0 (su : Int32) (ed : Nat → Int32) {F S : Nat} (lv : Nat → Int32) (hN : F * S ≤ 128) : untilD su ed F S lv = 0 ↔ dcnt lv (F * S) = F * S := by
  rw [← aD_iff (by omega)]
  rcases until_ok su ed F S lv with ⟨e, h⟩ | ⟨r, h, e, h1, h2⟩
  · rw [e]
    exact ⟨fun q => absurd q (by decide), fun q => absurd q h⟩
  · rw [e]
    constructor
    · intro q
      have q' : nI r = nI 0 := q
      rw [nI_eq (by omega) (by omega)] at q'
      subst q'
      exact h1
    · intro q
      by_cases w : r = 0
      · rw [w]; rfl
      · exact absurd q (h2 0 (by omega))
theorem flow_dry {su : Int32} {ed lv : Nat → Int32} {F S : Nat} {lo hi : Int} (hS : 1 ≤ S) (hN : F * S ≤ 128) (hs0 : 0 ≤ su.toInt) (hs9 : su.toInt ≤ 9) (he : EB S ed) (hlo : lo ≤ 0) (hlo2 : -1000000 ≤ lo) (hhi : 999 ≤ hi) (hhi2 : hi ≤ 52000) (h : BD lo hi (F * S) lv) {r : Nat} (hd : aD (F * S) (flowR su ed F S r lv).2) : ∀ t, r + t ≤ 61 → aD (F * S) (flowR su ed F S (r + t) lv).2
  | 0, _ => hd
  | t + 1, ht => by
    have ih := flow_dry hS hN hs0 hs9 he hlo hlo2 hhi hhi2 h hd t (by omega)
    have c := (flow_le hS hN hs0 hs9 he hlo hlo2 hhi hhi2 h (r + t) (by omega)).2.2
    rw [← Nat.add_assoc, flow_s]
    exact hour_dry hS hN he hlo2 c ih
/-- when the class has told the hour, all is dry from it on, and not before -/
theorem until_hour {su : Int32} {ed lv : Nat → Int32} {F S : Nat} {lo hi : Int} (hS : 1 ≤ S) (hN : F * S ≤ 128) (hs0 : 0 ≤ su.toInt) (hs9 : su.toInt ≤ 9) (he : EB S ed) (hlo : lo ≤ 0) (hlo2 : -1000000 ≤ lo) (hhi : 999 ≤ hi) (hhi2 : hi ≤ 52000) (h : BD lo hi (F * S) lv) {t : Nat} (ht : t ≤ 61) (hu : ¬ untilD su ed F S lv ≤ 0) : dcnt (flowR su ed F S t lv).2 (F * S) = F * S ↔ ¬ nI t < untilD su ed F S lv := by
  rw [← aD_iff (by omega)]
  rcases until_ok su ed F S lv with ⟨e, -⟩ | ⟨r, hr, e, h1, h2⟩
  · rw [e] at hu
    exact absurd (by decide) hu
  · rw [e]
    constructor
    · intro q
      exact nI_nlt' (by omega) (by omega) (Nat.not_lt.mp fun z => h2 t z q)
    · intro q
      have hle : r ≤ t := Nat.not_lt.mp fun z => q (nI_lt' (by omega) (by omega) z)
      have := flow_dry hS hN hs0 hs9 he hlo hlo2 hhi hhi2 h h1 (t - r) (by omega)
      rwa [show r + (t - r) = t by omega] at this
/-! bailing -/
theorem bail_all {lo hi : Int} {F S a : Nat} {lv : Nat → Int32} {x : Int32} (ha : a < F) (hx1 : 1 ≤ x.toInt) (hx2 : x.toInt ≤ 999) (hlo2 : -1000000 ≤ lo) (hhi2 : hi ≤ 52000) (h : BD lo hi (F * S) lv) : 0 ≤ (bailR lv S a x).1.toInt ∧ (bailR lv S a x).1.toInt ≤ x.toInt ∧ zs (fun k => ((bailR lv S a x).2 k).toInt) (F * S) + (bailR lv S a x).1.toInt = zs (fun k => (lv k).toInt) (F * S) ∧ (∀ k, k < a * S ∨ a * S + S ≤ k → (bailR lv S a x).2 k = lv k) ∧ ∀ k, ((bailR lv S a x).2 k).toInt ≤ (lv k).toInt := by
  have hr := row_in (S := S) ha
  have key := lpf_inv (P := fun (s : Nat) (y : Int32 × (Nat → Int32)) => 0 ≤ y.1.toInt ∧ y.1.toInt ≤ x.toInt ∧ (∀ k, a * S + s ≤ k → y.2 k = lv k) ∧ zs (fun k => (y.2 k).toInt) (F * S) + y.1.toInt = zs (fun k => (lv k).toInt) (F * S) ∧ (∀ k, k < a * S ∨ a * S + S ≤ k → y.2 k = lv k) ∧ ∀ k, (y.2 k).toInt ≤ (lv k).toInt) (b := fun s y => (y.1 + bailT x y.1 (y.2 (a * S + s)), upd y.2 (a * S + s) (y.2 (a * S + s) + -bailT x y.1 (y.2 (a * S + s))))) S 0 (0, lv) (fun s y _ hs p => ?_) ⟨by show 0 ≤ (0 : Int32).toInt; rw [z_i]; omega, by show (0 : Int32).toInt ≤ _; rw [z_i]; omega, fun _ _ => rfl, by show zs (fun k => (lv k).toInt) (F * S) + (0 : Int32).toInt = _; rw [z_i]; omega, fun _ _ => rfl, fun _ => Int.le_refl _⟩
  · exact ⟨key.1, key.2.1, key.2.2.2⟩
  · obtain ⟨b, f⟩ := y
    obtain ⟨p1, p2, p3, p4, p5, p6⟩ := p
    replace p1 : 0 ≤ b.toInt := p1
    replace p2 : b.toInt ≤ x.toInt := p2
    replace p3 : ∀ k, a * S + s ≤ k → f k = lv k := p3
    replace p4 : zs (fun k => (f k).toInt) (F * S) + b.toInt = zs (fun k => (lv k).toInt) (F * S) := p4
    replace p5 : ∀ k, k < a * S ∨ a * S + S ≤ k → f k = lv k := p5
    replace p6 : ∀ k, (f k).toInt ≤ (lv k).toInt := p6
    have hv := h (a * S + s) (by omega)
    have e3 := p3 (a * S + s) (Nat.le_refl _)
    rw [← e3] at hv
    have em := max0_i (f (a * S + s))
    have es : (x - b).toInt = x.toInt - b.toInt := sub_i (by omega) (by omega)
    have et : 0 ≤ (bailT x b (f (a * S + s))).toInt ∧ (bailT x b (f (a * S + s))).toInt ≤ (max0 (f (a * S + s))).toInt ∧ (bailT x b (f (a * S + s))).toInt ≤ x.toInt - b.toInt := by
      unfold bailT
      by_cases q : x - b < max0 (f (a * S + s))
      · rw [if_pos q]
        rw [Int32.lt_iff_toInt_lt] at q
        omega
      · rw [if_neg q]
        rw [Int32.lt_iff_toInt_lt] at q
        rw [em] at q ⊢
        split at q <;> split <;> omega
    have en : (f (a * S + s) + -bailT x b (f (a * S + s))).toInt = (f (a * S + s)).toInt - (bailT x b (f (a * S + s))).toInt := by
      rw [← neg_sub]
      rw [em] at et
      refine sub_i ?_ ?_ <;> (split at et <;> omega)
    have eb : (b + bailT x b (f (a * S + s))).toInt = b.toInt + (bailT x b (f (a * S + s))).toInt := add_i (by omega) (by omega)
    show 0 ≤ (b + bailT x b (f (a * S + s))).toInt ∧ (b + bailT x b (f (a * S + s))).toInt ≤ x.toInt ∧ (∀ k, a * S + (s + 1) ≤ k → upd f (a * S + s) (f (a * S + s) + -bailT x b (f (a * S + s))) k = lv k) ∧ zs (fun k => (upd f (a * S + s) (f (a * S + s) + -bailT x b (f (a * S + s))) k).toInt) (F * S) + (b + bailT x b (f (a * S + s))).toInt = zs (fun k => (lv k).toInt) (F * S) ∧ (∀ k, k < a * S ∨ a * S + S ≤ k → upd f (a * S + s) (f (a * S + s) + -bailT x b (f (a * S + s))) k = lv k) ∧ ∀ k, (upd f (a * S + s) (f (a * S + s) + -bailT x b (f (a * S + s))) k).toInt ≤ (lv k).toInt
    generalize bailT x b (f (a * S + s)) = T at et en eb ⊢
    generalize hV : f (a * S + s) + -T = V at en ⊢
    have hu : ∀ k, k ≠ a * S + s → upd f (a * S + s) V k = f k := fun k hk => if_neg hk
    have hu1 : upd f (a * S + s) V (a * S + s) = V := if_pos rfl
    refine ⟨by omega, by omega, fun k hk => ?_, ?_, fun k hk => ?_, fun k => ?_⟩
    · rw [hu k (by omega)]
      exact p3 k (by omega)
    · rw [zs_up (f := fun j => (f j).toInt) (ix := a * S + s) (fun j hj => by show (upd f (a * S + s) V j).toInt = _; rw [hu j hj]) (F * S), if_pos (by omega)]
      show zs (fun j => (f j).toInt) (F * S) - (f (a * S + s)).toInt + (upd f (a * S + s) V (a * S + s)).toInt + _ = _
      rw [hu1]
      omega
    · rw [hu k (by omega)]
      exact p5 k hk
    · by_cases q : k = a * S + s
      · rw [q, hu1]
        have := p6 (a * S + s)
        omega
      · rw [hu k q]
        exact p6 k
theorem bail_sum {lo hi : Int} {F S a : Nat} {lv : Nat → Int32} {x : Int32} (hF : 1 ≤ F) (hS : 1 ≤ S) (hN : F * S ≤ 128) (ha : a < F) (hx1 : 1 ≤ x.toInt) (hx2 : x.toInt ≤ 999) (hlo2 : -1000000 ≤ lo) (hhi2 : hi ≤ 52000) (h : BD lo hi (F * S) lv) : sumP lv S 0 0 (F - 1) (S - 1) = sumP (bailR lv S a x).2 S 0 0 (F - 1) (S - 1) + (bailR lv S a x).1.toInt64 := by
  obtain ⟨h1, h2, h3, -⟩ := bail_all ha hx1 hx2 hlo2 hhi2 h
  have e1 := sum_int (bailR lv S a x).2 hF hS hN
  have e2 := sum_int lv hF hS hN
  have b1 := zs_bd (f := fun k => ((bailR lv S a x).2 k).toInt) (F * S) (fun k _ => i32_bd _)
  rw [← Int64.toInt_inj, add_l, e1, e2, Int32.toInt_toInt64]
  · omega
  · rw [e1, Int32.toInt_toInt64]; omega
  · rw [e1, Int32.toInt_toInt64]; omega
/-- how many are not as they were -/
def chN (lv row : Nat → Int32) : Nat → Nat
  | 0 => 0
  | k + 1 => chN lv row k + (if lv k = row k then 0 else 1)
theorem chC_N (lv row : Nat → Int32) : ∀ N, chgC lv row N = nI (chN lv row N)
  | 0 => rfl
  | N + 1 => by
    have ih := chC_N lv row N
    unfold chgC at ih ⊢
    rw [lpf_last, ih, Nat.zero_add]
    show _ = nI (chN lv row N + (if lv N = row N then 0 else 1))
    by_cases w : lv N = row N
    · rw [if_pos w, if_pos w, Nat.add_zero]
    · rw [if_neg w, if_neg w, nI_1]
theorem chN_row {lv row : Nat → Int32} {b S : Nat} : ∀ N, (∀ k, k < N → k < b ∨ b + S ≤ k → lv k = row k) → chN lv row N ≤ N - b ∧ chN lv row N ≤ S
  | 0, _ => ⟨Nat.zero_le _, Nat.zero_le _⟩
  | N + 1, h => by
    obtain ⟨a, c⟩ := chN_row (b := b) (S := S) N (fun k hk => h k (by omega))
    show chN lv row N + (if lv N = row N then 0 else 1) ≤ _ ∧ chN lv row N + (if lv N = row N then 0 else 1) ≤ _
    by_cases w : lv N = row N
    · rw [if_pos w]; omega
    · rw [if_neg w]
      have : ¬ (N < b ∨ b + S ≤ N) := fun z => w (h N (by omega) z)
      omega
theorem chN_0 {lv row : Nat → Int32} : ∀ N, chN lv row N = 0 ↔ ∀ k, k < N → lv k = row k
  | 0 => ⟨fun _ k hk => absurd hk (Nat.not_lt_zero k), fun _ => rfl⟩
  | N + 1 => by
    have ih := chN_0 (lv := lv) (row := row) N
    show chN lv row N + (if lv N = row N then 0 else 1) = 0 ↔ _
    constructor
    · intro h k hk
      by_cases w : lv N = row N
      · by_cases z : k = N
        · rw [z]; exact w
        · exact ih.mp (by omega) k (by omega)
      · rw [if_neg w] at h
        omega
    · intro h
      rw [ih.mpr (fun k hk => h k (by omega)), if_pos (h N (by omega))]
theorem bail_undo {lo hi : Int} {F S a : Nat} {lv : Nat → Int32} {x : Int32} (hN : F * S ≤ 128) (ha : a < F) (hx1 : 1 ≤ x.toInt) (hx2 : x.toInt ≤ 999) (hlo2 : -1000000 ≤ lo) (hhi2 : hi ≤ 52000) (h : BD lo hi (F * S) lv) : chN (bailR lv S a x).2 lv (F * S) ≤ S ∧ ((bailR lv S a x).1 = 0 ↔ chN (bailR lv S a x).2 lv (F * S) = 0) := by
  obtain ⟨h1, h2, h3, h4, h5⟩ := bail_all ha hx1 hx2 hlo2 hhi2 h
  refine ⟨(chN_row (b := a * S) (S := S) (F * S) (fun k _ q => h4 k q)).2, ?_⟩
  have hz := zs_eq (f := fun k => (lv k).toInt) (h := fun k => ((bailR lv S a x).2 k).toInt) (F * S) (fun k _ => h5 k)
  rw [chN_0]
  constructor
  · intro e k hk
    rw [e, z_i] at h3
    exact Int32.toInt_inj.mp (hz.2 (by omega) k hk)
  · intro e
    have : zs (fun k => ((bailR lv S a x).2 k).toInt) (F * S) = zs (fun k => (lv k).toInt) (F * S) := zs_cg _ (fun k hk => by rw [e k hk])
    rw [← Int32.toInt_inj, z_i]
    omega
