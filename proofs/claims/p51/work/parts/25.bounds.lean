/-! How far the levels go. -/
theorem neg_sub (x y : Int32) : x - y = x + -y := Int32.sub_eq_add_neg x y
theorem add_i {x y : Int32} (h1 : -2147483648 ≤ x.toInt + y.toInt) (h2 : x.toInt + y.toInt < 2147483648) : (x + y).toInt = x.toInt + y.toInt := by
  rw [Int32.toInt_add]
  exact Int.bmod_eq_of_le (by omega) (by omega)
theorem sub_i {x y : Int32} (h1 : -2147483648 ≤ x.toInt - y.toInt) (h2 : x.toInt - y.toInt < 2147483648) : (x - y).toInt = x.toInt - y.toInt := by
  rw [Int32.toInt_sub]
  exact Int.bmod_eq_of_le (by omega) (by omega)
theorem z_i : (0 : Int32).toInt = 0 := by decide
theorem max0_i (x : Int32) : (max0 x).toInt = if 0 < x.toInt then x.toInt else 0 := by
  unfold max0
  by_cases h : 0 < x
  · rw [if_pos h]
    rw [Int32.lt_iff_toInt_lt, z_i] at h
    rw [if_pos h]
  · rw [if_neg h]
    rw [Int32.lt_iff_toInt_lt, z_i] at h
    rw [if_neg h, z_i]
/-- levels between lo and hi -/
def BD (lo hi : Int) (N : Nat) (f : Nat → Int32) : Prop := ∀ k, k < N → lo ≤ (f k).toInt ∧ (f k).toInt ≤ hi
def EB (S : Nat) (ed : Nat → Int32) : Prop := ∀ s, s < S → 0 ≤ (ed s).toInt ∧ (ed s).toInt ≤ 999
theorem BD.le {lo hi lo' hi' : Int} {N : Nat} {f : Nat → Int32} (h : BD lo hi N f) (h1 : lo' ≤ lo) (h2 : hi ≤ hi') : BD lo' hi' N f := fun k hk => ⟨Int.le_trans h1 (h k hk).1, Int.le_trans (h k hk).2 h2⟩
theorem dryv_bd {su x : Int32} {lo hi : Int} (hs0 : 0 ≤ su.toInt) (hs9 : su.toInt ≤ 9) (h1 : lo ≤ x.toInt) (h2 : x.toInt ≤ hi) (hlo : lo ≤ 0) (hhi : 999 ≤ hi) : lo ≤ (dryv su x).toInt ∧ (dryv su x).toInt ≤ hi := by
  have hx := Int32.le_toInt x
  have hx2 := Int32.toInt_lt x
  unfold dryv
  by_cases h : x ≤ 0
  · rw [if_pos h]
    exact ⟨h1, h2⟩
  · rw [if_neg h]
    rw [Int32.le_iff_toInt_le, z_i] at h
    have e : (x - su).toInt = x.toInt - su.toInt := sub_i (by omega) (by omega)
    by_cases q : 0 < x - su
    · rw [if_pos q]
      rw [Int32.lt_iff_toInt_lt, z_i] at q
      omega
    · rw [if_neg q, z_i]
      omega
theorem hour_bd {su : Int32} {ed lv : Nat → Int32} {F S : Nat} {lo hi : Int} (hS : 1 ≤ S) (hN : F * S ≤ 128) (hs0 : 0 ≤ su.toInt) (hs9 : su.toInt ≤ 9) (he : EB S ed) (hlo : lo ≤ 0) (hlo2 : -1000000 ≤ lo) (hhi : 999 ≤ hi) (hhi2 : hi ≤ 52000) (h : BD lo hi (F * S) lv) : 0 ≤ (hourR su ed F S lv).1.toInt ∧ (hourR su ed F S lv).1.toInt ≤ 6656000 ∧ BD lo hi (F * S) (hourR su ed F S lv).2 := by
  rw [← hourM_eq]
  have key := lpf_inv (P := fun (k : Nat) (a : Int32 × (Nat → Int32)) => 0 ≤ a.1.toInt ∧ a.1.toInt ≤ (k : Int) * 52000 ∧ BD lo hi (F * S) a.2) (b := hmB su ed S) (F * S) 0 (0, lv) (fun k a _ hk p => ?_) ⟨by show 0 ≤ (0 : Int32).toInt; rw [z_i]; omega, by show (0 : Int32).toInt ≤ _; rw [z_i]; omega, h⟩
  · unfold hourM
    rw [Nat.zero_add] at key
    exact ⟨key.1, by have := key.2.1; omega, key.2.2⟩
  · obtain ⟨o, f⟩ := a
    obtain ⟨p1, p2, p3⟩ := p
    have p1' : 0 ≤ o.toInt := p1
    have p2' : o.toInt ≤ (k : Int) * 52000 := p2
    have p3' : BD lo hi (F * S) f := p3
    have hk' : k < F * S := by omega
    have hd := dryv_bd hs0 hs9 (p3' k hk').1 (p3' k hk').2 hlo hhi
    have hE := he (k % S) (Nat.mod_lt _ hS)
    have ei : (dryv su (f k) + o).toInt = (dryv su (f k)).toInt + o.toInt := add_i (by omega) (by omega)
    have eo : (dryv su (f k) + o - ed (k % S)).toInt = (dryv su (f k)).toInt + o.toInt - (ed (k % S)).toInt := by rw [sub_i (by omega) (by omega), ei]
    have em := max0_i (dryv su (f k) + o - ed (k % S))
    rw [eo] at em
    have el : (dryv su (f k) + o - max0 (dryv su (f k) + o - ed (k % S))).toInt = (dryv su (f k)).toInt + o.toInt - (max0 (dryv su (f k) + o - ed (k % S))).toInt := by
      rw [sub_i, ei]
      · rw [ei, em]; split <;> omega
      · rw [ei, em]; split <;> omega
    refine ⟨?_, ?_, fun j hj => ?_⟩
    · show 0 ≤ (max0 (dryv su (f k) + o - ed (k % S))).toInt
      rw [em]
      split <;> omega
    · show (max0 (dryv su (f k) + o - ed (k % S))).toInt ≤ ((k + 1 : Nat) : Int) * 52000
      rw [em]
      split <;> omega
    · show lo ≤ (upd (upd f k _) k (dryv su (f k) + o - max0 (dryv su (f k) + o - ed (k % S))) j).toInt ∧ (upd (upd f k _) k (dryv su (f k) + o - max0 (dryv su (f k) + o - ed (k % S))) j).toInt ≤ hi
      unfold upd
      by_cases q : j = k
      · rw [if_pos q, el, em]
        split <;> omega
      · rw [if_neg q, if_neg q]
        exact p3' j hj
theorem flow_bd {su : Int32} {ed lv : Nat → Int32} {F S t : Nat} {lo hi : Int} (ht : t ≤ 40) (hS : 1 ≤ S) (hN : F * S ≤ 128) (hs0 : 0 ≤ su.toInt) (hs9 : su.toInt ≤ 9) (he : EB S ed) (hlo : lo ≤ 0) (hlo2 : -1000000 ≤ lo) (hhi : 999 ≤ hi) (hhi2 : hi ≤ 52000) (h : BD lo hi (F * S) lv) : 0 ≤ (flowR su ed F S t lv).1.toInt ∧ BD lo hi (F * S) (flowR su ed F S t lv).2 := by
  have key := lpf_inv (P := fun (k : Nat) (a : Int32 × (Nat → Int32)) => 0 ≤ a.1.toInt ∧ a.1.toInt ≤ (k : Int) * 6656000 ∧ BD lo hi (F * S) a.2) (b := fun _ a => (a.1 + (hourR su ed F S a.2).1, (hourR su ed F S a.2).2)) t 0 (0, lv) (fun k a _ hk p => ?_) ⟨by show 0 ≤ (0 : Int32).toInt; rw [z_i]; omega, by show (0 : Int32).toInt ≤ _; rw [z_i]; omega, h⟩
  · exact ⟨key.1, key.2.2⟩
  · have q := hour_bd hS hN hs0 hs9 he hlo hlo2 hhi hhi2 p.2.2
    have e : (a.1 + (hourR su ed F S a.2).1).toInt = a.1.toInt + (hourR su ed F S a.2).1.toInt := add_i (by omega) (by omega)
    refine ⟨?_, ?_, q.2.2⟩
    · show 0 ≤ (a.1 + (hourR su ed F S a.2).1).toInt
      omega
    · show (a.1 + (hourR su ed F S a.2).1).toInt ≤ ((k + 1 : Nat) : Int) * 6656000
      omega
/-! the deeds -/
theorem add_bd {lo hi : Int} {v x : Int32} (hx1 : -99 ≤ x.toInt) (hx2 : x.toInt ≤ 99) (hlo2 : -1000000 ≤ lo) (hhi2 : hi ≤ 52000) (h1 : lo ≤ v.toInt) (h2 : v.toInt ≤ hi) : lo - 99 ≤ (v + x).toInt ∧ (v + x).toInt ≤ hi + 99 := by
  rw [add_i (by omega) (by omega)]
  omega
theorem rain_bd {lo hi : Int} {N ix : Nat} {lv : Nat → Int32} {x : Int32} (hx1 : -99 ≤ x.toInt) (hx2 : x.toInt ≤ 99) (hlo2 : -1000000 ≤ lo) (hhi2 : hi ≤ 52000) (h : BD lo hi N lv) (hix : ix < N) : BD (lo - 99) (hi + 99) N (upd lv ix (lv ix + x)) := by
  intro k hk
  unfold upd
  by_cases q : k = ix
  · rw [if_pos q]
    exact add_bd hx1 hx2 hlo2 hhi2 (h ix hix).1 (h ix hix).2
  · rw [if_neg q]
    have := h k hk
    omega
theorem spl_at (lv : Nat → Int32) {S fa sa fb sb : Nat} (x : Int32) (hsa : sa ≤ sb) (hsb : sb < S) : ∀ k, splL lv S fa sa fb sb x k = lv k ∨ splL lv S fa sa fb sb x k = lv k + x := by
  have inner : ∀ (f : Nat) (y : Nat → Int32), (∀ k, (f * S ≤ k → y k = lv k) ∧ (y k = lv k ∨ y k = lv k + x)) → ∀ k, ((f + 1) * S ≤ k → lpf (fun s y => upd y (f * S + s) (y (f * S + s) + x)) sa (sb + 1 - sa) y k = lv k) ∧ (lpf (fun s y => upd y (f * S + s) (y (f * S + s) + x)) sa (sb + 1 - sa) y k = lv k ∨ lpf (fun s y => upd y (f * S + s) (y (f * S + s) + x)) sa (sb + 1 - sa) y k = lv k + x) := by
    intro f y hy
    have key := lpf_inv (P := fun (s : Nat) (y : Nat → Int32) => ∀ k, (f * S + s ≤ k → y k = lv k) ∧ (y k = lv k ∨ y k = lv k + x)) (b := fun s y => upd y (f * S + s) (y (f * S + s) + x)) (sb + 1 - sa) sa y (fun s y _ hs p k => ?_) (fun k => ⟨fun q => (hy k).1 (by omega), (hy k).2⟩)
    · intro k
      rw [Nat.succ_mul]
      exact ⟨fun q => (key k).1 (by omega), (key k).2⟩
    · show (f * S + (s + 1) ≤ k → upd y (f * S + s) (y (f * S + s) + x) k = lv k) ∧ (upd y (f * S + s) (y (f * S + s) + x) k = lv k ∨ upd y (f * S + s) (y (f * S + s) + x) k = lv k + x)
      unfold upd
      by_cases q : k = f * S + s
      · rw [if_pos q]
        refine ⟨fun r => by omega, Or.inr ?_⟩
        rw [(p (f * S + s)).1 (Nat.le_refl _), q]
      · rw [if_neg q]
        exact ⟨fun r => (p k).1 (by omega), (p k).2⟩
  have key := lpf_inv (P := fun (f : Nat) (y : Nat → Int32) => ∀ k, (f * S ≤ k → y k = lv k) ∧ (y k = lv k ∨ y k = lv k + x)) (b := fun f y => lpf (fun s y => upd y (f * S + s) (y (f * S + s) + x)) sa (sb + 1 - sa) y) (fb + 1 - fa) fa lv (fun f y _ _ p => inner f y p) (fun k => ⟨fun _ => rfl, Or.inl rfl⟩)
  exact fun k => (key k).2
theorem spl_bd {lo hi : Int} {N S fa sa fb sb : Nat} {lv : Nat → Int32} {x : Int32} (hsa : sa ≤ sb) (hsb : sb < S) (hx1 : -99 ≤ x.toInt) (hx2 : x.toInt ≤ 99) (hlo2 : -1000000 ≤ lo) (hhi2 : hi ≤ 52000) (h : BD lo hi N lv) : BD (lo - 99) (hi + 99) N (splL lv S fa sa fb sb x) := by
  intro k hk
  have hb := h k hk
  rcases spl_at lv (fa := fa) (sa := sa) (fb := fb) x hsa hsb k with e | e
  · rw [e]
    omega
  · rw [e]
    exact add_bd hx1 hx2 hlo2 hhi2 hb.1 hb.2
theorem dm {k S : Nat} : k = k / S * S + k % S := (Nat.div_add_mod' k S).symm
theorem div_ltN {k F S : Nat} (h : k < F * S) : k / S < F := Nat.div_lt_of_lt_mul (by rwa [Nat.mul_comm] at h)
theorem swp_ix (lv : Nat → Int32) {F S a b k : Nat} (hS : 1 ≤ S) (ha : a < F) (hb : b < F) (hk : k < F * S) : ∃ j, j < F * S ∧ swpL lv S a b k = lv j ∧ ∀ lv' : Nat → Int32, swpL lv' S a b k = lv' j := by
  have hm := Nat.mod_lt k hS
  refine ⟨swp a b (k / S) * S + k % S, ixN (swp_lt ha hb (div_ltN hk)) hm, ?_, fun lv' => ?_⟩
  · rw [← swpL_at lv hm, ← dm]
  · rw [← swpL_at lv' hm, ← dm]
theorem swp_bd {lo hi : Int} {F S a b : Nat} {lv : Nat → Int32} (hS : 1 ≤ S) (ha : a < F) (hb : b < F) (h : BD lo hi (F * S) lv) : BD lo hi (F * S) (swpL lv S a b) := by
  intro k hk
  obtain ⟨j, hj, e, -⟩ := swp_ix lv hS ha hb hk
  rw [e]
  exact h j hj
theorem swp_cg {F S a b : Nat} {lv lv' : Nat → Int32} (hS : 1 ≤ S) (ha : a < F) (hb : b < F) (h : ∀ k, k < F * S → lv k = lv' k) : ∀ k, k < F * S → swpL lv S a b k = swpL lv' S a b k := by
  intro k hk
  obtain ⟨j, hj, e, e'⟩ := swp_ix lv hS ha hb hk
  rw [e, e' lv', h j hj]
theorem row_in {F S a : Nat} (ha : a < F) : a * S + S ≤ F * S := by
  have : (a + 1) * S ≤ F * S := Nat.mul_le_mul_right _ ha
  rwa [Nat.succ_mul] at this
theorem turn_bd {lo hi : Int} {F S a : Nat} {lv : Nat → Int32} (ha : a < F) (h : BD lo hi (F * S) lv) : BD lo hi (F * S) (turnL lv S a) := by
  intro k hk
  have := row_in (S := S) ha
  unfold turnL
  by_cases q : a * S ≤ k ∧ k < a * S + S
  · rw [if_pos q]
    exact h _ (by omega)
  · rw [if_neg q]
    exact h k hk
theorem turn_cg {F S a : Nat} {lv lv' : Nat → Int32} (ha : a < F) (h : ∀ k, k < F * S → lv k = lv' k) : ∀ k, k < F * S → turnL lv S a k = turnL lv' S a k := by
  intro k hk
  have := row_in (S := S) ha
  unfold turnL
  by_cases q : a * S ≤ k ∧ k < a * S + S
  · rw [if_pos q, if_pos q]
    exact h _ (by omega)
  · rw [if_neg q, if_neg q]
    exact h k hk
theorem bail_bd {lo hi : Int} {F S a : Nat} {lv : Nat → Int32} {x : Int32} (ha : a < F) (hx1 : 1 ≤ x.toInt) (hx2 : x.toInt ≤ 999) (hlo : lo ≤ 0) (hlo2 : -1000000 ≤ lo) (hhi : 999 ≤ hi) (hhi2 : hi ≤ 52000) (h : BD lo hi (F * S) lv) : BD lo hi (F * S) (bailR lv S a x).2 := by
  have hr := row_in (S := S) ha
  have key := lpf_inv (P := fun (_ : Nat) (y : Int32 × (Nat → Int32)) => 0 ≤ y.1.toInt ∧ y.1.toInt ≤ x.toInt ∧ BD lo hi (F * S) y.2) (b := fun s y => (y.1 + bailT x y.1 (y.2 (a * S + s)), upd y.2 (a * S + s) (y.2 (a * S + s) + -bailT x y.1 (y.2 (a * S + s))))) S 0 (0, lv) (fun s y _ hs p => ?_) ⟨by show 0 ≤ (0 : Int32).toInt; rw [z_i]; omega, by show (0 : Int32).toInt ≤ _; rw [z_i]; omega, h⟩
  · exact key.2.2
  · obtain ⟨b, f⟩ := y
    obtain ⟨p1, p2, p3⟩ := p
    have p1' : 0 ≤ b.toInt := p1
    have p2' : b.toInt ≤ x.toInt := p2
    have p3' : BD lo hi (F * S) f := p3
    have hv := p3' (a * S + s) (by omega)
    have em := max0_i (f (a * S + s))
    have es : (x - b).toInt = x.toInt - b.toInt := sub_i (by omega) (by omega)
    have et : 0 ≤ (bailT x b (f (a * S + s))).toInt ∧ (bailT x b (f (a * S + s))).toInt ≤ (max0 (f (a * S + s))).toInt ∧ (bailT x b (f (a * S + s))).toInt ≤ x.toInt - b.toInt := by
      unfold bailT
      by_cases q : x - b < max0 (f (a * S + s))
      · rw [if_pos q]
        rw [Int32.lt_iff_toInt_lt] at q
        omega
      · rw [if_neg q]
        rw [Int32.lt_iff_toInt_lt] at q
        rw [em] at q ⊢
        split at q <;> split <;> omega
    have en : (f (a * S + s) + -bailT x b (f (a * S + s))).toInt = (f (a * S + s)).toInt - (bailT x b (f (a * S + s))).toInt := by
      rw [← neg_sub]
      rw [em] at et
      refine sub_i ?_ ?_ <;> (split at et <;> omega)
    have eb : (b + bailT x b (f (a * S + s))).toInt = b.toInt + (bailT x b (f (a * S + s))).toInt := add_i (by omega) (by omega)
    refine ⟨by show 0 ≤ (b + bailT x b (f (a * S + s))).toInt; omega, by show (b + bailT x b (f (a * S + s))).toInt ≤ x.toInt; omega, fun k hk => ?_⟩
    show lo ≤ (upd f (a * S + s) (f (a * S + s) + -bailT x b (f (a * S + s))) k).toInt ∧ (upd f (a * S + s) (f (a * S + s) + -bailT x b (f (a * S + s))) k).toInt ≤ hi
    unfold upd
    by_cases q : k = a * S + s
    · rw [if_pos q, en]
      rw [em] at et
      split at et <;> omega
    · rw [if_neg q]
      exact p3' k hk
/-! the same deeds on the same water -/
theorem upd_cg {N ix : Nat} {lv lv' : Nat → Int32} {v v' : Int32} (hv : v = v') (h : ∀ k, k < N → lv k = lv' k) : ∀ k, k < N → upd lv ix v k = upd lv' ix v' k := by
  intro k hk
  unfold upd
  rw [hv, h k hk]
theorem spl_cg {F S fa sa fb sb : Nat} {lv lv' : Nat → Int32} {x : Int32} (hfb : fb < F) (hsb : sb < S) (h : ∀ k, k < F * S → lv k = lv' k) : ∀ k, k < F * S → splL lv S fa sa fb sb x k = splL lv' S fa sa fb sb x k := by
  unfold splL
  refine lpf_rel (R := fun y y' => ∀ k, k < F * S → y k = y' k) _ _ lv lv' (fun f y y' _ hf r => ?_) h
  refine lpf_rel (R := fun y y' => ∀ k, k < F * S → y k = y' k) _ _ y y' (fun s z z' _ hs q => ?_) r
  exact upd_cg (by rw [q _ (ixN (by omega) (by omega))]) q
theorem bail_cg {F S a : Nat} {lv lv' : Nat → Int32} {x : Int32} (ha : a < F) (h : ∀ k, k < F * S → lv k = lv' k) : eqW (F * S) (bailR lv S a x) (bailR lv' S a x) := by
  unfold bailR
  refine lpf_rel (R := eqW (F * S)) S 0 _ _ (fun s y y' _ hs r => ?_) ⟨rfl, h⟩
  have e := r.2 (a * S + s) (ixN ha (by omega))
  refine ⟨?_, upd_cg (by rw [r.1, e]) r.2⟩
  show y.1 + _ = y'.1 + _
  rw [r.1, e]
