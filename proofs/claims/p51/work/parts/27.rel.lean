/-! The law's own Sim and the class, made one: rows told flat, hours, sums, pairs. -/
theorem div_ix {S f s : Nat} (hs : s < S) : (f * S + s) / S = f := by
  rw [Nat.add_comm, Nat.add_mul_div_right _ _ (by omega), Nat.div_eq_of_lt hs, Nat.zero_add]
theorem flS_at (m : Nat → Nat → Int32) {S f s : Nat} (hs : s < S) : flS m S (f * S + s) = m f s := by
  unfold flS
  rw [div_ix hs, mod_ix hs]
theorem dm_eq {S j k : Nat} (h1 : j / S = k / S) (h2 : j % S = k % S) : j = k := by
  have e1 := Nat.div_add_mod j S
  have e2 := Nat.div_add_mod k S
  rw [h1, h2] at e1
  omega
theorem flS_m2 (m : Nat → Nat → Int32) (S k : Nat) (v : Int32) : flS (m2 m S k v) S = upd (flS m S) k v := by
  funext j
  unfold flS m2 mup upd
  by_cases h : j = k
  · subst h
    rw [if_pos rfl, if_pos rfl, if_pos rfl]
  · rw [if_neg h]
    by_cases h1 : j / S = k / S
    · rw [if_pos h1, if_neg (fun h2 => h (dm_eq h1 h2))]
      show m (k / S) (j % S) = m (j / S) (j % S)
      rw [h1]
    · rw [if_neg h1]
theorem m2_at (m : Nat → Nat → Int32) {S f s : Nat} (v : Int32) (hs : s < S) : m2 m S (f * S + s) v = mup m f (upd (m f) s v) := by
  unfold m2
  rw [div_ix hs, mod_ix hs]
theorem flS_cell (m : Nat → Nat → Int32) {S f s : Nat} (v : Int32) (hs : s < S) : flS (mup m f (upd (m f) s v)) S = upd (flS m S) (f * S + s) v := by
  rw [← m2_at m v hs, flS_m2]
theorem fl_of {m : Nat → Nat → Int32} {F S : Nat} {lv : Nat → Int32} (h : ∀ k, k < F * S → lv k = flS m S k) {f s : Nat} (hf : f < F) (hs : s < S) : m f s = lv (f * S + s) := by
  rw [h _ (ixN hf hs), flS_at m hs]
/-! an hour -/
def dryS (sun x : Int32) : Int32 := if x ≤ 0 then x else if x ≤ sun then 0 else x - sun
theorem dryS_eq {sun x : Int32} (h0 : 0 ≤ sun.toInt) (h9 : sun.toInt ≤ 9) : dryS sun x = dryv sun x := by
  unfold dryS dryv
  by_cases h : x ≤ 0
  · rw [if_pos h, if_pos h]
  · rw [if_neg h, if_neg h]
    rw [Int32.le_iff_toInt_le, z_i] at h
    have hl := Int32.toInt_lt x
    have e := sub_i (x := x) (y := sun) (by omega) (by omega)
    by_cases q : x ≤ sun
    · rw [if_pos q, if_neg]
      rw [Int32.lt_iff_toInt_lt, z_i, e]
      rw [Int32.le_iff_toInt_le] at q
      omega
    · rw [if_neg q, if_pos]
      rw [Int32.lt_iff_toInt_lt, z_i, e]
      rw [Int32.le_iff_toInt_le] at q
      omega
theorem rowD_at (sun : Int32) (S : Nat) (h : Nat → Int32) : ∀ j, rowD sun S h j = if j < S then dryS sun (h j) else h j := by
  have key := lpf_inv (P := fun i (h' : Nat → Int32) => ∀ j, h' j = if j < i then dryS sun (h j) else h j) (b := rowB sun) S 0 h (fun i h' _ hi r => ?_) (fun j => (if_neg (Nat.not_lt_zero j)).symm)
  · rw [Nat.zero_add] at key
    exact key
  · intro j
    have ri : h' i = h i := by rw [r i, if_neg (Nat.lt_irrefl i)]
    unfold rowB
    by_cases q : j = i
    · subst q
      rw [if_pos (Nat.lt_succ_self _)]
      by_cases c : h' j ≤ 0
      · rw [if_pos c, ri]
        unfold dryS
        rw [if_pos (ri ▸ c)]
      · rw [if_neg c]
        have e1 : upd h' j (if h' j ≤ sun then 0 else h' j - sun) j = (if h' j ≤ sun then 0 else h' j - sun) := if_pos rfl
        rw [e1, ri]
        unfold dryS
        rw [if_neg (show ¬ h j ≤ 0 from ri ▸ c)]
    · have e : (if j < i + 1 then dryS sun (h j) else h j) = if j < i then dryS sun (h j) else h j := by
        by_cases q2 : j < i
        · rw [if_pos q2, if_pos (by omega)]
        · rw [if_neg q2, if_neg (by omega)]
      rw [e, ← r j]
      by_cases c : h' i ≤ 0
      · rw [if_pos c]
      · rw [if_neg c]
        exact if_neg q
theorem dryM_at (sun : Int32) (F S : Nat) (m : Nat → Nat → Int32) : ∀ f, dryM sun F S m f = if f < F then rowD sun S (m f) else m f := by
  have key := lpf_inv (P := fun i (m' : Nat → Nat → Int32) => ∀ f, m' f = if f < i then rowD sun S (m f) else m f) (b := fun f m => mup m f (rowD sun S (m f))) F 0 m (fun i m' _ hi r => ?_) (fun j => (if_neg (Nat.not_lt_zero j)).symm)
  · rw [Nat.zero_add] at key
    exact key
  · intro f
    show mup m' i (rowD sun S (m' i)) f = _
    have ri : m' i = m i := by rw [r i, if_neg (Nat.lt_irrefl i)]
    unfold mup
    by_cases q : f = i
    · subst q
      rw [if_pos rfl, if_pos (Nat.lt_succ_self _), ri]
    · rw [if_neg q, r f]
      by_cases q2 : f < i
      · rw [if_pos q2, if_pos (by omega)]
      · rw [if_neg q2, if_neg (by omega)]
theorem sub_sub_same (a b : Int32) : a - (a - b) = b := by
  rw [Int32.sub_eq_add_neg a (a - b), Int32.neg_sub, Int32.sub_eq_add_neg, ← Int32.add_assoc, Int32.add_comm a b, Int32.add_assoc, Int32.add_right_neg, Int32.add_zero]
theorem max0_le {x : Int32} (h : x ≤ 0) : max0 x = 0 := if_neg (Int32.not_lt.mpr h)
theorem max0_gt {x : Int32} (h : ¬ x ≤ 0) : max0 x = x := if_pos (Int32.not_le.mp h)
theorem hourR_flat (su : Int32) (ed : Nat → Int32) (F S : Nat) (lv : Nat → Int32) : hourR su ed F S lv = lpf (runB ed S) 0 (F * S) (0, dryL su (F * S) lv) := lpf_flat (b := runB ed S) S F (0, dryL su (F * S) lv)
theorem pass_eq {sun : Int32} {e ed : Nat → Int32} {F S : Nat} {m : Nat → Nat → Int32} {lv : Nat → Int32} (hF : 1 ≤ F) (hS : 1 ≤ S) (h0 : 0 ≤ sun.toInt) (h9 : sun.toInt ≤ 9) (he : ∀ s, s < S → ed s = e s) (hl : ∀ k, k < F * S → lv k = flS m S k) : (hourR sun ed F S lv).1 = (passS sun e F S m).1 ∧ ∀ k, k < F * S → (hourR sun ed F S lv).2 k = flS (passS sun e F S m).2 S k := by
  rw [hourR_flat]
  have hFS := fs1 hF hS
  have key := lpf_relI (R := fun k (a : Int32 × (Nat → Int32)) (y : Int32 × (Nat → Nat → Int32)) => (∀ j, j < F * S → flS y.2 S j = if j = k then a.2 j + a.1 else a.2 j) ∧ y.1 = if k < F * S then 0 else a.1) (b := runB ed S) (b' := psB e F S) (F * S) 0 (0, dryL sun (F * S) lv) (0, dryM sun F S m) (fun k a y _ hk r => ?_) ⟨fun j hj => ?_, (if_pos (by omega)).symm⟩
  · rw [Nat.zero_add] at key
    obtain ⟨k1, k2⟩ := key
    rw [if_neg (Nat.lt_irrefl _)] at k2
    refine ⟨k2.symm, fun k hk => ?_⟩
    rw [← show _ = flS (passS sun e F S m).2 S k from (k1 k hk).symm, if_neg (by omega)]
  · obtain ⟨ru, lc⟩ := a
    obtain ⟨lo, ms⟩ := y
    obtain ⟨r1, r2⟩ := r
    have hk' : k < F * S := by omega
    have rk : flS ms S k = lc k + ru := by
      have := r1 k hk'
      rwa [if_pos rfl] at this
    have r2' : lo = 0 := by rw [show lo = _ from r2, if_pos hk']
    have eo : ms (k / S) (k % S) - e (k % S) = lc k + ru - ed (k % S) := by
      rw [he _ (modS hS), ← rk]
      rfl
    have er : runB ed S k (ru, lc) = (max0 (lc k + ru - ed (k % S)), upd lc k (lc k + ru - max0 (lc k + ru - ed (k % S)))) := rfl
    rw [er]
    unfold psB
    show (∀ j, j < F * S → flS (if ms (k / S) (k % S) - e (k % S) ≤ 0 then (lo, ms) else _).2 S j = if j = k + 1 then upd lc k _ j + _ else upd lc k _ j) ∧ (if ms (k / S) (k % S) - e (k % S) ≤ 0 then (lo, ms) else _).1 = _
    rw [eo]
    generalize hov : lc k + ru - ed (k % S) = ov
    by_cases q : ov ≤ 0
    · rw [if_pos q, max0_le q]
      refine ⟨fun j hj => ?_, ?_⟩
      · show flS ms S j = _
        by_cases c1 : j = k
        · subst c1
          rw [if_neg (by omega), rk]
          unfold upd
          rw [if_pos rfl, Int32.sub_zero]
        · rw [r1 j hj, if_neg c1]
          have e1 : upd lc k (lc k + ru - 0) j = lc j := if_neg c1
          rw [e1]
          by_cases c2 : j = k + 1
          · rw [if_pos c2, Int32.add_zero]
          · rw [if_neg c2]
      · show lo = _
        rw [r2', ite_self]
    · rw [if_neg q, max0_gt q]
      have e2 : lc k + ru - ov = e (k % S) := by rw [← hov, sub_sub_same, he _ (modS hS)]
      rw [e2]
      by_cases z : k + 1 = F * S
      · rw [if_pos z]
        refine ⟨fun j hj => ?_, ?_⟩
        · show flS (m2 ms S k (e (k % S))) S j = _
          rw [flS_m2, if_neg (show ¬ j = k + 1 by omega)]
          unfold upd
          by_cases c1 : j = k
          · rw [if_pos c1, if_pos c1]
          · rw [if_neg c1, if_neg c1, r1 j hj, if_neg c1]
        · show ov = _
          rw [if_neg (by omega)]
      · rw [if_neg z]
        refine ⟨fun j hj => ?_, ?_⟩
        · show flS (m2 (m2 ms S k (e (k % S))) S (k + 1) (m2 ms S k (e (k % S)) ((k + 1) / S) ((k + 1) % S) + ov)) S j = _
          have e3 : m2 ms S k (e (k % S)) ((k + 1) / S) ((k + 1) % S) = flS (m2 ms S k (e (k % S))) S (k + 1) := rfl
          rw [e3, flS_m2, flS_m2]
          have e4 : upd (flS ms S) k (e (k % S)) (k + 1) = flS ms S (k + 1) := if_neg (by omega)
          rw [e4]
          by_cases c2 : j = k + 1
          · subst c2
            have e5 : upd lc k (e (k % S)) (k + 1) = lc (k + 1) := if_neg (by omega)
            rw [if_pos rfl, e5]
            have e6 : upd (upd (flS ms S) k (e (k % S))) (k + 1) (flS ms S (k + 1) + ov) (k + 1) = flS ms S (k + 1) + ov := if_pos rfl
            rw [e6, r1 _ hj, if_neg (by omega)]
          · rw [if_neg c2]
            have e6 : upd (upd (flS ms S) k (e (k % S))) (k + 1) (flS ms S (k + 1) + ov) j = upd (flS ms S) k (e (k % S)) j := if_neg c2
            rw [e6]
            unfold upd
            by_cases c1 : j = k
            · rw [if_pos c1, if_pos c1]
            · rw [if_neg c1, if_neg c1, r1 j hj, if_neg c1]
        · show lo = _
          rw [r2', if_pos (by omega)]
  · show flS (dryM sun F S m) S j = if j = 0 then dryL sun (F * S) lv j + 0 else dryL sun (F * S) lv j
    rw [Int32.add_zero, ite_self]
    unfold dryL flS
    rw [if_pos hj, dryM_at, if_pos (divF hj), rowD_at, if_pos (modS hS), dryS_eq h0 h9, hl j hj]
    rfl
theorem passN_eq {sun : Int32} {e ed : Nat → Int32} {F S : Nat} (t : Nat) {m : Nat → Nat → Int32} {lv : Nat → Int32} {hrs : Int32} {gone : Int64} (hF : 1 ≤ F) (hS : 1 ≤ S) (h0 : 0 ≤ sun.toInt) (h9 : sun.toInt ≤ 9) (he : ∀ s, s < S → ed s = e s) (hl : ∀ k, k < F * S → lv k = flS m S k) : (flowR sun ed F S t lv).1 = (passN sun e F S t m hrs gone).1 ∧ ∀ k, k < F * S → (flowR sun ed F S t lv).2 k = flS (passN sun e F S t m hrs gone).2.1 S k := by
  refine lpf_rel (R := fun (a : Int32 × (Nat → Int32)) (y : Int32 × (Nat → Nat → Int32) × Int32 × Int64) => a.1 = y.1 ∧ ∀ k, k < F * S → a.2 k = flS y.2.1 S k) t 0 (0, lv) (0, m, hrs, gone) (fun i a y _ _ r => ?_) ⟨rfl, hl⟩
  obtain ⟨r1, r2⟩ := r
  have p := pass_eq (sun := sun) hF hS h0 h9 he r2
  refine ⟨?_, p.2⟩
  show a.1 + _ = y.1 + _
  rw [r1, p.1]
/-! sums -/
def is64 (f : Nat → Int64) : Nat → Int64
  | 0 => 0
  | k + 1 => is64 f k + f k
theorem is_congr {f f' : Nat → Int64} : ∀ k, (∀ i, i < k → f i = f' i) → is64 f k = is64 f' k
  | 0, _ => rfl
  | k + 1, h => by
    show is64 f k + f k = is64 f' k + f' k
    rw [is_congr k (fun i hi => h i (by omega)), h k (by omega)]
theorem is_first (f : Nat → Int64) : ∀ k, is64 f (k + 1) = f 0 + is64 (fun i => f (i + 1)) k
  | 0 => by
    show 0 + f 0 = f 0 + 0
    rw [Int64.zero_add, Int64.add_zero]
  | k + 1 => by
    show is64 f (k + 1) + f (k + 1) = f 0 + (is64 (fun i => f (i + 1)) k + f (k + 1))
    rw [is_first f k, Int64.add_assoc]
theorem lpf_is (f : Nat → Int64) : ∀ k j x, lpf (fun i (x : Int64) => x + f i) j k x = x + is64 (fun i => f (j + i)) k
  | 0, j, x => (Int64.add_zero x).symm
  | k + 1, j, x => by
    show lpf (fun i (x : Int64) => x + f i) (j + 1) k (x + f j) = _
    rw [lpf_is f k (j + 1) (x + f j), is_first, Int64.add_assoc]
    congr 2
    exact is_congr k (fun i _ => by rw [Nat.add_assoc, Nat.add_comm 1 i])
theorem is_rev (f : Nat → Int64) : ∀ k, is64 (fun i => f (k - 1 - i)) k = is64 f k
  | 0 => rfl
  | k + 1 => by
    rw [is_first]
    show f (k + 1 - 1 - 0) + is64 (fun i => f (k + 1 - 1 - (i + 1))) k = is64 f k + f k
    rw [Nat.add_sub_cancel, Nat.sub_zero, Int64.add_comm]
    congr 1
    rw [← is_rev f k]
    exact is_congr k (fun i hi => by congr 1; omega)
theorem sumP_is (lv : Nat → Int32) (S fa sa fb sb : Nat) : sumP lv S fa sa fb sb = is64 (fun a => is64 (fun b => (lv ((fa + a) * S + (sa + b))).toInt64) (sb + 1 - sa)) (fb + 1 - fa) := by
  unfold sumP
  have e : (fun f (x : Int64) => lpf (fun s x => x + (lv (f * S + s)).toInt64) sa (sb + 1 - sa) x) = fun f x => x + is64 (fun b => (lv (f * S + (sa + b))).toInt64) (sb + 1 - sa) := by
    funext f x
    exact lpf_is (fun s => (lv (f * S + s)).toInt64) _ _ _
  rw [e, lpf_is, Int64.zero_add]
theorem smD_eq {m : Nat → Nat → Int32} {lv : Nat → Int32} {F S fa sa fb sb : Nat} (hl : ∀ k, k < F * S → lv k = flS m S k) (h1 : fa ≤ fb) (h2 : sa ≤ sb) (h3 : fb < F) (h4 : sb < S) : smD m fa sa fb sb = sumP lv S fa sa fb sb := by
  rw [sumP_is]
  unfold smD
  have e : (fun j (x : Int64) => lpf (fun i x => x + (m (fb - j) (sb - i)).toInt64) 0 (sb + 1 - sa) x) = fun j x => x + is64 (fun b => (m (fb - j) (sb - (0 + b))).toInt64) (sb + 1 - sa) := by
    funext j x
    exact lpf_is (fun i => (m (fb - j) (sb - i)).toInt64) _ _ _
  rw [e, lpf_is, Int64.zero_add, ← is_rev (fun a => is64 (fun b => (lv ((fa + a) * S + (sa + b))).toInt64) (sb + 1 - sa))]
  refine is_congr _ (fun j hj => ?_)
  show _ = is64 (fun b => (lv ((fa + (fb + 1 - fa - 1 - j)) * S + (sa + b))).toInt64) (sb + 1 - sa)
  rw [← is_rev (fun b => (lv ((fa + (fb + 1 - fa - 1 - j)) * S + (sa + b))).toInt64)]
  refine is_congr _ (fun i hi => ?_)
  show (m (fb - (0 + j)) (sb - (0 + i))).toInt64 = (lv ((fa + (fb + 1 - fa - 1 - j)) * S + (sa + (sb + 1 - sa - 1 - i)))).toInt64
  rw [show fa + (fb + 1 - fa - 1 - j) = fb - (0 + j) by omega, show sa + (sb + 1 - sa - 1 - i) = sb - (0 + i) by omega, fl_of hl (by omega) (by omega)]
/-! others, pairs -/
theorem unl_eq {m m9 : Nat → Nat → Int32} {lv row : Nat → Int32} {F S : Nat} (h1 : ∀ k, k < F * S → lv k = flS m S k) (h2 : ∀ k, k < F * S → row k = flS m9 S k) : unlC m m9 F S = chgC lv row (F * S) := by
  unfold unlC chgC
  rw [← lpf_flat (b := fun k c => if lv k = row k then c else c + 1) S F 0]
  refine lpf_congr _ _ _ (fun f c _ hf => lpf_congr _ _ _ (fun s c _ hs => ?_))
  unfold unlB
  rw [fl_of h1 (show f < F by omega) (show s < S by omega), fl_of h2 (show f < F by omega) (show s < S by omega), Int32.add_zero]
theorem prC_eq (m : Nat → Nat → Int32) (F S : Nat) : prC m F S = nI (pairsN (flS m S) (F * S)) := by
  unfold prC pairsN
  rw [sm_comm, show (0 : Int32) = nI 0 from rfl]
  rw [lpf_nI (f := fun i => sm (fun j => g1 (flS m S) i j) (F * S)) (F * S) (fun i q _ hi => ?_)]
  · rw [Nat.zero_add]
    congr 1
    exact sm_congr _ (fun i _ => by rw [Nat.zero_add])
  · have hc : ∀ j x, (if flS m S i ≤ flS m S j then nI x + nI 0 else nI x + 1) = nI (x + c1 (flS m S) i j) := fun j x => by
      rw [show nI x + nI 0 = nI x by rw [nI_add, Nat.add_zero]]
      exact c1_add (flS m S) i j x
    rw [lpf_nI (f := fun j => c1 (flS m S) i j) _ (fun j x _ _ => hc j x), sm_tail (fun j => c1 (flS m S) i j) (show i + 1 ≤ F * S by omega)]
    congr 2
