/-! The water: its methods by what they do to the levels. -/
def wat (g : jG) (n : Nat) (ad : Nat → Nat) (E : Nat → va_E) (w iL iE F S : Nat) (su : Int32) (lv ed : Nat → Int32) : Prop :=
  (w < n ∧ iL < n ∧ iE < n) ∧ (w ≠ iL ∧ w ≠ iE ∧ iL ≠ iE) ∧ E w = .inr (2, [.ref (ad iL), .ref (ad iE), .int (nI F), .int (nI S), .int su]) ∧ E iL = aI g 128 lv ∧ E iE = aI g 16 ed ∧ F ≤ 8 ∧ S ≤ 16
theorem wat.setL {g : jG} {n : Nat} {ad : Nat → Nat} {E : Nat → va_E} {w iL iE F S : Nat} {su : Int32} {lv ed lv' : Nat → Int32} (W : wat g n ad E w iL iE F S su lv ed) : wat g n ad (va_up E iL (aI g 128 lv')) w iL iE F S su lv' ed := by
  obtain ⟨h1, ⟨h2, h3, h4⟩, h5, h6, h7, h8⟩ := W
  exact ⟨h1, ⟨h2, h3, h4⟩, (up_ne h2).trans h5, up_eq, (up_ne (Ne.symm h4)).trans h7, h8⟩
theorem ix128 {F S f s : Nat} (hF : F ≤ 8) (hS : S ≤ 16) (hf : f < F) (hs : s < S) : f * S + s < 128 := by
  have : f * S ≤ 7 * S := Nat.mul_le_mul_right _ (by omega)
  omega
theorem ixN {F S f s : Nat} (hf : f < F) (hs : s < S) : f * S + s < F * S := by
  have : (f + 1) * S ≤ F * S := Nat.mul_le_mul_right _ hf
  rw [Nat.succ_mul] at this
  omega
theorem fs128 {F S : Nat} (hF : F ≤ 8) (hS : S ≤ 16) : F * S ≤ 128 := Nat.mul_le_mul hF hS
/-- a level dried by the sun -/
def dryv (su x : Int32) : Int32 := if x ≤ 0 then x else if 0 < x - su then x - su else 0
def max0 (x : Int32) : Int32 := if 0 < x then x else 0
def dryL (su : Int32) (N : Nat) (lv : Nat → Int32) : Nat → Int32 := fun k => if k < N then dryv su (lv k) else lv k
/-- one puddle of an hour: what runs in, and the levels -/
def runB (ed : Nat → Int32) (S k : Nat) (a : Int32 × (Nat → Int32)) : Int32 × (Nat → Int32) := (max0 (a.2 k + a.1 - ed (k % S)), upd a.2 k (a.2 k + a.1 - max0 (a.2 k + a.1 - ed (k % S))))
def runR (ed : Nat → Int32) (F S : Nat) (lv : Nat → Int32) : Int32 × (Nat → Int32) := lpf (fun f a => lpf (fun s a => runB ed S (f * S + s) a) 0 S a) 0 F (0, lv)
def hourR (su : Int32) (ed : Nat → Int32) (F S : Nat) (lv : Nat → Int32) : Int32 × (Nat → Int32) := runR ed F S (dryL su (F * S) lv)
def flowR (su : Int32) (ed : Nat → Int32) (F S h : Nat) (lv : Nat → Int32) : Int32 × (Nat → Int32) := lpf (fun _ a => (a.1 + (hourR su ed F S a.2).1, (hourR su ed F S a.2).2)) 0 h (0, lv)
def chgC (lv row : Nat → Int32) (N : Nat) : Int32 := lpf (fun k c => if lv k = row k then c else c + 1) 0 N 0
def cpyN (row lv : Nat → Int32) (N : Nat) : Nat → Int32 := fun k => if k < N then row k else lv k
def alkC (lv : Nat → Int32) (S a b : Nat) : Int32 := lpf (fun s c => if lv (a * S + s) = lv (b * S + s) then c + 1 else c) 0 S 0
def sumP (lv : Nat → Int32) (S fa sa fb sb : Nat) : Int64 := lpf (fun f x => lpf (fun s x => x + (lv (f * S + s)).toInt64) sa (sb + 1 - sa) x) fa (fb + 1 - fa) 0
def dryP (lv : Nat → Int32) (S fa sa fb sb : Nat) : Int32 := lpf (fun f x => lpf (fun s x => if 0 < lv (f * S + s) then x else x + 1) sa (sb + 1 - sa) x) fa (fb + 1 - fa) 0
def uptC (lv : Nat → Int32) (N : Nat) (lev : Int32) : Int32 := lpf (fun k c => if lev < lv k then c else c + 1) 0 N 0
theorem mod_ix {S f s : Nat} (hs : s < S) : (f * S + s) % S = s := by
  rw [Nat.add_comm, Nat.add_mul_mod_self_right, Nat.mod_eq_of_lt hs]
set_option maxRecDepth 100000 in
set_option maxHeartbeats 4000000 in
theorem s_X2_puddleCount {g : jG} {n : Nat} {ad : Nat → Nat} {E : Nat → va_E} {w iL iE F S : Nat} {su : Int32} {lv ed : Nat → Int32} (W : wat g n ad E w iL iE F S su lv ed) : Ret g mX2_puddleCount 0 [.ref (ad w)] n ad E (some (.int (nI (F * S)))) E := by
  obtain ⟨⟨hwn, hLn, hEn⟩, ⟨hwL, hwE, hLE⟩, hw, hL, hE0, hF, hS⟩ := id W
  intro Φ Ψ h
  show J g mX2_puddleCount 0 0 0 0 [some (.ref (ad w))] [] n ad E Φ Ψ
  refine j_aload_n dX2_puddleCount_0 rfl ?_
  refine j_get fl_X2_27 dX2_puddleCount_1 hwn hw rfl ?_
  refine j_aload_n dX2_puddleCount_4 rfl ?_
  refine j_get fl_X2_31 dX2_puddleCount_5 hwn hw rfl ?_
  refine j_imul dX2_puddleCount_8 ?_
  refine j_topi (y := nI (F * S)) (pk_mul _ _) ?_
  exact j_iret dX2_puddleCount_9 rfl h
set_option maxRecDepth 100000 in
set_option maxHeartbeats 4000000 in
theorem s_X2_numberOf {g : jG} {n : Nat} {ad : Nat → Nat} {E : Nat → va_E} {w iL iE F S : Nat} {su : Int32} {lv ed : Nat → Int32} (W : wat g n ad E w iL iE F S su lv ed) (a b : Nat) : Ret g mX2_numberOf 0 [.ref (ad w), .int (nI a), .int (nI b)] n ad E (some (.int (nI (a * S + b)))) E := by
  obtain ⟨⟨hwn, hLn, hEn⟩, ⟨hwL, hwE, hLE⟩, hw, hL, hE0, hF, hS⟩ := id W
  intro Φ Ψ h
  show J g mX2_numberOf 0 0 0 0 [some (.ref (ad w)), some (.int (nI a)), some (.int (nI b))] [] n ad E Φ Ψ
  refine j_iload_n dX2_numberOf_0 rfl ?_
  refine j_aload_n dX2_numberOf_1 rfl ?_
  refine j_get fl_X2_31 dX2_numberOf_2 hwn hw rfl ?_
  refine j_imul dX2_numberOf_5 ?_
  refine j_topi (y := nI (a * S)) (pk_mul _ _) ?_
  refine j_iload_n dX2_numberOf_6 rfl ?_
  refine j_iadd dX2_numberOf_7 ?_
  refine j_topi (y := nI ((a * S) + b)) (nI_add _ _) ?_
  exact j_iret dX2_numberOf_8 rfl h
set_option maxRecDepth 100000 in
set_option maxHeartbeats 4000000 in
theorem s_X2_level {g : jG} {n : Nat} {ad : Nat → Nat} {E : Nat → va_E} {w iL iE F S : Nat} {su : Int32} {lv ed : Nat → Int32} (W : wat g n ad E w iL iE F S su lv ed) (a b : Nat) (hb : a * S + b < 128) : Ret g mX2_level 1 [.ref (ad w), .int (nI a), .int (nI b)] n ad E (some (.int (lv (a * S + b)))) E := by
  obtain ⟨⟨hwn, hLn, hEn⟩, ⟨hwL, hwE, hLE⟩, hw, hL, hE0, hF, hS⟩ := id W
  intro Φ Ψ h
  show J g mX2_level 1 0 0 0 [some (.ref (ad w)), some (.int (nI a)), some (.int (nI b))] [] n ad E Φ Ψ
  refine j_aload_n dX2_level_0 rfl ?_
  refine j_get fl_X2_9 dX2_level_1 hwn hw rfl ?_
  refine j_aload_n dX2_level_4 rfl ?_
  refine j_iload_n dX2_level_5 rfl ?_
  refine j_iload_n dX2_level_6 rfl ?_
  refine j_cV (As := [.int (nI a), .int (nI b)]) (rest := [.ref (ad iL)]) cm_X2_numberOf ci_X2_numberOf cs_X2_numberOf rfl ln_X2_41 (ci := 2) rfl dX2_level_7 (d' := 0) (by decide) hwn hw rfl rfl (Nat.le_of_ble_eq_true rfl) (Nat.le_of_ble_eq_true rfl) (s_X2_numberOf W a b) ?_
  refine j_iald dX2_level_10 hLn hL (by decide) (by omega) rfl ?_
  exact j_iret dX2_level_11 rfl h
set_option maxRecDepth 100000 in
set_option maxHeartbeats 4000000 in
theorem s_X2_add {g : jG} {n : Nat} {ad : Nat → Nat} {E : Nat → va_E} {w iL iE F S : Nat} {su : Int32} {lv ed : Nat → Int32} (W : wat g n ad E w iL iE F S su lv ed) (a b : Nat) (x : Int32) (hb : a * S + b < 128) : Ret g mX2_add 1 [.ref (ad w), .int (nI a), .int (nI b), .int x] n ad E none (va_up E iL (aI g 128 (upd lv (a * S + b) (lv (a * S + b) + x)))) := by
  obtain ⟨⟨hwn, hLn, hEn⟩, ⟨hwL, hwE, hLE⟩, hw, hL, hE0, hF, hS⟩ := id W
  intro Φ Ψ h
  show J g mX2_add 1 0 0 0 [some (.ref (ad w)), some (.int (nI a)), some (.int (nI b)), some (.int x)] [] n ad E Φ Ψ
  refine j_aload_n dX2_add_0 rfl ?_
  refine j_get fl_X2_9 dX2_add_1 hwn hw rfl ?_
  refine j_aload_n dX2_add_4 rfl ?_
  refine j_iload_n dX2_add_5 rfl ?_
  refine j_iload_n dX2_add_6 rfl ?_
  refine j_cV (As := [.int (nI a), .int (nI b)]) (rest := [.ref (ad iL)]) cm_X2_numberOf ci_X2_numberOf cs_X2_numberOf rfl ln_X2_41 (ci := 2) rfl dX2_add_7 (d' := 0) (by decide) hwn hw rfl rfl (Nat.le_of_ble_eq_true rfl) (Nat.le_of_ble_eq_true rfl) (s_X2_numberOf W a b) ?_
  refine j_dup2 dX2_add_10 rfl rfl ?_
  refine j_iald dX2_add_11 hLn hL (by decide) (by omega) rfl ?_
  refine j_iload_n dX2_add_12 rfl ?_
  refine j_iadd dX2_add_13 ?_
  refine j_iast (j := a * S + b) dX2_add_14 hLn hL (by decide) (by omega) ?_
  exact j_vret dX2_add_15 rfl h
set_option maxRecDepth 100000 in
set_option maxHeartbeats 4000000 in
theorem s_X2_exchange {g : jG} {n : Nat} {ad : Nat → Nat} {E : Nat → va_E} {w iL iE F S : Nat} {su : Int32} {lv ed : Nat → Int32} (W : wat g n ad E w iL iE F S su lv ed) (a b : Nat) (ha : a < 128) (hb : b < 128) : Ret g mX2_exchange 0 [.ref (ad w), .int (nI a), .int (nI b)] n ad E none (va_up E iL (aI g 128 (upd (upd lv a (lv b)) b (lv a)))) := by
  obtain ⟨⟨hwn, hLn, hEn⟩, ⟨hwL, hwE, hLE⟩, hw, hL, hE0, hF, hS⟩ := id W
  intro Φ Ψ h
  show J g mX2_exchange 0 0 0 0 [some (.ref (ad w)), some (.int (nI a)), some (.int (nI b)), none] [] n ad E Φ Ψ
  refine j_aload_n dX2_exchange_0 rfl ?_
  refine j_get fl_X2_9 dX2_exchange_1 hwn hw rfl ?_
  refine j_iload_n dX2_exchange_4 rfl ?_
  refine j_iald dX2_exchange_5 hLn hL (by decide) (by omega) rfl ?_
  refine j_istore_n (L' := [some (.ref (ad w)), some (.int (nI a)), some (.int (nI b)), some (.int (lv a))]) dX2_exchange_6 (by decide) rfl rfl ?_
  refine j_aload_n dX2_exchange_7 rfl ?_
  refine j_get fl_X2_9 dX2_exchange_8 hwn hw rfl ?_
  refine j_iload_n dX2_exchange_11 rfl ?_
  refine j_aload_n dX2_exchange_12 rfl ?_
  refine j_get fl_X2_9 dX2_exchange_13 hwn hw rfl ?_
  refine j_iload_n dX2_exchange_16 rfl ?_
  refine j_iald dX2_exchange_17 hLn hL (by decide) (by omega) rfl ?_
  refine j_iast (j := a) dX2_exchange_18 hLn hL (by decide) (by omega) ?_
  refine j_aload_n dX2_exchange_19 rfl ?_
  refine j_get fl_X2_9 dX2_exchange_20 hwn ((up_ne hwL).trans hw) rfl ?_
  refine j_iload_n dX2_exchange_23 rfl ?_
  refine j_iload_n dX2_exchange_24 rfl ?_
  refine j_iast (j := b) dX2_exchange_25 hLn up_eq (by decide) (by omega) ?_
  refine j_E up_up ?_
  exact j_vret dX2_exchange_26 rfl h
set_option maxRecDepth 100000 in
set_option maxHeartbeats 4000000 in
theorem s_X2_changedFrom {g : jG} {n : Nat} {ad : Nat → Nat} {E : Nat → va_E} {w iL iE F S : Nat} {su : Int32} {lv ed : Nat → Int32} (W : wat g n ad E w iL iE F S su lv ed) {r : Nat} {row : Nat → Int32} (hrn : r < n) (hr : E r = aI g 128 row) : Ret g mX2_changedFrom 1 [.ref (ad w), .ref (ad r)] n ad E (some (.int (chgC lv row (F * S)))) E := by
  obtain ⟨⟨hwn, hLn, hEn⟩, ⟨hwL, hwE, hLE⟩, hw, hL, hE0, hF, hS⟩ := id W
  have hFS := fs128 hF hS
  intro Φ Ψ h
  show J g mX2_changedFrom 1 0 0 0 [some (.ref (ad w)), some (.ref (ad r)), none, none] [] n ad E Φ Ψ
  refine j_iconst (v := 0) dX2_changedFrom_0 (by decide) ?_
  refine j_istore_n (L' := [some (.ref (ad w)), some (.ref (ad r)), some (.int 0), none]) dX2_changedFrom_1 (by decide) rfl rfl ?_
  refine j_iconst (v := nI 0) dX2_changedFrom_2 (by decide) ?_
  refine j_istore_n (L' := [some (.ref (ad w)), some (.ref (ad r)), some (.int 0), some (.int (nI 0))]) dX2_changedFrom_3 (by decide) rfl rfl ?_
  refine lpf_ind (b := fun k c => if lv k = row k then c else c + 1) (P := fun (k : Nat) (c : Int32) => J g mX2_changedFrom 1 0 0 4 [some (.ref (ad w)), some (.ref (ad r)), some (.int c), some (.int (nI k))] [] n ad E Φ Ψ) (N := F * S) 0 ?_ (F * S) 0 (by omega) ?_
  · intro k c hk0 hk ih
    show J g mX2_changedFrom 1 0 0 4 [some (.ref (ad w)), some (.ref (ad r)), some (.int c), some (.int (nI k))] [] n ad E Φ Ψ
    refine j_iload_n dX2_changedFrom_4 rfl ?_
    refine j_aload_n dX2_changedFrom_5 rfl ?_
    refine j_cV (As := []) (rest := [.int (nI k)]) cm_X2_puddleCount ci_X2_puddleCount cs_X2_puddleCount rfl ln_X2_37 (ci := 2) rfl dX2_changedFrom_6 (d' := 0) (by decide) hwn hw rfl rfl (Nat.le_of_ble_eq_true rfl) (Nat.le_of_ble_eq_true rfl) (s_X2_puddleCount W) ?_
    refine j_icmp_ge_f (tgt := 33) dX2_changedFrom_9 (by decide) (nI_nle' (by omega) (by omega) (by omega)) ?_
    refine j_aload_n dX2_changedFrom_12 rfl ?_
    refine j_get fl_X2_9 dX2_changedFrom_13 hwn hw rfl ?_
    refine j_iload_n dX2_changedFrom_16 rfl ?_
    refine j_iald dX2_changedFrom_17 hLn hL (by decide) (by omega) rfl ?_
    refine j_aload_n dX2_changedFrom_18 rfl ?_
    refine j_iload_n dX2_changedFrom_19 rfl ?_
    refine j_iald dX2_changedFrom_20 hrn hr (by decide) (by omega) rfl ?_
    refine j_icmp_eq (tgt := 27) dX2_changedFrom_21 (by decide) (fun hq => ?_) (fun hq => ?_)
    · skip
      refine j_iinc (v := nI (k + 1)) (L' := [some (.ref (ad w)), some (.ref (ad r)), some (.int c), some (.int (nI (k + 1)))]) dX2_changedFrom_27 (by decide) rfl (nI_1 _) rfl rfl ?_
      refine j_goto (tgt := 4) dX2_changedFrom_30 (by decide) ?_
      exact ih _ (by simp only [hq, if_true, if_false])
    · skip
      refine j_iinc (v := c + 1) (L' := [some (.ref (ad w)), some (.ref (ad r)), some (.int (c + 1)), some (.int (nI k))]) dX2_changedFrom_24 (by decide) rfl rfl rfl rfl ?_
      refine j_iinc (v := nI (k + 1)) (L' := [some (.ref (ad w)), some (.ref (ad r)), some (.int (c + 1)), some (.int (nI (k + 1)))]) dX2_changedFrom_27 (by decide) rfl (nI_1 _) rfl rfl ?_
      refine j_goto (tgt := 4) dX2_changedFrom_30 (by decide) ?_
      exact ih _ (by simp only [hq, if_true, if_false])
  · skip
    show J g mX2_changedFrom 1 0 0 4 [some (.ref (ad w)), some (.ref (ad r)), some (.int (lpf (fun k c => if lv k = row k then c else c + 1) 0 (F * S) 0)), some (.int (nI (F * S)))] [] n ad E Φ Ψ
    refine j_iload_n dX2_changedFrom_4 rfl ?_
    refine j_aload_n dX2_changedFrom_5 rfl ?_
    refine j_cV (As := []) (rest := [.int (nI (F * S))]) cm_X2_puddleCount ci_X2_puddleCount cs_X2_puddleCount rfl ln_X2_37 (ci := 2) rfl dX2_changedFrom_6 (d' := 0) (by decide) hwn hw rfl rfl (Nat.le_of_ble_eq_true rfl) (Nat.le_of_ble_eq_true rfl) (s_X2_puddleCount W) ?_
    refine j_icmp_ge_t (tgt := 33) dX2_changedFrom_9 (by decide) (nI_le' (by omega) (by omega) (by omega)) ?_
    refine j_iload_n dX2_changedFrom_33 rfl ?_
    exact j_iret dX2_changedFrom_34 rfl h
theorem cpyN_step (row lv : Nat → Int32) (k : Nat) : upd (cpyN row lv k) k (row k) = cpyN row lv (k + 1) := by
  funext j
  unfold upd cpyN
  by_cases h : j = k
  · subst h
    rw [if_pos rfl, if_pos (Nat.lt_succ_self _)]
  · rw [if_neg h]
    by_cases q : j < k
    · rw [if_pos q, if_pos (by omega)]
    · rw [if_neg q, if_neg (by omega)]
set_option maxRecDepth 100000 in
set_option maxHeartbeats 4000000 in
theorem s_X2_takeFrom {g : jG} {n : Nat} {ad : Nat → Nat} {E : Nat → va_E} {w iL iE F S : Nat} {su : Int32} {lv ed : Nat → Int32} (W : wat g n ad E w iL iE F S su lv ed) {r : Nat} {row : Nat → Int32} (hrn : r < n) (hr : E r = aI g 128 row) (hrL : r ≠ iL) : Ret g mX2_takeFrom 2 [.ref (ad w), .ref (ad r)] n ad E (some (.int (chgC lv row (F * S)))) (va_up E iL (aI g 128 (cpyN row lv (F * S)))) := by
  obtain ⟨⟨hwn, hLn, hEn⟩, ⟨hwL, hwE, hLE⟩, hw, hL, hE0, hF, hS⟩ := id W
  have hFS := fs128 hF hS
  intro Φ Ψ h
  show J g mX2_takeFrom 2 0 0 0 [some (.ref (ad w)), some (.ref (ad r)), none, none] [] n ad E Φ Ψ
  refine j_aload_n dX2_takeFrom_0 rfl ?_
  refine j_aload_n dX2_takeFrom_1 rfl ?_
  refine j_cV (As := [.ref (ad r)]) (rest := []) cm_X2_changedFrom ci_X2_changedFrom cs_X2_changedFrom rfl ln_X2_44 (ci := 2) rfl dX2_takeFrom_2 (d' := 1) (by decide) hwn hw rfl rfl (Nat.le_of_ble_eq_true rfl) (Nat.le_of_ble_eq_true rfl) (s_X2_changedFrom W hrn hr) ?_
  refine j_istore_n (L' := [some (.ref (ad w)), some (.ref (ad r)), some (.int (chgC lv row (F * S))), none]) dX2_takeFrom_5 (by decide) rfl rfl ?_
  refine j_iconst (v := nI 0) dX2_takeFrom_6 (by decide) ?_
  refine j_istore_n (L' := [some (.ref (ad w)), some (.ref (ad r)), some (.int (chgC lv row (F * S))), some (.int (nI 0))]) dX2_takeFrom_7 (by decide) rfl rfl ?_
  refine j_E (E' := va_up E iL (aI g 128 (cpyN row lv 0))) (up_self (by rw [hL]; exact congrArg (aI g 128) (funext fun j => (if_neg (Nat.not_lt_zero j)).symm))).symm ?_
  refine up_ind (P := fun (k : Nat) => J g mX2_takeFrom 2 0 0 8 [some (.ref (ad w)), some (.ref (ad r)), some (.int (chgC lv row (F * S))), some (.int (nI k))] [] n ad (va_up E iL (aI g 128 (cpyN row lv k))) Φ Ψ) (N := F * S) 0 ?_ (F * S) (by omega) ?_
  · intro k hk0 hk ih
    show J g mX2_takeFrom 2 0 0 8 [some (.ref (ad w)), some (.ref (ad r)), some (.int (chgC lv row (F * S))), some (.int (nI k))] [] n ad (va_up E iL (aI g 128 (cpyN row lv k))) Φ Ψ
    refine j_iload_n dX2_takeFrom_8 rfl ?_
    refine j_aload_n dX2_takeFrom_9 rfl ?_
    refine j_cV (As := []) (rest := [.int (nI k)]) cm_X2_puddleCount ci_X2_puddleCount cs_X2_puddleCount rfl ln_X2_37 (ci := 2) rfl dX2_takeFrom_10 (d' := 0) (by decide) hwn ((up_ne hwL).trans hw) rfl rfl (Nat.le_of_ble_eq_true rfl) (Nat.le_of_ble_eq_true rfl) (s_X2_puddleCount (wat.setL W)) ?_
    refine j_icmp_ge_f (tgt := 31) dX2_takeFrom_13 (by decide) (nI_nle' (by omega) (by omega) (by omega)) ?_
    refine j_aload_n dX2_takeFrom_16 rfl ?_
    refine j_get fl_X2_9 dX2_takeFrom_17 hwn ((up_ne hwL).trans hw) rfl ?_
    refine j_iload_n dX2_takeFrom_20 rfl ?_
    refine j_aload_n dX2_takeFrom_21 rfl ?_
    refine j_iload_n dX2_takeFrom_22 rfl ?_
    refine j_iald dX2_takeFrom_23 hrn ((up_ne hrL).trans hr) (by decide) (by omega) rfl ?_
    refine j_iast (j := k) dX2_takeFrom_24 hLn up_eq (by decide) (by omega) ?_
    refine j_E up_up ?_
    refine j_iinc (v := nI (k + 1)) (L' := [some (.ref (ad w)), some (.ref (ad r)), some (.int (chgC lv row (F * S))), some (.int (nI (k + 1)))]) dX2_takeFrom_25 (by decide) rfl (nI_1 _) rfl rfl ?_
    refine j_goto (tgt := 8) dX2_takeFrom_28 (by decide) ?_
    exact j_E (congrArg (fun f => va_up E iL (aI g 128 f)) (cpyN_step row lv k)) ih
  · skip
    show J g mX2_takeFrom 2 0 0 8 [some (.ref (ad w)), some (.ref (ad r)), some (.int (chgC lv row (F * S))), some (.int (nI (F * S)))] [] n ad (va_up E iL (aI g 128 (cpyN row lv (F * S)))) Φ Ψ
    refine j_iload_n dX2_takeFrom_8 rfl ?_
    refine j_aload_n dX2_takeFrom_9 rfl ?_
    refine j_cV (As := []) (rest := [.int (nI (F * S))]) cm_X2_puddleCount ci_X2_puddleCount cs_X2_puddleCount rfl ln_X2_37 (ci := 2) rfl dX2_takeFrom_10 (d' := 0) (by decide) hwn ((up_ne hwL).trans hw) rfl rfl (Nat.le_of_ble_eq_true rfl) (Nat.le_of_ble_eq_true rfl) (s_X2_puddleCount (wat.setL W)) ?_
    refine j_icmp_ge_t (tgt := 31) dX2_takeFrom_13 (by decide) (nI_le' (by omega) (by omega) (by omega)) ?_
    refine j_iload_n dX2_takeFrom_31 rfl ?_
    exact j_iret dX2_takeFrom_32 rfl h
set_option maxRecDepth 100000 in
set_option maxHeartbeats 4000000 in
theorem s_X2_alikeSteps {g : jG} {n : Nat} {ad : Nat → Nat} {E : Nat → va_E} {w iL iE F S : Nat} {su : Int32} {lv ed : Nat → Int32} (W : wat g n ad E w iL iE F S su lv ed) (a b : Nat) (ha : a < F) (hb : b < F) : Ret g mX2_alikeSteps 2 [.ref (ad w), .int (nI a), .int (nI b)] n ad E (some (.int (alkC lv S a b))) E := by
  obtain ⟨⟨hwn, hLn, hEn⟩, ⟨hwL, hwE, hLE⟩, hw, hL, hE0, hF, hS⟩ := id W
  intro Φ Ψ h
  show J g mX2_alikeSteps 2 0 0 0 [some (.ref (ad w)), some (.int (nI a)), some (.int (nI b)), none, none] [] n ad E Φ Ψ
  refine j_iconst (v := 0) dX2_alikeSteps_0 (by decide) ?_
  refine j_istore_n (L' := [some (.ref (ad w)), some (.int (nI a)), some (.int (nI b)), some (.int 0), none]) dX2_alikeSteps_1 (by decide) rfl rfl ?_
  refine j_iconst (v := nI 0) dX2_alikeSteps_2 (by decide) ?_
  refine j_istore (L' := [some (.ref (ad w)), some (.int (nI a)), some (.int (nI b)), some (.int 0), some (.int (nI 0))]) dX2_alikeSteps_3 (by decide) rfl rfl ?_
  refine lpf_ind (b := fun s c => if lv (a * S + s) = lv (b * S + s) then c + 1 else c) (P := fun (k : Nat) (c : Int32) => J g mX2_alikeSteps 2 0 0 5 [some (.ref (ad w)), some (.int (nI a)), some (.int (nI b)), some (.int c), some (.int (nI k))] [] n ad E Φ Ψ) (N := S) 0 ?_ S 0 (by omega) ?_
  · intro k c hk0 hk ih
    show J g mX2_alikeSteps 2 0 0 5 [some (.ref (ad w)), some (.int (nI a)), some (.int (nI b)), some (.int c), some (.int (nI k))] [] n ad E Φ Ψ
    refine j_iload dX2_alikeSteps_5 rfl ?_
    refine j_aload_n dX2_alikeSteps_7 rfl ?_
    refine j_get fl_X2_31 dX2_alikeSteps_8 hwn hw rfl ?_
    refine j_icmp_ge_f (tgt := 40) dX2_alikeSteps_11 (by decide) (nI_nle' (by omega) (by omega) (by omega)) ?_
    refine j_aload_n dX2_alikeSteps_14 rfl ?_
    refine j_iload_n dX2_alikeSteps_15 rfl ?_
    refine j_iload dX2_alikeSteps_16 rfl ?_
    refine j_cV (As := [.int (nI a), .int (nI k)]) (rest := []) cm_X2_level ci_X2_level cs_X2_level rfl ln_X2_48 (ci := 2) rfl dX2_alikeSteps_18 (d' := 1) (by decide) hwn hw rfl rfl (Nat.le_of_ble_eq_true rfl) (Nat.le_of_ble_eq_true rfl) (s_X2_level W a k (ix128 hF hS ha hk)) ?_
    refine j_aload_n dX2_alikeSteps_21 rfl ?_
    refine j_iload_n dX2_alikeSteps_22 rfl ?_
    refine j_iload dX2_alikeSteps_23 rfl ?_
    refine j_cV (As := [.int (nI b), .int (nI k)]) (rest := [.int (lv (a * S + k))]) cm_X2_level ci_X2_level cs_X2_level rfl ln_X2_48 (ci := 2) rfl dX2_alikeSteps_25 (d' := 1) (by decide) hwn hw rfl rfl (Nat.le_of_ble_eq_true rfl) (Nat.le_of_ble_eq_true rfl) (s_X2_level W b k (ix128 hF hS hb hk)) ?_
    refine j_icmp_ne (tgt := 34) dX2_alikeSteps_28 (by decide) (fun hq => ?_) (fun hq => ?_)
    · skip
      refine j_iinc (v := nI (k + 1)) (L' := [some (.ref (ad w)), some (.int (nI a)), some (.int (nI b)), some (.int c), some (.int (nI (k + 1)))]) dX2_alikeSteps_34 (by decide) rfl (nI_1 _) rfl rfl ?_
      refine j_goto (tgt := 5) dX2_alikeSteps_37 (by decide) ?_
      exact ih _ (by simp only [hq, if_true, if_false])
    · skip
      refine j_iinc (v := c + 1) (L' := [some (.ref (ad w)), some (.int (nI a)), some (.int (nI b)), some (.int (c + 1)), some (.int (nI k))]) dX2_alikeSteps_31 (by decide) rfl rfl rfl rfl ?_
      refine j_iinc (v := nI (k + 1)) (L' := [some (.ref (ad w)), some (.int (nI a)), some (.int (nI b)), some (.int (c + 1)), some (.int (nI (k + 1)))]) dX2_alikeSteps_34 (by decide) rfl (nI_1 _) rfl rfl ?_
      refine j_goto (tgt := 5) dX2_alikeSteps_37 (by decide) ?_
      exact ih _ (by simp only [hq, if_true, if_false])
  · skip
    show J g mX2_alikeSteps 2 0 0 5 [some (.ref (ad w)), some (.int (nI a)), some (.int (nI b)), some (.int (lpf (fun s c => if lv (a * S + s) = lv (b * S + s) then c + 1 else c) 0 S 0)), some (.int (nI S))] [] n ad E Φ Ψ
    refine j_iload dX2_alikeSteps_5 rfl ?_
    refine j_aload_n dX2_alikeSteps_7 rfl ?_
    refine j_get fl_X2_31 dX2_alikeSteps_8 hwn hw rfl ?_
    refine j_icmp_ge_t (tgt := 40) dX2_alikeSteps_11 (by decide) (nI_le' (by omega) (by omega) (by omega)) ?_
    refine j_iload_n dX2_alikeSteps_40 rfl ?_
    exact j_iret dX2_alikeSteps_41 rfl h
set_option maxRecDepth 100000 in
set_option maxHeartbeats 4000000 in
theorem s_X2_partSum {g : jG} {n : Nat} {ad : Nat → Nat} {E : Nat → va_E} {w iL iE F S : Nat} {su : Int32} {lv ed : Nat → Int32} (W : wat g n ad E w iL iE F S su lv ed) (fa sa fb sb : Nat) (hfa : fa < F) (hsa : sa < S) (hfb : fb < F) (hsb : sb < S) : Ret g mX2_partSum 2 [.ref (ad w), .int (nI fa), .int (nI sa), .int (nI fb), .int (nI sb)] n ad E (some (.long (sumP lv S fa sa fb sb))) E := by
  obtain ⟨⟨hwn, hLn, hEn⟩, ⟨hwL, hwE, hLE⟩, hw, hL, hE0, hF, hS⟩ := id W
  intro Φ Ψ h
  show J g mX2_partSum 2 0 0 0 [some (.ref (ad w)), some (.int (nI fa)), some (.int (nI sa)), some (.int (nI fb)), some (.int (nI sb)), none, none, none, none] [] n ad E Φ Ψ
  refine j_lconst (v := 0) dX2_partSum_0 rfl ?_
  refine j_lstore (L' := [some (.ref (ad w)), some (.int (nI fa)), some (.int (nI sa)), some (.int (nI fb)), some (.int (nI sb)), some (.long 0), none, none, none]) dX2_partSum_1 (by decide) rfl rfl ?_
  refine j_iload_n dX2_partSum_3 rfl ?_
  refine j_istore (L' := [some (.ref (ad w)), some (.int (nI fa)), some (.int (nI sa)), some (.int (nI fb)), some (.int (nI sb)), some (.long 0), none, some (.int (nI fa)), none]) dX2_partSum_4 (by decide) rfl rfl ?_
  refine lpf_ind (b := fun f x => lpf (fun s x => x + (lv (f * S + s)).toInt64) sa (sb + 1 - sa) x) (P := fun (f : Nat) (x : Int64) => J g mX2_partSum 2 0 0 6 [some (.ref (ad w)), some (.int (nI fa)), some (.int (nI sa)), some (.int (nI fb)), some (.int (nI sb)), some (.long x), none, some (.int (nI f)), none] [] n ad E Φ Ψ) (N := fa + (fb + 1 - fa)) fa ?_ (fb + 1 - fa) 0 (by omega) ?_
  · intro f x hf0 hf ih
    show J g mX2_partSum 2 0 0 6 [some (.ref (ad w)), some (.int (nI fa)), some (.int (nI sa)), some (.int (nI fb)), some (.int (nI sb)), some (.long x), none, some (.int (nI f)), none] [] n ad E Φ Ψ
    refine j_iload dX2_partSum_6 rfl ?_
    refine j_iload_n dX2_partSum_8 rfl ?_
    refine j_icmp_gt_f (tgt := 48) dX2_partSum_9 (by decide) (nI_nlt' (by omega) (by omega) (by omega)) ?_
    refine j_iload_n dX2_partSum_12 rfl ?_
    refine j_istore (L' := [some (.ref (ad w)), some (.int (nI fa)), some (.int (nI sa)), some (.int (nI fb)), some (.int (nI sb)), some (.long x), none, some (.int (nI f)), some (.int (nI sa))]) dX2_partSum_13 (by decide) rfl rfl ?_
    have ih0 := ih
    clear ih
    refine lpf_ind (b := fun s x => x + (lv (f * S + s)).toInt64) (P := fun (s : Nat) (x : Int64) => J g mX2_partSum 2 0 0 15 [some (.ref (ad w)), some (.int (nI fa)), some (.int (nI sa)), some (.int (nI fb)), some (.int (nI sb)), some (.long x), none, some (.int (nI f)), some (.int (nI s))] [] n ad E Φ Ψ) (N := sa + (sb + 1 - sa)) sa ?_ (sb + 1 - sa) x (by omega) ?_
    · intro s x hs0 hs ih
      show J g mX2_partSum 2 0 0 15 [some (.ref (ad w)), some (.int (nI fa)), some (.int (nI sa)), some (.int (nI fb)), some (.int (nI sb)), some (.long x), none, some (.int (nI f)), some (.int (nI s))] [] n ad E Φ Ψ
      refine j_iload dX2_partSum_15 rfl ?_
      refine j_iload dX2_partSum_17 rfl ?_
      refine j_icmp_gt_f (tgt := 42) dX2_partSum_19 (by decide) (nI_nlt' (by omega) (by omega) (by omega)) ?_
      refine j_lload dX2_partSum_22 rfl ?_
      refine j_aload_n dX2_partSum_24 rfl ?_
      refine j_iload dX2_partSum_25 rfl ?_
      refine j_iload dX2_partSum_27 rfl ?_
      refine j_cV (As := [.int (nI f), .int (nI s)]) (rest := [.long x]) cm_X2_level ci_X2_level cs_X2_level rfl ln_X2_48 (ci := 2) rfl dX2_partSum_29 (d' := 1) (by decide) hwn hw rfl rfl (Nat.le_of_ble_eq_true rfl) (Nat.le_of_ble_eq_true rfl) (s_X2_level W f s (ix128 hF hS (show f < F by omega) (show s < S by omega))) ?_
      refine j_i2l dX2_partSum_32 ?_
      refine j_ladd dX2_partSum_33 ?_
      refine j_lstore (L' := [some (.ref (ad w)), some (.int (nI fa)), some (.int (nI sa)), some (.int (nI fb)), some (.int (nI sb)), some (.long (x + ((lv (f * S + s)).toInt64))), none, some (.int (nI f)), some (.int (nI s))]) dX2_partSum_34 (by decide) rfl rfl ?_
      refine j_iinc (v := nI (s + 1)) (L' := [some (.ref (ad w)), some (.int (nI fa)), some (.int (nI sa)), some (.int (nI fb)), some (.int (nI sb)), some (.long (x + ((lv (f * S + s)).toInt64))), none, some (.int (nI f)), some (.int (nI (s + 1)))]) dX2_partSum_36 (by decide) rfl (nI_1 _) rfl rfl ?_
      refine j_goto (tgt := 15) dX2_partSum_39 (by decide) ?_
      exact ih _ (by first | rfl | simp only [hq, if_true, if_false])
    · skip
      show J g mX2_partSum 2 0 0 15 [some (.ref (ad w)), some (.int (nI fa)), some (.int (nI sa)), some (.int (nI fb)), some (.int (nI sb)), some (.long (lpf (fun s x => x + (lv (f * S + s)).toInt64) sa (sb + 1 - sa) x)), none, some (.int (nI f)), some (.int (nI (sa + (sb + 1 - sa))))] [] n ad E Φ Ψ
      refine j_iload dX2_partSum_15 rfl ?_
      refine j_iload dX2_partSum_17 rfl ?_
      refine j_icmp_gt_t (tgt := 42) dX2_partSum_19 (by decide) (nI_lt' (by omega) (by omega) (by omega)) ?_
      refine j_iinc (v := nI (f + 1)) (L' := [some (.ref (ad w)), some (.int (nI fa)), some (.int (nI sa)), some (.int (nI fb)), some (.int (nI sb)), some (.long (lpf (fun s x => x + (lv (f * S + s)).toInt64) sa (sb + 1 - sa) x)), none, some (.int (nI (f + 1))), some (.int (nI (sa + (sb + 1 - sa))))]) dX2_partSum_42 (by decide) rfl (nI_1 _) rfl rfl ?_
      refine j_goto (tgt := 6) dX2_partSum_45 (by decide) ?_
      refine j_clr 8 ?_
      exact ih0 _ rfl
  · skip
    show J g mX2_partSum 2 0 0 6 [some (.ref (ad w)), some (.int (nI fa)), some (.int (nI sa)), some (.int (nI fb)), some (.int (nI sb)), some (.long (lpf (fun f x => lpf (fun s x => x + (lv (f * S + s)).toInt64) sa (sb + 1 - sa) x) fa (fb + 1 - fa) 0)), none, some (.int (nI (fa + (fb + 1 - fa)))), none] [] n ad E Φ Ψ
    refine j_iload dX2_partSum_6 rfl ?_
    refine j_iload_n dX2_partSum_8 rfl ?_
    refine j_icmp_gt_t (tgt := 48) dX2_partSum_9 (by decide) (nI_lt' (by omega) (by omega) (by omega)) ?_
    refine j_lload dX2_partSum_48 rfl ?_
    exact j_lret dX2_partSum_50 rfl h
set_option maxRecDepth 100000 in
set_option maxHeartbeats 4000000 in
theorem s_X2_dryInPart {g : jG} {n : Nat} {ad : Nat → Nat} {E : Nat → va_E} {w iL iE F S : Nat} {su : Int32} {lv ed : Nat → Int32} (W : wat g n ad E w iL iE F S su lv ed) (fa sa fb sb : Nat) (hfa : fa < F) (hsa : sa < S) (hfb : fb < F) (hsb : sb < S) : Ret g mX2_dryInPart 2 [.ref (ad w), .int (nI fa), .int (nI sa), .int (nI fb), .int (nI sb)] n ad E (some (.int (dryP lv S fa sa fb sb))) E := by
  obtain ⟨⟨hwn, hLn, hEn⟩, ⟨hwL, hwE, hLE⟩, hw, hL, hE0, hF, hS⟩ := id W
  intro Φ Ψ h
  show J g mX2_dryInPart 2 0 0 0 [some (.ref (ad w)), some (.int (nI fa)), some (.int (nI sa)), some (.int (nI fb)), some (.int (nI sb)), none, none, none] [] n ad E Φ Ψ
  refine j_iconst (v := 0) dX2_dryInPart_0 (by decide) ?_
  refine j_istore (L' := [some (.ref (ad w)), some (.int (nI fa)), some (.int (nI sa)), some (.int (nI fb)), some (.int (nI sb)), some (.int 0), none, none]) dX2_dryInPart_1 (by decide) rfl rfl ?_
  refine j_iload_n dX2_dryInPart_3 rfl ?_
  refine j_istore (L' := [some (.ref (ad w)), some (.int (nI fa)), some (.int (nI sa)), some (.int (nI fb)), some (.int (nI sb)), some (.int 0), some (.int (nI fa)), none]) dX2_dryInPart_4 (by decide) rfl rfl ?_
  refine lpf_ind (b := fun f x => lpf (fun s x => if 0 < lv (f * S + s) then x else x + 1) sa (sb + 1 - sa) x) (P := fun (f : Nat) (x : Int32) => J g mX2_dryInPart 2 0 0 6 [some (.ref (ad w)), some (.int (nI fa)), some (.int (nI sa)), some (.int (nI fb)), some (.int (nI sb)), some (.int x), some (.int (nI f)), none] [] n ad E Φ Ψ) (N := fa + (fb + 1 - fa)) fa ?_ (fb + 1 - fa) 0 (by omega) ?_
  · intro f x hf0 hf ih
    show J g mX2_dryInPart 2 0 0 6 [some (.ref (ad w)), some (.int (nI fa)), some (.int (nI sa)), some (.int (nI fb)), some (.int (nI sb)), some (.int x), some (.int (nI f)), none] [] n ad E Φ Ψ
    refine j_iload dX2_dryInPart_6 rfl ?_
    refine j_iload_n dX2_dryInPart_8 rfl ?_
    refine j_icmp_gt_f (tgt := 48) dX2_dryInPart_9 (by decide) (nI_nlt' (by omega) (by omega) (by omega)) ?_
    refine j_iload_n dX2_dryInPart_12 rfl ?_
    refine j_istore (L' := [some (.ref (ad w)), some (.int (nI fa)), some (.int (nI sa)), some (.int (nI fb)), some (.int (nI sb)), some (.int x), some (.int (nI f)), some (.int (nI sa))]) dX2_dryInPart_13 (by decide) rfl rfl ?_
    have ih0 := ih
    clear ih
    refine lpf_ind (b := fun s x => if 0 < lv (f * S + s) then x else x + 1) (P := fun (s : Nat) (x : Int32) => J g mX2_dryInPart 2 0 0 15 [some (.ref (ad w)), some (.int (nI fa)), some (.int (nI sa)), some (.int (nI fb)), some (.int (nI sb)), some (.int x), some (.int (nI f)), some (.int (nI s))] [] n ad E Φ Ψ) (N := sa + (sb + 1 - sa)) sa ?_ (sb + 1 - sa) x (by omega) ?_
    · intro s x hs0 hs ih
      show J g mX2_dryInPart 2 0 0 15 [some (.ref (ad w)), some (.int (nI fa)), some (.int (nI sa)), some (.int (nI fb)), some (.int (nI sb)), some (.int x), some (.int (nI f)), some (.int (nI s))] [] n ad E Φ Ψ
      refine j_iload dX2_dryInPart_15 rfl ?_
      refine j_iload dX2_dryInPart_17 rfl ?_
      refine j_icmp_gt_f (tgt := 42) dX2_dryInPart_19 (by decide) (nI_nlt' (by omega) (by omega) (by omega)) ?_
      refine j_aload_n dX2_dryInPart_22 rfl ?_
      refine j_iload dX2_dryInPart_23 rfl ?_
      refine j_iload dX2_dryInPart_25 rfl ?_
      refine j_cV (As := [.int (nI f), .int (nI s)]) (rest := []) cm_X2_level ci_X2_level cs_X2_level rfl ln_X2_48 (ci := 2) rfl dX2_dryInPart_27 (d' := 1) (by decide) hwn hw rfl rfl (Nat.le_of_ble_eq_true rfl) (Nat.le_of_ble_eq_true rfl) (s_X2_level W f s (ix128 hF hS (show f < F by omega) (show s < S by omega))) ?_
      refine j_if_gt (tgt := 36) dX2_dryInPart_30 (by decide) (fun hq => ?_) (fun hq => ?_)
      · skip
        refine j_iinc (v := nI (s + 1)) (L' := [some (.ref (ad w)), some (.int (nI fa)), some (.int (nI sa)), some (.int (nI fb)), some (.int (nI sb)), some (.int x), some (.int (nI f)), some (.int (nI (s + 1)))]) dX2_dryInPart_36 (by decide) rfl (nI_1 _) rfl rfl ?_
        refine j_goto (tgt := 15) dX2_dryInPart_39 (by decide) ?_
        exact ih _ (by first | rfl | simp only [hq, if_true, if_false])
      · skip
        refine j_iinc (v := x + 1) (L' := [some (.ref (ad w)), some (.int (nI fa)), some (.int (nI sa)), some (.int (nI fb)), some (.int (nI sb)), some (.int (x + 1)), some (.int (nI f)), some (.int (nI s))]) dX2_dryInPart_33 (by decide) rfl rfl rfl rfl ?_
        refine j_iinc (v := nI (s + 1)) (L' := [some (.ref (ad w)), some (.int (nI fa)), some (.int (nI sa)), some (.int (nI fb)), some (.int (nI sb)), some (.int (x + 1)), some (.int (nI f)), some (.int (nI (s + 1)))]) dX2_dryInPart_36 (by decide) rfl (nI_1 _) rfl rfl ?_
        refine j_goto (tgt := 15) dX2_dryInPart_39 (by decide) ?_
        exact ih _ (by first | rfl | simp only [hq, if_true, if_false])
    · skip
      show J g mX2_dryInPart 2 0 0 15 [some (.ref (ad w)), some (.int (nI fa)), some (.int (nI sa)), some (.int (nI fb)), some (.int (nI sb)), some (.int (lpf (fun s x => if 0 < lv (f * S + s) then x else x + 1) sa (sb + 1 - sa) x)), some (.int (nI f)), some (.int (nI (sa + (sb + 1 - sa))))] [] n ad E Φ Ψ
      refine j_iload dX2_dryInPart_15 rfl ?_
      refine j_iload dX2_dryInPart_17 rfl ?_
      refine j_icmp_gt_t (tgt := 42) dX2_dryInPart_19 (by decide) (nI_lt' (by omega) (by omega) (by omega)) ?_
      refine j_iinc (v := nI (f + 1)) (L' := [some (.ref (ad w)), some (.int (nI fa)), some (.int (nI sa)), some (.int (nI fb)), some (.int (nI sb)), some (.int (lpf (fun s x => if 0 < lv (f * S + s) then x else x + 1) sa (sb + 1 - sa) x)), some (.int (nI (f + 1))), some (.int (nI (sa + (sb + 1 - sa))))]) dX2_dryInPart_42 (by decide) rfl (nI_1 _) rfl rfl ?_
      refine j_goto (tgt := 6) dX2_dryInPart_45 (by decide) ?_
      refine j_clr 7 ?_
      exact ih0 _ rfl
  · skip
    show J g mX2_dryInPart 2 0 0 6 [some (.ref (ad w)), some (.int (nI fa)), some (.int (nI sa)), some (.int (nI fb)), some (.int (nI sb)), some (.int (lpf (fun f x => lpf (fun s x => if 0 < lv (f * S + s) then x else x + 1) sa (sb + 1 - sa) x) fa (fb + 1 - fa) 0)), some (.int (nI (fa + (fb + 1 - fa)))), none] [] n ad E Φ Ψ
    refine j_iload dX2_dryInPart_6 rfl ?_
    refine j_iload_n dX2_dryInPart_8 rfl ?_
    refine j_icmp_gt_t (tgt := 48) dX2_dryInPart_9 (by decide) (nI_lt' (by omega) (by omega) (by omega)) ?_
    refine j_iload dX2_dryInPart_48 rfl ?_
    exact j_iret dX2_dryInPart_50 rfl h
set_option maxRecDepth 100000 in
set_option maxHeartbeats 4000000 in
theorem s_X2_wholeSum {g : jG} {n : Nat} {ad : Nat → Nat} {E : Nat → va_E} {w iL iE F S : Nat} {su : Int32} {lv ed : Nat → Int32} (W : wat g n ad E w iL iE F S su lv ed) (h1 : 1 ≤ F) (h2 : 1 ≤ S) : Ret g mX2_wholeSum 3 [.ref (ad w)] n ad E (some (.long (sumP lv S 0 0 (F - 1) (S - 1)))) E := by
  obtain ⟨⟨hwn, hLn, hEn⟩, ⟨hwL, hwE, hLE⟩, hw, hL, hE0, hF, hS⟩ := id W
  intro Φ Ψ h
  show J g mX2_wholeSum 3 0 0 0 [some (.ref (ad w))] [] n ad E Φ Ψ
  refine j_aload_n dX2_wholeSum_0 rfl ?_
  refine j_iconst (v := nI 0) dX2_wholeSum_1 (by decide) ?_
  refine j_iconst (v := nI 0) dX2_wholeSum_2 (by decide) ?_
  refine j_aload_n dX2_wholeSum_3 rfl ?_
  refine j_get fl_X2_27 dX2_wholeSum_4 hwn hw rfl ?_
  refine j_iconst (v := 1) dX2_wholeSum_7 (by decide) ?_
  refine j_isub dX2_wholeSum_8 ?_
  refine j_topi (y := nI (F - 1)) (pk_sub (by omega)) ?_
  refine j_aload_n dX2_wholeSum_9 rfl ?_
  refine j_get fl_X2_31 dX2_wholeSum_10 hwn hw rfl ?_
  refine j_iconst (v := 1) dX2_wholeSum_13 (by decide) ?_
  refine j_isub dX2_wholeSum_14 ?_
  refine j_topi (y := nI (S - 1)) (pk_sub (by omega)) ?_
  refine j_cV (As := [.int (nI 0), .int (nI 0), .int (nI (F - 1)), .int (nI (S - 1))]) (rest := []) cm_X2_partSum ci_X2_partSum cs_X2_partSum rfl ln_X2_51 (ci := 2) rfl dX2_wholeSum_15 (d' := 2) (by decide) hwn hw rfl rfl (Nat.le_of_ble_eq_true rfl) (Nat.le_of_ble_eq_true rfl) (s_X2_partSum W 0 0 (F - 1) (S - 1) (by omega) (by omega) (by omega) (by omega)) ?_
  exact j_lret dX2_wholeSum_18 rfl h
set_option maxRecDepth 100000 in
set_option maxHeartbeats 4000000 in
theorem s_X2_upToLevel {g : jG} {n : Nat} {ad : Nat → Nat} {E : Nat → va_E} {w iL iE F S : Nat} {su : Int32} {lv ed : Nat → Int32} (W : wat g n ad E w iL iE F S su lv ed) (lev : Int32) : Ret g mX2_upToLevel 1 [.ref (ad w), .int lev] n ad E (some (.int (uptC lv (F * S) lev))) E := by
  obtain ⟨⟨hwn, hLn, hEn⟩, ⟨hwL, hwE, hLE⟩, hw, hL, hE0, hF, hS⟩ := id W
  have hFS := fs128 hF hS
  intro Φ Ψ h
  show J g mX2_upToLevel 1 0 0 0 [some (.ref (ad w)), some (.int lev), none, none] [] n ad E Φ Ψ
  refine j_iconst (v := 0) dX2_upToLevel_0 (by decide) ?_
  refine j_istore_n (L' := [some (.ref (ad w)), some (.int lev), some (.int 0), none]) dX2_upToLevel_1 (by decide) rfl rfl ?_
  refine j_iconst (v := nI 0) dX2_upToLevel_2 (by decide) ?_
  refine j_istore_n (L' := [some (.ref (ad w)), some (.int lev), some (.int 0), some (.int (nI 0))]) dX2_upToLevel_3 (by decide) rfl rfl ?_
  refine lpf_ind (b := fun k c => if lev < lv k then c else c + 1) (P := fun (k : Nat) (c : Int32) => J g mX2_upToLevel 1 0 0 4 [some (.ref (ad w)), some (.int lev), some (.int c), some (.int (nI k))] [] n ad E Φ Ψ) (N := F * S) 0 ?_ (F * S) 0 (by omega) ?_
  · intro k c hk0 hk ih
    show J g mX2_upToLevel 1 0 0 4 [some (.ref (ad w)), some (.int lev), some (.int c), some (.int (nI k))] [] n ad E Φ Ψ
    refine j_iload_n dX2_upToLevel_4 rfl ?_
    refine j_aload_n dX2_upToLevel_5 rfl ?_
    refine j_cV (As := []) (rest := [.int (nI k)]) cm_X2_puddleCount ci_X2_puddleCount cs_X2_puddleCount rfl ln_X2_37 (ci := 2) rfl dX2_upToLevel_6 (d' := 0) (by decide) hwn hw rfl rfl (Nat.le_of_ble_eq_true rfl) (Nat.le_of_ble_eq_true rfl) (s_X2_puddleCount W) ?_
    refine j_icmp_ge_f (tgt := 31) dX2_upToLevel_9 (by decide) (nI_nle' (by omega) (by omega) (by omega)) ?_
    refine j_aload_n dX2_upToLevel_12 rfl ?_
    refine j_get fl_X2_9 dX2_upToLevel_13 hwn hw rfl ?_
    refine j_iload_n dX2_upToLevel_16 rfl ?_
    refine j_iald dX2_upToLevel_17 hLn hL (by decide) (by omega) rfl ?_
    refine j_iload_n dX2_upToLevel_18 rfl ?_
    refine j_icmp_gt (tgt := 25) dX2_upToLevel_19 (by decide) (fun hq => ?_) (fun hq => ?_)
    · skip
      refine j_iinc (v := nI (k + 1)) (L' := [some (.ref (ad w)), some (.int lev), some (.int c), some (.int (nI (k + 1)))]) dX2_upToLevel_25 (by decide) rfl (nI_1 _) rfl rfl ?_
      refine j_goto (tgt := 4) dX2_upToLevel_28 (by decide) ?_
      exact ih _ (by simp only [hq, if_true, if_false])
    · skip
      refine j_iinc (v := c + 1) (L' := [some (.ref (ad w)), some (.int lev), some (.int (c + 1)), some (.int (nI k))]) dX2_upToLevel_22 (by decide) rfl rfl rfl rfl ?_
      refine j_iinc (v := nI (k + 1)) (L' := [some (.ref (ad w)), some (.int lev), some (.int (c + 1)), some (.int (nI (k + 1)))]) dX2_upToLevel_25 (by decide) rfl (nI_1 _) rfl rfl ?_
      refine j_goto (tgt := 4) dX2_upToLevel_28 (by decide) ?_
      exact ih _ (by simp only [hq, if_true, if_false])
  · skip
    show J g mX2_upToLevel 1 0 0 4 [some (.ref (ad w)), some (.int lev), some (.int (lpf (fun k c => if lev < lv k then c else c + 1) 0 (F * S) 0)), some (.int (nI (F * S)))] [] n ad E Φ Ψ
    refine j_iload_n dX2_upToLevel_4 rfl ?_
    refine j_aload_n dX2_upToLevel_5 rfl ?_
    refine j_cV (As := []) (rest := [.int (nI (F * S))]) cm_X2_puddleCount ci_X2_puddleCount cs_X2_puddleCount rfl ln_X2_37 (ci := 2) rfl dX2_upToLevel_6 (d' := 0) (by decide) hwn hw rfl rfl (Nat.le_of_ble_eq_true rfl) (Nat.le_of_ble_eq_true rfl) (s_X2_puddleCount W) ?_
    refine j_icmp_ge_t (tgt := 31) dX2_upToLevel_9 (by decide) (nI_le' (by omega) (by omega) (by omega)) ?_
    refine j_iload_n dX2_upToLevel_31 rfl ?_
    exact j_iret dX2_upToLevel_32 rfl h
set_option maxRecDepth 100000 in
set_option maxHeartbeats 4000000 in
theorem s_X2_allDry {g : jG} {n : Nat} {ad : Nat → Nat} {E : Nat → va_E} {w iL iE F S : Nat} {su : Int32} {lv ed : Nat → Int32} (W : wat g n ad E w iL iE F S su lv ed) : Ret g mX2_allDry 2 [.ref (ad w)] n ad E (some (.int (if uptC lv (F * S) 0 = nI (F * S) then 1 else 0))) E := by
  obtain ⟨⟨hwn, hLn, hEn⟩, ⟨hwL, hwE, hLE⟩, hw, hL, hE0, hF, hS⟩ := id W
  intro Φ Ψ h
  show J g mX2_allDry 2 0 0 0 [some (.ref (ad w))] [] n ad E Φ Ψ
  refine j_aload_n dX2_allDry_0 rfl ?_
  refine j_iconst (v := 0) dX2_allDry_1 (by decide) ?_
  refine j_cV (As := [.int 0]) (rest := []) cm_X2_upToLevel ci_X2_upToLevel cs_X2_upToLevel rfl ln_X2_55 (ci := 2) rfl dX2_allDry_2 (d' := 1) (by decide) hwn hw rfl rfl (Nat.le_of_ble_eq_true rfl) (Nat.le_of_ble_eq_true rfl) (s_X2_upToLevel W 0) ?_
  refine j_aload_n dX2_allDry_5 rfl ?_
  refine j_cV (As := []) (rest := [.int (uptC lv (F * S) 0)]) cm_X2_puddleCount ci_X2_puddleCount cs_X2_puddleCount rfl ln_X2_37 (ci := 2) rfl dX2_allDry_6 (d' := 0) (by decide) hwn hw rfl rfl (Nat.le_of_ble_eq_true rfl) (Nat.le_of_ble_eq_true rfl) (s_X2_puddleCount W) ?_
  refine j_icmp_ne (tgt := 16) dX2_allDry_9 (by decide) (fun hq => ?_) (fun hq => ?_)
  · skip
    refine j_iconst (v := 0) dX2_allDry_16 (by decide) ?_
    exact j_zret dX2_allDry_17 rfl rfl (by simpa only [hq, if_true, if_false] using h)
  · skip
    refine j_iconst (v := 1) dX2_allDry_12 (by decide) ?_
    refine j_goto (tgt := 17) dX2_allDry_13 (by decide) ?_
    exact j_zret dX2_allDry_17 rfl rfl (by simpa only [hq, if_true, if_false] using h)
theorem dryL_at (su : Int32) (lv : Nat → Int32) (k : Nat) : dryL su k lv k = lv k := if_neg (Nat.lt_irrefl k)
theorem dryL_up (su : Int32) (lv : Nat → Int32) (k : Nat) (x : Int32) (hx : x = dryv su (lv k)) : upd (dryL su k lv) k x = dryL su (k + 1) lv := by
  funext j
  unfold upd dryL
  by_cases h : j = k
  · subst h
    rw [if_pos rfl, if_pos (Nat.lt_succ_self _), hx]
  · rw [if_neg h]
    by_cases q : j < k
    · rw [if_pos q, if_pos (by omega)]
    · rw [if_neg q, if_neg (by omega)]
theorem dryL_step1 (su : Int32) (lv : Nat → Int32) (k : Nat) (hq : ¬ dryL su k lv k ≤ 0) : upd (dryL su k lv) k (if 0 < dryL su k lv k - su then dryL su k lv k - su else 0) = dryL su (k + 1) lv := by
  rw [dryL_at] at hq ⊢
  refine dryL_up su lv k _ ?_
  unfold dryv
  rw [if_neg hq]
theorem dryL_step2 (su : Int32) (lv : Nat → Int32) (k : Nat) (hq : dryL su k lv k ≤ 0) : dryL su k lv = dryL su (k + 1) lv := by
  rw [← dryL_up su lv k (lv k)]
  · funext j
    unfold upd
    split
    · rename_i h
      rw [h, dryL_at]
    · rfl
  · rw [dryL_at] at hq
    unfold dryv
    rw [if_pos hq]
set_option maxRecDepth 100000 in
set_option maxHeartbeats 4000000 in
theorem s_X2_dryUp {g : jG} {n : Nat} {ad : Nat → Nat} {E : Nat → va_E} {w iL iE F S : Nat} {su : Int32} {lv ed : Nat → Int32} (W : wat g n ad E w iL iE F S su lv ed) : Ret g mX2_dryUp 1 [.ref (ad w)] n ad E none (va_up E iL (aI g 128 (dryL su (F * S) lv))) := by
  obtain ⟨⟨hwn, hLn, hEn⟩, ⟨hwL, hwE, hLE⟩, hw, hL, hE0, hF, hS⟩ := id W
  have hFS := fs128 hF hS
  intro Φ Ψ h
  show J g mX2_dryUp 1 0 0 0 [some (.ref (ad w)), none, none, none] [] n ad E Φ Ψ
  refine j_aload_n dX2_dryUp_0 rfl ?_
  refine j_cV (As := []) (rest := []) cm_X2_puddleCount ci_X2_puddleCount cs_X2_puddleCount rfl ln_X2_37 (ci := 2) rfl dX2_dryUp_1 (d' := 0) (by decide) hwn hw rfl rfl (Nat.le_of_ble_eq_true rfl) (Nat.le_of_ble_eq_true rfl) (s_X2_puddleCount W) ?_
  refine j_istore_n (L' := [some (.ref (ad w)), some (.int (nI (F * S))), none, none]) dX2_dryUp_4 (by decide) rfl rfl ?_
  refine j_iconst (v := nI 0) dX2_dryUp_5 (by decide) ?_
  refine j_istore_n (L' := [some (.ref (ad w)), some (.int (nI (F * S))), some (.int (nI 0)), none]) dX2_dryUp_6 (by decide) rfl rfl ?_
  refine j_E (E' := va_up E iL (aI g 128 (dryL su 0 lv))) (up_self (by rw [hL]; exact congrArg (aI g 128) (funext fun j => (if_neg (Nat.not_lt_zero j)).symm))).symm ?_
  refine up_ind (P := fun (k : Nat) => J g mX2_dryUp 1 0 0 7 [some (.ref (ad w)), some (.int (nI (F * S))), some (.int (nI k)), none] [] n ad (va_up E iL (aI g 128 (dryL su k lv))) Φ Ψ) (N := F * S) 0 ?_ (F * S) (by omega) ?_
  · intro k hk0 hk ih
    show J g mX2_dryUp 1 0 0 7 [some (.ref (ad w)), some (.int (nI (F * S))), some (.int (nI k)), none] [] n ad (va_up E iL (aI g 128 (dryL su k lv))) Φ Ψ
    refine j_iload_n dX2_dryUp_7 rfl ?_
    refine j_iload_n dX2_dryUp_8 rfl ?_
    refine j_icmp_ge_f (tgt := 45) dX2_dryUp_9 (by decide) (nI_nle' (by omega) (by omega) (by omega)) ?_
    refine j_aload_n dX2_dryUp_12 rfl ?_
    refine j_get fl_X2_9 dX2_dryUp_13 hwn ((up_ne hwL).trans hw) rfl ?_
    refine j_iload_n dX2_dryUp_16 rfl ?_
    refine j_iald dX2_dryUp_17 hLn up_eq (by decide) (by omega) rfl ?_
    refine j_istore_n (L' := [some (.ref (ad w)), some (.int (nI (F * S))), some (.int (nI k)), some (.int ((dryL su k lv) k))]) dX2_dryUp_18 (by decide) rfl rfl ?_
    refine j_iload_n dX2_dryUp_19 rfl ?_
    refine j_if_le (tgt := 39) dX2_dryUp_20 (by decide) (fun hq => ?_) (fun hq => ?_)
    · skip
      refine j_iinc (v := nI (k + 1)) (L' := [some (.ref (ad w)), some (.int (nI (F * S))), some (.int (nI (k + 1))), some (.int ((dryL su k lv) k))]) dX2_dryUp_39 (by decide) rfl (nI_1 _) rfl rfl ?_
      refine j_goto (tgt := 7) dX2_dryUp_42 (by decide) ?_
      refine j_clr 3 ?_
      exact j_E (congrArg (fun f => va_up E iL (aI g 128 f)) (dryL_step2 su lv k hq)) ih
    · skip
      refine j_aload_n dX2_dryUp_23 rfl ?_
      refine j_get fl_X2_9 dX2_dryUp_24 hwn ((up_ne hwL).trans hw) rfl ?_
      refine j_iload_n dX2_dryUp_27 rfl ?_
      refine j_iconst (v := 0) dX2_dryUp_28 (by decide) ?_
      refine j_iload_n dX2_dryUp_29 rfl ?_
      refine j_aload_n dX2_dryUp_30 rfl ?_
      refine j_get fl_X2_34 dX2_dryUp_31 hwn ((up_ne hwL).trans hw) rfl ?_
      refine j_isub dX2_dryUp_34 ?_
      refine j_mmax ln_X2_24 js_max iz_java_lang_Math jc_max dX2_dryUp_35 (by decide) (Nat.le_of_ble_eq_true rfl) ?_
      refine j_iast (j := k) dX2_dryUp_38 hLn up_eq (by decide) (by omega) ?_
      refine j_E up_up ?_
      refine j_iinc (v := nI (k + 1)) (L' := [some (.ref (ad w)), some (.int (nI (F * S))), some (.int (nI (k + 1))), some (.int ((dryL su k lv) k))]) dX2_dryUp_39 (by decide) rfl (nI_1 _) rfl rfl ?_
      refine j_goto (tgt := 7) dX2_dryUp_42 (by decide) ?_
      refine j_clr 3 ?_
      exact j_E (congrArg (fun f => va_up E iL (aI g 128 f)) (dryL_step1 su lv k hq)) ih
  · skip
    show J g mX2_dryUp 1 0 0 7 [some (.ref (ad w)), some (.int (nI (F * S))), some (.int (nI (F * S))), none] [] n ad (va_up E iL (aI g 128 (dryL su (F * S) lv))) Φ Ψ
    refine j_iload_n dX2_dryUp_7 rfl ?_
    refine j_iload_n dX2_dryUp_8 rfl ?_
    refine j_icmp_ge_t (tgt := 45) dX2_dryUp_9 (by decide) (nI_le' (by omega) (by omega) (by omega)) ?_
    exact j_vret dX2_dryUp_45 rfl h
set_option maxRecDepth 100000 in
set_option maxHeartbeats 4000000 in
theorem s_X2_runDown {g : jG} {n : Nat} {ad : Nat → Nat} {E : Nat → va_E} {w iL iE F S : Nat} {su : Int32} {lv ed : Nat → Int32} (W : wat g n ad E w iL iE F S su lv ed) : Ret g mX2_runDown 1 [.ref (ad w)] n ad E (some (.int ((runR ed F S lv).1))) (va_up E iL (aI g 128 (runR ed F S lv).2)) := by
  obtain ⟨⟨hwn, hLn, hEn⟩, ⟨hwL, hwE, hLE⟩, hw, hL, hE0, hF, hS⟩ := id W
  intro Φ Ψ h
  show J g mX2_runDown 1 0 0 0 [some (.ref (ad w)), none, none, none, none, none] [] n ad E Φ Ψ
  refine j_iconst (v := 0) dX2_runDown_0 (by decide) ?_
  refine j_istore_n (L' := [some (.ref (ad w)), some (.int 0), none, none, none, none]) dX2_runDown_1 (by decide) rfl rfl ?_
  refine j_iconst (v := nI 0) dX2_runDown_2 (by decide) ?_
  refine j_istore_n (L' := [some (.ref (ad w)), some (.int 0), some (.int (nI 0)), none, none, none]) dX2_runDown_3 (by decide) rfl rfl ?_
  refine j_E (E' := va_up E iL (aI g 128 lv)) (up_self hL).symm ?_
  refine lpf_ind (b := fun f a => lpf (fun s a => runB ed S (f * S + s) a) 0 S a) (P := fun (f : Nat) (a : Int32 × (Nat → Int32)) => J g mX2_runDown 1 0 0 4 [some (.ref (ad w)), some (.int a.1), some (.int (nI f)), none, none, none] [] n ad (va_up E iL (aI g 128 a.2)) Φ Ψ) (N := F) 0 ?_ F (0, lv) (by omega) ?_
  · intro f a hf0 hf ih
    obtain ⟨r, lv0⟩ := a
    show J g mX2_runDown 1 0 0 4 [some (.ref (ad w)), some (.int r), some (.int (nI f)), none, none, none] [] n ad (va_up E iL (aI g 128 lv0)) Φ Ψ
    refine j_iload_n dX2_runDown_4 rfl ?_
    refine j_aload_n dX2_runDown_5 rfl ?_
    refine j_get fl_X2_27 dX2_runDown_6 hwn ((up_ne hwL).trans hw) rfl ?_
    refine j_icmp_ge_f (tgt := 84) dX2_runDown_9 (by decide) (nI_nle' (by omega) (by omega) (by omega)) ?_
    refine j_aload_n dX2_runDown_12 rfl ?_
    refine j_iload_n dX2_runDown_13 rfl ?_
    refine j_iconst (v := nI 0) dX2_runDown_14 (by decide) ?_
    refine j_cV (As := [.int (nI f), .int (nI 0)]) (rest := []) cm_X2_numberOf ci_X2_numberOf cs_X2_numberOf rfl ln_X2_41 (ci := 2) rfl dX2_runDown_15 (d' := 0) (by decide) hwn ((up_ne hwL).trans hw) rfl rfl (Nat.le_of_ble_eq_true rfl) (Nat.le_of_ble_eq_true rfl) (s_X2_numberOf (wat.setL W) f 0) ?_
    refine j_istore_n (L' := [some (.ref (ad w)), some (.int r), some (.int (nI f)), some (.int (nI (f * S + 0))), none, none]) dX2_runDown_18 (by decide) rfl rfl ?_
    refine j_iconst (v := nI 0) dX2_runDown_19 (by decide) ?_
    refine j_istore (L' := [some (.ref (ad w)), some (.int r), some (.int (nI f)), some (.int (nI (f * S + 0))), some (.int (nI 0)), none]) dX2_runDown_20 (by decide) rfl rfl ?_
    have ih0 := ih
    clear ih
    refine lpf_ind (b := fun s a => runB ed S (f * S + s) a) (P := fun (s : Nat) (a : Int32 × (Nat → Int32)) => J g mX2_runDown 1 0 0 22 [some (.ref (ad w)), some (.int a.1), some (.int (nI f)), some (.int (nI (f * S + 0))), some (.int (nI s)), none] [] n ad (va_up E iL (aI g 128 a.2)) Φ Ψ) (N := S) 0 ?_ S (r, lv0) (by omega) ?_
    · intro s a hs0 hs ih
      obtain ⟨r1, lv1⟩ := a
      show J g mX2_runDown 1 0 0 22 [some (.ref (ad w)), some (.int r1), some (.int (nI f)), some (.int (nI (f * S + 0))), some (.int (nI s)), none] [] n ad (va_up E iL (aI g 128 lv1)) Φ Ψ
      refine j_iload dX2_runDown_22 rfl ?_
      refine j_aload_n dX2_runDown_24 rfl ?_
      refine j_get fl_X2_31 dX2_runDown_25 hwn ((up_ne hwL).trans hw) rfl ?_
      refine j_icmp_ge_f (tgt := 78) dX2_runDown_28 (by decide) (nI_nle' (by omega) (by omega) (by omega)) ?_
      refine j_aload_n dX2_runDown_31 rfl ?_
      refine j_get fl_X2_9 dX2_runDown_32 hwn ((up_ne hwL).trans hw) rfl ?_
      refine j_iload_n dX2_runDown_35 rfl ?_
      refine j_iload dX2_runDown_36 rfl ?_
      refine j_iadd dX2_runDown_38 ?_
      refine j_topi (y := nI ((f * S + 0) + s)) (nI_add _ _) ?_
      refine j_iald dX2_runDown_39 hLn up_eq (by decide) (ix128 hF hS hf hs) rfl ?_
      refine j_iload_n dX2_runDown_40 rfl ?_
      refine j_iadd dX2_runDown_41 ?_
      refine j_istore (L' := [some (.ref (ad w)), some (.int r1), some (.int (nI f)), some (.int (nI (f * S + 0))), some (.int (nI s)), some (.int ((lv1 ((f * S + 0) + s)) + r1))]) dX2_runDown_42 (by decide) rfl rfl ?_
      refine j_iconst (v := 0) dX2_runDown_44 (by decide) ?_
      refine j_iload dX2_runDown_45 rfl ?_
      refine j_aload_n dX2_runDown_47 rfl ?_
      refine j_get fl_X2_15 dX2_runDown_48 hwn ((up_ne hwL).trans hw) rfl ?_
      refine j_iload dX2_runDown_51 rfl ?_
      refine j_iald dX2_runDown_53 hEn ((up_ne (Ne.symm hLE)).trans hE0) (by decide) (by omega) rfl ?_
      refine j_isub dX2_runDown_54 ?_
      refine j_mmax ln_X2_24 js_max iz_java_lang_Math jc_max dX2_runDown_55 (by decide) (Nat.le_of_ble_eq_true rfl) ?_
      refine j_istore_n (L' := [some (.ref (ad w)), some (.int (if 0 < (((lv1 ((f * S + 0) + s)) + r1) - (ed s)) then (((lv1 ((f * S + 0) + s)) + r1) - (ed s)) else 0)), some (.int (nI f)), some (.int (nI (f * S + 0))), some (.int (nI s)), some (.int ((lv1 ((f * S + 0) + s)) + r1))]) dX2_runDown_58 (by decide) rfl rfl ?_
      refine j_aload_n dX2_runDown_59 rfl ?_
      refine j_get fl_X2_9 dX2_runDown_60 hwn ((up_ne hwL).trans hw) rfl ?_
      refine j_iload_n dX2_runDown_63 rfl ?_
      refine j_iload dX2_runDown_64 rfl ?_
      refine j_iadd dX2_runDown_66 ?_
      refine j_topi (y := nI ((f * S + 0) + s)) (nI_add _ _) ?_
      refine j_iload dX2_runDown_67 rfl ?_
      refine j_iload_n dX2_runDown_69 rfl ?_
      refine j_isub dX2_runDown_70 ?_
      refine j_iast (j := (f * S + 0) + s) dX2_runDown_71 hLn up_eq (by decide) (ix128 hF hS hf hs) ?_
      refine j_E up_up ?_
      refine j_iinc (v := nI (s + 1)) (L' := [some (.ref (ad w)), some (.int (if 0 < (((lv1 ((f * S + 0) + s)) + r1) - (ed s)) then (((lv1 ((f * S + 0) + s)) + r1) - (ed s)) else 0)), some (.int (nI f)), some (.int (nI (f * S + 0))), some (.int (nI (s + 1))), some (.int ((lv1 ((f * S + 0) + s)) + r1))]) dX2_runDown_72 (by decide) rfl (nI_1 _) rfl rfl ?_
      refine j_goto (tgt := 22) dX2_runDown_75 (by decide) ?_
      refine j_clr 5 ?_
      exact ih (max0 (lv1 (f * S + s) + r1 - ed s), upd lv1 (f * S + s) (lv1 (f * S + s) + r1 - max0 (lv1 (f * S + s) + r1 - ed s))) (by unfold runB; rw [mod_ix hs])
    · skip
      show J g mX2_runDown 1 0 0 22 [some (.ref (ad w)), some (.int ((lpf (fun s a => runB ed S (f * S + s) a) 0 S (r, lv0)).1)), some (.int (nI f)), some (.int (nI (f * S + 0))), some (.int (nI S)), none] [] n ad (va_up E iL (aI g 128 ((lpf (fun s a => runB ed S (f * S + s) a) 0 S (r, lv0)).2))) Φ Ψ
      refine j_iload dX2_runDown_22 rfl ?_
      refine j_aload_n dX2_runDown_24 rfl ?_
      refine j_get fl_X2_31 dX2_runDown_25 hwn ((up_ne hwL).trans hw) rfl ?_
      refine j_icmp_ge_t (tgt := 78) dX2_runDown_28 (by decide) (nI_le' (by omega) (by omega) (by omega)) ?_
      refine j_iinc (v := nI (f + 1)) (L' := [some (.ref (ad w)), some (.int ((lpf (fun s a => runB ed S (f * S + s) a) 0 S (r, lv0)).1)), some (.int (nI (f + 1))), some (.int (nI (f * S + 0))), some (.int (nI S)), none]) dX2_runDown_78 (by decide) rfl (nI_1 _) rfl rfl ?_
      refine j_goto (tgt := 4) dX2_runDown_81 (by decide) ?_
      refine j_clr 3 ?_
      refine j_clr 4 ?_
      exact ih0 _ rfl
  · skip
    show J g mX2_runDown 1 0 0 4 [some (.ref (ad w)), some (.int ((lpf (fun f a => lpf (fun s a => runB ed S (f * S + s) a) 0 S a) 0 F (0, lv)).1)), some (.int (nI F)), none, none, none] [] n ad (va_up E iL (aI g 128 ((lpf (fun f a => lpf (fun s a => runB ed S (f * S + s) a) 0 S a) 0 F (0, lv)).2))) Φ Ψ
    refine j_iload_n dX2_runDown_4 rfl ?_
    refine j_aload_n dX2_runDown_5 rfl ?_
    refine j_get fl_X2_27 dX2_runDown_6 hwn ((up_ne hwL).trans hw) rfl ?_
    refine j_icmp_ge_t (tgt := 84) dX2_runDown_9 (by decide) (nI_le' (by omega) (by omega) (by omega)) ?_
    refine j_iload_n dX2_runDown_84 rfl ?_
    exact j_iret dX2_runDown_85 rfl h
set_option maxRecDepth 100000 in
set_option maxHeartbeats 4000000 in
theorem s_X2_flowOneHour {g : jG} {n : Nat} {ad : Nat → Nat} {E : Nat → va_E} {w iL iE F S : Nat} {su : Int32} {lv ed : Nat → Int32} (W : wat g n ad E w iL iE F S su lv ed) : Ret g mX2_flowOneHour 2 [.ref (ad w)] n ad E (some (.int ((hourR su ed F S lv).1))) (va_up E iL (aI g 128 (hourR su ed F S lv).2)) := by
  obtain ⟨⟨hwn, hLn, hEn⟩, ⟨hwL, hwE, hLE⟩, hw, hL, hE0, hF, hS⟩ := id W
  intro Φ Ψ h
  show J g mX2_flowOneHour 2 0 0 0 [some (.ref (ad w))] [] n ad E Φ Ψ
  refine j_aload_n dX2_flowOneHour_0 rfl ?_
  refine j_cV (As := []) (rest := []) cm_X2_dryUp ci_X2_dryUp cs_X2_dryUp rfl ln_X2_62 (ci := 2) rfl dX2_flowOneHour_1 (d' := 1) (by decide) hwn hw rfl rfl (Nat.le_of_ble_eq_true rfl) (Nat.le_of_ble_eq_true rfl) (s_X2_dryUp W) ?_
  refine j_aload_n dX2_flowOneHour_4 rfl ?_
  refine j_cV (As := []) (rest := []) cm_X2_runDown ci_X2_runDown cs_X2_runDown rfl ln_X2_65 (ci := 2) rfl dX2_flowOneHour_5 (d' := 1) (by decide) hwn ((up_ne hwL).trans hw) rfl rfl (Nat.le_of_ble_eq_true rfl) (Nat.le_of_ble_eq_true rfl) (s_X2_runDown (wat.setL W)) ?_
  refine j_E up_up ?_
  exact j_iret dX2_flowOneHour_8 rfl h
set_option maxRecDepth 100000 in
set_option maxHeartbeats 4000000 in
theorem s_X2_flowFor {g : jG} {n : Nat} {ad : Nat → Nat} {E : Nat → va_E} {w iL iE F S : Nat} {su : Int32} {lv ed : Nat → Int32} (W : wat g n ad E w iL iE F S su lv ed) (h9 : Nat) (hh : h9 < 1000) : Ret g mX2_flowFor 3 [.ref (ad w), .int (nI h9)] n ad E (some (.int ((flowR su ed F S h9 lv).1))) (va_up E iL (aI g 128 (flowR su ed F S h9 lv).2)) := by
  obtain ⟨⟨hwn, hLn, hEn⟩, ⟨hwL, hwE, hLE⟩, hw, hL, hE0, hF, hS⟩ := id W
  intro Φ Ψ h
  show J g mX2_flowFor 3 0 0 0 [some (.ref (ad w)), some (.int (nI h9)), none, none] [] n ad E Φ Ψ
  refine j_iconst (v := 0) dX2_flowFor_0 (by decide) ?_
  refine j_istore_n (L' := [some (.ref (ad w)), some (.int (nI h9)), some (.int 0), none]) dX2_flowFor_1 (by decide) rfl rfl ?_
  refine j_iconst (v := nI 0) dX2_flowFor_2 (by decide) ?_
  refine j_istore_n (L' := [some (.ref (ad w)), some (.int (nI h9)), some (.int 0), some (.int (nI 0))]) dX2_flowFor_3 (by decide) rfl rfl ?_
  refine j_E (E' := va_up E iL (aI g 128 lv)) (up_self hL).symm ?_
  refine lpf_ind (b := fun _ a => (a.1 + (hourR su ed F S a.2).1, (hourR su ed F S a.2).2)) (P := fun (k : Nat) (a : Int32 × (Nat → Int32)) => J g mX2_flowFor 3 0 0 4 [some (.ref (ad w)), some (.int (nI h9)), some (.int a.1), some (.int (nI k))] [] n ad (va_up E iL (aI g 128 a.2)) Φ Ψ) (N := h9) 0 ?_ h9 (0, lv) (by omega) ?_
  · intro k a hk0 hk ih
    obtain ⟨r1, lv1⟩ := a
    show J g mX2_flowFor 3 0 0 4 [some (.ref (ad w)), some (.int (nI h9)), some (.int r1), some (.int (nI k))] [] n ad (va_up E iL (aI g 128 lv1)) Φ Ψ
    refine j_iload_n dX2_flowFor_4 rfl ?_
    refine j_iload_n dX2_flowFor_5 rfl ?_
    refine j_icmp_ge_f (tgt := 22) dX2_flowFor_6 (by decide) (nI_nle' (by omega) (by omega) (by omega)) ?_
    refine j_iload_n dX2_flowFor_9 rfl ?_
    refine j_aload_n dX2_flowFor_10 rfl ?_
    refine j_cV (As := []) (rest := [.int r1]) cm_X2_flowOneHour ci_X2_flowOneHour cs_X2_flowOneHour rfl ln_X2_59 (ci := 2) rfl dX2_flowFor_11 (d' := 2) (by decide) hwn ((up_ne hwL).trans hw) rfl rfl (Nat.le_of_ble_eq_true rfl) (Nat.le_of_ble_eq_true rfl) (s_X2_flowOneHour (wat.setL W)) ?_
    refine j_E up_up ?_
    refine j_iadd dX2_flowFor_14 ?_
    refine j_istore_n (L' := [some (.ref (ad w)), some (.int (nI h9)), some (.int (r1 + ((hourR su ed F S lv1).1))), some (.int (nI k))]) dX2_flowFor_15 (by decide) rfl rfl ?_
    refine j_iinc (v := nI (k + 1)) (L' := [some (.ref (ad w)), some (.int (nI h9)), some (.int (r1 + ((hourR su ed F S lv1).1))), some (.int (nI (k + 1)))]) dX2_flowFor_16 (by decide) rfl (nI_1 _) rfl rfl ?_
    refine j_goto (tgt := 4) dX2_flowFor_19 (by decide) ?_
    exact ih (r1 + (hourR su ed F S lv1).1, (hourR su ed F S lv1).2) rfl
  · skip
    show J g mX2_flowFor 3 0 0 4 [some (.ref (ad w)), some (.int (nI h9)), some (.int ((lpf (fun _ a => (a.1 + (hourR su ed F S a.2).1, (hourR su ed F S a.2).2)) 0 h9 (0, lv)).1)), some (.int (nI h9))] [] n ad (va_up E iL (aI g 128 ((lpf (fun _ a => (a.1 + (hourR su ed F S a.2).1, (hourR su ed F S a.2).2)) 0 h9 (0, lv)).2))) Φ Ψ
    refine j_iload_n dX2_flowFor_4 rfl ?_
    refine j_iload_n dX2_flowFor_5 rfl ?_
    refine j_icmp_ge_t (tgt := 22) dX2_flowFor_6 (by decide) (nI_le' (by omega) (by omega) (by omega)) ?_
    refine j_iload_n dX2_flowFor_22 rfl ?_
    exact j_iret dX2_flowFor_23 rfl h
/-- the highest of the first N levels -/
def hiW (lv : Nat → Int32) (N : Nat) : Int32 := lpf (fun k x => if x < lv k then lv k else x) 1 (N - 1) (lv 0)
set_option maxRecDepth 100000 in
set_option maxHeartbeats 4000000 in
theorem s_X2_highest {g : jG} {n : Nat} {ad : Nat → Nat} {E : Nat → va_E} {w iL iE F S : Nat} {su : Int32} {lv ed : Nat → Int32} (W : wat g n ad E w iL iE F S su lv ed) (h1 : 1 ≤ F * S) : Ret g mX2_highest 1 [.ref (ad w)] n ad E (some (.int (hiW lv (F * S)))) E := by
  obtain ⟨⟨hwn, hLn, hEn⟩, ⟨hwL, hwE, hLE⟩, hw, hL, hE0, hF, hS⟩ := id W
  have hFS := fs128 hF hS
  intro Φ Ψ h
  show J g mX2_highest 1 0 0 0 [some (.ref (ad w)), none, none] [] n ad E Φ Ψ
  refine j_aload_n dX2_highest_0 rfl ?_
  refine j_get fl_X2_9 dX2_highest_1 hwn hw rfl ?_
  refine j_iconst (v := nI 0) dX2_highest_4 (by decide) ?_
  refine j_iald dX2_highest_5 hLn hL (by decide) (by omega) rfl ?_
  refine j_istore_n (L' := [some (.ref (ad w)), some (.int (lv 0)), none]) dX2_highest_6 (by decide) rfl rfl ?_
  refine j_iconst (v := nI 1) dX2_highest_7 (by decide) ?_
  refine j_istore_n (L' := [some (.ref (ad w)), some (.int (lv 0)), some (.int (nI 1))]) dX2_highest_8 (by decide) rfl rfl ?_
  refine lpf_ind (b := fun k x => if x < lv k then lv k else x) (P := fun (k : Nat) (x : Int32) => J g mX2_highest 1 0 0 9 [some (.ref (ad w)), some (.int x), some (.int (nI k))] [] n ad E Φ Ψ) (N := F * S) 1 ?_ (F * S - 1) (lv 0) (by omega) ?_
  · intro k x hk0 hk ih
    show J g mX2_highest 1 0 0 9 [some (.ref (ad w)), some (.int x), some (.int (nI k))] [] n ad E Φ Ψ
    refine j_iload_n dX2_highest_9 rfl ?_
    refine j_aload_n dX2_highest_10 rfl ?_
    refine j_cV (As := []) (rest := [.int (nI k)]) cm_X2_puddleCount ci_X2_puddleCount cs_X2_puddleCount rfl ln_X2_37 (ci := 2) rfl dX2_highest_11 (d' := 0) (by decide) hwn hw rfl rfl (Nat.le_of_ble_eq_true rfl) (Nat.le_of_ble_eq_true rfl) (s_X2_puddleCount W) ?_
    refine j_icmp_ge_f (tgt := 34) dX2_highest_14 (by decide) (nI_nle' (by omega) (by omega) (by omega)) ?_
    refine j_iload_n dX2_highest_17 rfl ?_
    refine j_aload_n dX2_highest_18 rfl ?_
    refine j_get fl_X2_9 dX2_highest_19 hwn hw rfl ?_
    refine j_iload_n dX2_highest_22 rfl ?_
    refine j_iald dX2_highest_23 hLn hL (by decide) (by omega) rfl ?_
    refine j_mmax ln_X2_24 js_max iz_java_lang_Math jc_max dX2_highest_24 (by decide) (Nat.le_of_ble_eq_true rfl) ?_
    refine j_istore_n (L' := [some (.ref (ad w)), some (.int (if x < (lv k) then (lv k) else x)), some (.int (nI k))]) dX2_highest_27 (by decide) rfl rfl ?_
    refine j_iinc (v := nI (k + 1)) (L' := [some (.ref (ad w)), some (.int (if x < (lv k) then (lv k) else x)), some (.int (nI (k + 1)))]) dX2_highest_28 (by decide) rfl (nI_1 _) rfl rfl ?_
    refine j_goto (tgt := 9) dX2_highest_31 (by decide) ?_
    exact ih _ rfl
  · skip
    show J g mX2_highest 1 0 0 9 [some (.ref (ad w)), some (.int (hiW lv (F * S))), some (.int (nI (F * S)))] [] n ad E Φ Ψ
    refine j_iload_n dX2_highest_9 rfl ?_
    refine j_aload_n dX2_highest_10 rfl ?_
    refine j_cV (As := []) (rest := [.int (nI (F * S))]) cm_X2_puddleCount ci_X2_puddleCount cs_X2_puddleCount rfl ln_X2_37 (ci := 2) rfl dX2_highest_11 (d' := 0) (by decide) hwn hw rfl rfl (Nat.le_of_ble_eq_true rfl) (Nat.le_of_ble_eq_true rfl) (s_X2_puddleCount W) ?_
    refine j_icmp_ge_t (tgt := 34) dX2_highest_14 (by decide) (nI_le' (by omega) (by omega) (by omega)) ?_
    refine j_iload_n dX2_highest_34 rfl ?_
    exact j_iret dX2_highest_35 rfl h
