/-! The deeds of the class. -/
theorem s_X2_level' {g : jG} {n : Nat} {ad : Nat → Nat} {E : Nat → va_E} {w iL iE F S : Nat} {su : Int32} {lv ed : Nat → Int32} (W : wat g n ad E w iL iE F S su lv ed) (a b : Nat) (hb : a * S + b < 128) {v : Int32} (hv : lv (a * S + b) = v) : Ret g mX2_level 1 [.ref (ad w), .int (nI a), .int (nI b)] n ad E (some (.int v)) E := hv ▸ s_X2_level W a b hb
theorem s_X2_changedFrom' {g : jG} {n : Nat} {ad : Nat → Nat} {E : Nat → va_E} {w iL iE F S r : Nat} {su : Int32} {lv ed row : Nat → Int32} (W : wat g n ad E w iL iE F S su lv ed) (hrn : r < n) (hr : E r = aI g 128 row) {v : Int32} (hv : chgC lv row (F * S) = v) : Ret g mX2_changedFrom 1 [.ref (ad w), .ref (ad r)] n ad E (some (.int v)) E := hv ▸ s_X2_changedFrom W hrn hr
def kOld (old cnt : Nat) : Nat := if cnt < 30 then old else if old + 1 < 30 then old + 1 else 0
def kCnt (cnt : Nat) : Nat := if cnt < 30 then cnt + 1 else cnt
def kSlot (old cnt : Nat) : Nat := if cnt < 30 then slot old cnt 30 else old
theorem kSlot_lt {old cnt : Nat} (h1 : old < 30) (h2 : cnt ≤ 30) : kSlot old cnt < 30 := by
  unfold kSlot
  split
  · exact slot_lt h1 (by omega)
  · exact h1
theorem kSlot_last {old cnt : Nat} (h1 : old < 30) (h2 : cnt ≤ 30) : slot (kOld old cnt) (kCnt cnt - 1) 30 = kSlot old cnt := by
  unfold kOld kCnt kSlot
  by_cases h : cnt < 30
  · rw [if_pos h, if_pos h, if_pos h, Nat.add_sub_cancel]
  · rw [if_neg h, if_neg h, if_neg h]
    have : cnt = 30 := by omega
    subst this
    unfold slot
    split <;> split <;> omega
theorem rowUp_at {rows : Nat → Nat → Int32} {i : Nat} {r : Nat → Int32} : rowUp rows i r i = r := if_pos rfl
theorem nI_dec {a b : Nat} (h : a = b + 1) : nI a + Int32.ofInt (-1) = nI b := by
  rw [h]
  exact pk_m1 b
theorem lpf_end {α : Type} {b b' : Nat → α → α} {k j : Nat} {a a' : α} (h1 : a = a') (h2 : ∀ i x, j ≤ i → i < j + k → b i x = b' i x) : lpf b j k a = lpf b' j k a' := by
  rw [h1]
  exact lpf_congr k j a' h2
theorem chgC_congr {lv lv' row row' : Nat → Int32} {N : Nat} (h1 : ∀ k, k < N → lv k = lv' k) (h2 : ∀ k, k < N → row k = row' k) : chgC lv row N = chgC lv' row' N := by
  refine lpf_congr N 0 0 (fun i x _ hi => ?_)
  rw [h1 i (by omega), h2 i (by omega)]
theorem cpyN_lt {row lv : Nat → Int32} {N k : Nat} (h : k < N) : cpyN row lv N k = row k := if_pos h
def splL (lv : Nat → Int32) (S fa sa fb sb : Nat) (x : Int32) : Nat → Int32 := lpf (fun f y => lpf (fun s y => upd y (f * S + s) (y (f * S + s) + x)) sa (sb + 1 - sa) y) fa (fb + 1 - fa) lv
def swpL (lv : Nat → Int32) (S a b : Nat) : Nat → Int32 := lpf (fun s y => upd (upd y (a * S + s) (y (b * S + s))) (b * S + s) (y (a * S + s))) 0 S lv
def trnL (lv : Nat → Int32) (S a t : Nat) : Nat → Int32 := fun k => if (a * S ≤ k ∧ k < a * S + t) ∨ (a * S + S ≤ k + t ∧ k < a * S + S) then lv (2 * (a * S) + (S - 1) - k) else lv k
def turnL (lv : Nat → Int32) (S a : Nat) : Nat → Int32 := fun k => if a * S ≤ k ∧ k < a * S + S then lv (2 * (a * S) + (S - 1) - k) else lv k
theorem trnL_0 (lv : Nat → Int32) (S a : Nat) : trnL lv S a 0 = lv := by
  funext k
  unfold trnL
  rw [if_neg]
  omega
theorem trnL_step (lv : Nat → Int32) (S a t : Nat) (ht : t < S / 2) : upd (upd (trnL lv S a t) (a * S + t) (trnL lv S a t (a * S + (S - 1) - t))) (a * S + (S - 1) - t) (trnL lv S a t (a * S + t)) = trnL lv S a (t + 1) := by
  funext k
  unfold upd trnL
  generalize a * S = q
  by_cases h1 : k = q + (S - 1) - t
  · subst h1
    rw [if_pos rfl, if_neg (by omega), if_pos (by omega)]
    congr 1
    omega
  · rw [if_neg h1]
    by_cases h2 : k = q + t
    · subst h2
      rw [if_pos rfl, if_neg (by omega), if_pos (by omega)]
      congr 1
      omega
    · rw [if_neg h2]
      by_cases h3 : (q ≤ k ∧ k < q + t) ∨ (q + S ≤ k + t ∧ k < q + S)
      · rw [if_pos h3, if_pos (by omega)]
      · rw [if_neg h3, if_neg (by omega)]
theorem trnL_end (lv : Nat → Int32) (S a : Nat) (hS : 1 ≤ S) : trnL lv S a (S / 2) = turnL lv S a := by
  funext k
  unfold trnL turnL
  generalize a * S = q
  by_cases h : q ≤ k ∧ k < q + S
  · rw [if_pos h]
    by_cases h3 : (q ≤ k ∧ k < q + S / 2) ∨ (q + S ≤ k + S / 2 ∧ k < q + S)
    · rw [if_pos h3]
    · rw [if_neg h3]
      congr 1
      omega
  · rw [if_neg h, if_neg (by omega)]
def bailT (x b v : Int32) : Int32 := if x - b < max0 v then x - b else max0 v
def bailR (lv : Nat → Int32) (S a : Nat) (x : Int32) : Int32 × (Nat → Int32) := lpf (fun s y => (y.1 + bailT x y.1 (y.2 (a * S + s)), upd y.2 (a * S + s) (y.2 (a * S + s) + -bailT x y.1 (y.2 (a * S + s))))) 0 S (0, lv)
set_option maxRecDepth 100000 in
set_option maxHeartbeats 4000000 in
theorem s_X3_keepDeed {g : jG} {n : Nat} {ad : Nat → Nat} {E : Nat → va_E} {F S : Nat} {hrs su : Int32} {gone : Int64} {lv ed : Nat → Int32} {old cnt mc : Nat} {dr mr : Nat → Nat → Int32} (C : CR g n ad E F S hrs su gone lv ed old cnt dr mc mr) : RetP g mX3_keepDeed 2 [.ref (ad 0)] n ad E none (fun E9 => CR g n ad E9 F S hrs su gone lv ed (kOld old cnt) (kCnt cnt) (rowUp dr (kSlot old cnt) (cpyN lv (dr (kSlot old cnt)) (F * S))) mc mr ∧ ∀ k, 63 ≤ k → E9 k = E k) := by
  obtain ⟨h0, W, ⟨F4, S4, su4, lv4, ed4, T⟩, Z, Y, ⟨fc, Hm, P⟩, hFp, hSp, hn⟩ := id C
  obtain ⟨-, -, hw, hL, hE, hF, hS⟩ := id W
  obtain ⟨-, -, hz, hzO, hzr, -, -, hold, hcnt⟩ := id Z
  obtain ⟨-, -, hy, hyO, hyr, -, -, -, hmc⟩ := id Y
  intro Φ Ψ h
  show J g mX3_keepDeed 2 0 0 0 [some (.ref (ad 0))] [] n ad E Φ Ψ
  have hx : ((1 : Nat) ≠ 7 ∧ (2 : Nat) ≠ 7 ∧ (3 : Nat) ≠ 7) ∧ ∀ i, i < 30 → (1 : Nat) ≠ 9 + i ∧ (2 : Nat) ≠ 9 + i ∧ (3 : Nat) ≠ 9 + i := ⟨⟨by decide, by decide, by decide⟩, fun i _ => ⟨by omega, by omega, by omega⟩⟩
  by_cases hc : cnt < 30
  · skip
    have e1 : kOld old cnt = old := if_pos hc
    have e2 : kCnt cnt = cnt + 1 := if_pos hc
    have e3 : kSlot old cnt = slot old cnt 30 := if_pos hc
    have hs := slot_lt hold hc
    rw [e1, e2, e3] at h
    refine j_aload_n dX3_keepDeed_0 rfl ?_
    refine j_get fl_X3_24 dX3_keepDeed_1 (by omega) h0 rfl ?_
    refine j_aload_n dX3_keepDeed_4 rfl ?_
    refine j_get fl_X3_12 dX3_keepDeed_5 (by omega) h0 rfl ?_
    refine j_cV (As := [.ref (ad 1)]) (rest := []) cm_X1_addLatest ci_X1_addLatest cs_X1_addLatest rfl ln_X3_126 (ci := 1) rfl dX3_keepDeed_8 (d' := 1) (by decide) (by omega) hz rfl rfl (Nat.le_of_ble_eq_true rfl) (Nat.le_of_ble_eq_true rfl) (s_X1_addLatest_lo Z W hx hc) ?_
    exact j_vret dX3_keepDeed_11 rfl (h _ ⟨CR.setDeeds C (rws.setR (rws.setO Z (by first | omega | (split <;> omega)) (by omega)) hs) (fun k hk => by rw [up_ne (by omega), up_ne (by omega)]), fun k hk => by rw [up_ne (by omega), up_ne (by omega)]⟩)
  · skip
    have hc0 : cnt = 30 := by omega
    have e1 : kOld old cnt = (if old + 1 < 30 then old + 1 else 0) := if_neg hc
    have e2 : kCnt cnt = cnt := if_neg hc
    have e3 : kSlot old cnt = old := if_neg hc
    rw [e1, e2, e3] at h
    have hs := hold
    refine j_aload_n dX3_keepDeed_0 rfl ?_
    refine j_get fl_X3_24 dX3_keepDeed_1 (by omega) h0 rfl ?_
    refine j_aload_n dX3_keepDeed_4 rfl ?_
    refine j_get fl_X3_12 dX3_keepDeed_5 (by omega) h0 rfl ?_
    refine j_cV (As := [.ref (ad 1)]) (rest := []) cm_X1_addLatest ci_X1_addLatest cs_X1_addLatest rfl ln_X3_126 (ci := 1) rfl dX3_keepDeed_8 (d' := 1) (by decide) (by omega) hz rfl rfl (Nat.le_of_ble_eq_true rfl) (Nat.le_of_ble_eq_true rfl) (s_X1_addLatest_hi Z W hx hc0) ?_
    exact j_vret dX3_keepDeed_11 rfl (h _ ⟨CR.setDeeds C (rws.setR (rws.setO Z (by first | omega | (split <;> omega)) (by omega)) hs) (fun k hk => by rw [up_ne (by omega), up_ne (by omega)]), fun k hk => by rw [up_ne (by omega), up_ne (by omega)]⟩)
set_option maxRecDepth 100000 in
set_option maxHeartbeats 4000000 in
theorem s_X3_lay {g : jG} {n : Nat} {ad : Nat → Nat} {E : Nat → va_E} {F S : Nat} {hrs su : Int32} {gone : Int64} {lv ed : Nat → Int32} {old cnt mc : Nat} {dr mr : Nat → Nat → Int32} (C : CR g n ad E F S hrs su gone lv ed old cnt dr mc mr) (a b : Nat) (ha1 : 1 ≤ a) (ha : a ≤ 8) (hb1 : 1 ≤ b) (hb : b ≤ 16) : RetP g mX3_lay 7 [.ref (ad 0), .int (nI a), .int (nI b)] n ad E (some (.int (nI (a * b)))) (fun E9 => CR g n ad E9 a b hrs su gone (cpyN (fun _ => 0) lv 128) (cpyN (fun _ => 50) ed 16) 0 0 dr 0 mr ∧ ∀ k, 63 ≤ k → E9 k = E k) := by
  obtain ⟨h0, W, ⟨F4, S4, su4, lv4, ed4, T⟩, Z, Y, ⟨fc, Hm, P⟩, hFp, hSp, hn⟩ := id C
  obtain ⟨-, -, hw, hL, hE, hF, hS⟩ := id W
  obtain ⟨-, -, hz, hzO, hzr, -, -, hold, hcnt⟩ := id Z
  obtain ⟨-, -, hy, hyO, hyr, -, -, -, hmc⟩ := id Y
  intro Φ Ψ h
  show J g mX3_lay 7 0 0 0 [some (.ref (ad 0)), some (.int (nI a)), some (.int (nI b))] [] n ad E Φ Ψ
  refine j_iload_n dX3_lay_0 rfl ?_
  refine j_iconst (v := nI 1) dX3_lay_1 (by decide) ?_
  refine j_bipush (v := nI 8) dX3_lay_2 (by decide) ?_
  refine j_cS (As := [.int (nI a), .int (nI 1), .int (nI 8)]) (rest := []) cm_X3_checkNumber ct_X3_checkNumber ln_X3_46 dX3_lay_4 (d' := 6) (by decide) rfl rfl (Nat.le_of_ble_eq_true rfl) (Nat.le_of_ble_eq_true rfl) (s_checkNumber_ok (nI a) (nI 1) (nI 8) (nI_nlt' (by omega) (by omega) (by omega)) (nI_le' (by omega) (by omega) (by omega))) ?_
  refine j_iload_n dX3_lay_7 rfl ?_
  refine j_iconst (v := nI 1) dX3_lay_8 (by decide) ?_
  refine j_bipush (v := nI 16) dX3_lay_9 (by decide) ?_
  refine j_cS (As := [.int (nI b), .int (nI 1), .int (nI 16)]) (rest := []) cm_X3_checkNumber ct_X3_checkNumber ln_X3_46 dX3_lay_11 (d' := 6) (by decide) rfl rfl (Nat.le_of_ble_eq_true rfl) (Nat.le_of_ble_eq_true rfl) (s_checkNumber_ok (nI b) (nI 1) (nI 16) (nI_nlt' (by omega) (by omega) (by omega)) (nI_le' (by omega) (by omega) (by omega))) ?_
  refine j_aload_n dX3_lay_14 rfl ?_
  refine j_get fl_X3_12 dX3_lay_15 (by omega) h0 rfl ?_
  refine j_iload_n dX3_lay_18 rfl ?_
  refine j_iload_n dX3_lay_19 rfl ?_
  refine j_cV (As := [.int (nI a), .int (nI b)]) (rest := []) cm_X2_layDry ci_X2_layDry cs_X2_layDry rfl ln_X3_42 (ci := 2) rfl dX3_lay_20 (d' := 1) (by decide) (by omega) hw rfl rfl (Nat.le_of_ble_eq_true rfl) (Nat.le_of_ble_eq_true rfl) (s_X2_layDry W a b ha1 ha hb1 hb) ?_
  refine j_aload_n dX3_lay_23 rfl ?_
  refine j_get fl_X3_24 dX3_lay_24 (by omega) ((up_ne (by decide)).trans ((up_ne (by decide)).trans ((up_ne (by decide)).trans h0))) rfl ?_
  refine j_cV (As := []) (rest := []) cm_X1_clearAll ci_X1_clearAll cs_X1_clearAll rfl ln_X3_50 (ci := 1) rfl dX3_lay_27 (d' := 0) (by decide) (by omega) ((up_ne (by decide)).trans ((up_ne (by decide)).trans ((up_ne (by decide)).trans hz))) rfl rfl (Nat.le_of_ble_eq_true rfl) (Nat.le_of_ble_eq_true rfl) (s_X1_clearAll (rws.up (rws.up (rws.up Z (by decide) (by decide) (fun i hi => by omega)) (by decide) (by decide) (fun i hi => by omega)) (by decide) (by decide) (fun i hi => by omega))) ?_
  refine j_aload_n dX3_lay_30 rfl ?_
  refine j_get fl_X3_28 dX3_lay_31 (by omega) ((up_ne (by decide)).trans ((up_ne (by decide)).trans ((up_ne (by decide)).trans ((up_ne (by decide)).trans h0)))) rfl ?_
  refine j_cV (As := []) (rest := []) cm_X1_clearAll ci_X1_clearAll cs_X1_clearAll rfl ln_X3_50 (ci := 1) rfl dX3_lay_34 (d' := 0) (by decide) (by omega) ((up_ne (by decide)).trans ((up_ne (by decide)).trans ((up_ne (by decide)).trans ((up_ne (by decide)).trans hy)))) rfl rfl (Nat.le_of_ble_eq_true rfl) (Nat.le_of_ble_eq_true rfl) (s_X1_clearAll (rws.up (rws.up (rws.up (rws.up Y (by decide) (by decide) (fun i hi => by omega)) (by decide) (by decide) (fun i hi => by omega)) (by decide) (by decide) (fun i hi => by omega)) (by decide) (by decide) (fun i hi => by omega))) ?_
  refine j_aload_n dX3_lay_37 rfl ?_
  refine j_get fl_X3_12 dX3_lay_38 (by omega) ((up_ne (by decide)).trans ((up_ne (by decide)).trans ((up_ne (by decide)).trans ((up_ne (by decide)).trans ((up_ne (by decide)).trans h0))))) rfl ?_
  refine j_cV (As := []) (rest := []) cm_X2_puddleCount ci_X2_puddleCount cs_X2_puddleCount rfl ln_X3_53 (ci := 2) rfl dX3_lay_41 (d' := 0) (by decide) (by omega) ((up_ne (by decide)).trans ((up_ne (by decide)).trans ((up_ne (by decide)).trans ((up_ne (by decide)).trans up_eq)))) rfl rfl (Nat.le_of_ble_eq_true rfl) (Nat.le_of_ble_eq_true rfl) (s_X2_puddleCount (wat.up (wat.up (wat.setE (wat.setL (wat.setW W ha hb))) (by decide) (by decide) (by decide)) (by decide) (by decide) (by decide))) ?_
  exact j_iret dX3_lay_44 rfl (h _ ⟨(CR.setMarks (CR.setDeeds (CR.setEd (CR.setLv (CR.setW C ha hb ha1 hb1))) (rws.setO (rws.up (rws.up (rws.up Z (by decide) (by decide) (fun i hi => by omega)) (by decide) (by decide) (fun i hi => by omega)) (by decide) (by decide) (fun i hi => by omega)) (old' := 0) (cnt' := 0) (by omega) (by omega)) (fun k hk => up_ne (by omega))) (rws.setO (rws.up (rws.up (rws.up (rws.up Y (by decide) (by decide) (fun i hi => by omega)) (by decide) (by decide) (fun i hi => by omega)) (by decide) (by decide) (fun i hi => by omega)) (by decide) (by decide) (fun i hi => by omega)) (old' := 0) (cnt' := 0) (by omega) (by omega)) (fun k hk => up_ne (by omega))), (fun k hk => ((up_ne (by omega)).trans ((up_ne (by omega)).trans ((up_ne (by omega)).trans ((up_ne (by omega)).trans ((up_ne (by omega)).trans rfl))))))⟩)
set_option maxRecDepth 100000 in
set_option maxHeartbeats 4000000 in
theorem s_X3_lay_bad {g : jG} {n : Nat} {ad : Nat → Nat} {E : Nat → va_E} {F S : Nat} {hrs su : Int32} {gone : Int64} {lv ed : Nat → Int32} {old cnt mc : Nat} {dr mr : Nat → Nat → Int32} (C : CR g n ad E F S hrs su gone lv ed old cnt dr mc mr) (x y : Int32) (hx : (x < 1 ∨ ¬ x ≤ 8) ∨ (y < 1 ∨ ¬ y ≤ 16)) : Thr g mX3_lay 7 [.ref (ad 0), .int x, .int y] n ad E "java/lang/IllegalArgumentException" := by
  obtain ⟨h0, W, ⟨F4, S4, su4, lv4, ed4, T⟩, Z, Y, ⟨fc, Hm, P⟩, hFp, hSp, hn⟩ := id C
  obtain ⟨-, -, hw, hL, hE, hF, hS⟩ := id W
  obtain ⟨-, -, hz, hzO, hzr, -, -, hold, hcnt⟩ := id Z
  obtain ⟨-, -, hy, hyO, hyr, -, -, -, hmc⟩ := id Y
  intro Φ Ψ h
  show J g mX3_lay 7 1 6 0 [some (.ref (ad 0)), some (.int x), some (.int y)] [] n ad E Φ Ψ
  by_cases q : x < 1 ∨ ¬ x ≤ 8
  · skip
    refine j_iload_n dX3_lay_0 rfl ?_
    refine j_iconst (v := 1) dX3_lay_1 (by decide) ?_
    refine j_bipush (v := 8) dX3_lay_2 (by decide) ?_
    exact j_cSx (As := [.int x, .int 1, .int 8]) (rest := []) cm_X3_checkNumber ct_X3_checkNumber ln_X3_46 dX3_lay_4 (d' := 6) (by decide) rfl rfl (Nat.le_of_ble_eq_true rfl) (Nat.le_of_ble_eq_true rfl) (s_checkNumber_bad x 1 8 q) (jMeets_out rfl h)
  · skip
    refine j_iload_n dX3_lay_0 rfl ?_
    refine j_iconst (v := 1) dX3_lay_1 (by decide) ?_
    refine j_bipush (v := 8) dX3_lay_2 (by decide) ?_
    refine j_cS (As := [.int x, .int 1, .int 8]) (rest := []) cm_X3_checkNumber ct_X3_checkNumber ln_X3_46 dX3_lay_4 (d' := 6) (by decide) rfl rfl (Nat.le_of_ble_eq_true rfl) (Nat.le_of_ble_eq_true rfl) (s_checkNumber_ok x 1 8 (fun r => q (Or.inl r)) (Decidable.not_not.mp (fun r => q (Or.inr r)))) ?_
    refine j_iload_n dX3_lay_7 rfl ?_
    refine j_iconst (v := 1) dX3_lay_8 (by decide) ?_
    refine j_bipush (v := 16) dX3_lay_9 (by decide) ?_
    exact j_cSx (As := [.int y, .int 1, .int 16]) (rest := []) cm_X3_checkNumber ct_X3_checkNumber ln_X3_46 dX3_lay_11 (d' := 6) (by decide) rfl rfl (Nat.le_of_ble_eq_true rfl) (Nat.le_of_ble_eq_true rfl) (s_checkNumber_bad y 1 16 (hx.resolve_left q)) (jMeets_out rfl h)
set_option maxRecDepth 100000 in
set_option maxHeartbeats 4000000 in
theorem s_X3_rain {g : jG} {n : Nat} {ad : Nat → Nat} {E : Nat → va_E} {F S : Nat} {hrs su : Int32} {gone : Int64} {lv ed : Nat → Int32} {old cnt mc : Nat} {dr mr : Nat → Nat → Int32} (C : CR g n ad E F S hrs su gone lv ed old cnt dr mc mr) (a b : Nat) (ha : a < F) (hb : b < S) (x : Int32) (hx1 : ¬ x < -99) (hx2 : x ≤ 99) : RetP g mX3_rain 9 [.ref (ad 0), .int (nI a), .int (nI b), .int x] n ad E (some (.int (lv (a * S + b) + x))) (fun E9 => CR g n ad E9 F S hrs su gone (upd lv (a * S + b) (lv (a * S + b) + x)) ed (kOld old cnt) (kCnt cnt) (rowUp dr (kSlot old cnt) (cpyN lv (dr (kSlot old cnt)) (F * S))) mc mr ∧ ∀ k, 63 ≤ k → E9 k = E k) := by
  obtain ⟨h0, W, ⟨F4, S4, su4, lv4, ed4, T⟩, Z, Y, ⟨fc, Hm, P⟩, hFp, hSp, hn⟩ := id C
  obtain ⟨-, -, hw, hL, hE, hF, hS⟩ := id W
  obtain ⟨-, -, hz, hzO, hzr, -, -, hold, hcnt⟩ := id Z
  obtain ⟨-, -, hy, hyO, hyr, -, -, -, hmc⟩ := id Y
  intro Φ Ψ h
  show J g mX3_rain 9 0 0 0 [some (.ref (ad 0)), some (.int (nI a)), some (.int (nI b)), some (.int x)] [] n ad E Φ Ψ
  refine j_aload_n dX3_rain_0 rfl ?_
  refine j_iload_n dX3_rain_1 rfl ?_
  refine j_iload_n dX3_rain_2 rfl ?_
  refine j_cV (As := [.int (nI a), .int (nI b)]) (rest := []) cm_X3_checkPuddle ci_X3_checkPuddle cs_X3_checkPuddle rfl ln_X3_57 (ci := 3) rfl dX3_rain_3 (d' := 8) (by decide) (by omega) h0 rfl rfl (Nat.le_of_ble_eq_true rfl) (Nat.le_of_ble_eq_true rfl) (s_checkPuddle_ok C a b ha hb) ?_
  refine j_iload_n dX3_rain_6 rfl ?_
  refine j_bipush (v := (-99)) dX3_rain_7 (by decide) ?_
  refine j_bipush (v := 99) dX3_rain_9 (by decide) ?_
  refine j_cS (As := [.int x, .int (-99), .int 99]) (rest := []) cm_X3_checkNumber ct_X3_checkNumber ln_X3_46 dX3_rain_11 (d' := 6) (by decide) rfl rfl (Nat.le_of_ble_eq_true rfl) (Nat.le_of_ble_eq_true rfl) (s_checkNumber_ok x (-99) 99 hx1 hx2) ?_
  refine j_aload_n dX3_rain_14 rfl ?_
  refine j_cVp (As := []) (rest := []) cm_X3_keepDeed ci_X3_keepDeed cs_X3_keepDeed rfl ln_X3_60 (ci := 3) rfl dX3_rain_15 (d' := 2) (by decide) (by omega) h0 rfl rfl (Nat.le_of_ble_eq_true rfl) (Nat.le_of_ble_eq_true rfl) (s_X3_keepDeed C) (fun E1 q1 => ?_)
  have C1 := q1.1
  obtain ⟨h01, W1, ⟨F41, S41, su41, lv41, ed41, T1⟩, Z1, Y1, ⟨fc1, Hm1, P1⟩, hFp1, hSp1, hn1⟩ := id C1
  obtain ⟨-, -, hw1, hL1, hE1, hF1, hS1⟩ := id W1
  obtain ⟨-, -, hz1, hzO1, hzr1, -, -, hold1, hcnt1⟩ := id Z1
  obtain ⟨-, -, hy1, hyO1, hyr1, -, -, -, hmc1⟩ := id Y1
  show J g mX3_rain 9 0 0 18 [some (.ref (ad 0)), some (.int (nI a)), some (.int (nI b)), some (.int x)] [] n ad E1 Φ Ψ
  refine j_aload_n dX3_rain_18 rfl ?_
  refine j_get fl_X3_12 dX3_rain_19 (by omega) h01 rfl ?_
  refine j_iload_n dX3_rain_22 rfl ?_
  refine j_iload_n dX3_rain_23 rfl ?_
  refine j_iload_n dX3_rain_24 rfl ?_
  refine j_cV (As := [.int (nI a), .int (nI b), .int x]) (rest := []) cm_X2_add ci_X2_add cs_X2_add rfl ln_X3_63 (ci := 2) rfl dX3_rain_25 (d' := 1) (by decide) (by omega) hw1 rfl rfl (Nat.le_of_ble_eq_true rfl) (Nat.le_of_ble_eq_true rfl) (s_X2_add W1 a b x (ix128 hF hS ha hb)) ?_
  refine j_aload_n dX3_rain_28 rfl ?_
  refine j_get fl_X3_12 dX3_rain_29 (by omega) ((up_ne (by decide)).trans h01) rfl ?_
  refine j_iload_n dX3_rain_32 rfl ?_
  refine j_iload_n dX3_rain_33 rfl ?_
  refine j_cV (As := [.int (nI a), .int (nI b)]) (rest := []) cm_X2_level ci_X2_level cs_X2_level rfl ln_X3_66 (ci := 2) rfl dX3_rain_34 (d' := 1) (by decide) (by omega) ((up_ne (by decide)).trans hw1) rfl rfl (Nat.le_of_ble_eq_true rfl) (Nat.le_of_ble_eq_true rfl) (s_X2_level' (wat.setL W1) a b (ix128 hF hS ha hb) (if_pos rfl)) ?_
  exact j_iret dX3_rain_37 rfl (h _ ⟨(CR.setLv C1), (fun k hk => ((up_ne (by omega)).trans (q1.2 k hk)))⟩)
set_option maxRecDepth 100000 in
set_option maxHeartbeats 4000000 in
theorem s_X3_rain_bad {g : jG} {n : Nat} {ad : Nat → Nat} {E : Nat → va_E} {F S : Nat} {hrs su : Int32} {gone : Int64} {lv ed : Nat → Int32} {old cnt mc : Nat} {dr mr : Nat → Nat → Int32} (C : CR g n ad E F S hrs su gone lv ed old cnt dr mc mr) (x y : Int32) (z : Int32) (hx : oob x F ∨ oob y S) : Thr g mX3_rain 9 [.ref (ad 0), .int x, .int y, .int z] n ad E "java/lang/IndexOutOfBoundsException" := by
  obtain ⟨h0, W, ⟨F4, S4, su4, lv4, ed4, T⟩, Z, Y, ⟨fc, Hm, P⟩, hFp, hSp, hn⟩ := id C
  obtain ⟨-, -, hw, hL, hE, hF, hS⟩ := id W
  obtain ⟨-, -, hz, hzO, hzr, -, -, hold, hcnt⟩ := id Z
  obtain ⟨-, -, hy, hyO, hyr, -, -, -, hmc⟩ := id Y
  intro Φ Ψ h
  show J g mX3_rain 9 1 6 0 [some (.ref (ad 0)), some (.int x), some (.int y), some (.int z)] [] n ad E Φ Ψ
  refine j_aload_n dX3_rain_0 rfl ?_
  refine j_iload_n dX3_rain_1 rfl ?_
  refine j_iload_n dX3_rain_2 rfl ?_
  exact j_cVx (As := [.int x, .int y]) (rest := []) cm_X3_checkPuddle ci_X3_checkPuddle cs_X3_checkPuddle rfl ln_X3_57 (ci := 3) rfl dX3_rain_3 (d' := 8) (by decide) (by omega) h0 rfl rfl (Nat.le_of_ble_eq_true rfl) (Nat.le_of_ble_eq_true rfl) (s_checkPuddle_bad C x y hx) (jMeets_out rfl h)
set_option maxRecDepth 100000 in
set_option maxHeartbeats 4000000 in
theorem s_X3_rain_iae {g : jG} {n : Nat} {ad : Nat → Nat} {E : Nat → va_E} {F S : Nat} {hrs su : Int32} {gone : Int64} {lv ed : Nat → Int32} {old cnt mc : Nat} {dr mr : Nat → Nat → Int32} (C : CR g n ad E F S hrs su gone lv ed old cnt dr mc mr) (a b : Nat) (ha : a < F) (hb : b < S) (x : Int32) (hx : x < -99 ∨ ¬ x ≤ 99) : Thr g mX3_rain 9 [.ref (ad 0), .int (nI a), .int (nI b), .int x] n ad E "java/lang/IllegalArgumentException" := by
  obtain ⟨h0, W, ⟨F4, S4, su4, lv4, ed4, T⟩, Z, Y, ⟨fc, Hm, P⟩, hFp, hSp, hn⟩ := id C
  obtain ⟨-, -, hw, hL, hE, hF, hS⟩ := id W
  obtain ⟨-, -, hz, hzO, hzr, -, -, hold, hcnt⟩ := id Z
  obtain ⟨-, -, hy, hyO, hyr, -, -, -, hmc⟩ := id Y
  intro Φ Ψ h
  show J g mX3_rain 9 1 6 0 [some (.ref (ad 0)), some (.int (nI a)), some (.int (nI b)), some (.int x)] [] n ad E Φ Ψ
  refine j_aload_n dX3_rain_0 rfl ?_
  refine j_iload_n dX3_rain_1 rfl ?_
  refine j_iload_n dX3_rain_2 rfl ?_
  refine j_cV (As := [.int (nI a), .int (nI b)]) (rest := []) cm_X3_checkPuddle ci_X3_checkPuddle cs_X3_checkPuddle rfl ln_X3_57 (ci := 3) rfl dX3_rain_3 (d' := 8) (by decide) (by omega) h0 rfl rfl (Nat.le_of_ble_eq_true rfl) (Nat.le_of_ble_eq_true rfl) (s_checkPuddle_ok C a b ha hb) ?_
  refine j_iload_n dX3_rain_6 rfl ?_
  refine j_bipush (v := (-99)) dX3_rain_7 (by decide) ?_
  refine j_bipush (v := 99) dX3_rain_9 (by decide) ?_
  exact j_cSx (As := [.int x, .int (-99), .int 99]) (rest := []) cm_X3_checkNumber ct_X3_checkNumber ln_X3_46 dX3_rain_11 (d' := 6) (by decide) rfl rfl (Nat.le_of_ble_eq_true rfl) (Nat.le_of_ble_eq_true rfl) (s_checkNumber_bad x (-99) 99 hx) (jMeets_out rfl h)
set_option maxRecDepth 100000 in
set_option maxHeartbeats 4000000 in
theorem s_X3_splash {g : jG} {n : Nat} {ad : Nat → Nat} {E : Nat → va_E} {F S : Nat} {hrs su : Int32} {gone : Int64} {lv ed : Nat → Int32} {old cnt mc : Nat} {dr mr : Nat → Nat → Int32} (C : CR g n ad E F S hrs su gone lv ed old cnt dr mc mr) (fa sa fb sb : Nat) (hfa : fa < F) (hsa : sa < S) (hfb : fb < F) (hsb : sb < S) (h1 : fa ≤ fb) (h2 : sa ≤ sb) (x : Int32) (hx1 : ¬ x < -99) (hx2 : x ≤ 99) : RetP g mX3_splash 10 [.ref (ad 0), .int (nI fa), .int (nI sa), .int (nI fb), .int (nI sb), .int x] n ad E (some (.int (nI ((fb - fa + 1) * (sb - sa + 1))))) (fun E9 => CR g n ad E9 F S hrs su gone (splL lv S fa sa fb sb x) ed (kOld old cnt) (kCnt cnt) (rowUp dr (kSlot old cnt) (cpyN lv (dr (kSlot old cnt)) (F * S))) mc mr ∧ ∀ k, 63 ≤ k → E9 k = E k) := by
  obtain ⟨h0, W, ⟨F4, S4, su4, lv4, ed4, T⟩, Z, Y, ⟨fc, Hm, P⟩, hFp, hSp, hn⟩ := id C
  obtain ⟨-, -, hw, hL, hE, hF, hS⟩ := id W
  obtain ⟨-, -, hz, hzO, hzr, -, -, hold, hcnt⟩ := id Z
  obtain ⟨-, -, hy, hyO, hyr, -, -, -, hmc⟩ := id Y
  intro Φ Ψ h
  show J g mX3_splash 10 0 0 0 [some (.ref (ad 0)), some (.int (nI fa)), some (.int (nI sa)), some (.int (nI fb)), some (.int (nI sb)), some (.int x), none, none] [] n ad E Φ Ψ
  refine j_aload_n dX3_splash_0 rfl ?_
  refine j_iload_n dX3_splash_1 rfl ?_
  refine j_iload_n dX3_splash_2 rfl ?_
  refine j_iload_n dX3_splash_3 rfl ?_
  refine j_iload dX3_splash_4 rfl ?_
  refine j_cV (As := [.int (nI fa), .int (nI sa), .int (nI fb), .int (nI sb)]) (rest := []) cm_X3_checkPart ci_X3_checkPart cs_X3_checkPart rfl ln_X3_70 (ci := 3) rfl dX3_splash_6 (d' := 9) (by decide) (by omega) h0 rfl rfl (Nat.le_of_ble_eq_true rfl) (Nat.le_of_ble_eq_true rfl) (s_checkPart_ok C fa sa fb sb hfa hsa hfb hsb h1 h2) ?_
  refine j_iload dX3_splash_9 rfl ?_
  refine j_bipush (v := (-99)) dX3_splash_11 (by decide) ?_
  refine j_bipush (v := 99) dX3_splash_13 (by decide) ?_
  refine j_cS (As := [.int x, .int (-99), .int 99]) (rest := []) cm_X3_checkNumber ct_X3_checkNumber ln_X3_46 dX3_splash_15 (d' := 6) (by decide) rfl rfl (Nat.le_of_ble_eq_true rfl) (Nat.le_of_ble_eq_true rfl) (s_checkNumber_ok x (-99) 99 hx1 hx2) ?_
  refine j_aload_n dX3_splash_18 rfl ?_
  refine j_cVp (As := []) (rest := []) cm_X3_keepDeed ci_X3_keepDeed cs_X3_keepDeed rfl ln_X3_60 (ci := 3) rfl dX3_splash_19 (d' := 2) (by decide) (by omega) h0 rfl rfl (Nat.le_of_ble_eq_true rfl) (Nat.le_of_ble_eq_true rfl) (s_X3_keepDeed C) (fun E1 q1 => ?_)
  have C1 := q1.1
  obtain ⟨h01, W1, ⟨F41, S41, su41, lv41, ed41, T1⟩, Z1, Y1, ⟨fc1, Hm1, P1⟩, hFp1, hSp1, hn1⟩ := id C1
  obtain ⟨-, -, hw1, hL1, hE1, hF1, hS1⟩ := id W1
  obtain ⟨-, -, hz1, hzO1, hzr1, -, -, hold1, hcnt1⟩ := id Z1
  obtain ⟨-, -, hy1, hyO1, hyr1, -, -, -, hmc1⟩ := id Y1
  show J g mX3_splash 10 0 0 22 [some (.ref (ad 0)), some (.int (nI fa)), some (.int (nI sa)), some (.int (nI fb)), some (.int (nI sb)), some (.int x), none, none] [] n ad E1 Φ Ψ
  refine j_iload_n dX3_splash_22 rfl ?_
  refine j_istore (L' := [some (.ref (ad 0)), some (.int (nI fa)), some (.int (nI sa)), some (.int (nI fb)), some (.int (nI sb)), some (.int x), some (.int (nI fa)), none]) dX3_splash_23 (by decide) rfl rfl ?_
  refine j_E (E' := va_up E1 2 (aI g 128 lv)) (up_self hL1).symm ?_
  refine lpf_ind (b := fun f y => lpf (fun s y => upd y (f * S + s) (y (f * S + s) + x)) sa (sb + 1 - sa) y) (P := fun (f : Nat) (y : Nat → Int32) => J g mX3_splash 10 0 0 25 [some (.ref (ad 0)), some (.int (nI fa)), some (.int (nI sa)), some (.int (nI fb)), some (.int (nI sb)), some (.int x), some (.int (nI f)), none] [] n ad (va_up E1 2 (aI g 128 y)) Φ Ψ) (N := fa + (fb + 1 - fa)) fa ?_ (fb + 1 - fa) lv (by omega) ?_
  · intro f y hf0 hf ih
    show J g mX3_splash 10 0 0 25 [some (.ref (ad 0)), some (.int (nI fa)), some (.int (nI sa)), some (.int (nI fb)), some (.int (nI sb)), some (.int x), some (.int (nI f)), none] [] n ad (va_up E1 2 (aI g 128 y)) Φ Ψ
    have ih0 := ih
    clear ih
    refine j_iload dX3_splash_25 rfl ?_
    refine j_iload_n dX3_splash_27 rfl ?_
    refine j_icmp_gt_f (tgt := 66) dX3_splash_28 (by decide) (nI_nlt' (by omega) (by omega) (by omega)) ?_
    refine j_iload_n dX3_splash_31 rfl ?_
    refine j_istore (L' := [some (.ref (ad 0)), some (.int (nI fa)), some (.int (nI sa)), some (.int (nI fb)), some (.int (nI sb)), some (.int x), some (.int (nI f)), some (.int (nI sa))]) dX3_splash_32 (by decide) rfl rfl ?_
    refine lpf_ind (b := fun s y => upd y (f * S + s) (y (f * S + s) + x)) (P := fun (s : Nat) (y : Nat → Int32) => J g mX3_splash 10 0 0 34 [some (.ref (ad 0)), some (.int (nI fa)), some (.int (nI sa)), some (.int (nI fb)), some (.int (nI sb)), some (.int x), some (.int (nI f)), some (.int (nI s))] [] n ad (va_up E1 2 (aI g 128 y)) Φ Ψ) (N := sa + (sb + 1 - sa)) sa ?_ (sb + 1 - sa) y (by omega) ?_
    · intro s y hs0 hs ih
      show J g mX3_splash 10 0 0 34 [some (.ref (ad 0)), some (.int (nI fa)), some (.int (nI sa)), some (.int (nI fb)), some (.int (nI sb)), some (.int x), some (.int (nI f)), some (.int (nI s))] [] n ad (va_up E1 2 (aI g 128 y)) Φ Ψ
      refine j_iload dX3_splash_34 rfl ?_
      refine j_iload dX3_splash_36 rfl ?_
      refine j_icmp_gt_f (tgt := 60) dX3_splash_38 (by decide) (nI_nlt' (by omega) (by omega) (by omega)) ?_
      refine j_aload_n dX3_splash_41 rfl ?_
      refine j_get fl_X3_12 dX3_splash_42 (by omega) ((up_ne (by decide)).trans h01) rfl ?_
      refine j_iload dX3_splash_45 rfl ?_
      refine j_iload dX3_splash_47 rfl ?_
      refine j_iload dX3_splash_49 rfl ?_
      refine j_cV (As := [.int (nI f), .int (nI s), .int x]) (rest := []) cm_X2_add ci_X2_add cs_X2_add rfl ln_X3_63 (ci := 2) rfl dX3_splash_51 (d' := 1) (by decide) (by omega) ((up_ne (by decide)).trans hw1) rfl rfl (Nat.le_of_ble_eq_true rfl) (Nat.le_of_ble_eq_true rfl) (s_X2_add (wat.setL W1) f s x (ix128 hF hS (show f < F by omega) (show s < S by omega))) ?_
      refine j_E up_up ?_
      refine j_iinc (v := nI (s + 1)) (L' := [some (.ref (ad 0)), some (.int (nI fa)), some (.int (nI sa)), some (.int (nI fb)), some (.int (nI sb)), some (.int x), some (.int (nI f)), some (.int (nI (s + 1)))]) dX3_splash_54 (by decide) rfl (nI_1 _) rfl rfl ?_
      refine j_goto (tgt := 34) dX3_splash_57 (by decide) ?_
      exact ih _ rfl
    · skip
      show J g mX3_splash 10 0 0 34 [some (.ref (ad 0)), some (.int (nI fa)), some (.int (nI sa)), some (.int (nI fb)), some (.int (nI sb)), some (.int x), some (.int (nI f)), some (.int (nI (sa + (sb + 1 - sa))))] [] n ad (va_up E1 2 (aI g 128 (lpf (fun s y => upd y (f * S + s) (y (f * S + s) + x)) sa (sb + 1 - sa) y))) Φ Ψ
      refine j_iload dX3_splash_34 rfl ?_
      refine j_iload dX3_splash_36 rfl ?_
      refine j_icmp_gt_t (tgt := 60) dX3_splash_38 (by decide) (nI_lt' (by omega) (by omega) (by omega)) ?_
      refine j_iinc (v := nI (f + 1)) (L' := [some (.ref (ad 0)), some (.int (nI fa)), some (.int (nI sa)), some (.int (nI fb)), some (.int (nI sb)), some (.int x), some (.int (nI (f + 1))), some (.int (nI (sa + (sb + 1 - sa))))]) dX3_splash_60 (by decide) rfl (nI_1 _) rfl rfl ?_
      refine j_goto (tgt := 25) dX3_splash_63 (by decide) ?_
      refine j_clr 7 ?_
      exact ih0 _ rfl
  · skip
    show J g mX3_splash 10 0 0 25 [some (.ref (ad 0)), some (.int (nI fa)), some (.int (nI sa)), some (.int (nI fb)), some (.int (nI sb)), some (.int x), some (.int (nI (fa + (fb + 1 - fa)))), none] [] n ad (va_up E1 2 (aI g 128 (splL lv S fa sa fb sb x))) Φ Ψ
    refine j_iload dX3_splash_25 rfl ?_
    refine j_iload_n dX3_splash_27 rfl ?_
    refine j_icmp_gt_t (tgt := 66) dX3_splash_28 (by decide) (nI_lt' (by omega) (by omega) (by omega)) ?_
    refine j_iload_n dX3_splash_66 rfl ?_
    refine j_iload_n dX3_splash_67 rfl ?_
    refine j_isub dX3_splash_68 ?_
    refine j_topi (y := nI (fb - fa)) (pk_sub (by omega)) ?_
    refine j_iconst (v := 1) dX3_splash_69 (by decide) ?_
    refine j_iadd dX3_splash_70 ?_
    refine j_topi (y := nI ((fb - fa) + 1)) (nI_add _ _) ?_
    refine j_iload dX3_splash_71 rfl ?_
    refine j_iload_n dX3_splash_73 rfl ?_
    refine j_isub dX3_splash_74 ?_
    refine j_topi (y := nI (sb - sa)) (pk_sub (by omega)) ?_
    refine j_iconst (v := 1) dX3_splash_75 (by decide) ?_
    refine j_iadd dX3_splash_76 ?_
    refine j_topi (y := nI ((sb - sa) + 1)) (nI_add _ _) ?_
    refine j_imul dX3_splash_77 ?_
    refine j_topi (y := nI (((fb - fa) + 1) * ((sb - sa) + 1))) (pk_mul _ _) ?_
    exact j_iret dX3_splash_78 rfl (h _ ⟨(CR.setLv C1), (fun k hk => ((up_ne (by omega)).trans (q1.2 k hk)))⟩)
set_option maxRecDepth 100000 in
set_option maxHeartbeats 4000000 in
theorem s_X3_splash_bad {g : jG} {n : Nat} {ad : Nat → Nat} {E : Nat → va_E} {F S : Nat} {hrs su : Int32} {gone : Int64} {lv ed : Nat → Int32} {old cnt mc : Nat} {dr mr : Nat → Nat → Int32} (C : CR g n ad E F S hrs su gone lv ed old cnt dr mc mr) (x1 x2 x3 x4 : Int32) (z : Int32) (hx : oob x1 F ∨ oob x2 S ∨ oob x3 F ∨ oob x4 S) : Thr g mX3_splash 10 [.ref (ad 0), .int x1, .int x2, .int x3, .int x4, .int z] n ad E "java/lang/IndexOutOfBoundsException" := by
  obtain ⟨h0, W, ⟨F4, S4, su4, lv4, ed4, T⟩, Z, Y, ⟨fc, Hm, P⟩, hFp, hSp, hn⟩ := id C
  obtain ⟨-, -, hw, hL, hE, hF, hS⟩ := id W
  obtain ⟨-, -, hz, hzO, hzr, -, -, hold, hcnt⟩ := id Z
  obtain ⟨-, -, hy, hyO, hyr, -, -, -, hmc⟩ := id Y
  intro Φ Ψ h
  show J g mX3_splash 10 1 6 0 [some (.ref (ad 0)), some (.int x1), some (.int x2), some (.int x3), some (.int x4), some (.int z), none, none] [] n ad E Φ Ψ
  refine j_aload_n dX3_splash_0 rfl ?_
  refine j_iload_n dX3_splash_1 rfl ?_
  refine j_iload_n dX3_splash_2 rfl ?_
  refine j_iload_n dX3_splash_3 rfl ?_
  refine j_iload dX3_splash_4 rfl ?_
  exact j_cVx (As := [.int x1, .int x2, .int x3, .int x4]) (rest := []) cm_X3_checkPart ci_X3_checkPart cs_X3_checkPart rfl ln_X3_70 (ci := 3) rfl dX3_splash_6 (d' := 9) (by decide) (by omega) h0 rfl rfl (Nat.le_of_ble_eq_true rfl) (Nat.le_of_ble_eq_true rfl) (s_checkPart_bad C x1 x2 x3 x4 hx) (jMeets_out rfl h)
set_option maxRecDepth 100000 in
set_option maxHeartbeats 4000000 in
theorem s_X3_splash_iae {g : jG} {n : Nat} {ad : Nat → Nat} {E : Nat → va_E} {F S : Nat} {hrs su : Int32} {gone : Int64} {lv ed : Nat → Int32} {old cnt mc : Nat} {dr mr : Nat → Nat → Int32} (C : CR g n ad E F S hrs su gone lv ed old cnt dr mc mr) (fa sa fb sb : Nat) (hfa : fa < F) (hsa : sa < S) (hfb : fb < F) (hsb : sb < S) (z : Int32) (hx : fb < fa ∨ sb < sa) : Thr g mX3_splash 10 [.ref (ad 0), .int (nI fa), .int (nI sa), .int (nI fb), .int (nI sb), .int z] n ad E "java/lang/IllegalArgumentException" := by
  obtain ⟨h0, W, ⟨F4, S4, su4, lv4, ed4, T⟩, Z, Y, ⟨fc, Hm, P⟩, hFp, hSp, hn⟩ := id C
  obtain ⟨-, -, hw, hL, hE, hF, hS⟩ := id W
  obtain ⟨-, -, hz, hzO, hzr, -, -, hold, hcnt⟩ := id Z
  obtain ⟨-, -, hy, hyO, hyr, -, -, -, hmc⟩ := id Y
  intro Φ Ψ h
  show J g mX3_splash 10 1 6 0 [some (.ref (ad 0)), some (.int (nI fa)), some (.int (nI sa)), some (.int (nI fb)), some (.int (nI sb)), some (.int z), none, none] [] n ad E Φ Ψ
  refine j_aload_n dX3_splash_0 rfl ?_
  refine j_iload_n dX3_splash_1 rfl ?_
  refine j_iload_n dX3_splash_2 rfl ?_
  refine j_iload_n dX3_splash_3 rfl ?_
  refine j_iload dX3_splash_4 rfl ?_
  exact j_cVx (As := [.int (nI fa), .int (nI sa), .int (nI fb), .int (nI sb)]) (rest := []) cm_X3_checkPart ci_X3_checkPart cs_X3_checkPart rfl ln_X3_70 (ci := 3) rfl dX3_splash_6 (d' := 9) (by decide) (by omega) h0 rfl rfl (Nat.le_of_ble_eq_true rfl) (Nat.le_of_ble_eq_true rfl) (s_checkPart_iae C fa sa fb sb hfa hsa hfb hsb hx) (jMeets_out rfl h)
set_option maxRecDepth 100000 in
set_option maxHeartbeats 4000000 in
theorem s_X3_splash_num {g : jG} {n : Nat} {ad : Nat → Nat} {E : Nat → va_E} {F S : Nat} {hrs su : Int32} {gone : Int64} {lv ed : Nat → Int32} {old cnt mc : Nat} {dr mr : Nat → Nat → Int32} (C : CR g n ad E F S hrs su gone lv ed old cnt dr mc mr) (fa sa fb sb : Nat) (hfa : fa < F) (hsa : sa < S) (hfb : fb < F) (hsb : sb < S) (h1 : fa ≤ fb) (h2 : sa ≤ sb) (x : Int32) (hx : x < -99 ∨ ¬ x ≤ 99) : Thr g mX3_splash 10 [.ref (ad 0), .int (nI fa), .int (nI sa), .int (nI fb), .int (nI sb), .int x] n ad E "java/lang/IllegalArgumentException" := by
  obtain ⟨h0, W, ⟨F4, S4, su4, lv4, ed4, T⟩, Z, Y, ⟨fc, Hm, P⟩, hFp, hSp, hn⟩ := id C
  obtain ⟨-, -, hw, hL, hE, hF, hS⟩ := id W
  obtain ⟨-, -, hz, hzO, hzr, -, -, hold, hcnt⟩ := id Z
  obtain ⟨-, -, hy, hyO, hyr, -, -, -, hmc⟩ := id Y
  intro Φ Ψ h
  show J g mX3_splash 10 1 6 0 [some (.ref (ad 0)), some (.int (nI fa)), some (.int (nI sa)), some (.int (nI fb)), some (.int (nI sb)), some (.int x), none, none] [] n ad E Φ Ψ
  refine j_aload_n dX3_splash_0 rfl ?_
  refine j_iload_n dX3_splash_1 rfl ?_
  refine j_iload_n dX3_splash_2 rfl ?_
  refine j_iload_n dX3_splash_3 rfl ?_
  refine j_iload dX3_splash_4 rfl ?_
  refine j_cV (As := [.int (nI fa), .int (nI sa), .int (nI fb), .int (nI sb)]) (rest := []) cm_X3_checkPart ci_X3_checkPart cs_X3_checkPart rfl ln_X3_70 (ci := 3) rfl dX3_splash_6 (d' := 9) (by decide) (by omega) h0 rfl rfl (Nat.le_of_ble_eq_true rfl) (Nat.le_of_ble_eq_true rfl) (s_checkPart_ok C fa sa fb sb hfa hsa hfb hsb h1 h2) ?_
  refine j_iload dX3_splash_9 rfl ?_
  refine j_bipush (v := (-99)) dX3_splash_11 (by decide) ?_
  refine j_bipush (v := 99) dX3_splash_13 (by decide) ?_
  exact j_cSx (As := [.int x, .int (-99), .int 99]) (rest := []) cm_X3_checkNumber ct_X3_checkNumber ln_X3_46 dX3_splash_15 (d' := 6) (by decide) rfl rfl (Nat.le_of_ble_eq_true rfl) (Nat.le_of_ble_eq_true rfl) (s_checkNumber_bad x (-99) 99 hx) (jMeets_out rfl h)
set_option maxRecDepth 100000 in
set_option maxHeartbeats 4000000 in
theorem s_X3_swap {g : jG} {n : Nat} {ad : Nat → Nat} {E : Nat → va_E} {F S : Nat} {hrs su : Int32} {gone : Int64} {lv ed : Nat → Int32} {old cnt mc : Nat} {dr mr : Nat → Nat → Int32} (C : CR g n ad E F S hrs su gone lv ed old cnt dr mc mr) (a b : Nat) (ha : a < F) (hb : b < F) : RetP g mX3_swap 8 [.ref (ad 0), .int (nI a), .int (nI b)] n ad E (some (.int (nI S - alkC lv S a b))) (fun E9 => CR g n ad E9 F S hrs su gone (swpL lv S a b) ed (kOld old cnt) (kCnt cnt) (rowUp dr (kSlot old cnt) (cpyN lv (dr (kSlot old cnt)) (F * S))) mc mr ∧ ∀ k, 63 ≤ k → E9 k = E k) := by
  obtain ⟨h0, W, ⟨F4, S4, su4, lv4, ed4, T⟩, Z, Y, ⟨fc, Hm, P⟩, hFp, hSp, hn⟩ := id C
  obtain ⟨-, -, hw, hL, hE, hF, hS⟩ := id W
  obtain ⟨-, -, hz, hzO, hzr, -, -, hold, hcnt⟩ := id Z
  obtain ⟨-, -, hy, hyO, hyr, -, -, -, hmc⟩ := id Y
  intro Φ Ψ h
  show J g mX3_swap 8 0 0 0 [some (.ref (ad 0)), some (.int (nI a)), some (.int (nI b)), none, none] [] n ad E Φ Ψ
  refine j_aload_n dX3_swap_0 rfl ?_
  refine j_iload_n dX3_swap_1 rfl ?_
  refine j_cV (As := [.int (nI a)]) (rest := []) cm_X3_checkFlight ci_X3_checkFlight cs_X3_checkFlight rfl ln_X3_74 (ci := 3) rfl dX3_swap_2 (d' := 7) (by decide) (by omega) h0 rfl rfl (Nat.le_of_ble_eq_true rfl) (Nat.le_of_ble_eq_true rfl) (s_checkFlight_ok C a ha) ?_
  refine j_aload_n dX3_swap_5 rfl ?_
  refine j_iload_n dX3_swap_6 rfl ?_
  refine j_cV (As := [.int (nI b)]) (rest := []) cm_X3_checkFlight ci_X3_checkFlight cs_X3_checkFlight rfl ln_X3_74 (ci := 3) rfl dX3_swap_7 (d' := 7) (by decide) (by omega) h0 rfl rfl (Nat.le_of_ble_eq_true rfl) (Nat.le_of_ble_eq_true rfl) (s_checkFlight_ok C b hb) ?_
  refine j_aload_n dX3_swap_10 rfl ?_
  refine j_cVp (As := []) (rest := []) cm_X3_keepDeed ci_X3_keepDeed cs_X3_keepDeed rfl ln_X3_60 (ci := 3) rfl dX3_swap_11 (d' := 2) (by decide) (by omega) h0 rfl rfl (Nat.le_of_ble_eq_true rfl) (Nat.le_of_ble_eq_true rfl) (s_X3_keepDeed C) (fun E1 q1 => ?_)
  have C1 := q1.1
  obtain ⟨h01, W1, ⟨F41, S41, su41, lv41, ed41, T1⟩, Z1, Y1, ⟨fc1, Hm1, P1⟩, hFp1, hSp1, hn1⟩ := id C1
  obtain ⟨-, -, hw1, hL1, hE1, hF1, hS1⟩ := id W1
  obtain ⟨-, -, hz1, hzO1, hzr1, -, -, hold1, hcnt1⟩ := id Z1
  obtain ⟨-, -, hy1, hyO1, hyr1, -, -, -, hmc1⟩ := id Y1
  show J g mX3_swap 8 0 0 14 [some (.ref (ad 0)), some (.int (nI a)), some (.int (nI b)), none, none] [] n ad E1 Φ Ψ
  refine j_aload_n dX3_swap_14 rfl ?_
  refine j_get fl_X3_12 dX3_swap_15 (by omega) h01 rfl ?_
  refine j_get fl_X3_77 dX3_swap_18 (by omega) hw1 rfl ?_
  refine j_aload_n dX3_swap_21 rfl ?_
  refine j_get fl_X3_12 dX3_swap_22 (by omega) h01 rfl ?_
  refine j_iload_n dX3_swap_25 rfl ?_
  refine j_iload_n dX3_swap_26 rfl ?_
  refine j_cV (As := [.int (nI a), .int (nI b)]) (rest := [.int (nI S)]) cm_X2_alikeSteps ci_X2_alikeSteps cs_X2_alikeSteps rfl ln_X3_80 (ci := 2) rfl dX3_swap_27 (d' := 2) (by decide) (by omega) hw1 rfl rfl (Nat.le_of_ble_eq_true rfl) (Nat.le_of_ble_eq_true rfl) (s_X2_alikeSteps W1 a b ha hb) ?_
  refine j_isub dX3_swap_30 ?_
  refine j_istore_n (L' := [some (.ref (ad 0)), some (.int (nI a)), some (.int (nI b)), some (.int ((nI S) - (alkC lv S a b))), none]) dX3_swap_31 (by decide) rfl rfl ?_
  refine j_iconst (v := nI 0) dX3_swap_32 (by decide) ?_
  refine j_istore (L' := [some (.ref (ad 0)), some (.int (nI a)), some (.int (nI b)), some (.int ((nI S) - (alkC lv S a b))), some (.int (nI 0))]) dX3_swap_33 (by decide) rfl rfl ?_
  refine j_E (E' := va_up E1 2 (aI g 128 lv)) (up_self hL1).symm ?_
  refine lpf_ind (b := fun s y => upd (upd y (a * S + s) (y (b * S + s))) (b * S + s) (y (a * S + s))) (P := fun (s : Nat) (y : Nat → Int32) => J g mX3_swap 8 0 0 35 [some (.ref (ad 0)), some (.int (nI a)), some (.int (nI b)), some (.int (nI S - alkC lv S a b)), some (.int (nI s))] [] n ad (va_up E1 2 (aI g 128 y)) Φ Ψ) (N := S) 0 ?_ S lv (by omega) ?_
  · intro s y hs0 hs ih
    show J g mX3_swap 8 0 0 35 [some (.ref (ad 0)), some (.int (nI a)), some (.int (nI b)), some (.int (nI S - alkC lv S a b)), some (.int (nI s))] [] n ad (va_up E1 2 (aI g 128 y)) Φ Ψ
    refine j_iload dX3_swap_35 rfl ?_
    refine j_aload_n dX3_swap_37 rfl ?_
    refine j_get fl_X3_12 dX3_swap_38 (by omega) ((up_ne (by decide)).trans h01) rfl ?_
    refine j_get fl_X3_77 dX3_swap_41 (by omega) ((up_ne (by decide)).trans hw1) rfl ?_
    refine j_icmp_ge_f (tgt := 80) dX3_swap_44 (by decide) (nI_nle' (by omega) (by omega) (by omega)) ?_
    refine j_aload_n dX3_swap_47 rfl ?_
    refine j_get fl_X3_12 dX3_swap_48 (by omega) ((up_ne (by decide)).trans h01) rfl ?_
    refine j_aload_n dX3_swap_51 rfl ?_
    refine j_get fl_X3_12 dX3_swap_52 (by omega) ((up_ne (by decide)).trans h01) rfl ?_
    refine j_iload_n dX3_swap_55 rfl ?_
    refine j_iload dX3_swap_56 rfl ?_
    refine j_cV (As := [.int (nI a), .int (nI s)]) (rest := [.ref (ad 1)]) cm_X2_numberOf ci_X2_numberOf cs_X2_numberOf rfl ln_X3_83 (ci := 2) rfl dX3_swap_58 (d' := 0) (by decide) (by omega) ((up_ne (by decide)).trans hw1) rfl rfl (Nat.le_of_ble_eq_true rfl) (Nat.le_of_ble_eq_true rfl) (s_X2_numberOf (wat.setL W1) a s) ?_
    refine j_aload_n dX3_swap_61 rfl ?_
    refine j_get fl_X3_12 dX3_swap_62 (by omega) ((up_ne (by decide)).trans h01) rfl ?_
    refine j_iload_n dX3_swap_65 rfl ?_
    refine j_iload dX3_swap_66 rfl ?_
    refine j_cV (As := [.int (nI b), .int (nI s)]) (rest := [.int (nI (a * S + s)), .ref (ad 1)]) cm_X2_numberOf ci_X2_numberOf cs_X2_numberOf rfl ln_X3_83 (ci := 2) rfl dX3_swap_68 (d' := 0) (by decide) (by omega) ((up_ne (by decide)).trans hw1) rfl rfl (Nat.le_of_ble_eq_true rfl) (Nat.le_of_ble_eq_true rfl) (s_X2_numberOf (wat.setL W1) b s) ?_
    refine j_cV (As := [.int (nI (a * S + s)), .int (nI (b * S + s))]) (rest := []) cm_X2_exchange ci_X2_exchange cs_X2_exchange rfl ln_X3_86 (ci := 2) rfl dX3_swap_71 (d' := 0) (by decide) (by omega) ((up_ne (by decide)).trans hw1) rfl rfl (Nat.le_of_ble_eq_true rfl) (Nat.le_of_ble_eq_true rfl) (s_X2_exchange (wat.setL W1) (a * S + s) (b * S + s) (ix128 hF hS ha hs) (ix128 hF hS hb hs)) ?_
    refine j_E up_up ?_
    refine j_iinc (v := nI (s + 1)) (L' := [some (.ref (ad 0)), some (.int (nI a)), some (.int (nI b)), some (.int (nI S - alkC lv S a b)), some (.int (nI (s + 1)))]) dX3_swap_74 (by decide) rfl (nI_1 _) rfl rfl ?_
    refine j_goto (tgt := 35) dX3_swap_77 (by decide) ?_
    exact ih _ rfl
  · skip
    show J g mX3_swap 8 0 0 35 [some (.ref (ad 0)), some (.int (nI a)), some (.int (nI b)), some (.int (nI S - alkC lv S a b)), some (.int (nI S))] [] n ad (va_up E1 2 (aI g 128 (swpL lv S a b))) Φ Ψ
    refine j_iload dX3_swap_35 rfl ?_
    refine j_aload_n dX3_swap_37 rfl ?_
    refine j_get fl_X3_12 dX3_swap_38 (by omega) ((up_ne (by decide)).trans h01) rfl ?_
    refine j_get fl_X3_77 dX3_swap_41 (by omega) ((up_ne (by decide)).trans hw1) rfl ?_
    refine j_icmp_ge_t (tgt := 80) dX3_swap_44 (by decide) (nI_le' (by omega) (by omega) (by omega)) ?_
    refine j_iload_n dX3_swap_80 rfl ?_
    exact j_iret dX3_swap_81 rfl (h _ ⟨(CR.setLv C1), (fun k hk => ((up_ne (by omega)).trans (q1.2 k hk)))⟩)
set_option maxRecDepth 100000 in
set_option maxHeartbeats 4000000 in
theorem s_X3_swap_bad {g : jG} {n : Nat} {ad : Nat → Nat} {E : Nat → va_E} {F S : Nat} {hrs su : Int32} {gone : Int64} {lv ed : Nat → Int32} {old cnt mc : Nat} {dr mr : Nat → Nat → Int32} (C : CR g n ad E F S hrs su gone lv ed old cnt dr mc mr) (x y : Int32) (hx : oob x F ∨ oob y F) : Thr g mX3_swap 8 [.ref (ad 0), .int x, .int y] n ad E "java/lang/IndexOutOfBoundsException" := by
  obtain ⟨h0, W, ⟨F4, S4, su4, lv4, ed4, T⟩, Z, Y, ⟨fc, Hm, P⟩, hFp, hSp, hn⟩ := id C
  obtain ⟨-, -, hw, hL, hE, hF, hS⟩ := id W
  obtain ⟨-, -, hz, hzO, hzr, -, -, hold, hcnt⟩ := id Z
  obtain ⟨-, -, hy, hyO, hyr, -, -, -, hmc⟩ := id Y
  intro Φ Ψ h
  show J g mX3_swap 8 1 6 0 [some (.ref (ad 0)), some (.int x), some (.int y), none, none] [] n ad E Φ Ψ
  rcases oob_or x (show F < 2 ^ 31 by omega) with q | ⟨a, ha, rfl⟩
  · skip
    refine j_aload_n dX3_swap_0 rfl ?_
    refine j_iload_n dX3_swap_1 rfl ?_
    exact j_cVx (As := [.int x]) (rest := []) cm_X3_checkFlight ci_X3_checkFlight cs_X3_checkFlight rfl ln_X3_74 (ci := 3) rfl dX3_swap_2 (d' := 7) (by decide) (by omega) h0 rfl rfl (Nat.le_of_ble_eq_true rfl) (Nat.le_of_ble_eq_true rfl) (s_checkFlight_bad C x q) (jMeets_out rfl h)
  · skip
    have hy := hx.resolve_left (not_oob ha (by omega))
    refine j_aload_n dX3_swap_0 rfl ?_
    refine j_iload_n dX3_swap_1 rfl ?_
    refine j_cV (As := [.int (nI a)]) (rest := []) cm_X3_checkFlight ci_X3_checkFlight cs_X3_checkFlight rfl ln_X3_74 (ci := 3) rfl dX3_swap_2 (d' := 7) (by decide) (by omega) h0 rfl rfl (Nat.le_of_ble_eq_true rfl) (Nat.le_of_ble_eq_true rfl) (s_checkFlight_ok C a ha) ?_
    refine j_aload_n dX3_swap_5 rfl ?_
    refine j_iload_n dX3_swap_6 rfl ?_
    exact j_cVx (As := [.int y]) (rest := []) cm_X3_checkFlight ci_X3_checkFlight cs_X3_checkFlight rfl ln_X3_74 (ci := 3) rfl dX3_swap_7 (d' := 7) (by decide) (by omega) h0 rfl rfl (Nat.le_of_ble_eq_true rfl) (Nat.le_of_ble_eq_true rfl) (s_checkFlight_bad C y hy) (jMeets_out rfl h)
set_option maxRecDepth 100000 in
set_option maxHeartbeats 4000000 in
theorem s_X3_turn {g : jG} {n : Nat} {ad : Nat → Nat} {E : Nat → va_E} {F S : Nat} {hrs su : Int32} {gone : Int64} {lv ed : Nat → Int32} {old cnt mc : Nat} {dr mr : Nat → Nat → Int32} (C : CR g n ad E F S hrs su gone lv ed old cnt dr mc mr) (a : Nat) (ha : a < F) : RetP g mX3_turn 8 [.ref (ad 0), .int (nI a)] n ad E (some (.int (chgC (turnL lv S a) lv (F * S)))) (fun E9 => CR g n ad E9 F S hrs su gone (turnL lv S a) ed (kOld old cnt) (kCnt cnt) (rowUp dr (kSlot old cnt) (cpyN lv (dr (kSlot old cnt)) (F * S))) mc mr ∧ ∀ k, 63 ≤ k → E9 k = E k) := by
  obtain ⟨h0, W, ⟨F4, S4, su4, lv4, ed4, T⟩, Z, Y, ⟨fc, Hm, P⟩, hFp, hSp, hn⟩ := id C
  obtain ⟨-, -, hw, hL, hE, hF, hS⟩ := id W
  obtain ⟨-, -, hz, hzO, hzr, -, -, hold, hcnt⟩ := id Z
  obtain ⟨-, -, hy, hyO, hyr, -, -, -, hmc⟩ := id Y
  have hix := ix128 hF hS ha (show S - 1 < S by omega)
  have hsl := kSlot_lt hold hcnt
  intro Φ Ψ h
  show J g mX3_turn 8 0 0 0 [some (.ref (ad 0)), some (.int (nI a)), none, none] [] n ad E Φ Ψ
  refine j_aload_n dX3_turn_0 rfl ?_
  refine j_iload_n dX3_turn_1 rfl ?_
  refine j_cV (As := [.int (nI a)]) (rest := []) cm_X3_checkFlight ci_X3_checkFlight cs_X3_checkFlight rfl ln_X3_74 (ci := 3) rfl dX3_turn_2 (d' := 7) (by decide) (by omega) h0 rfl rfl (Nat.le_of_ble_eq_true rfl) (Nat.le_of_ble_eq_true rfl) (s_checkFlight_ok C a ha) ?_
  refine j_aload_n dX3_turn_5 rfl ?_
  refine j_cVp (As := []) (rest := []) cm_X3_keepDeed ci_X3_keepDeed cs_X3_keepDeed rfl ln_X3_60 (ci := 3) rfl dX3_turn_6 (d' := 2) (by decide) (by omega) h0 rfl rfl (Nat.le_of_ble_eq_true rfl) (Nat.le_of_ble_eq_true rfl) (s_X3_keepDeed C) (fun E1 q1 => ?_)
  have C1 := q1.1
  obtain ⟨h01, W1, ⟨F41, S41, su41, lv41, ed41, T1⟩, Z1, Y1, ⟨fc1, Hm1, P1⟩, hFp1, hSp1, hn1⟩ := id C1
  obtain ⟨-, -, hw1, hL1, hE1, hF1, hS1⟩ := id W1
  obtain ⟨-, -, hz1, hzO1, hzr1, -, -, hold1, hcnt1⟩ := id Z1
  obtain ⟨-, -, hy1, hyO1, hyr1, -, -, -, hmc1⟩ := id Y1
  show J g mX3_turn 8 0 0 9 [some (.ref (ad 0)), some (.int (nI a)), none, none] [] n ad E1 Φ Ψ
  refine j_aload_n dX3_turn_9 rfl ?_
  refine j_get fl_X3_12 dX3_turn_10 (by omega) h01 rfl ?_
  refine j_iload_n dX3_turn_13 rfl ?_
  refine j_iconst (v := nI 0) dX3_turn_14 (by decide) ?_
  refine j_cV (As := [.int (nI a), .int (nI 0)]) (rest := []) cm_X2_numberOf ci_X2_numberOf cs_X2_numberOf rfl ln_X3_83 (ci := 2) rfl dX3_turn_15 (d' := 0) (by decide) (by omega) hw1 rfl rfl (Nat.le_of_ble_eq_true rfl) (Nat.le_of_ble_eq_true rfl) (s_X2_numberOf W1 a 0) ?_
  refine j_istore_n (L' := [some (.ref (ad 0)), some (.int (nI a)), some (.int (nI (a * S + 0))), none]) dX3_turn_18 (by decide) rfl rfl ?_
  refine j_aload_n dX3_turn_19 rfl ?_
  refine j_get fl_X3_12 dX3_turn_20 (by omega) h01 rfl ?_
  refine j_iload_n dX3_turn_23 rfl ?_
  refine j_aload_n dX3_turn_24 rfl ?_
  refine j_get fl_X3_12 dX3_turn_25 (by omega) h01 rfl ?_
  refine j_get fl_X3_77 dX3_turn_28 (by omega) hw1 rfl ?_
  refine j_iconst (v := nI 1) dX3_turn_31 (by decide) ?_
  refine j_isub dX3_turn_32 ?_
  refine j_topi (y := nI (S - 1)) (pk_sub (by omega)) ?_
  refine j_cV (As := [.int (nI a), .int (nI (S - 1))]) (rest := []) cm_X2_numberOf ci_X2_numberOf cs_X2_numberOf rfl ln_X3_83 (ci := 2) rfl dX3_turn_33 (d' := 0) (by decide) (by omega) hw1 rfl rfl (Nat.le_of_ble_eq_true rfl) (Nat.le_of_ble_eq_true rfl) (s_X2_numberOf W1 a (S - 1)) ?_
  refine j_istore_n (L' := [some (.ref (ad 0)), some (.int (nI a)), some (.int (nI (a * S + 0))), some (.int (nI (a * S + (S - 1))))]) dX3_turn_36 (by decide) rfl rfl ?_
  refine j_E (E' := va_up E1 2 (aI g 128 (trnL lv S a 0))) (up_self (hL1.trans (by rw [trnL_0]))).symm ?_
  refine up_ind (P := fun (t : Nat) => J g mX3_turn 8 0 0 37 [some (.ref (ad 0)), some (.int (nI a)), some (.int (nI (a * S + t))), some (.int (nI (a * S + (S - 1) - t)))] [] n ad (va_up E1 2 (aI g 128 (trnL lv S a t))) Φ Ψ) (N := S / 2) 0 ?_ (S / 2) (by omega) ?_
  · intro t ht0 ht ih
    show J g mX3_turn 8 0 0 37 [some (.ref (ad 0)), some (.int (nI a)), some (.int (nI (a * S + t))), some (.int (nI (a * S + (S - 1) - t)))] [] n ad (va_up E1 2 (aI g 128 (trnL lv S a t))) Φ Ψ
    refine j_iload_n dX3_turn_37 rfl ?_
    refine j_iload_n dX3_turn_38 rfl ?_
    refine j_icmp_ge_f (tgt := 60) dX3_turn_39 (by decide) (nI_nle' (by omega) (by omega) (by omega)) ?_
    refine j_aload_n dX3_turn_42 rfl ?_
    refine j_get fl_X3_12 dX3_turn_43 (by omega) ((up_ne (by decide)).trans h01) rfl ?_
    refine j_iload_n dX3_turn_46 rfl ?_
    refine j_iload_n dX3_turn_47 rfl ?_
    refine j_cV (As := [.int (nI (a * S + t)), .int (nI (a * S + (S - 1) - t))]) (rest := []) cm_X2_exchange ci_X2_exchange cs_X2_exchange rfl ln_X3_86 (ci := 2) rfl dX3_turn_48 (d' := 0) (by decide) (by omega) ((up_ne (by decide)).trans hw1) rfl rfl (Nat.le_of_ble_eq_true rfl) (Nat.le_of_ble_eq_true rfl) (s_X2_exchange (wat.setL W1) (a * S + t) (a * S + (S - 1) - t) (by omega) (by omega)) ?_
    refine j_E up_up ?_
    refine j_iinc (v := nI (a * S + (t + 1))) (L' := [some (.ref (ad 0)), some (.int (nI a)), some (.int (nI (a * S + (t + 1)))), some (.int (nI (a * S + (S - 1) - t)))]) dX3_turn_51 (by decide) rfl (nI_1 _) rfl rfl ?_
    refine j_iinc (v := nI (a * S + (S - 1) - (t + 1))) (L' := [some (.ref (ad 0)), some (.int (nI a)), some (.int (nI (a * S + (t + 1)))), some (.int (nI (a * S + (S - 1) - (t + 1))))]) dX3_turn_54 (by decide) rfl (nI_dec (by omega)) rfl rfl ?_
    refine j_goto (tgt := 37) dX3_turn_57 (by decide) ?_
    exact j_E (congrArg (fun f => va_up E1 2 (aI g 128 f)) (trnL_step lv S a t ht)) ih
  · skip
    show J g mX3_turn 8 0 0 37 [some (.ref (ad 0)), some (.int (nI a)), some (.int (nI (a * S + (S / 2)))), some (.int (nI (a * S + (S - 1) - (S / 2))))] [] n ad (va_up E1 2 (aI g 128 (trnL lv S a (S / 2)))) Φ Ψ
    refine j_E (E' := va_up E1 2 (aI g 128 (turnL lv S a))) (by rw [trnL_end lv S a hSp]) ?_
    have hk1 : 1 ≤ kCnt cnt := by (unfold kCnt; split <;> omega)
    refine j_iload_n dX3_turn_37 rfl ?_
    refine j_iload_n dX3_turn_38 rfl ?_
    refine j_icmp_ge_t (tgt := 60) dX3_turn_39 (by decide) (nI_le' (by omega) (by omega) (by omega)) ?_
    refine j_aload_n dX3_turn_60 rfl ?_
    refine j_get fl_X3_12 dX3_turn_61 (by omega) ((up_ne (by decide)).trans h01) rfl ?_
    refine j_aload_n dX3_turn_64 rfl ?_
    refine j_get fl_X3_24 dX3_turn_65 (by omega) ((up_ne (by decide)).trans h01) rfl ?_
    refine j_aload_n dX3_turn_68 rfl ?_
    refine j_get fl_X3_24 dX3_turn_69 (by omega) ((up_ne (by decide)).trans h01) rfl ?_
    refine j_get fl_X3_89 dX3_turn_72 (by omega) ((up_ne (by decide)).trans hz1) rfl ?_
    refine j_iconst (v := nI 1) dX3_turn_75 (by decide) ?_
    refine j_isub dX3_turn_76 ?_
    refine j_topi (y := nI ((kCnt cnt) - 1)) (pk_sub (by omega)) ?_
    refine j_cV (As := [.int (nI ((kCnt cnt) - 1))]) (rest := [.ref (ad 1)]) cm_X1_row ci_X1_row cs_X1_row rfl ln_X3_92 (ci := 1) rfl dX3_turn_77 (d' := 0) (by decide) (by omega) ((up_ne (by decide)).trans hz1) rfl rfl (Nat.le_of_ble_eq_true rfl) (Nat.le_of_ble_eq_true rfl) (s_X1_row (rws.up Z1 (by decide) (by decide) (fun i hi => by omega)) (kCnt cnt - 1) (by omega)) ?_
    refine j_st (st' := [.ref (ad (9 + kSlot old cnt)), .ref (ad 1)]) (by rw [kSlot_last hold hcnt] <;> rfl) ?_
    refine j_cV (As := [.ref (ad (9 + kSlot old cnt))]) (rest := []) cm_X2_changedFrom ci_X2_changedFrom cs_X2_changedFrom rfl ln_X3_96 (ci := 2) rfl dX3_turn_80 (d' := 1) (by decide) (by omega) ((up_ne (by decide)).trans hw1) rfl rfl (Nat.le_of_ble_eq_true rfl) (Nat.le_of_ble_eq_true rfl) (s_X2_changedFrom' (wat.setL W1) (r := 9 + kSlot old cnt) (by omega) ((up_ne (by omega)).trans ((hzr1 _ hsl).trans (by rw [rowUp_at]))) (chgC_congr (fun _ _ => rfl) (fun k hk => cpyN_lt hk))) ?_
    exact j_iret dX3_turn_83 rfl (h _ ⟨(CR.setLv C1), (fun k hk => ((up_ne (by omega)).trans (q1.2 k hk)))⟩)
set_option maxRecDepth 100000 in
set_option maxHeartbeats 4000000 in
theorem s_X3_turn_bad {g : jG} {n : Nat} {ad : Nat → Nat} {E : Nat → va_E} {F S : Nat} {hrs su : Int32} {gone : Int64} {lv ed : Nat → Int32} {old cnt mc : Nat} {dr mr : Nat → Nat → Int32} (C : CR g n ad E F S hrs su gone lv ed old cnt dr mc mr) (x : Int32) (hx : oob x F) : Thr g mX3_turn 8 [.ref (ad 0), .int x] n ad E "java/lang/IndexOutOfBoundsException" := by
  obtain ⟨h0, W, ⟨F4, S4, su4, lv4, ed4, T⟩, Z, Y, ⟨fc, Hm, P⟩, hFp, hSp, hn⟩ := id C
  obtain ⟨-, -, hw, hL, hE, hF, hS⟩ := id W
  obtain ⟨-, -, hz, hzO, hzr, -, -, hold, hcnt⟩ := id Z
  obtain ⟨-, -, hy, hyO, hyr, -, -, -, hmc⟩ := id Y
  intro Φ Ψ h
  show J g mX3_turn 8 1 6 0 [some (.ref (ad 0)), some (.int x), none, none] [] n ad E Φ Ψ
  refine j_aload_n dX3_turn_0 rfl ?_
  refine j_iload_n dX3_turn_1 rfl ?_
  exact j_cVx (As := [.int x]) (rest := []) cm_X3_checkFlight ci_X3_checkFlight cs_X3_checkFlight rfl ln_X3_74 (ci := 3) rfl dX3_turn_2 (d' := 7) (by decide) (by omega) h0 rfl rfl (Nat.le_of_ble_eq_true rfl) (Nat.le_of_ble_eq_true rfl) (s_checkFlight_bad C x hx) (jMeets_out rfl h)
set_option maxRecDepth 100000 in
set_option maxHeartbeats 4000000 in
theorem s_X3_bail {g : jG} {n : Nat} {ad : Nat → Nat} {E : Nat → va_E} {F S : Nat} {hrs su : Int32} {gone : Int64} {lv ed : Nat → Int32} {old cnt mc : Nat} {dr mr : Nat → Nat → Int32} (C : CR g n ad E F S hrs su gone lv ed old cnt dr mc mr) (a : Nat) (ha : a < F) (x : Int32) (hx1 : ¬ x < 1) (hx2 : x ≤ 999) : RetP g mX3_bail 8 [.ref (ad 0), .int (nI a), .int x] n ad E (some (.int ((bailR lv S a x).1))) (fun E9 => CR g n ad E9 F S hrs su gone ((bailR lv S a x).2) ed (kOld old cnt) (kCnt cnt) (rowUp dr (kSlot old cnt) (cpyN lv (dr (kSlot old cnt)) (F * S))) mc mr ∧ ∀ k, 63 ≤ k → E9 k = E k) := by
  obtain ⟨h0, W, ⟨F4, S4, su4, lv4, ed4, T⟩, Z, Y, ⟨fc, Hm, P⟩, hFp, hSp, hn⟩ := id C
  obtain ⟨-, -, hw, hL, hE, hF, hS⟩ := id W
  obtain ⟨-, -, hz, hzO, hzr, -, -, hold, hcnt⟩ := id Z
  obtain ⟨-, -, hy, hyO, hyr, -, -, -, hmc⟩ := id Y
  intro Φ Ψ h
  show J g mX3_bail 8 0 0 0 [some (.ref (ad 0)), some (.int (nI a)), some (.int x), none, none, none, none] [] n ad E Φ Ψ
  refine j_aload_n dX3_bail_0 rfl ?_
  refine j_iload_n dX3_bail_1 rfl ?_
  refine j_cV (As := [.int (nI a)]) (rest := []) cm_X3_checkFlight ci_X3_checkFlight cs_X3_checkFlight rfl ln_X3_74 (ci := 3) rfl dX3_bail_2 (d' := 7) (by decide) (by omega) h0 rfl rfl (Nat.le_of_ble_eq_true rfl) (Nat.le_of_ble_eq_true rfl) (s_checkFlight_ok C a ha) ?_
  refine j_iload_n dX3_bail_5 rfl ?_
  refine j_iconst (v := 1) dX3_bail_6 (by decide) ?_
  refine j_sipush (v := 999) dX3_bail_7 (by decide) ?_
  refine j_cS (As := [.int x, .int 1, .int 999]) (rest := []) cm_X3_checkNumber ct_X3_checkNumber ln_X3_46 dX3_bail_10 (d' := 6) (by decide) rfl rfl (Nat.le_of_ble_eq_true rfl) (Nat.le_of_ble_eq_true rfl) (s_checkNumber_ok x 1 999 hx1 hx2) ?_
  refine j_aload_n dX3_bail_13 rfl ?_
  refine j_cVp (As := []) (rest := []) cm_X3_keepDeed ci_X3_keepDeed cs_X3_keepDeed rfl ln_X3_60 (ci := 3) rfl dX3_bail_14 (d' := 2) (by decide) (by omega) h0 rfl rfl (Nat.le_of_ble_eq_true rfl) (Nat.le_of_ble_eq_true rfl) (s_X3_keepDeed C) (fun E1 q1 => ?_)
  have C1 := q1.1
  obtain ⟨h01, W1, ⟨F41, S41, su41, lv41, ed41, T1⟩, Z1, Y1, ⟨fc1, Hm1, P1⟩, hFp1, hSp1, hn1⟩ := id C1
  obtain ⟨-, -, hw1, hL1, hE1, hF1, hS1⟩ := id W1
  obtain ⟨-, -, hz1, hzO1, hzr1, -, -, hold1, hcnt1⟩ := id Z1
  obtain ⟨-, -, hy1, hyO1, hyr1, -, -, -, hmc1⟩ := id Y1
  show J g mX3_bail 8 0 0 17 [some (.ref (ad 0)), some (.int (nI a)), some (.int x), none, none, none, none] [] n ad E1 Φ Ψ
  refine j_iconst (v := 0) dX3_bail_17 (by decide) ?_
  refine j_istore_n (L' := [some (.ref (ad 0)), some (.int (nI a)), some (.int x), some (.int 0), none, none, none]) dX3_bail_18 (by decide) rfl rfl ?_
  refine j_iconst (v := nI 0) dX3_bail_19 (by decide) ?_
  refine j_istore (L' := [some (.ref (ad 0)), some (.int (nI a)), some (.int x), some (.int 0), some (.int (nI 0)), none, none]) dX3_bail_20 (by decide) rfl rfl ?_
  refine j_E (E' := va_up E1 2 (aI g 128 lv)) (up_self hL1).symm ?_
  refine lpf_ind (b := fun s (y : Int32 × (Nat → Int32)) => (y.1 + bailT x y.1 (y.2 (a * S + s)), upd y.2 (a * S + s) (y.2 (a * S + s) + -bailT x y.1 (y.2 (a * S + s))))) (P := fun (s : Nat) (y : Int32 × (Nat → Int32)) => J g mX3_bail 8 0 0 22 [some (.ref (ad 0)), some (.int (nI a)), some (.int x), some (.int y.1), some (.int (nI s)), none, none] [] n ad (va_up E1 2 (aI g 128 y.2)) Φ Ψ) (N := S) 0 ?_ S ((0, lv) : Int32 × (Nat → Int32)) (by omega) ?_
  · intro s y hs0 hs ih
    obtain ⟨b1, f1⟩ := y
    show J g mX3_bail 8 0 0 22 [some (.ref (ad 0)), some (.int (nI a)), some (.int x), some (.int b1), some (.int (nI s)), none, none] [] n ad (va_up E1 2 (aI g 128 f1)) Φ Ψ
    refine j_iload dX3_bail_22 rfl ?_
    refine j_aload_n dX3_bail_24 rfl ?_
    refine j_get fl_X3_12 dX3_bail_25 (by omega) ((up_ne (by decide)).trans h01) rfl ?_
    refine j_get fl_X3_77 dX3_bail_28 (by omega) ((up_ne (by decide)).trans hw1) rfl ?_
    refine j_icmp_ge_f (tgt := 84) dX3_bail_31 (by decide) (nI_nle' (by omega) (by omega) (by omega)) ?_
    refine j_iconst (v := 0) dX3_bail_34 (by decide) ?_
    refine j_aload_n dX3_bail_35 rfl ?_
    refine j_get fl_X3_12 dX3_bail_36 (by omega) ((up_ne (by decide)).trans h01) rfl ?_
    refine j_iload_n dX3_bail_39 rfl ?_
    refine j_iload dX3_bail_40 rfl ?_
    refine j_cV (As := [.int (nI a), .int (nI s)]) (rest := [.int 0]) cm_X2_level ci_X2_level cs_X2_level rfl ln_X3_66 (ci := 2) rfl dX3_bail_42 (d' := 1) (by decide) (by omega) ((up_ne (by decide)).trans hw1) rfl rfl (Nat.le_of_ble_eq_true rfl) (Nat.le_of_ble_eq_true rfl) (s_X2_level (wat.setL W1) a s (ix128 hF hS ha hs)) ?_
    refine j_mmax ln_X3_100 js_max iz_java_lang_Math jc_max dX3_bail_45 (by decide) (Nat.le_of_ble_eq_true rfl) ?_
    refine j_topi (y := max0 (f1 (a * S + s))) rfl ?_
    refine j_istore (L' := [some (.ref (ad 0)), some (.int (nI a)), some (.int x), some (.int b1), some (.int (nI s)), some (.int (max0 (f1 (a * S + s)))), none]) dX3_bail_48 (by decide) rfl rfl ?_
    refine j_iload dX3_bail_50 rfl ?_
    refine j_iload_n dX3_bail_52 rfl ?_
    refine j_iload_n dX3_bail_53 rfl ?_
    refine j_isub dX3_bail_54 ?_
    refine j_mmin ln_X3_105 js_min iz_java_lang_Math jc_min dX3_bail_55 (by decide) (Nat.le_of_ble_eq_true rfl) ?_
    refine j_topi (y := bailT x b1 (f1 (a * S + s))) rfl ?_
    refine j_istore (L' := [some (.ref (ad 0)), some (.int (nI a)), some (.int x), some (.int b1), some (.int (nI s)), some (.int (max0 (f1 (a * S + s)))), some (.int (bailT x b1 (f1 (a * S + s))))]) dX3_bail_58 (by decide) rfl rfl ?_
    refine j_aload_n dX3_bail_60 rfl ?_
    refine j_get fl_X3_12 dX3_bail_61 (by omega) ((up_ne (by decide)).trans h01) rfl ?_
    refine j_iload_n dX3_bail_64 rfl ?_
    refine j_iload dX3_bail_65 rfl ?_
    refine j_iload dX3_bail_67 rfl ?_
    refine j_ineg dX3_bail_69 ?_
    refine j_cV (As := [.int (nI a), .int (nI s), .int (-(bailT x b1 (f1 (a * S + s))))]) (rest := []) cm_X2_add ci_X2_add cs_X2_add rfl ln_X3_63 (ci := 2) rfl dX3_bail_70 (d' := 1) (by decide) (by omega) ((up_ne (by decide)).trans hw1) rfl rfl (Nat.le_of_ble_eq_true rfl) (Nat.le_of_ble_eq_true rfl) (s_X2_add (wat.setL W1) a s (-(bailT x b1 (f1 (a * S + s)))) (ix128 hF hS ha hs)) ?_
    refine j_E up_up ?_
    refine j_iload_n dX3_bail_73 rfl ?_
    refine j_iload dX3_bail_74 rfl ?_
    refine j_iadd dX3_bail_76 ?_
    refine j_istore_n (L' := [some (.ref (ad 0)), some (.int (nI a)), some (.int x), some (.int (b1 + (bailT x b1 (f1 (a * S + s))))), some (.int (nI s)), some (.int (max0 (f1 (a * S + s)))), some (.int (bailT x b1 (f1 (a * S + s))))]) dX3_bail_77 (by decide) rfl rfl ?_
    refine j_iinc (v := nI (s + 1)) (L' := [some (.ref (ad 0)), some (.int (nI a)), some (.int x), some (.int (b1 + (bailT x b1 (f1 (a * S + s))))), some (.int (nI (s + 1))), some (.int (max0 (f1 (a * S + s)))), some (.int (bailT x b1 (f1 (a * S + s))))]) dX3_bail_78 (by decide) rfl (nI_1 _) rfl rfl ?_
    refine j_goto (tgt := 22) dX3_bail_81 (by decide) ?_
    refine j_clr 5 ?_
    refine j_clr 6 ?_
    exact ih (b1 + bailT x b1 (f1 (a * S + s)), upd f1 (a * S + s) (f1 (a * S + s) + -bailT x b1 (f1 (a * S + s)))) rfl
  · skip
    show J g mX3_bail 8 0 0 22 [some (.ref (ad 0)), some (.int (nI a)), some (.int x), some (.int ((bailR lv S a x).1)), some (.int (nI S)), none, none] [] n ad (va_up E1 2 (aI g 128 ((bailR lv S a x).2))) Φ Ψ
    refine j_iload dX3_bail_22 rfl ?_
    refine j_aload_n dX3_bail_24 rfl ?_
    refine j_get fl_X3_12 dX3_bail_25 (by omega) ((up_ne (by decide)).trans h01) rfl ?_
    refine j_get fl_X3_77 dX3_bail_28 (by omega) ((up_ne (by decide)).trans hw1) rfl ?_
    refine j_icmp_ge_t (tgt := 84) dX3_bail_31 (by decide) (nI_le' (by omega) (by omega) (by omega)) ?_
    refine j_iload_n dX3_bail_84 rfl ?_
    exact j_iret dX3_bail_85 rfl (h _ ⟨(CR.setLv C1), (fun k hk => ((up_ne (by omega)).trans (q1.2 k hk)))⟩)
set_option maxRecDepth 100000 in
set_option maxHeartbeats 4000000 in
theorem s_X3_bail_bad {g : jG} {n : Nat} {ad : Nat → Nat} {E : Nat → va_E} {F S : Nat} {hrs su : Int32} {gone : Int64} {lv ed : Nat → Int32} {old cnt mc : Nat} {dr mr : Nat → Nat → Int32} (C : CR g n ad E F S hrs su gone lv ed old cnt dr mc mr) (x : Int32) (y : Int32) (hx : oob x F) : Thr g mX3_bail 8 [.ref (ad 0), .int x, .int y] n ad E "java/lang/IndexOutOfBoundsException" := by
  obtain ⟨h0, W, ⟨F4, S4, su4, lv4, ed4, T⟩, Z, Y, ⟨fc, Hm, P⟩, hFp, hSp, hn⟩ := id C
  obtain ⟨-, -, hw, hL, hE, hF, hS⟩ := id W
  obtain ⟨-, -, hz, hzO, hzr, -, -, hold, hcnt⟩ := id Z
  obtain ⟨-, -, hy, hyO, hyr, -, -, -, hmc⟩ := id Y
  intro Φ Ψ h
  show J g mX3_bail 8 1 6 0 [some (.ref (ad 0)), some (.int x), some (.int y), none, none, none, none] [] n ad E Φ Ψ
  refine j_aload_n dX3_bail_0 rfl ?_
  refine j_iload_n dX3_bail_1 rfl ?_
  exact j_cVx (As := [.int x]) (rest := []) cm_X3_checkFlight ci_X3_checkFlight cs_X3_checkFlight rfl ln_X3_74 (ci := 3) rfl dX3_bail_2 (d' := 7) (by decide) (by omega) h0 rfl rfl (Nat.le_of_ble_eq_true rfl) (Nat.le_of_ble_eq_true rfl) (s_checkFlight_bad C x hx) (jMeets_out rfl h)
set_option maxRecDepth 100000 in
set_option maxHeartbeats 4000000 in
theorem s_X3_bail_iae {g : jG} {n : Nat} {ad : Nat → Nat} {E : Nat → va_E} {F S : Nat} {hrs su : Int32} {gone : Int64} {lv ed : Nat → Int32} {old cnt mc : Nat} {dr mr : Nat → Nat → Int32} (C : CR g n ad E F S hrs su gone lv ed old cnt dr mc mr) (a : Nat) (ha : a < F) (x : Int32) (hx : x < 1 ∨ ¬ x ≤ 999) : Thr g mX3_bail 8 [.ref (ad 0), .int (nI a), .int x] n ad E "java/lang/IllegalArgumentException" := by
  obtain ⟨h0, W, ⟨F4, S4, su4, lv4, ed4, T⟩, Z, Y, ⟨fc, Hm, P⟩, hFp, hSp, hn⟩ := id C
  obtain ⟨-, -, hw, hL, hE, hF, hS⟩ := id W
  obtain ⟨-, -, hz, hzO, hzr, -, -, hold, hcnt⟩ := id Z
  obtain ⟨-, -, hy, hyO, hyr, -, -, -, hmc⟩ := id Y
  intro Φ Ψ h
  show J g mX3_bail 8 1 6 0 [some (.ref (ad 0)), some (.int (nI a)), some (.int x), none, none, none, none] [] n ad E Φ Ψ
  refine j_aload_n dX3_bail_0 rfl ?_
  refine j_iload_n dX3_bail_1 rfl ?_
  refine j_cV (As := [.int (nI a)]) (rest := []) cm_X3_checkFlight ci_X3_checkFlight cs_X3_checkFlight rfl ln_X3_74 (ci := 3) rfl dX3_bail_2 (d' := 7) (by decide) (by omega) h0 rfl rfl (Nat.le_of_ble_eq_true rfl) (Nat.le_of_ble_eq_true rfl) (s_checkFlight_ok C a ha) ?_
  refine j_iload_n dX3_bail_5 rfl ?_
  refine j_iconst (v := 1) dX3_bail_6 (by decide) ?_
  refine j_sipush (v := 999) dX3_bail_7 (by decide) ?_
  exact j_cSx (As := [.int x, .int 1, .int 999]) (rest := []) cm_X3_checkNumber ct_X3_checkNumber ln_X3_46 dX3_bail_10 (d' := 6) (by decide) rfl rfl (Nat.le_of_ble_eq_true rfl) (Nat.le_of_ble_eq_true rfl) (s_checkNumber_bad x 1 999 hx) (jMeets_out rfl h)
set_option maxRecDepth 100000 in
set_option maxHeartbeats 4000000 in
theorem s_X3_passHours {g : jG} {n : Nat} {ad : Nat → Nat} {E : Nat → va_E} {F S : Nat} {hrs su : Int32} {gone : Int64} {lv ed : Nat → Int32} {old cnt mc : Nat} {dr mr : Nat → Nat → Int32} (C : CR g n ad E F S hrs su gone lv ed old cnt dr mc mr) (t9 : Nat) (ht1 : 1 ≤ t9) (ht2 : t9 ≤ 40) : RetP g mX3_passHours 7 [.ref (ad 0), .int (nI t9)] n ad E (some (.int ((flowR su ed F S t9 lv).1))) (fun E9 => CR g n ad E9 F S (hrs + nI t9) su (gone + (flowR su ed F S t9 lv).1.toInt64) ((flowR su ed F S t9 lv).2) ed (kOld old cnt) (kCnt cnt) (rowUp dr (kSlot old cnt) (cpyN lv (dr (kSlot old cnt)) (F * S))) mc mr ∧ ∀ k, 63 ≤ k → E9 k = E k) := by
  obtain ⟨h0, W, ⟨F4, S4, su4, lv4, ed4, T⟩, Z, Y, ⟨fc, Hm, P⟩, hFp, hSp, hn⟩ := id C
  obtain ⟨-, -, hw, hL, hE, hF, hS⟩ := id W
  obtain ⟨-, -, hz, hzO, hzr, -, -, hold, hcnt⟩ := id Z
  obtain ⟨-, -, hy, hyO, hyr, -, -, -, hmc⟩ := id Y
  intro Φ Ψ h
  show J g mX3_passHours 7 0 0 0 [some (.ref (ad 0)), some (.int (nI t9)), none] [] n ad E Φ Ψ
  refine j_iload_n dX3_passHours_0 rfl ?_
  refine j_iconst (v := nI 1) dX3_passHours_1 (by decide) ?_
  refine j_bipush (v := nI 40) dX3_passHours_2 (by decide) ?_
  refine j_cS (As := [.int (nI t9), .int (nI 1), .int (nI 40)]) (rest := []) cm_X3_checkNumber ct_X3_checkNumber ln_X3_46 dX3_passHours_4 (d' := 6) (by decide) rfl rfl (Nat.le_of_ble_eq_true rfl) (Nat.le_of_ble_eq_true rfl) (s_checkNumber_ok (nI t9) (nI 1) (nI 40) (nI_nlt' (by omega) (by omega) (by omega)) (nI_le' (by omega) (by omega) (by omega))) ?_
  refine j_aload_n dX3_passHours_7 rfl ?_
  refine j_cVp (As := []) (rest := []) cm_X3_keepDeed ci_X3_keepDeed cs_X3_keepDeed rfl ln_X3_60 (ci := 3) rfl dX3_passHours_8 (d' := 2) (by decide) (by omega) h0 rfl rfl (Nat.le_of_ble_eq_true rfl) (Nat.le_of_ble_eq_true rfl) (s_X3_keepDeed C) (fun E1 q1 => ?_)
  have C1 := q1.1
  obtain ⟨h01, W1, ⟨F41, S41, su41, lv41, ed41, T1⟩, Z1, Y1, ⟨fc1, Hm1, P1⟩, hFp1, hSp1, hn1⟩ := id C1
  obtain ⟨-, -, hw1, hL1, hE1, hF1, hS1⟩ := id W1
  obtain ⟨-, -, hz1, hzO1, hzr1, -, -, hold1, hcnt1⟩ := id Z1
  obtain ⟨-, -, hy1, hyO1, hyr1, -, -, -, hmc1⟩ := id Y1
  show J g mX3_passHours 7 0 0 11 [some (.ref (ad 0)), some (.int (nI t9)), none] [] n ad E1 Φ Ψ
  refine j_aload_n dX3_passHours_11 rfl ?_
  refine j_get fl_X3_12 dX3_passHours_12 (by omega) h01 rfl ?_
  refine j_iload_n dX3_passHours_15 rfl ?_
  refine j_cV (As := [.int (nI t9)]) (rest := []) cm_X2_flowFor ci_X2_flowFor cs_X2_flowFor rfl ln_X3_108 (ci := 2) rfl dX3_passHours_16 (d' := 3) (by decide) (by omega) hw1 rfl rfl (Nat.le_of_ble_eq_true rfl) (Nat.le_of_ble_eq_true rfl) (s_X2_flowFor W1 t9 (by omega)) ?_
  refine j_istore_n (L' := [some (.ref (ad 0)), some (.int (nI t9)), some (.int ((flowR su ed F S t9 lv).1))]) dX3_passHours_19 (by decide) rfl rfl ?_
  refine j_aload_n dX3_passHours_20 rfl ?_
  refine j_dup dX3_passHours_21 rfl ?_
  refine j_get fl_X3_112 dX3_passHours_22 (by omega) ((up_ne (by decide)).trans h01) rfl ?_
  refine j_iload_n dX3_passHours_25 rfl ?_
  refine j_iadd dX3_passHours_26 ?_
  refine j_topi (y := hrs + nI t9) rfl ?_
  refine j_put fl_X3_112 fp_X3 dX3_passHours_27 (by omega) ((up_ne (by decide)).trans h01) (Or.inl rfl) rfl rfl (Nat.le_of_ble_eq_true rfl) ?_
  refine j_aload_n dX3_passHours_30 rfl ?_
  refine j_dup dX3_passHours_31 rfl ?_
  refine j_get fl_X3_115 dX3_passHours_32 (by omega) up_eq rfl ?_
  refine j_iload_n dX3_passHours_35 rfl ?_
  refine j_i2l dX3_passHours_36 ?_
  refine j_ladd dX3_passHours_37 ?_
  refine j_put fl_X3_115 fp_X3 dX3_passHours_38 (by omega) up_eq (Or.inl rfl) rfl rfl (Nat.le_of_ble_eq_true rfl) ?_
  refine j_E up_up ?_
  refine j_iload_n dX3_passHours_41 rfl ?_
  exact j_iret dX3_passHours_42 rfl (h _ ⟨(CR.setTop (CR.setLv C1)), (fun k hk => ((up_ne (by omega)).trans ((up_ne (by omega)).trans (q1.2 k hk))))⟩)
set_option maxRecDepth 100000 in
set_option maxHeartbeats 4000000 in
theorem s_X3_passHours_iae {g : jG} {n : Nat} {ad : Nat → Nat} {E : Nat → va_E} {F S : Nat} {hrs su : Int32} {gone : Int64} {lv ed : Nat → Int32} {old cnt mc : Nat} {dr mr : Nat → Nat → Int32} (C : CR g n ad E F S hrs su gone lv ed old cnt dr mc mr) (x : Int32) (hx : x < 1 ∨ ¬ x ≤ 40) : Thr g mX3_passHours 7 [.ref (ad 0), .int x] n ad E "java/lang/IllegalArgumentException" := by
  obtain ⟨h0, W, ⟨F4, S4, su4, lv4, ed4, T⟩, Z, Y, ⟨fc, Hm, P⟩, hFp, hSp, hn⟩ := id C
  obtain ⟨-, -, hw, hL, hE, hF, hS⟩ := id W
  obtain ⟨-, -, hz, hzO, hzr, -, -, hold, hcnt⟩ := id Z
  obtain ⟨-, -, hy, hyO, hyr, -, -, -, hmc⟩ := id Y
  intro Φ Ψ h
  show J g mX3_passHours 7 1 6 0 [some (.ref (ad 0)), some (.int x), none] [] n ad E Φ Ψ
  refine j_iload_n dX3_passHours_0 rfl ?_
  refine j_iconst (v := 1) dX3_passHours_1 (by decide) ?_
  refine j_bipush (v := 40) dX3_passHours_2 (by decide) ?_
  exact j_cSx (As := [.int x, .int 1, .int 40]) (rest := []) cm_X3_checkNumber ct_X3_checkNumber ln_X3_46 dX3_passHours_4 (d' := 6) (by decide) rfl rfl (Nat.le_of_ble_eq_true rfl) (Nat.le_of_ble_eq_true rfl) (s_checkNumber_bad x 1 40 hx) (jMeets_out rfl h)
set_option maxRecDepth 100000 in
set_option maxHeartbeats 4000000 in
theorem s_X3_mark {g : jG} {n : Nat} {ad : Nat → Nat} {E : Nat → va_E} {F S : Nat} {hrs su : Int32} {gone : Int64} {lv ed : Nat → Int32} {old cnt mc : Nat} {dr mr : Nat → Nat → Int32} (C : CR g n ad E F S hrs su gone lv ed old cnt dr mc mr) (hc : mc < 12) : RetP g mX3_mark 6 [.ref (ad 0)] n ad E (some (.int (nI mc))) (fun E9 => CR g n ad E9 F S hrs su gone lv ed old cnt dr (mc + 1) (rowUp mr mc (cpyN lv (mr mc) (F * S))) ∧ ∀ k, 63 ≤ k → E9 k = E k) := by
  obtain ⟨h0, W, ⟨F4, S4, su4, lv4, ed4, T⟩, Z, Y, ⟨fc, Hm, P⟩, hFp, hSp, hn⟩ := id C
  obtain ⟨-, -, hw, hL, hE, hF, hS⟩ := id W
  obtain ⟨-, -, hz, hzO, hzr, -, -, hold, hcnt⟩ := id Z
  obtain ⟨-, -, hy, hyO, hyr, -, -, -, hmc⟩ := id Y
  have hx : ((1 : Nat) ≠ 39 ∧ (2 : Nat) ≠ 39 ∧ (3 : Nat) ≠ 39) ∧ ∀ i, i < 12 → (1 : Nat) ≠ 41 + i ∧ (2 : Nat) ≠ 41 + i ∧ (3 : Nat) ≠ 41 + i := ⟨⟨by decide, by decide, by decide⟩, fun i _ => ⟨by omega, by omega, by omega⟩⟩
  intro Φ Ψ h
  show J g mX3_mark 6 0 0 0 [some (.ref (ad 0))] [] n ad E Φ Ψ
  refine j_aload_n dX3_mark_0 rfl ?_
  refine j_get fl_X3_28 dX3_mark_1 (by omega) h0 rfl ?_
  refine j_get fl_X3_89 dX3_mark_4 (by omega) hy rfl ?_
  refine j_bipush (v := nI 12) dX3_mark_7 (by decide) ?_
  refine j_icmp_lt_t (tgt := 22) dX3_mark_9 (by decide) (nI_lt' (by omega) (by omega) (by omega)) ?_
  refine j_aload_n dX3_mark_22 rfl ?_
  refine j_get fl_X3_28 dX3_mark_23 (by omega) h0 rfl ?_
  refine j_aload_n dX3_mark_26 rfl ?_
  refine j_get fl_X3_12 dX3_mark_27 (by omega) h0 rfl ?_
  refine j_cV (As := [.ref (ad 1)]) (rest := []) cm_X1_addLatest ci_X1_addLatest cs_X1_addLatest rfl ln_X3_126 (ci := 1) rfl dX3_mark_30 (d' := 1) (by decide) (by omega) hy rfl rfl (Nat.le_of_ble_eq_true rfl) (Nat.le_of_ble_eq_true rfl) (by have q := s_X1_addLatest_lo Y W hx hc; rw [slot0 hc] at q; exact q) ?_
  refine j_aload_n dX3_mark_33 rfl ?_
  refine j_get fl_X3_28 dX3_mark_34 (by omega) ((up_ne (by omega)).trans ((up_ne (by decide)).trans h0)) rfl ?_
  refine j_get fl_X3_89 dX3_mark_37 (by omega) ((up_ne (by omega)).trans up_eq) rfl ?_
  refine j_iconst (v := nI 1) dX3_mark_40 (by decide) ?_
  refine j_isub dX3_mark_41 ?_
  refine j_topi (y := nI ((mc + 1) - 1)) (pk_sub (by omega)) ?_
  refine j_topi (y := nI mc) (by rw [Nat.add_sub_cancel]) ?_
  exact j_iret dX3_mark_42 rfl (h _ ⟨CR.setMarks C (rws.setR (rws.setO Y (by omega) (by omega)) hc) (fun k hk => by rw [up_ne (by omega), up_ne (by omega)]), fun k hk => by rw [up_ne (by omega), up_ne (by omega)]⟩)
set_option maxRecDepth 100000 in
set_option maxHeartbeats 4000000 in
theorem s_X3_mark_bad {g : jG} {n : Nat} {ad : Nat → Nat} {E : Nat → va_E} {F S : Nat} {hrs su : Int32} {gone : Int64} {lv ed : Nat → Int32} {old cnt mc : Nat} {dr mr : Nat → Nat → Int32} (C : CR g n ad E F S hrs su gone lv ed old cnt dr mc mr) (hc : mc = 12) : Thr g mX3_mark 6 [.ref (ad 0)] n ad E "java/lang/IllegalStateException" := by
  obtain ⟨h0, W, ⟨F4, S4, su4, lv4, ed4, T⟩, Z, Y, ⟨fc, Hm, P⟩, hFp, hSp, hn⟩ := id C
  obtain ⟨-, -, hw, hL, hE, hF, hS⟩ := id W
  obtain ⟨-, -, hz, hzO, hzr, -, -, hold, hcnt⟩ := id Z
  obtain ⟨-, -, hy, hyO, hyr, -, -, -, hmc⟩ := id Y
  intro Φ Ψ h
  show J g mX3_mark 6 1 6 0 [some (.ref (ad 0))] [] n ad E Φ Ψ
  refine j_aload_n dX3_mark_0 rfl ?_
  refine j_get fl_X3_28 dX3_mark_1 (by omega) h0 rfl ?_
  refine j_get fl_X3_89 dX3_mark_4 (by omega) hy rfl ?_
  refine j_bipush (v := nI 12) dX3_mark_7 (by decide) ?_
  refine j_icmp_lt_f (tgt := 22) dX3_mark_9 (by decide) (nI_nlt' (by omega) (by omega) (by omega)) ?_
  exact j_throw (bc := 0) (bs := 0) th_121 rfl dX3_mark_12 dX3_mark_15 dX3_mark_16 dX3_mark_18 dX3_mark_21 (by decide) (Nat.le_of_ble_eq_true rfl) h
set_option maxRecDepth 100000 in
set_option maxHeartbeats 4000000 in
theorem s_X3_back {g : jG} {n : Nat} {ad : Nat → Nat} {E : Nat → va_E} {F S : Nat} {hrs su : Int32} {gone : Int64} {lv ed : Nat → Int32} {old cnt mc : Nat} {dr mr : Nat → Nat → Int32} (C : CR g n ad E F S hrs su gone lv ed old cnt dr mc mr) (k9 : Nat) (hk9 : k9 < mc) : RetP g mX3_back 8 [.ref (ad 0), .int (nI k9)] n ad E (some (.int (chgC lv (mr k9) (F * S)))) (fun E9 => CR g n ad E9 F S hrs su gone (cpyN (mr k9) lv (F * S)) ed (kOld old cnt) (kCnt cnt) (rowUp dr (kSlot old cnt) (cpyN lv (dr (kSlot old cnt)) (F * S))) mc mr ∧ ∀ k, 63 ≤ k → E9 k = E k) := by
  obtain ⟨h0, W, ⟨F4, S4, su4, lv4, ed4, T⟩, Z, Y, ⟨fc, Hm, P⟩, hFp, hSp, hn⟩ := id C
  obtain ⟨-, -, hw, hL, hE, hF, hS⟩ := id W
  obtain ⟨-, -, hz, hzO, hzr, -, -, hold, hcnt⟩ := id Z
  obtain ⟨-, -, hy, hyO, hyr, -, -, -, hmc⟩ := id Y
  intro Φ Ψ h
  show J g mX3_back 8 0 0 0 [some (.ref (ad 0)), some (.int (nI k9))] [] n ad E Φ Ψ
  refine j_aload_n dX3_back_0 rfl ?_
  refine j_iload_n dX3_back_1 rfl ?_
  refine j_cV (As := [.int (nI k9)]) (rest := []) cm_X3_checkMark ci_X3_checkMark cs_X3_checkMark rfl ln_X3_130 (ci := 3) rfl dX3_back_2 (d' := 7) (by decide) (by omega) h0 rfl rfl (Nat.le_of_ble_eq_true rfl) (Nat.le_of_ble_eq_true rfl) (s_checkMark_ok C k9 hk9) ?_
  refine j_aload_n dX3_back_5 rfl ?_
  refine j_cVp (As := []) (rest := []) cm_X3_keepDeed ci_X3_keepDeed cs_X3_keepDeed rfl ln_X3_60 (ci := 3) rfl dX3_back_6 (d' := 2) (by decide) (by omega) h0 rfl rfl (Nat.le_of_ble_eq_true rfl) (Nat.le_of_ble_eq_true rfl) (s_X3_keepDeed C) (fun E1 q1 => ?_)
  have C1 := q1.1
  obtain ⟨h01, W1, ⟨F41, S41, su41, lv41, ed41, T1⟩, Z1, Y1, ⟨fc1, Hm1, P1⟩, hFp1, hSp1, hn1⟩ := id C1
  obtain ⟨-, -, hw1, hL1, hE1, hF1, hS1⟩ := id W1
  obtain ⟨-, -, hz1, hzO1, hzr1, -, -, hold1, hcnt1⟩ := id Z1
  obtain ⟨-, -, hy1, hyO1, hyr1, -, -, -, hmc1⟩ := id Y1
  show J g mX3_back 8 0 0 9 [some (.ref (ad 0)), some (.int (nI k9))] [] n ad E1 Φ Ψ
  refine j_aload_n dX3_back_9 rfl ?_
  refine j_get fl_X3_12 dX3_back_10 (by omega) h01 rfl ?_
  refine j_aload_n dX3_back_13 rfl ?_
  refine j_get fl_X3_28 dX3_back_14 (by omega) h01 rfl ?_
  refine j_iload_n dX3_back_17 rfl ?_
  refine j_cV (As := [.int (nI k9)]) (rest := [.ref (ad 1)]) cm_X1_row ci_X1_row cs_X1_row rfl ln_X3_92 (ci := 1) rfl dX3_back_18 (d' := 0) (by decide) (by omega) hy1 rfl rfl (Nat.le_of_ble_eq_true rfl) (Nat.le_of_ble_eq_true rfl) (s_X1_row Y1 k9 (by omega)) ?_
  refine j_st (st' := [.ref (ad (41 + k9)), .ref (ad 1)]) (by rw [slot0 (show k9 < 12 by omega)] <;> rfl) ?_
  refine j_cV (As := [.ref (ad (41 + k9))]) (rest := []) cm_X2_takeFrom ci_X2_takeFrom cs_X2_takeFrom rfl ln_X3_133 (ci := 2) rfl dX3_back_21 (d' := 2) (by decide) (by omega) hw1 rfl rfl (Nat.le_of_ble_eq_true rfl) (Nat.le_of_ble_eq_true rfl) (s_X2_takeFrom W1 (r := 41 + k9) (by omega) (hyr1 k9 (by omega)) (by omega)) ?_
  exact j_iret dX3_back_24 rfl (h _ ⟨(CR.setLv C1), (fun k hk => ((up_ne (by omega)).trans (q1.2 k hk)))⟩)
set_option maxRecDepth 100000 in
set_option maxHeartbeats 4000000 in
theorem s_X3_back_bad {g : jG} {n : Nat} {ad : Nat → Nat} {E : Nat → va_E} {F S : Nat} {hrs su : Int32} {gone : Int64} {lv ed : Nat → Int32} {old cnt mc : Nat} {dr mr : Nat → Nat → Int32} (C : CR g n ad E F S hrs su gone lv ed old cnt dr mc mr) (x : Int32) (hx : oob x mc) : Thr g mX3_back 8 [.ref (ad 0), .int x] n ad E "java/lang/IndexOutOfBoundsException" := by
  obtain ⟨h0, W, ⟨F4, S4, su4, lv4, ed4, T⟩, Z, Y, ⟨fc, Hm, P⟩, hFp, hSp, hn⟩ := id C
  obtain ⟨-, -, hw, hL, hE, hF, hS⟩ := id W
  obtain ⟨-, -, hz, hzO, hzr, -, -, hold, hcnt⟩ := id Z
  obtain ⟨-, -, hy, hyO, hyr, -, -, -, hmc⟩ := id Y
  intro Φ Ψ h
  show J g mX3_back 8 1 6 0 [some (.ref (ad 0)), some (.int x)] [] n ad E Φ Ψ
  refine j_aload_n dX3_back_0 rfl ?_
  refine j_iload_n dX3_back_1 rfl ?_
  exact j_cVx (As := [.int x]) (rest := []) cm_X3_checkMark ci_X3_checkMark cs_X3_checkMark rfl ln_X3_130 (ci := 3) rfl dX3_back_2 (d' := 7) (by decide) (by omega) h0 rfl rfl (Nat.le_of_ble_eq_true rfl) (Nat.le_of_ble_eq_true rfl) (s_checkMark_bad C x hx) (jMeets_out rfl h)
set_option maxRecDepth 100000 in
set_option maxHeartbeats 4000000 in
theorem s_X3_undo {g : jG} {n : Nat} {ad : Nat → Nat} {E : Nat → va_E} {F S : Nat} {hrs su : Int32} {gone : Int64} {lv ed : Nat → Int32} {old cnt mc : Nat} {dr mr : Nat → Nat → Int32} (C : CR g n ad E F S hrs su gone lv ed old cnt dr mc mr) (hc : 1 ≤ cnt) : RetP g mX3_undo 6 [.ref (ad 0)] n ad E (some (.int (chgC lv (dr (slot old (cnt - 1) 30)) (F * S)))) (fun E9 => CR g n ad E9 F S hrs su gone (cpyN (dr (slot old (cnt - 1) 30)) lv (F * S)) ed old (cnt - 1) dr mc mr ∧ ∀ k, 63 ≤ k → E9 k = E k) := by
  obtain ⟨h0, W, ⟨F4, S4, su4, lv4, ed4, T⟩, Z, Y, ⟨fc, Hm, P⟩, hFp, hSp, hn⟩ := id C
  obtain ⟨-, -, hw, hL, hE, hF, hS⟩ := id W
  obtain ⟨-, -, hz, hzO, hzr, -, -, hold, hcnt⟩ := id Z
  obtain ⟨-, -, hy, hyO, hyr, -, -, -, hmc⟩ := id Y
  have hsl : slot old (cnt - 1) 30 < 30 := slot_lt hold (by omega)
  intro Φ Ψ h
  show J g mX3_undo 6 0 0 0 [some (.ref (ad 0)), none] [] n ad E Φ Ψ
  refine j_aload_n dX3_undo_0 rfl ?_
  refine j_get fl_X3_24 dX3_undo_1 (by omega) h0 rfl ?_
  refine j_get fl_X3_89 dX3_undo_4 (by omega) hz rfl ?_
  refine j_iconst (v := nI 1) dX3_undo_7 (by decide) ?_
  refine j_icmp_ge_t (tgt := 21) dX3_undo_8 (by decide) (nI_le' (by omega) (by omega) (by omega)) ?_
  refine j_aload_n dX3_undo_21 rfl ?_
  refine j_get fl_X3_12 dX3_undo_22 (by omega) h0 rfl ?_
  refine j_aload_n dX3_undo_25 rfl ?_
  refine j_get fl_X3_24 dX3_undo_26 (by omega) h0 rfl ?_
  refine j_aload_n dX3_undo_29 rfl ?_
  refine j_get fl_X3_24 dX3_undo_30 (by omega) h0 rfl ?_
  refine j_get fl_X3_89 dX3_undo_33 (by omega) hz rfl ?_
  refine j_iconst (v := nI 1) dX3_undo_36 (by decide) ?_
  refine j_isub dX3_undo_37 ?_
  refine j_topi (y := nI (cnt - 1)) (pk_sub (by omega)) ?_
  refine j_cV (As := [.int (nI (cnt - 1))]) (rest := [.ref (ad 1)]) cm_X1_row ci_X1_row cs_X1_row rfl ln_X3_92 (ci := 1) rfl dX3_undo_38 (d' := 0) (by decide) (by omega) hz rfl rfl (Nat.le_of_ble_eq_true rfl) (Nat.le_of_ble_eq_true rfl) (s_X1_row Z (cnt - 1) (by omega)) ?_
  refine j_cV (As := [.ref (ad (9 + slot old (cnt - 1) 30))]) (rest := []) cm_X2_takeFrom ci_X2_takeFrom cs_X2_takeFrom rfl ln_X3_133 (ci := 2) rfl dX3_undo_41 (d' := 2) (by decide) (by omega) hw rfl rfl (Nat.le_of_ble_eq_true rfl) (Nat.le_of_ble_eq_true rfl) (s_X2_takeFrom W (r := 9 + slot old (cnt - 1) 30) (by omega) (hzr _ hsl) (by omega)) ?_
  refine j_istore_n (L' := [some (.ref (ad 0)), some (.int (chgC lv (dr (slot old (cnt - 1) 30)) (F * S)))]) dX3_undo_44 (by decide) rfl rfl ?_
  refine j_aload_n dX3_undo_45 rfl ?_
  refine j_get fl_X3_24 dX3_undo_46 (by omega) ((up_ne (by decide)).trans h0) rfl ?_
  refine j_cV (As := []) (rest := []) cm_X1_dropLatest ci_X1_dropLatest cs_X1_dropLatest rfl ln_X3_138 (ci := 1) rfl dX3_undo_49 (d' := 0) (by decide) (by omega) ((up_ne (by decide)).trans hz) rfl rfl (Nat.le_of_ble_eq_true rfl) (Nat.le_of_ble_eq_true rfl) (s_X1_dropLatest (rws.up Z (by decide) (by decide) (fun i hi => by omega)) hc) ?_
  refine j_iload_n dX3_undo_52 rfl ?_
  exact j_iret dX3_undo_53 rfl (h _ ⟨CR.setDeeds (CR.setLv C) (rws.setO (rws.up Z (by decide) (by decide) (fun i hi => by omega)) hold (by omega)) (fun k hk => up_ne (by omega)), fun k hk => by rw [up_ne (by omega), up_ne (by omega)]⟩)
set_option maxRecDepth 100000 in
set_option maxHeartbeats 4000000 in
theorem s_X3_undo_bad {g : jG} {n : Nat} {ad : Nat → Nat} {E : Nat → va_E} {F S : Nat} {hrs su : Int32} {gone : Int64} {lv ed : Nat → Int32} {old cnt mc : Nat} {dr mr : Nat → Nat → Int32} (C : CR g n ad E F S hrs su gone lv ed old cnt dr mc mr) (hc : cnt = 0) : Thr g mX3_undo 6 [.ref (ad 0)] n ad E "java/lang/IllegalStateException" := by
  obtain ⟨h0, W, ⟨F4, S4, su4, lv4, ed4, T⟩, Z, Y, ⟨fc, Hm, P⟩, hFp, hSp, hn⟩ := id C
  obtain ⟨-, -, hw, hL, hE, hF, hS⟩ := id W
  obtain ⟨-, -, hz, hzO, hzr, -, -, hold, hcnt⟩ := id Z
  obtain ⟨-, -, hy, hyO, hyr, -, -, -, hmc⟩ := id Y
  intro Φ Ψ h
  show J g mX3_undo 6 1 6 0 [some (.ref (ad 0)), none] [] n ad E Φ Ψ
  refine j_aload_n dX3_undo_0 rfl ?_
  refine j_get fl_X3_24 dX3_undo_1 (by omega) h0 rfl ?_
  refine j_get fl_X3_89 dX3_undo_4 (by omega) hz rfl ?_
  refine j_iconst (v := nI 1) dX3_undo_7 (by decide) ?_
  refine j_icmp_ge_f (tgt := 21) dX3_undo_8 (by decide) (nI_nle' (by omega) (by omega) (by omega)) ?_
  exact j_throw (bc := 0) (bs := 0) th_136 rfl dX3_undo_11 dX3_undo_14 dX3_undo_15 dX3_undo_17 dX3_undo_20 (by decide) (Nat.le_of_ble_eq_true rfl) h
set_option maxRecDepth 100000 in
set_option maxHeartbeats 4000000 in
theorem s_X3_setSun {g : jG} {n : Nat} {ad : Nat → Nat} {E : Nat → va_E} {F S : Nat} {hrs su : Int32} {gone : Int64} {lv ed : Nat → Int32} {old cnt mc : Nat} {dr mr : Nat → Nat → Int32} (C : CR g n ad E F S hrs su gone lv ed old cnt dr mc mr) (x : Int32) (hx1 : ¬ x < 0) (hx2 : x ≤ 9) : RetP g mX3_setSun 7 [.ref (ad 0), .int x] n ad E (some (.int su)) (fun E9 => CR g n ad E9 F S hrs x gone lv ed old cnt dr mc mr ∧ ∀ k, 63 ≤ k → E9 k = E k) := by
  obtain ⟨h0, W, ⟨F4, S4, su4, lv4, ed4, T⟩, Z, Y, ⟨fc, Hm, P⟩, hFp, hSp, hn⟩ := id C
  obtain ⟨-, -, hw, hL, hE, hF, hS⟩ := id W
  obtain ⟨-, -, hz, hzO, hzr, -, -, hold, hcnt⟩ := id Z
  obtain ⟨-, -, hy, hyO, hyr, -, -, -, hmc⟩ := id Y
  intro Φ Ψ h
  show J g mX3_setSun 7 0 0 0 [some (.ref (ad 0)), some (.int x), none] [] n ad E Φ Ψ
  refine j_iload_n dX3_setSun_0 rfl ?_
  refine j_iconst (v := 0) dX3_setSun_1 (by decide) ?_
  refine j_bipush (v := 9) dX3_setSun_2 (by decide) ?_
  refine j_cS (As := [.int x, .int 0, .int 9]) (rest := []) cm_X3_checkNumber ct_X3_checkNumber ln_X3_46 dX3_setSun_4 (d' := 6) (by decide) rfl rfl (Nat.le_of_ble_eq_true rfl) (Nat.le_of_ble_eq_true rfl) (s_checkNumber_ok x 0 9 hx1 hx2) ?_
  refine j_aload_n dX3_setSun_7 rfl ?_
  refine j_get fl_X3_12 dX3_setSun_8 (by omega) h0 rfl ?_
  refine j_get fl_X3_38 dX3_setSun_11 (by omega) hw rfl ?_
  refine j_istore_n (L' := [some (.ref (ad 0)), some (.int x), some (.int su)]) dX3_setSun_14 (by decide) rfl rfl ?_
  refine j_aload_n dX3_setSun_15 rfl ?_
  refine j_get fl_X3_12 dX3_setSun_16 (by omega) h0 rfl ?_
  refine j_iload_n dX3_setSun_19 rfl ?_
  refine j_put fl_X3_38 fp_X2 dX3_setSun_20 (by omega) hw (Or.inl rfl) rfl rfl (Nat.le_of_ble_eq_true rfl) ?_
  refine j_iload_n dX3_setSun_23 rfl ?_
  exact j_iret dX3_setSun_24 rfl (h _ ⟨(CR.setW C (by omega) (by omega) (by omega) (by omega)), (fun k hk => ((up_ne (by omega)).trans rfl))⟩)
set_option maxRecDepth 100000 in
set_option maxHeartbeats 4000000 in
theorem s_X3_setSun_bad {g : jG} {n : Nat} {ad : Nat → Nat} {E : Nat → va_E} {F S : Nat} {hrs su : Int32} {gone : Int64} {lv ed : Nat → Int32} {old cnt mc : Nat} {dr mr : Nat → Nat → Int32} (C : CR g n ad E F S hrs su gone lv ed old cnt dr mc mr) (x : Int32) (hx : x < 0 ∨ ¬ x ≤ 9) : Thr g mX3_setSun 7 [.ref (ad 0), .int x] n ad E "java/lang/IllegalArgumentException" := by
  obtain ⟨h0, W, ⟨F4, S4, su4, lv4, ed4, T⟩, Z, Y, ⟨fc, Hm, P⟩, hFp, hSp, hn⟩ := id C
  obtain ⟨-, -, hw, hL, hE, hF, hS⟩ := id W
  obtain ⟨-, -, hz, hzO, hzr, -, -, hold, hcnt⟩ := id Z
  obtain ⟨-, -, hy, hyO, hyr, -, -, -, hmc⟩ := id Y
  intro Φ Ψ h
  show J g mX3_setSun 7 1 6 0 [some (.ref (ad 0)), some (.int x), none] [] n ad E Φ Ψ
  refine j_iload_n dX3_setSun_0 rfl ?_
  refine j_iconst (v := 0) dX3_setSun_1 (by decide) ?_
  refine j_bipush (v := 9) dX3_setSun_2 (by decide) ?_
  exact j_cSx (As := [.int x, .int 0, .int 9]) (rest := []) cm_X3_checkNumber ct_X3_checkNumber ln_X3_46 dX3_setSun_4 (d' := 6) (by decide) rfl rfl (Nat.le_of_ble_eq_true rfl) (Nat.le_of_ble_eq_true rfl) (s_checkNumber_bad x 0 9 hx) (jMeets_out rfl h)
set_option maxRecDepth 100000 in
set_option maxHeartbeats 4000000 in
theorem s_X3_setEdge {g : jG} {n : Nat} {ad : Nat → Nat} {E : Nat → va_E} {F S : Nat} {hrs su : Int32} {gone : Int64} {lv ed : Nat → Int32} {old cnt mc : Nat} {dr mr : Nat → Nat → Int32} (C : CR g n ad E F S hrs su gone lv ed old cnt dr mc mr) (b : Nat) (hb : b < S) (x : Int32) (hx1 : ¬ x < 0) (hx2 : x ≤ 999) : RetP g mX3_setEdge 8 [.ref (ad 0), .int (nI b), .int x] n ad E (some (.int (ed b))) (fun E9 => CR g n ad E9 F S hrs su gone lv (upd ed b x) old cnt dr mc mr ∧ ∀ k, 63 ≤ k → E9 k = E k) := by
  obtain ⟨h0, W, ⟨F4, S4, su4, lv4, ed4, T⟩, Z, Y, ⟨fc, Hm, P⟩, hFp, hSp, hn⟩ := id C
  obtain ⟨-, -, hw, hL, hE, hF, hS⟩ := id W
  obtain ⟨-, -, hz, hzO, hzr, -, -, hold, hcnt⟩ := id Z
  obtain ⟨-, -, hy, hyO, hyr, -, -, -, hmc⟩ := id Y
  intro Φ Ψ h
  show J g mX3_setEdge 8 0 0 0 [some (.ref (ad 0)), some (.int (nI b)), some (.int x), none] [] n ad E Φ Ψ
  refine j_aload_n dX3_setEdge_0 rfl ?_
  refine j_iload_n dX3_setEdge_1 rfl ?_
  refine j_cV (As := [.int (nI b)]) (rest := []) cm_X3_checkStep ci_X3_checkStep cs_X3_checkStep rfl ln_X3_141 (ci := 3) rfl dX3_setEdge_2 (d' := 7) (by decide) (by omega) h0 rfl rfl (Nat.le_of_ble_eq_true rfl) (Nat.le_of_ble_eq_true rfl) (s_checkStep_ok C b hb) ?_
  refine j_iload_n dX3_setEdge_5 rfl ?_
  refine j_iconst (v := 0) dX3_setEdge_6 (by decide) ?_
  refine j_sipush (v := 999) dX3_setEdge_7 (by decide) ?_
  refine j_cS (As := [.int x, .int 0, .int 999]) (rest := []) cm_X3_checkNumber ct_X3_checkNumber ln_X3_46 dX3_setEdge_10 (d' := 6) (by decide) rfl rfl (Nat.le_of_ble_eq_true rfl) (Nat.le_of_ble_eq_true rfl) (s_checkNumber_ok x 0 999 hx1 hx2) ?_
  refine j_aload_n dX3_setEdge_13 rfl ?_
  refine j_get fl_X3_12 dX3_setEdge_14 (by omega) h0 rfl ?_
  refine j_get fl_X3_144 dX3_setEdge_17 (by omega) hw rfl ?_
  refine j_iload_n dX3_setEdge_20 rfl ?_
  refine j_iald dX3_setEdge_21 (by omega) hE (by decide) (by omega) rfl ?_
  refine j_istore_n (L' := [some (.ref (ad 0)), some (.int (nI b)), some (.int x), some (.int (ed b))]) dX3_setEdge_22 (by decide) rfl rfl ?_
  refine j_aload_n dX3_setEdge_23 rfl ?_
  refine j_get fl_X3_12 dX3_setEdge_24 (by omega) h0 rfl ?_
  refine j_get fl_X3_144 dX3_setEdge_27 (by omega) hw rfl ?_
  refine j_iload_n dX3_setEdge_30 rfl ?_
  refine j_iload_n dX3_setEdge_31 rfl ?_
  refine j_iast (j := b) dX3_setEdge_32 (by omega) hE (by decide) (by omega) ?_
  refine j_iload_n dX3_setEdge_33 rfl ?_
  exact j_iret dX3_setEdge_34 rfl (h _ ⟨(CR.setEd C), (fun k hk => ((up_ne (by omega)).trans rfl))⟩)
set_option maxRecDepth 100000 in
set_option maxHeartbeats 4000000 in
theorem s_X3_setEdge_bad {g : jG} {n : Nat} {ad : Nat → Nat} {E : Nat → va_E} {F S : Nat} {hrs su : Int32} {gone : Int64} {lv ed : Nat → Int32} {old cnt mc : Nat} {dr mr : Nat → Nat → Int32} (C : CR g n ad E F S hrs su gone lv ed old cnt dr mc mr) (x : Int32) (y : Int32) (hx : oob x S) : Thr g mX3_setEdge 8 [.ref (ad 0), .int x, .int y] n ad E "java/lang/IndexOutOfBoundsException" := by
  obtain ⟨h0, W, ⟨F4, S4, su4, lv4, ed4, T⟩, Z, Y, ⟨fc, Hm, P⟩, hFp, hSp, hn⟩ := id C
  obtain ⟨-, -, hw, hL, hE, hF, hS⟩ := id W
  obtain ⟨-, -, hz, hzO, hzr, -, -, hold, hcnt⟩ := id Z
  obtain ⟨-, -, hy, hyO, hyr, -, -, -, hmc⟩ := id Y
  intro Φ Ψ h
  show J g mX3_setEdge 8 1 6 0 [some (.ref (ad 0)), some (.int x), some (.int y), none] [] n ad E Φ Ψ
  refine j_aload_n dX3_setEdge_0 rfl ?_
  refine j_iload_n dX3_setEdge_1 rfl ?_
  exact j_cVx (As := [.int x]) (rest := []) cm_X3_checkStep ci_X3_checkStep cs_X3_checkStep rfl ln_X3_141 (ci := 3) rfl dX3_setEdge_2 (d' := 7) (by decide) (by omega) h0 rfl rfl (Nat.le_of_ble_eq_true rfl) (Nat.le_of_ble_eq_true rfl) (s_checkStep_bad C x hx) (jMeets_out rfl h)
set_option maxRecDepth 100000 in
set_option maxHeartbeats 4000000 in
theorem s_X3_setEdge_iae {g : jG} {n : Nat} {ad : Nat → Nat} {E : Nat → va_E} {F S : Nat} {hrs su : Int32} {gone : Int64} {lv ed : Nat → Int32} {old cnt mc : Nat} {dr mr : Nat → Nat → Int32} (C : CR g n ad E F S hrs su gone lv ed old cnt dr mc mr) (b : Nat) (hb : b < S) (x : Int32) (hx : x < 0 ∨ ¬ x ≤ 999) : Thr g mX3_setEdge 8 [.ref (ad 0), .int (nI b), .int x] n ad E "java/lang/IllegalArgumentException" := by
  obtain ⟨h0, W, ⟨F4, S4, su4, lv4, ed4, T⟩, Z, Y, ⟨fc, Hm, P⟩, hFp, hSp, hn⟩ := id C
  obtain ⟨-, -, hw, hL, hE, hF, hS⟩ := id W
  obtain ⟨-, -, hz, hzO, hzr, -, -, hold, hcnt⟩ := id Z
  obtain ⟨-, -, hy, hyO, hyr, -, -, -, hmc⟩ := id Y
  intro Φ Ψ h
  show J g mX3_setEdge 8 1 6 0 [some (.ref (ad 0)), some (.int (nI b)), some (.int x), none] [] n ad E Φ Ψ
  refine j_aload_n dX3_setEdge_0 rfl ?_
  refine j_iload_n dX3_setEdge_1 rfl ?_
  refine j_cV (As := [.int (nI b)]) (rest := []) cm_X3_checkStep ci_X3_checkStep cs_X3_checkStep rfl ln_X3_141 (ci := 3) rfl dX3_setEdge_2 (d' := 7) (by decide) (by omega) h0 rfl rfl (Nat.le_of_ble_eq_true rfl) (Nat.le_of_ble_eq_true rfl) (s_checkStep_ok C b hb) ?_
  refine j_iload_n dX3_setEdge_5 rfl ?_
  refine j_iconst (v := 0) dX3_setEdge_6 (by decide) ?_
  refine j_sipush (v := 999) dX3_setEdge_7 (by decide) ?_
  exact j_cSx (As := [.int x, .int 0, .int 999]) (rest := []) cm_X3_checkNumber ct_X3_checkNumber ln_X3_46 dX3_setEdge_10 (d' := 6) (by decide) rfl rfl (Nat.le_of_ble_eq_true rfl) (Nat.le_of_ble_eq_true rfl) (s_checkNumber_bad x 0 999 hx) (jMeets_out rfl h)
