/-! Both sides in step. -/
def GR (i N : Nat) (r r' : Nat → Int32) : Prop := (∀ k, k < N → r k = r' k) ∧ BD (-(99 * (i : Int))) (999 + 99 * (i : Int)) N r
def Rl (i F S : Nat) (su : Int32) (lv ed : Nat → Int32) (old cnt : Nat) (dr : Nat → Nat → Int32) (mc : Nat) (mr : Nat → Nat → Int32) (lv' ed' ah mk : Nat → Int32) : Prop :=
  (∀ k, k < F * S → lv k = lv' k) ∧ (∀ s, s < S → ed s = ed' s) ∧ BD (-(99 * (i : Int))) (999 + 99 * (i : Int)) (F * S) lv ∧ EB S ed ∧ 0 ≤ su.toInt ∧ su.toInt ≤ 9 ∧ (∀ p, p < cnt → GR i (F * S) (dr (slot old p 30)) (fun k => ah (128 * slot old p 30 + k))) ∧ ∀ j, j < mc → GR i (F * S) (mr j) (fun k => mk (128 * j + k))
theorem GR.le {i N : Nat} {r r' : Nat → Int32} (h : GR i N r r') : GR (i + 1) N r r' := ⟨h.1, h.2.le (by omega) (by omega)⟩
theorem Rl.le {i F S : Nat} {su : Int32} {lv ed : Nat → Int32} {old cnt : Nat} {dr : Nat → Nat → Int32} {mc : Nat} {mr : Nat → Nat → Int32} {lv' ed' ah mk : Nat → Int32} (R : Rl i F S su lv ed old cnt dr mc mr lv' ed' ah mk) : Rl (i + 1) F S su lv ed old cnt dr mc mr lv' ed' ah mk := by
  obtain ⟨rl, re, rb, reb, rs0, rs9, rd, rm⟩ := R
  exact ⟨rl, re, rb.le (by omega) (by omega), reb, rs0, rs9, fun p hp => (rd p hp).le, fun j hj => (rm j hj).le⟩
theorem keep_slot {old cnt p : Nat} (h1 : old < 30) (h2 : cnt ≤ 30) (hp : p < kCnt cnt) : slot (kOld old cnt) p 30 = kSlot old cnt ∨ (slot (kOld old cnt) p 30 ≠ kSlot old cnt ∧ ∃ p', p' < cnt ∧ slot (kOld old cnt) p 30 = slot old p' 30) := by
  unfold kCnt at hp
  by_cases hc : cnt < 30
  · rw [if_pos hc] at hp
    have e1 : kOld old cnt = old := if_pos hc
    have e2 : kSlot old cnt = slot old cnt 30 := if_pos hc
    rw [e1, e2]
    by_cases q : p = cnt
    · left
      rw [q]
    · refine Or.inr ⟨?_, p, by omega, rfl⟩
      unfold slot
      split <;> split <;> omega
  · rw [if_neg hc] at hp
    have e1 : kOld old cnt = (if old + 1 < 30 then old + 1 else 0) := if_neg hc
    have e2 : kSlot old cnt = old := if_neg hc
    rw [e1, e2]
    by_cases q : p = 29
    · left
      subst q
      unfold slot
      split <;> split <;> omega
    · refine Or.inr ⟨?_, p + 1, by omega, ?_⟩
      · unfold slot
        split <;> split <;> omega
      · unfold slot
        split <;> split <;> split <;> omega
theorem Rl.keep {i F S : Nat} {su : Int32} {lv ed : Nat → Int32} {old cnt : Nat} {dr : Nat → Nat → Int32} {mc : Nat} {mr : Nat → Nat → Int32} {lv' ed' ah mk ln ln' : Nat → Int32} (R : Rl i F S su lv ed old cnt dr mc mr lv' ed' ah mk) (h1 : old < 30) (h2 : cnt ≤ 30) (hN : F * S ≤ 128) (hl : ∀ k, k < F * S → ln k = ln' k) (hb : BD (-(99 * (i : Int)) - 99) (999 + 99 * (i : Int) + 99) (F * S) ln) : Rl (i + 1) F S su ln ed (kOld old cnt) (kCnt cnt) (rowUp dr (kSlot old cnt) (cpyN lv (dr (kSlot old cnt)) (F * S))) mc mr ln' ed' (va_cpy lv' ah 0 (128 * kSlot old cnt) 128) mk := by
  obtain ⟨rl, re, rb, reb, rs0, rs9, rd, rm⟩ := R
  refine ⟨hl, re, hb.le (by omega) (by omega), reb, rs0, rs9, fun p hp => ?_, fun j hj => (rm j hj).le⟩
  rcases keep_slot h1 h2 hp with e | ⟨ne, p', hp', e⟩
  · rw [e, rowUp_at]
    refine ⟨fun k hk => ?_, fun k hk => ?_⟩
    · rw [cpyN_lt hk]
      show lv k = va_cpy lv' ah 0 (128 * kSlot old cnt) 128 (128 * kSlot old cnt + k)
      unfold va_cpy
      rw [if_pos (by omega), rl k hk]
      congr 1
      omega
    · rw [cpyN_lt hk]
      exact (rb.le (lo' := -(99 * ((i + 1 : Nat) : Int))) (hi' := 999 + 99 * ((i + 1 : Nat) : Int)) (by omega) (by omega)) k hk
  · have q := (rd p' hp').le
    rw [← e] at q
    have er : rowUp dr (kSlot old cnt) (cpyN lv (dr (kSlot old cnt)) (F * S)) (slot (kOld old cnt) p 30) = dr (slot (kOld old cnt) p 30) := if_neg ne
    rw [er]
    refine ⟨fun k hk => (q.1 k hk).trans ?_, q.2⟩
    show ah (128 * slot (kOld old cnt) p 30 + k) = va_cpy lv' ah 0 (128 * kSlot old cnt) 128 (128 * slot (kOld old cnt) p 30 + k)
    unfold va_cpy
    rw [if_neg (by omega)]
theorem Rl.lay {i F S a b : Nat} {su : Int32} {lv ed : Nat → Int32} {old cnt : Nat} {dr : Nat → Nat → Int32} {mc : Nat} {mr : Nat → Nat → Int32} {lv' ed' ah mk : Nat → Int32} (R : Rl i F S su lv ed old cnt dr mc mr lv' ed' ah mk) (ha : a ≤ 8) (hb : b ≤ 16) : Rl (i + 1) a b su (cpyN (fun _ => 0) lv 128) (cpyN (fun _ => 50) ed 16) 0 0 dr 0 mr (cpyN (fun _ => 0) lv' 128) (cpyN (fun _ => 50) ed' 16) ah mk := by
  obtain ⟨rl, re, rb, reb, rs0, rs9, rd, rm⟩ := R
  have hab := fs128 ha hb
  have z5 : (50 : Int32).toInt = 50 := by decide
  refine ⟨fun k hk => ?_, fun s hs => ?_, fun k hk => ?_, fun s hs => ?_, rs0, rs9, fun p hp => absurd hp (Nat.not_lt_zero p), fun p hp => absurd hp (Nat.not_lt_zero p)⟩
  · rw [cpyN_lt (by omega), cpyN_lt (by omega)]
  · rw [cpyN_lt (by omega), cpyN_lt (by omega)]
  · rw [cpyN_lt (by omega), z_i]
    omega
  · rw [cpyN_lt (by omega), z5]
    omega
theorem Rl.mark {i F S : Nat} {su : Int32} {lv ed : Nat → Int32} {old cnt : Nat} {dr : Nat → Nat → Int32} {mc : Nat} {mr : Nat → Nat → Int32} {lv' ed' ah mk : Nat → Int32} (R : Rl i F S su lv ed old cnt dr mc mr lv' ed' ah mk) (hN : F * S ≤ 128) : Rl (i + 1) F S su lv ed old cnt dr (mc + 1) (rowUp mr mc (cpyN lv (mr mc) (F * S))) lv' ed' ah (va_cpy lv' mk 0 (128 * mc) 128) := by
  obtain ⟨rl, re, rb, reb, rs0, rs9, rd, rm⟩ := R
  refine ⟨rl, re, rb.le (by omega) (by omega), reb, rs0, rs9, fun p hp => (rd p hp).le, fun j hj => ?_⟩
  by_cases q : j = mc
  · subst q
    rw [rowUp_at]
    refine ⟨fun k hk => ?_, fun k hk => ?_⟩
    · rw [cpyN_lt hk]
      show lv k = va_cpy lv' mk 0 (128 * j) 128 (128 * j + k)
      unfold va_cpy
      rw [if_pos (by omega), rl k hk]
      congr 1
      omega
    · rw [cpyN_lt hk]
      exact (rb.le (lo' := -(99 * ((i + 1 : Nat) : Int))) (hi' := 999 + 99 * ((i + 1 : Nat) : Int)) (by omega) (by omega)) k hk
  · have r := (rm j (by omega)).le
    have er : rowUp mr mc (cpyN lv (mr mc) (F * S)) j = mr j := if_neg q
    rw [er]
    refine ⟨fun k hk => (r.1 k hk).trans ?_, r.2⟩
    show mk (128 * j + k) = va_cpy lv' mk 0 (128 * mc) 128 (128 * j + k)
    unfold va_cpy
    rw [if_neg (by omega)]
theorem Rl.undo {i F S : Nat} {su : Int32} {lv ed : Nat → Int32} {old cnt : Nat} {dr : Nat → Nat → Int32} {mc : Nat} {mr : Nat → Nat → Int32} {lv' ed' ah mk : Nat → Int32} (R : Rl i F S su lv ed old cnt dr mc mr lv' ed' ah mk) (hN : F * S ≤ 128) (hc : 1 ≤ cnt) : Rl (i + 1) F S su (cpyN (dr (slot old (cnt - 1) 30)) lv (F * S)) ed old (cnt - 1) dr mc mr (va_cpy ah lv' (128 * slot old (cnt - 1) 30) 0 128) ed' ah mk := by
  obtain ⟨rl, re, rb, reb, rs0, rs9, rd, rm⟩ := R
  have r := (rd (cnt - 1) (by omega)).le
  refine ⟨fun k hk => ?_, re, fun k hk => ?_, reb, rs0, rs9, fun p hp => (rd p (by omega)).le, fun j hj => (rm j hj).le⟩
  · rw [cpyN_lt hk, cp_at (by omega)]
    exact r.1 k hk
  · rw [cpyN_lt hk]
    exact r.2 k hk
theorem back_cg {i N j : Nat} {lv lv' mk : Nat → Int32} {mr : Nat → Nat → Int32} (hN : N ≤ 128) (r : GR i N (mr j) (fun k => mk (128 * j + k))) : (∀ k, k < N → cpyN (mr j) lv N k = va_cpy mk lv' (128 * j) 0 128 k) ∧ BD (-(99 * (i : Int)) - 99) (999 + 99 * (i : Int) + 99) N (cpyN (mr j) lv N) := by
  refine ⟨fun k hk => ?_, fun k hk => ?_⟩
  · rw [cpyN_lt hk, cp_at (by omega)]
    exact r.1 k hk
  · rw [cpyN_lt hk]
    exact (r.2.le (lo' := -(99 * (i : Int)) - 99) (hi' := 999 + 99 * (i : Int) + 99) (by omega) (by omega)) k hk
theorem Rl.sun {i F S : Nat} {su x : Int32} {lv ed : Nat → Int32} {old cnt : Nat} {dr : Nat → Nat → Int32} {mc : Nat} {mr : Nat → Nat → Int32} {lv' ed' ah mk : Nat → Int32} (R : Rl i F S su lv ed old cnt dr mc mr lv' ed' ah mk) (h1 : ¬ x < 0) (h2 : x ≤ 9) : Rl (i + 1) F S x lv ed old cnt dr mc mr lv' ed' ah mk := by
  obtain ⟨rl, re, rb, reb, -, -, rd, rm⟩ := R.le
  rw [Int32.lt_iff_toInt_lt, z_i] at h1
  rw [Int32.le_iff_toInt_le, show (9 : Int32).toInt = 9 by decide] at h2
  exact ⟨rl, re, rb, reb, by omega, h2, rd, rm⟩
theorem Rl.edge {i F S b : Nat} {su x : Int32} {lv ed : Nat → Int32} {old cnt : Nat} {dr : Nat → Nat → Int32} {mc : Nat} {mr : Nat → Nat → Int32} {lv' ed' ah mk : Nat → Int32} (R : Rl i F S su lv ed old cnt dr mc mr lv' ed' ah mk) (h1 : ¬ x < 0) (h2 : x ≤ 999) : Rl (i + 1) F S su lv (upd ed b x) old cnt dr mc mr lv' (upd ed' b x) ah mk := by
  obtain ⟨rl, re, rb, reb, rs0, rs9, rd, rm⟩ := R.le
  rw [Int32.lt_iff_toInt_lt, z_i] at h1
  rw [Int32.le_iff_toInt_le, show (999 : Int32).toInt = 999 by decide] at h2
  refine ⟨rl, upd_cg rfl re, rb, fun s hs => ?_, rs0, rs9, rd, rm⟩
  unfold upd
  by_cases q : s = b
  · rw [if_pos q]
    omega
  · rw [if_neg q]
    exact reb s hs
theorem rng_of {x : Int32} {c : Nat} (hc : c < 2 ^ 31) (h1 : ¬ x < 1) (h2 : x ≤ nI c) : ∃ t : Nat, 1 ≤ t ∧ t ≤ c ∧ x = nI t := by
  rw [Int32.lt_iff_toInt_lt, show (1 : Int32).toInt = 1 by decide] at h1
  rw [Int32.le_iff_toInt_le, nI_toInt hc] at h2
  refine ⟨x.toInt.toNat, by omega, by omega, ?_⟩
  rw [← Int32.toInt_inj, nI_toInt (by omega)]
  omega
theorem i99 {x : Int32} (h1 : ¬ x < -99) (h2 : x ≤ 99) : -99 ≤ x.toInt ∧ x.toInt ≤ 99 := by
  rw [Int32.lt_iff_toInt_lt, show (-99 : Int32).toInt = -99 by decide] at h1
  rw [Int32.le_iff_toInt_le, show (99 : Int32).toInt = 99 by decide] at h2
  omega
theorem i999 {x : Int32} (h1 : ¬ x < 1) (h2 : x ≤ 999) : 1 ≤ x.toInt ∧ x.toInt ≤ 999 := by
  rw [Int32.lt_iff_toInt_lt, show (1 : Int32).toInt = 1 by decide] at h1
  rw [Int32.le_iff_toInt_le, show (999 : Int32).toInt = 999 by decide] at h2
  omega
theorem RetP.vi {g : jG} {M : jM} {d n : Nat} {As : List Value} {ad : Nat → Nat} {E : Nat → va_E} {P : (Nat → va_E) → Prop} {v v' : Int32} (h : RetP g M d As n ad E (some (.int v)) P) (e : v = v') : RetP g M d As n ad E (some (.int v')) P := e ▸ h
theorem RetP.vl {g : jG} {M : jM} {d n : Nat} {As : List Value} {ad : Nat → Nat} {E : Nat → va_E} {P : (Nat → va_E) → Prop} {v v' : Int64} (h : RetP g M d As n ad E (some (.long v)) P) (e : v = v') : RetP g M d As n ad E (some (.long v')) P := e ▸ h
theorem RetP.vd {g : jG} {M : jM} {d n : Nat} {As : List Value} {ad : Nat → Nat} {E : Nat → va_E} {P : (Nat → va_E) → Prop} {v v' : UInt64} (h : RetP g M d As n ad E (some (.double v)) P) (e : v = v') : RetP g M d As n ad E (some (.double v')) P := e ▸ h
def Sim (i : Nat) (g : jG) (n : Nat) (ad : Nat → Nat) (E : Nat → va_E) : Prop := ∃ (th : Int32) (F S : Nat) (hrs su : Int32) (gone : Int64) (lv ed : Nat → Int32) (old cnt : Nat) (dr : Nat → Nat → Int32) (mc : Nat) (mr : Nat → Nat → Int32) (lv' ed' ah mk : Nat → Int32), CR g n ad E F S hrs su gone lv ed old cnt dr mc mr ∧ MR g n ad E th F S hrs su gone lv' ed' old cnt ah mc mk ∧ (∃ o, E 69 = aL g 1 o) ∧ 70 ≤ n ∧ Rl i F S su lv ed old cnt dr mc mr lv' ed' ah mk
set_option maxRecDepth 100000 in
set_option maxHeartbeats 4000000 in
theorem st_edgeOf {g : jG} {n : Nat} {ad : Nat → Nat} {E : Nat → va_E} {i6 bc bs i : Nat} {Φ : Option Value → jR} {Ψ : String → jR} (hi : i6 + 6 ≤ g.1.2.2.1) (hL : g.1.2.2.1 ≤ 3072) (hi5 : i ≤ 512) (Q : Sim i g n ad E) (K : ∀ E2, Sim (i + 1) g n ad E2 → J g mL_law 12 bc bs 2592 [some (.ref g.1.2.1), some (.ref (ad 0)), some (.ref (ad 63)), some (.ref (ad 69)), some (.int (nI i6)), none, none, none, none] [] n ad E2 Φ Ψ) : J g mL_law 12 (1 + bc) (15 + bs) 1068 [some (.ref g.1.2.1), some (.ref (ad 0)), some (.ref (ad 63)), some (.ref (ad 69)), some (.int (nI i6)), none, none, none, none] [] n ad E Φ Ψ := by
  obtain ⟨th, F, S, hrs, su, gone, lv, ed, old, cnt, dr, mc, mr, lv', ed', ah, mk, C, D, ⟨o, ho⟩, hn, R⟩ := Q
  obtain ⟨-, -, -, -, -, -, hF, hS, hFp, hSp, hfi, hcn, hmc, -⟩ := id D
  obtain ⟨rl, re, rb, reb, rs0, rs9, rd, rm⟩ := id R
  have h0 := C.1
  have h63 := D.1
  have hN := fs128 hF hS
  rcases oob_or (g.1.2.2.2 (i6 + 1)) (c := S) (by omega) with q | ⟨b, hb, e1⟩
  · skip
    exact j_bud (bc' := 1 + bc) (bs' := 6 + bs) (by omega) (by omega) (lc_edgeOf_bad hi hL hn h0 h63 rfl (k := 1) (by decide) (h_edgeOf_bad (g.1.2.2.2 (i6 + 1)) hn h0 (Thr.dep (s_X3_edgeOf_bad C (g.1.2.2.2 (i6 + 1)) q) (by decide))) (RetP.dep (s_X4_edgeOf_bad D (g.1.2.2.2 (i6 + 1)) q) (by decide)) (fun E2 q => ⟨_, q.1.1⟩) (fun E2 q => K E2 ⟨1, F, S, hrs, su, gone, lv, ed, old, cnt, dr, mc, mr, lv', ed', ah, mk, CR.kept C (fun k hk => q.2 k (Or.inl hk)), q.1, ⟨o, (q.2 69 (Or.inr (by decide))).trans ho⟩, hn, R.le⟩))
  · skip
    exact j_bud (bc' := bc) (bs' := bs) (by omega) (by omega) (lc_edgeOf_ok hi hL hn h0 h63 e1 (v := ed b) (PC := (fun E1 => CR g n ad E1 F S hrs su gone lv ed old cnt dr mc mr ∧ ∀ k, 63 ≤ k → E1 k = E k)) (PM := (fun E1 E2 => MR g n ad E2 0 F S hrs su gone lv' ed' old cnt ah mc mk ∧ ∀ k, (k < 63 ∨ 69 ≤ k) → E2 k = E1 k)) (h_edgeOf_ok (nI b) hn h0 (fun E1 p => ⟨o, (p.2 69 (by decide)).trans ho⟩) (RetP.dep (Ret.toP (d := 10) (Ret.dep (s_X3_edgeOf C b hb) (by decide)) ⟨C, fun _ _ => rfl⟩) (by decide))) (fun E1 p => p.2 63 (by decide)) (fun E1 o1 p => RetP.dep (RetP.vi (s_X4_edgeOf_ok (MR.kept D (fun k h1 h2 => (up_ne (by omega)).trans (p.2 k h1))) b hb) ((re b hb).symm)) (by decide)) (fun E1 E2 q => ⟨⟨_, q.1.1⟩, q.2 69 (Or.inr (by decide))⟩) (fun E1 o1 E2 p ho1 q => K E2 ⟨0, F, S, hrs, su, gone, lv, ed, old, cnt, dr, mc, mr, lv', ed', ah, mk, CR.kept p.1 (fun k hk => (q.2 k (Or.inl hk)).trans (up_ne (by omega))), q.1, ⟨_, (q.2 69 (Or.inr (by decide))).trans up_eq⟩, hn, R.le⟩))
set_option maxRecDepth 100000 in
set_option maxHeartbeats 4000000 in
theorem st_levelAt {g : jG} {n : Nat} {ad : Nat → Nat} {E : Nat → va_E} {i6 bc bs i : Nat} {Φ : Option Value → jR} {Ψ : String → jR} (hi : i6 + 6 ≤ g.1.2.2.1) (hL : g.1.2.2.1 ≤ 3072) (hi5 : i ≤ 512) (Q : Sim i g n ad E) (K : ∀ E2, Sim (i + 1) g n ad E2 → J g mL_law 12 bc bs 2592 [some (.ref g.1.2.1), some (.ref (ad 0)), some (.ref (ad 63)), some (.ref (ad 69)), some (.int (nI i6)), none, none, none, none] [] n ad E2 Φ Ψ) : J g mL_law 12 (1 + bc) (15 + bs) 1164 [some (.ref g.1.2.1), some (.ref (ad 0)), some (.ref (ad 63)), some (.ref (ad 69)), some (.int (nI i6)), none, none, none, none] [] n ad E Φ Ψ := by
  obtain ⟨th, F, S, hrs, su, gone, lv, ed, old, cnt, dr, mc, mr, lv', ed', ah, mk, C, D, ⟨o, ho⟩, hn, R⟩ := Q
  obtain ⟨-, -, -, -, -, -, hF, hS, hFp, hSp, hfi, hcn, hmc, -⟩ := id D
  obtain ⟨rl, re, rb, reb, rs0, rs9, rd, rm⟩ := id R
  have h0 := C.1
  have h63 := D.1
  have hN := fs128 hF hS
  rcases oob_or (g.1.2.2.2 (i6 + 1)) (c := F) (by omega) with q | ⟨a, ha, e1⟩
  · skip
    exact j_bud (bc' := 1 + bc) (bs' := 6 + bs) (by omega) (by omega) (lc_levelAt_bad hi hL hn h0 h63 rfl rfl (k := 1) (by decide) (h_levelAt_bad (g.1.2.2.2 (i6 + 1)) (g.1.2.2.2 (i6 + 2)) hn h0 (Thr.dep (s_X3_levelAt_bad C (g.1.2.2.2 (i6 + 1)) (g.1.2.2.2 (i6 + 2)) (Or.inl q)) (by decide))) (RetP.dep (s_X4_levelAt_bad D (g.1.2.2.2 (i6 + 1)) (g.1.2.2.2 (i6 + 2)) (Or.inl q)) (by decide)) (fun E2 q => ⟨_, q.1.1⟩) (fun E2 q => K E2 ⟨1, F, S, hrs, su, gone, lv, ed, old, cnt, dr, mc, mr, lv', ed', ah, mk, CR.kept C (fun k hk => q.2 k (Or.inl hk)), q.1, ⟨o, (q.2 69 (Or.inr (by decide))).trans ho⟩, hn, R.le⟩))
  · skip
    rcases oob_or (g.1.2.2.2 (i6 + 2)) (c := S) (by omega) with q | ⟨b, hb, e2⟩
    · skip
      exact j_bud (bc' := 1 + bc) (bs' := 6 + bs) (by omega) (by omega) (lc_levelAt_bad hi hL hn h0 h63 e1 rfl (k := 1) (by decide) (h_levelAt_bad (nI a) (g.1.2.2.2 (i6 + 2)) hn h0 (Thr.dep (s_X3_levelAt_bad C (nI a) (g.1.2.2.2 (i6 + 2)) (Or.inr q)) (by decide))) (RetP.dep (s_X4_levelAt_bad D (nI a) (g.1.2.2.2 (i6 + 2)) (Or.inr q)) (by decide)) (fun E2 q => ⟨_, q.1.1⟩) (fun E2 q => K E2 ⟨1, F, S, hrs, su, gone, lv, ed, old, cnt, dr, mc, mr, lv', ed', ah, mk, CR.kept C (fun k hk => q.2 k (Or.inl hk)), q.1, ⟨o, (q.2 69 (Or.inr (by decide))).trans ho⟩, hn, R.le⟩))
    · skip
      exact j_bud (bc' := bc) (bs' := bs) (by omega) (by omega) (lc_levelAt_ok hi hL hn h0 h63 e1 e2 (v := lv (a * S + b)) (PC := (fun E1 => CR g n ad E1 F S hrs su gone lv ed old cnt dr mc mr ∧ ∀ k, 63 ≤ k → E1 k = E k)) (PM := (fun E1 E2 => MR g n ad E2 0 F S hrs su gone lv' ed' old cnt ah mc mk ∧ ∀ k, (k < 63 ∨ 69 ≤ k) → E2 k = E1 k)) (h_levelAt_ok (nI a) (nI b) hn h0 (fun E1 p => ⟨o, (p.2 69 (by decide)).trans ho⟩) (RetP.dep (Ret.toP (d := 10) (Ret.dep (s_X3_levelAt C a b ha hb) (by decide)) ⟨C, fun _ _ => rfl⟩) (by decide))) (fun E1 p => p.2 63 (by decide)) (fun E1 o1 p => RetP.dep (RetP.vi (s_X4_levelAt_ok (MR.kept D (fun k h1 h2 => (up_ne (by omega)).trans (p.2 k h1))) a b ha hb) ((rl _ (ixN ha hb)).symm)) (by decide)) (fun E1 E2 q => ⟨⟨_, q.1.1⟩, q.2 69 (Or.inr (by decide))⟩) (fun E1 o1 E2 p ho1 q => K E2 ⟨0, F, S, hrs, su, gone, lv, ed, old, cnt, dr, mc, mr, lv', ed', ah, mk, CR.kept p.1 (fun k hk => (q.2 k (Or.inl hk)).trans (up_ne (by omega))), q.1, ⟨_, (q.2 69 (Or.inr (by decide))).trans up_eq⟩, hn, R.le⟩))
set_option maxRecDepth 100000 in
set_option maxHeartbeats 4000000 in
theorem st_sumTo {g : jG} {n : Nat} {ad : Nat → Nat} {E : Nat → va_E} {i6 bc bs i : Nat} {Φ : Option Value → jR} {Ψ : String → jR} (hi : i6 + 6 ≤ g.1.2.2.1) (hL : g.1.2.2.1 ≤ 3072) (hi5 : i ≤ 512) (Q : Sim i g n ad E) (K : ∀ E2, Sim (i + 1) g n ad E2 → J g mL_law 12 bc bs 2592 [some (.ref g.1.2.1), some (.ref (ad 0)), some (.ref (ad 63)), some (.ref (ad 69)), some (.int (nI i6)), none, none, none, none] [] n ad E2 Φ Ψ) : J g mL_law 12 (1 + bc) (15 + bs) 1323 [some (.ref g.1.2.1), some (.ref (ad 0)), some (.ref (ad 63)), some (.ref (ad 69)), some (.int (nI i6)), none, none, none, none] [] n ad E Φ Ψ := by
  obtain ⟨th, F, S, hrs, su, gone, lv, ed, old, cnt, dr, mc, mr, lv', ed', ah, mk, C, D, ⟨o, ho⟩, hn, R⟩ := Q
  obtain ⟨-, -, -, -, -, -, hF, hS, hFp, hSp, hfi, hcn, hmc, -⟩ := id D
  obtain ⟨rl, re, rb, reb, rs0, rs9, rd, rm⟩ := id R
  have h0 := C.1
  have h63 := D.1
  have hN := fs128 hF hS
  rcases oob_or (g.1.2.2.2 (i6 + 1)) (c := F) (by omega) with q | ⟨a, ha, e1⟩
  · skip
    exact j_bud (bc' := 1 + bc) (bs' := 6 + bs) (by omega) (by omega) (lc_sumTo_bad hi hL hn h0 h63 rfl rfl (k := 1) (by decide) (h_sumTo_bad (g.1.2.2.2 (i6 + 1)) (g.1.2.2.2 (i6 + 2)) hn h0 (Thr.dep (s_X3_sumTo_bad C (g.1.2.2.2 (i6 + 1)) (g.1.2.2.2 (i6 + 2)) (Or.inl q)) (by decide))) (RetP.dep (s_X4_sumTo_bad D (g.1.2.2.2 (i6 + 1)) (g.1.2.2.2 (i6 + 2)) (Or.inl q)) (by decide)) (fun E2 q => ⟨_, q.1.1⟩) (fun E2 q => K E2 ⟨1, F, S, hrs, su, gone, lv, ed, old, cnt, dr, mc, mr, lv', ed', ah, mk, CR.kept C (fun k hk => q.2 k (Or.inl hk)), q.1, ⟨o, (q.2 69 (Or.inr (by decide))).trans ho⟩, hn, R.le⟩))
  · skip
    rcases oob_or (g.1.2.2.2 (i6 + 2)) (c := S) (by omega) with q | ⟨b, hb, e2⟩
    · skip
      exact j_bud (bc' := 1 + bc) (bs' := 6 + bs) (by omega) (by omega) (lc_sumTo_bad hi hL hn h0 h63 e1 rfl (k := 1) (by decide) (h_sumTo_bad (nI a) (g.1.2.2.2 (i6 + 2)) hn h0 (Thr.dep (s_X3_sumTo_bad C (nI a) (g.1.2.2.2 (i6 + 2)) (Or.inr q)) (by decide))) (RetP.dep (s_X4_sumTo_bad D (nI a) (g.1.2.2.2 (i6 + 2)) (Or.inr q)) (by decide)) (fun E2 q => ⟨_, q.1.1⟩) (fun E2 q => K E2 ⟨1, F, S, hrs, su, gone, lv, ed, old, cnt, dr, mc, mr, lv', ed', ah, mk, CR.kept C (fun k hk => q.2 k (Or.inl hk)), q.1, ⟨o, (q.2 69 (Or.inr (by decide))).trans ho⟩, hn, R.le⟩))
    · skip
      exact j_bud (bc' := bc) (bs' := bs) (by omega) (by omega) (lc_sumTo_ok hi hL hn h0 h63 e1 e2 (v := sumP lv S 0 0 a b) (PC := (fun E1 => CR g n ad E1 F S hrs su gone lv ed old cnt dr mc mr ∧ ∀ k, 63 ≤ k → E1 k = E k)) (PM := (fun E1 E2 => MR g n ad E2 0 F S hrs su gone lv' ed' old cnt ah mc mk ∧ ∀ k, (k < 63 ∨ 69 ≤ k) → E2 k = E1 k)) (h_sumTo_ok (nI a) (nI b) hn h0 (fun E1 p => ⟨o, (p.2 69 (by decide)).trans ho⟩) (RetP.dep (Ret.toP (d := 10) (Ret.dep (s_X3_sumTo C a b ha hb) (by decide)) ⟨C, fun _ _ => rfl⟩) (by decide))) (fun E1 p => p.2 63 (by decide)) (fun E1 o1 p => RetP.dep (RetP.vl (s_X4_sumTo_ok (MR.kept D (fun k h1 h2 => (up_ne (by omega)).trans (p.2 k h1))) a b ha hb) ((sumP_congr rl ha hb).symm)) (by decide)) (fun E1 E2 q => ⟨⟨_, q.1.1⟩, q.2 69 (Or.inr (by decide))⟩) (fun E1 o1 E2 p ho1 q => K E2 ⟨0, F, S, hrs, su, gone, lv, ed, old, cnt, dr, mc, mr, lv', ed', ah, mk, CR.kept p.1 (fun k hk => (q.2 k (Or.inl hk)).trans (up_ne (by omega))), q.1, ⟨_, (q.2 69 (Or.inr (by decide))).trans up_eq⟩, hn, R.le⟩))
set_option maxRecDepth 100000 in
set_option maxHeartbeats 4000000 in
theorem st_flightSum {g : jG} {n : Nat} {ad : Nat → Nat} {E : Nat → va_E} {i6 bc bs i : Nat} {Φ : Option Value → jR} {Ψ : String → jR} (hi : i6 + 6 ≤ g.1.2.2.1) (hL : g.1.2.2.1 ≤ 3072) (hi5 : i ≤ 512) (Q : Sim i g n ad E) (K : ∀ E2, Sim (i + 1) g n ad E2 → J g mL_law 12 bc bs 2592 [some (.ref g.1.2.1), some (.ref (ad 0)), some (.ref (ad 63)), some (.ref (ad 69)), some (.int (nI i6)), none, none, none, none] [] n ad E2 Φ Ψ) : J g mL_law 12 (1 + bc) (15 + bs) 1390 [some (.ref g.1.2.1), some (.ref (ad 0)), some (.ref (ad 63)), some (.ref (ad 69)), some (.int (nI i6)), none, none, none, none] [] n ad E Φ Ψ := by
  obtain ⟨th, F, S, hrs, su, gone, lv, ed, old, cnt, dr, mc, mr, lv', ed', ah, mk, C, D, ⟨o, ho⟩, hn, R⟩ := Q
  obtain ⟨-, -, -, -, -, -, hF, hS, hFp, hSp, hfi, hcn, hmc, -⟩ := id D
  obtain ⟨rl, re, rb, reb, rs0, rs9, rd, rm⟩ := id R
  have h0 := C.1
  have h63 := D.1
  have hN := fs128 hF hS
  rcases oob_or (g.1.2.2.2 (i6 + 1)) (c := F) (by omega) with q | ⟨a, ha, e1⟩
  · skip
    exact j_bud (bc' := 1 + bc) (bs' := 6 + bs) (by omega) (by omega) (lc_flightSum_bad hi hL hn h0 h63 rfl (k := 1) (by decide) (h_flightSum_bad (g.1.2.2.2 (i6 + 1)) hn h0 (Thr.dep (s_X3_flightSum_bad C (g.1.2.2.2 (i6 + 1)) q) (by decide))) (RetP.dep (s_X4_flightSum_bad D (g.1.2.2.2 (i6 + 1)) q) (by decide)) (fun E2 q => ⟨_, q.1.1⟩) (fun E2 q => K E2 ⟨1, F, S, hrs, su, gone, lv, ed, old, cnt, dr, mc, mr, lv', ed', ah, mk, CR.kept C (fun k hk => q.2 k (Or.inl hk)), q.1, ⟨o, (q.2 69 (Or.inr (by decide))).trans ho⟩, hn, R.le⟩))
  · skip
    exact j_bud (bc' := bc) (bs' := bs) (by omega) (by omega) (lc_flightSum_ok hi hL hn h0 h63 e1 (v := sumP lv S a 0 a (S - 1)) (PC := (fun E1 => CR g n ad E1 F S hrs su gone lv ed old cnt dr mc mr ∧ ∀ k, 63 ≤ k → E1 k = E k)) (PM := (fun E1 E2 => MR g n ad E2 0 F S hrs su gone lv' ed' old cnt ah mc mk ∧ ∀ k, (k < 63 ∨ 69 ≤ k) → E2 k = E1 k)) (h_flightSum_ok (nI a) hn h0 (fun E1 p => ⟨o, (p.2 69 (by decide)).trans ho⟩) (RetP.dep (Ret.toP (d := 10) (Ret.dep (s_X3_flightSum C a ha) (by decide)) ⟨C, fun _ _ => rfl⟩) (by decide))) (fun E1 p => p.2 63 (by decide)) (fun E1 o1 p => RetP.dep (RetP.vl (s_X4_flightSum_ok (MR.kept D (fun k h1 h2 => (up_ne (by omega)).trans (p.2 k h1))) a ha) ((sumP_congr rl ha (show S - 1 < S by omega)).symm)) (by decide)) (fun E1 E2 q => ⟨⟨_, q.1.1⟩, q.2 69 (Or.inr (by decide))⟩) (fun E1 o1 E2 p ho1 q => K E2 ⟨0, F, S, hrs, su, gone, lv, ed, old, cnt, dr, mc, mr, lv', ed', ah, mk, CR.kept p.1 (fun k hk => (q.2 k (Or.inl hk)).trans (up_ne (by omega))), q.1, ⟨_, (q.2 69 (Or.inr (by decide))).trans up_eq⟩, hn, R.le⟩))
set_option maxRecDepth 100000 in
set_option maxHeartbeats 4000000 in
theorem st_stepSum {g : jG} {n : Nat} {ad : Nat → Nat} {E : Nat → va_E} {i6 bc bs i : Nat} {Φ : Option Value → jR} {Ψ : String → jR} (hi : i6 + 6 ≤ g.1.2.2.1) (hL : g.1.2.2.1 ≤ 3072) (hi5 : i ≤ 512) (Q : Sim i g n ad E) (K : ∀ E2, Sim (i + 1) g n ad E2 → J g mL_law 12 bc bs 2592 [some (.ref g.1.2.1), some (.ref (ad 0)), some (.ref (ad 63)), some (.ref (ad 69)), some (.int (nI i6)), none, none, none, none] [] n ad E2 Φ Ψ) : J g mL_law 12 (1 + bc) (15 + bs) 1445 [some (.ref g.1.2.1), some (.ref (ad 0)), some (.ref (ad 63)), some (.ref (ad 69)), some (.int (nI i6)), none, none, none, none] [] n ad E Φ Ψ := by
  obtain ⟨th, F, S, hrs, su, gone, lv, ed, old, cnt, dr, mc, mr, lv', ed', ah, mk, C, D, ⟨o, ho⟩, hn, R⟩ := Q
  obtain ⟨-, -, -, -, -, -, hF, hS, hFp, hSp, hfi, hcn, hmc, -⟩ := id D
  obtain ⟨rl, re, rb, reb, rs0, rs9, rd, rm⟩ := id R
  have h0 := C.1
  have h63 := D.1
  have hN := fs128 hF hS
  rcases oob_or (g.1.2.2.2 (i6 + 1)) (c := S) (by omega) with q | ⟨b, hb, e1⟩
  · skip
    exact j_bud (bc' := 1 + bc) (bs' := 6 + bs) (by omega) (by omega) (lc_stepSum_bad hi hL hn h0 h63 rfl (k := 1) (by decide) (h_stepSum_bad (g.1.2.2.2 (i6 + 1)) hn h0 (Thr.dep (s_X3_stepSum_bad C (g.1.2.2.2 (i6 + 1)) q) (by decide))) (RetP.dep (s_X4_stepSum_bad D (g.1.2.2.2 (i6 + 1)) q) (by decide)) (fun E2 q => ⟨_, q.1.1⟩) (fun E2 q => K E2 ⟨1, F, S, hrs, su, gone, lv, ed, old, cnt, dr, mc, mr, lv', ed', ah, mk, CR.kept C (fun k hk => q.2 k (Or.inl hk)), q.1, ⟨o, (q.2 69 (Or.inr (by decide))).trans ho⟩, hn, R.le⟩))
  · skip
    exact j_bud (bc' := bc) (bs' := bs) (by omega) (by omega) (lc_stepSum_ok hi hL hn h0 h63 e1 (v := sumP lv S 0 b (F - 1) b) (PC := (fun E1 => CR g n ad E1 F S hrs su gone lv ed old cnt dr mc mr ∧ ∀ k, 63 ≤ k → E1 k = E k)) (PM := (fun E1 E2 => MR g n ad E2 0 F S hrs su gone lv' ed' old cnt ah mc mk ∧ ∀ k, (k < 63 ∨ 69 ≤ k) → E2 k = E1 k)) (h_stepSum_ok (nI b) hn h0 (fun E1 p => ⟨o, (p.2 69 (by decide)).trans ho⟩) (RetP.dep (Ret.toP (d := 10) (Ret.dep (s_X3_stepSum C b hb) (by decide)) ⟨C, fun _ _ => rfl⟩) (by decide))) (fun E1 p => p.2 63 (by decide)) (fun E1 o1 p => RetP.dep (RetP.vl (s_X4_stepSum_ok (MR.kept D (fun k h1 h2 => (up_ne (by omega)).trans (p.2 k h1))) b hb) ((sumP_congr rl (show F - 1 < F by omega) hb).symm)) (by decide)) (fun E1 E2 q => ⟨⟨_, q.1.1⟩, q.2 69 (Or.inr (by decide))⟩) (fun E1 o1 E2 p ho1 q => K E2 ⟨0, F, S, hrs, su, gone, lv, ed, old, cnt, dr, mc, mr, lv', ed', ah, mk, CR.kept p.1 (fun k hk => (q.2 k (Or.inl hk)).trans (up_ne (by omega))), q.1, ⟨_, (q.2 69 (Or.inr (by decide))).trans up_eq⟩, hn, R.le⟩))
set_option maxRecDepth 100000 in
set_option maxHeartbeats 4000000 in
theorem st_bestRun {g : jG} {n : Nat} {ad : Nat → Nat} {E : Nat → va_E} {i6 bc bs i : Nat} {Φ : Option Value → jR} {Ψ : String → jR} (hi : i6 + 6 ≤ g.1.2.2.1) (hL : g.1.2.2.1 ≤ 3072) (hi5 : i ≤ 512) (Q : Sim i g n ad E) (K : ∀ E2, Sim (i + 1) g n ad E2 → J g mL_law 12 bc bs 2592 [some (.ref g.1.2.1), some (.ref (ad 0)), some (.ref (ad 63)), some (.ref (ad 69)), some (.int (nI i6)), none, none, none, none] [] n ad E2 Φ Ψ) : J g mL_law 12 (1 + bc) (15 + bs) 1582 [some (.ref g.1.2.1), some (.ref (ad 0)), some (.ref (ad 63)), some (.ref (ad 69)), some (.int (nI i6)), none, none, none, none] [] n ad E Φ Ψ := by
  obtain ⟨th, F, S, hrs, su, gone, lv, ed, old, cnt, dr, mc, mr, lv', ed', ah, mk, C, D, ⟨o, ho⟩, hn, R⟩ := Q
  obtain ⟨-, -, -, -, -, -, hF, hS, hFp, hSp, hfi, hcn, hmc, -⟩ := id D
  obtain ⟨rl, re, rb, reb, rs0, rs9, rd, rm⟩ := id R
  have h0 := C.1
  have h63 := D.1
  have hN := fs128 hF hS
  rcases oob_or (g.1.2.2.2 (i6 + 1)) (c := F) (by omega) with q | ⟨a, ha, e1⟩
  · skip
    exact j_bud (bc' := 1 + bc) (bs' := 6 + bs) (by omega) (by omega) (lc_bestRun_bad hi hL hn h0 h63 rfl (k := 1) (by decide) (h_bestRun_bad (g.1.2.2.2 (i6 + 1)) hn h0 (Thr.dep (s_X3_bestRun_bad C (g.1.2.2.2 (i6 + 1)) q) (by decide))) (RetP.dep (s_X4_bestRun_bad D (g.1.2.2.2 (i6 + 1)) q) (by decide)) (fun E2 q => ⟨_, q.1.1⟩) (fun E2 q => K E2 ⟨1, F, S, hrs, su, gone, lv, ed, old, cnt, dr, mc, mr, lv', ed', ah, mk, CR.kept C (fun k hk => q.2 k (Or.inl hk)), q.1, ⟨o, (q.2 69 (Or.inr (by decide))).trans ho⟩, hn, R.le⟩))
  · skip
    exact j_bud (bc' := bc) (bs' := bs) (by omega) (by omega) (lc_bestRun_ok hi hL hn h0 h63 e1 (v := (bestRunR lv S a).1) (PC := (fun E1 => CR g n ad E1 F S hrs su gone lv ed old cnt dr mc mr ∧ ∀ k, 63 ≤ k → E1 k = E k)) (PM := (fun E1 E2 => MR g n ad E2 0 F S hrs su gone lv' ed' old cnt ah mc mk ∧ ∀ k, (k < 63 ∨ 69 ≤ k) → E2 k = E1 k)) (h_bestRun_ok (nI a) hn h0 (fun E1 p => ⟨o, (p.2 69 (by decide)).trans ho⟩) (RetP.dep (Ret.toP (d := 10) (Ret.dep (s_X3_bestRun C a ha) (by decide)) ⟨C, fun _ _ => rfl⟩) (by decide))) (fun E1 p => p.2 63 (by decide)) (fun E1 o1 p => RetP.dep (RetP.vl (s_X4_bestRun_ok (MR.kept D (fun k h1 h2 => (up_ne (by omega)).trans (p.2 k h1))) a ha) (congrArg Prod.fst ((runM_eq lv' a hSp).trans (run_cg rl ha).symm))) (by decide)) (fun E1 E2 q => ⟨⟨_, q.1.1⟩, q.2 69 (Or.inr (by decide))⟩) (fun E1 o1 E2 p ho1 q => K E2 ⟨0, F, S, hrs, su, gone, lv, ed, old, cnt, dr, mc, mr, lv', ed', ah, mk, CR.kept p.1 (fun k hk => (q.2 k (Or.inl hk)).trans (up_ne (by omega))), q.1, ⟨_, (q.2 69 (Or.inr (by decide))).trans up_eq⟩, hn, R.le⟩))
set_option maxRecDepth 100000 in
set_option maxHeartbeats 4000000 in
theorem st_longestDry {g : jG} {n : Nat} {ad : Nat → Nat} {E : Nat → va_E} {i6 bc bs i : Nat} {Φ : Option Value → jR} {Ψ : String → jR} (hi : i6 + 6 ≤ g.1.2.2.1) (hL : g.1.2.2.1 ≤ 3072) (hi5 : i ≤ 512) (Q : Sim i g n ad E) (K : ∀ E2, Sim (i + 1) g n ad E2 → J g mL_law 12 bc bs 2592 [some (.ref g.1.2.1), some (.ref (ad 0)), some (.ref (ad 63)), some (.ref (ad 69)), some (.int (nI i6)), none, none, none, none] [] n ad E2 Φ Ψ) : J g mL_law 12 (1 + bc) (15 + bs) 1798 [some (.ref g.1.2.1), some (.ref (ad 0)), some (.ref (ad 63)), some (.ref (ad 69)), some (.int (nI i6)), none, none, none, none] [] n ad E Φ Ψ := by
  obtain ⟨th, F, S, hrs, su, gone, lv, ed, old, cnt, dr, mc, mr, lv', ed', ah, mk, C, D, ⟨o, ho⟩, hn, R⟩ := Q
  obtain ⟨-, -, -, -, -, -, hF, hS, hFp, hSp, hfi, hcn, hmc, -⟩ := id D
  obtain ⟨rl, re, rb, reb, rs0, rs9, rd, rm⟩ := id R
  have h0 := C.1
  have h63 := D.1
  have hN := fs128 hF hS
  rcases oob_or (g.1.2.2.2 (i6 + 1)) (c := F) (by omega) with q | ⟨a, ha, e1⟩
  · skip
    exact j_bud (bc' := 1 + bc) (bs' := 6 + bs) (by omega) (by omega) (lc_longestDry_bad hi hL hn h0 h63 rfl (k := 1) (by decide) (h_longestDry_bad (g.1.2.2.2 (i6 + 1)) hn h0 (Thr.dep (s_X3_longestDry_bad C (g.1.2.2.2 (i6 + 1)) q) (by decide))) (RetP.dep (s_X4_longestDry_bad D (g.1.2.2.2 (i6 + 1)) q) (by decide)) (fun E2 q => ⟨_, q.1.1⟩) (fun E2 q => K E2 ⟨1, F, S, hrs, su, gone, lv, ed, old, cnt, dr, mc, mr, lv', ed', ah, mk, CR.kept C (fun k hk => q.2 k (Or.inl hk)), q.1, ⟨o, (q.2 69 (Or.inr (by decide))).trans ho⟩, hn, R.le⟩))
  · skip
    exact j_bud (bc' := bc) (bs' := bs) (by omega) (by omega) (lc_longestDry_ok hi hL hn h0 h63 e1 (v := (longR lv S a).1) (PC := (fun E1 => CR g n ad E1 F S hrs su gone lv ed old cnt dr mc mr ∧ ∀ k, 63 ≤ k → E1 k = E k)) (PM := (fun E1 E2 => MR g n ad E2 0 F S hrs su gone lv' ed' old cnt ah mc mk ∧ ∀ k, (k < 63 ∨ 69 ≤ k) → E2 k = E1 k)) (h_longestDry_ok (nI a) hn h0 (fun E1 p => ⟨o, (p.2 69 (by decide)).trans ho⟩) (RetP.dep (Ret.toP (d := 10) (Ret.dep (s_X3_longestDry C a ha) (by decide)) ⟨C, fun _ _ => rfl⟩) (by decide))) (fun E1 p => p.2 63 (by decide)) (fun E1 o1 p => RetP.dep (RetP.vi (s_X4_longestDry_ok (MR.kept D (fun k h1 h2 => (up_ne (by omega)).trans (p.2 k h1))) a ha) ((congrArg Prod.fst (long_cg rl ha)).symm)) (by decide)) (fun E1 E2 q => ⟨⟨_, q.1.1⟩, q.2 69 (Or.inr (by decide))⟩) (fun E1 o1 E2 p ho1 q => K E2 ⟨0, F, S, hrs, su, gone, lv, ed, old, cnt, dr, mc, mr, lv', ed', ah, mk, CR.kept p.1 (fun k hk => (q.2 k (Or.inl hk)).trans (up_ne (by omega))), q.1, ⟨_, (q.2 69 (Or.inr (by decide))).trans up_eq⟩, hn, R.le⟩))
set_option maxRecDepth 100000 in
set_option maxHeartbeats 4000000 in
theorem st_highestAt {g : jG} {n : Nat} {ad : Nat → Nat} {E : Nat → va_E} {i6 bc bs i : Nat} {Φ : Option Value → jR} {Ψ : String → jR} (hi : i6 + 6 ≤ g.1.2.2.1) (hL : g.1.2.2.1 ≤ 3072) (hi5 : i ≤ 512) (Q : Sim i g n ad E) (K : ∀ E2, Sim (i + 1) g n ad E2 → J g mL_law 12 bc bs 2592 [some (.ref g.1.2.1), some (.ref (ad 0)), some (.ref (ad 63)), some (.ref (ad 69)), some (.int (nI i6)), none, none, none, none] [] n ad E2 Φ Ψ) : J g mL_law 12 (1 + bc) (15 + bs) 1959 [some (.ref g.1.2.1), some (.ref (ad 0)), some (.ref (ad 63)), some (.ref (ad 69)), some (.int (nI i6)), none, none, none, none] [] n ad E Φ Ψ := by
  obtain ⟨th, F, S, hrs, su, gone, lv, ed, old, cnt, dr, mc, mr, lv', ed', ah, mk, C, D, ⟨o, ho⟩, hn, R⟩ := Q
  obtain ⟨-, -, -, -, -, -, hF, hS, hFp, hSp, hfi, hcn, hmc, -⟩ := id D
  obtain ⟨rl, re, rb, reb, rs0, rs9, rd, rm⟩ := id R
  have h0 := C.1
  have h63 := D.1
  have hN := fs128 hF hS
  rcases oob_or (g.1.2.2.2 (i6 + 1)) (c := F) (by omega) with q | ⟨a, ha, e1⟩
  · skip
    exact j_bud (bc' := 1 + bc) (bs' := 6 + bs) (by omega) (by omega) (lc_highestAt_bad hi hL hn h0 h63 rfl (k := 1) (by decide) (h_highestAt_bad (g.1.2.2.2 (i6 + 1)) hn h0 (Thr.dep (s_X3_highestAt_bad C (g.1.2.2.2 (i6 + 1)) q) (by decide))) (RetP.dep (s_X4_highestAt_bad D (g.1.2.2.2 (i6 + 1)) q) (by decide)) (fun E2 q => ⟨_, q.1.1⟩) (fun E2 q => K E2 ⟨1, F, S, hrs, su, gone, lv, ed, old, cnt, dr, mc, mr, lv', ed', ah, mk, CR.kept C (fun k hk => q.2 k (Or.inl hk)), q.1, ⟨o, (q.2 69 (Or.inr (by decide))).trans ho⟩, hn, R.le⟩))
  · skip
    exact j_bud (bc' := bc) (bs' := bs) (by omega) (by omega) (lc_highestAt_ok hi hL hn h0 h63 e1 (v := nI (highR lv S a)) (PC := (fun E1 => CR g n ad E1 F S hrs su gone lv ed old cnt dr mc mr ∧ ∀ k, 63 ≤ k → E1 k = E k)) (PM := (fun E1 E2 => MR g n ad E2 0 F S hrs su gone lv' ed' old cnt ah mc mk ∧ ∀ k, (k < 63 ∨ 69 ≤ k) → E2 k = E1 k)) (h_highestAt_ok (nI a) hn h0 (fun E1 p => ⟨o, (p.2 69 (by decide)).trans ho⟩) (RetP.dep (Ret.toP (d := 10) (Ret.dep (s_X3_highestAt C a ha) (by decide)) ⟨C, fun _ _ => rfl⟩) (by decide))) (fun E1 p => p.2 63 (by decide)) (fun E1 o1 p => RetP.dep (RetP.vi (s_X4_highestAt_ok (MR.kept D (fun k h1 h2 => (up_ne (by omega)).trans (p.2 k h1))) a ha) (congrArg nI (high_cg rl ha hSp).symm)) (by decide)) (fun E1 E2 q => ⟨⟨_, q.1.1⟩, q.2 69 (Or.inr (by decide))⟩) (fun E1 o1 E2 p ho1 q => K E2 ⟨0, F, S, hrs, su, gone, lv, ed, old, cnt, dr, mc, mr, lv', ed', ah, mk, CR.kept p.1 (fun k hk => (q.2 k (Or.inl hk)).trans (up_ne (by omega))), q.1, ⟨_, (q.2 69 (Or.inr (by decide))).trans up_eq⟩, hn, R.le⟩))
set_option maxRecDepth 100000 in
set_option maxHeartbeats 4000000 in
theorem st_levelInOrder {g : jG} {n : Nat} {ad : Nat → Nat} {E : Nat → va_E} {i6 bc bs i : Nat} {Φ : Option Value → jR} {Ψ : String → jR} (hi : i6 + 6 ≤ g.1.2.2.1) (hL : g.1.2.2.1 ≤ 3072) (hi5 : i ≤ 512) (Q : Sim i g n ad E) (K : ∀ E2, Sim (i + 1) g n ad E2 → J g mL_law 12 bc bs 2592 [some (.ref g.1.2.1), some (.ref (ad 0)), some (.ref (ad 63)), some (.ref (ad 69)), some (.int (nI i6)), none, none, none, none] [] n ad E2 Φ Ψ) : J g mL_law 12 (1 + bc) (15 + bs) 2040 [some (.ref g.1.2.1), some (.ref (ad 0)), some (.ref (ad 63)), some (.ref (ad 69)), some (.int (nI i6)), none, none, none, none] [] n ad E Φ Ψ := by
  obtain ⟨th, F, S, hrs, su, gone, lv, ed, old, cnt, dr, mc, mr, lv', ed', ah, mk, C, D, ⟨o, ho⟩, hn, R⟩ := Q
  obtain ⟨-, -, -, -, -, -, hF, hS, hFp, hSp, hfi, hcn, hmc, -⟩ := id D
  obtain ⟨rl, re, rb, reb, rs0, rs9, rd, rm⟩ := id R
  have h0 := C.1
  have h63 := D.1
  have hN := fs128 hF hS
  rcases oob_or (g.1.2.2.2 (i6 + 1)) (c := F * S) (by omega) with q | ⟨p8, hp8, e1⟩
  · skip
    exact j_bud (bc' := 1 + bc) (bs' := 6 + bs) (by omega) (by omega) (lc_levelInOrder_bad hi hL hn h0 h63 rfl (k := 1) (by decide) (h_levelInOrder_bad (g.1.2.2.2 (i6 + 1)) hn h0 (Thr.dep (s_X3_levelInOrder_bad C (g.1.2.2.2 (i6 + 1)) q) (by decide))) (RetP.dep (s_X4_levelInOrder_bad D (g.1.2.2.2 (i6 + 1)) q) (by decide)) (fun E2 q => ⟨_, q.1.1⟩) (fun E2 q => K E2 ⟨1, F, S, hrs, su, gone, lv, ed, old, cnt, dr, mc, mr, lv', ed', ah, mk, CR.kept C (fun k hk => q.2 k (Or.inl hk)), q.1, ⟨o, (q.2 69 (Or.inr (by decide))).trans ho⟩, hn, R.le⟩))
  · skip
    exact j_bud (bc' := bc) (bs' := bs) (by omega) (by omega) (lc_levelInOrder_ok hi hL hn h0 h63 e1 (v := orderR lv (F * S) (nI p8)) (PC := (fun E1 => CR g n ad E1 F S hrs su gone lv ed old cnt dr mc mr ∧ ∀ k, 63 ≤ k → E1 k = E k)) (PM := (fun E1 E2 => MR g n ad E2 0 F S hrs su gone lv' ed' old cnt ah mc mk ∧ ∀ k, (k < 63 ∨ 69 ≤ k) → E2 k = E1 k)) (h_levelInOrder_ok (nI p8) hn h0 (fun E1 p => ⟨o, (p.2 69 (by decide)).trans ho⟩) (RetP.dep (Ret.toP (d := 10) (Ret.dep (s_X3_levelInOrder C p8 hp8) (by decide)) ⟨C, fun _ _ => rfl⟩) (by decide))) (fun E1 p => p.2 63 (by decide)) (fun E1 o1 p => RetP.dep (RetP.vi (s_X4_levelInOrder_ok (MR.kept D (fun k h1 h2 => (up_ne (by omega)).trans (p.2 k h1))) p8 hp8) ((orderM_eq lv' (by omega) hp8).trans (order_cg rl).symm)) (by decide)) (fun E1 E2 q => ⟨⟨_, q.1.1⟩, q.2 69 (Or.inr (by decide))⟩) (fun E1 o1 E2 p ho1 q => K E2 ⟨0, F, S, hrs, su, gone, lv, ed, old, cnt, dr, mc, mr, lv', ed', ah, mk, CR.kept p.1 (fun k hk => (q.2 k (Or.inl hk)).trans (up_ne (by omega))), q.1, ⟨_, (q.2 69 (Or.inr (by decide))).trans up_eq⟩, hn, R.le⟩))
set_option maxRecDepth 100000 in
set_option maxHeartbeats 4000000 in
theorem st_alike {g : jG} {n : Nat} {ad : Nat → Nat} {E : Nat → va_E} {i6 bc bs i : Nat} {Φ : Option Value → jR} {Ψ : String → jR} (hi : i6 + 6 ≤ g.1.2.2.1) (hL : g.1.2.2.1 ≤ 3072) (hi5 : i ≤ 512) (Q : Sim i g n ad E) (K : ∀ E2, Sim (i + 1) g n ad E2 → J g mL_law 12 bc bs 2592 [some (.ref g.1.2.1), some (.ref (ad 0)), some (.ref (ad 63)), some (.ref (ad 69)), some (.int (nI i6)), none, none, none, none] [] n ad E2 Φ Ψ) : J g mL_law 12 (1 + bc) (15 + bs) 2109 [some (.ref g.1.2.1), some (.ref (ad 0)), some (.ref (ad 63)), some (.ref (ad 69)), some (.int (nI i6)), none, none, none, none] [] n ad E Φ Ψ := by
  obtain ⟨th, F, S, hrs, su, gone, lv, ed, old, cnt, dr, mc, mr, lv', ed', ah, mk, C, D, ⟨o, ho⟩, hn, R⟩ := Q
  obtain ⟨-, -, -, -, -, -, hF, hS, hFp, hSp, hfi, hcn, hmc, -⟩ := id D
  obtain ⟨rl, re, rb, reb, rs0, rs9, rd, rm⟩ := id R
  have h0 := C.1
  have h63 := D.1
  have hN := fs128 hF hS
  rcases oob_or (g.1.2.2.2 (i6 + 1)) (c := F) (by omega) with q | ⟨a, ha, e1⟩
  · skip
    exact j_bud (bc' := 1 + bc) (bs' := 6 + bs) (by omega) (by omega) (lc_alike_bad hi hL hn h0 h63 rfl rfl (k := 1) (by decide) (h_alike_bad (g.1.2.2.2 (i6 + 1)) (g.1.2.2.2 (i6 + 2)) hn h0 (Thr.dep (s_X3_alike_bad C (g.1.2.2.2 (i6 + 1)) (g.1.2.2.2 (i6 + 2)) (Or.inl q)) (by decide))) (RetP.dep (s_X4_alike_bad D (g.1.2.2.2 (i6 + 1)) (g.1.2.2.2 (i6 + 2)) (Or.inl q)) (by decide)) (fun E2 q => ⟨_, q.1.1⟩) (fun E2 q => K E2 ⟨1, F, S, hrs, su, gone, lv, ed, old, cnt, dr, mc, mr, lv', ed', ah, mk, CR.kept C (fun k hk => q.2 k (Or.inl hk)), q.1, ⟨o, (q.2 69 (Or.inr (by decide))).trans ho⟩, hn, R.le⟩))
  · skip
    rcases oob_or (g.1.2.2.2 (i6 + 2)) (c := F) (by omega) with q | ⟨b, hb, e2⟩
    · skip
      exact j_bud (bc' := 1 + bc) (bs' := 6 + bs) (by omega) (by omega) (lc_alike_bad hi hL hn h0 h63 e1 rfl (k := 1) (by decide) (h_alike_bad (nI a) (g.1.2.2.2 (i6 + 2)) hn h0 (Thr.dep (s_X3_alike_bad C (nI a) (g.1.2.2.2 (i6 + 2)) (Or.inr q)) (by decide))) (RetP.dep (s_X4_alike_bad D (nI a) (g.1.2.2.2 (i6 + 2)) (Or.inr q)) (by decide)) (fun E2 q => ⟨_, q.1.1⟩) (fun E2 q => K E2 ⟨1, F, S, hrs, su, gone, lv, ed, old, cnt, dr, mc, mr, lv', ed', ah, mk, CR.kept C (fun k hk => q.2 k (Or.inl hk)), q.1, ⟨o, (q.2 69 (Or.inr (by decide))).trans ho⟩, hn, R.le⟩))
    · skip
      exact j_bud (bc' := bc) (bs' := bs) (by omega) (by omega) (lc_alike_ok hi hL hn h0 h63 e1 e2 (v := alkC lv S a b) (PC := (fun E1 => CR g n ad E1 F S hrs su gone lv ed old cnt dr mc mr ∧ ∀ k, 63 ≤ k → E1 k = E k)) (PM := (fun E1 E2 => MR g n ad E2 0 F S hrs su gone lv' ed' old cnt ah mc mk ∧ ∀ k, (k < 63 ∨ 69 ≤ k) → E2 k = E1 k)) (h_alike_ok (nI a) (nI b) hn h0 (fun E1 p => ⟨o, (p.2 69 (by decide)).trans ho⟩) (RetP.dep (Ret.toP (d := 10) (Ret.dep (s_X3_alike C a b ha hb) (by decide)) ⟨C, fun _ _ => rfl⟩) (by decide))) (fun E1 p => p.2 63 (by decide)) (fun E1 o1 p => RetP.dep (RetP.vi (s_X4_alike_ok (MR.kept D (fun k h1 h2 => (up_ne (by omega)).trans (p.2 k h1))) a b ha hb) ((alk_cg rl ha hb).symm)) (by decide)) (fun E1 E2 q => ⟨⟨_, q.1.1⟩, q.2 69 (Or.inr (by decide))⟩) (fun E1 o1 E2 p ho1 q => K E2 ⟨0, F, S, hrs, su, gone, lv, ed, old, cnt, dr, mc, mr, lv', ed', ah, mk, CR.kept p.1 (fun k hk => (q.2 k (Or.inl hk)).trans (up_ne (by omega))), q.1, ⟨_, (q.2 69 (Or.inr (by decide))).trans up_eq⟩, hn, R.le⟩))
set_option maxRecDepth 100000 in
set_option maxHeartbeats 4000000 in
theorem st_changedSince {g : jG} {n : Nat} {ad : Nat → Nat} {E : Nat → va_E} {i6 bc bs i : Nat} {Φ : Option Value → jR} {Ψ : String → jR} (hi : i6 + 6 ≤ g.1.2.2.1) (hL : g.1.2.2.1 ≤ 3072) (hi5 : i ≤ 512) (Q : Sim i g n ad E) (K : ∀ E2, Sim (i + 1) g n ad E2 → J g mL_law 12 bc bs 2592 [some (.ref g.1.2.1), some (.ref (ad 0)), some (.ref (ad 63)), some (.ref (ad 69)), some (.int (nI i6)), none, none, none, none] [] n ad E2 Φ Ψ) : J g mL_law 12 (1 + bc) (15 + bs) 2177 [some (.ref g.1.2.1), some (.ref (ad 0)), some (.ref (ad 63)), some (.ref (ad 69)), some (.int (nI i6)), none, none, none, none] [] n ad E Φ Ψ := by
  obtain ⟨th, F, S, hrs, su, gone, lv, ed, old, cnt, dr, mc, mr, lv', ed', ah, mk, C, D, ⟨o, ho⟩, hn, R⟩ := Q
  obtain ⟨-, -, -, -, -, -, hF, hS, hFp, hSp, hfi, hcn, hmc, -⟩ := id D
  obtain ⟨rl, re, rb, reb, rs0, rs9, rd, rm⟩ := id R
  have h0 := C.1
  have h63 := D.1
  have hN := fs128 hF hS
  rcases oob_or (g.1.2.2.2 (i6 + 1)) (c := mc) (by omega) with q | ⟨j, hj, e1⟩
  · skip
    exact j_bud (bc' := 1 + bc) (bs' := 6 + bs) (by omega) (by omega) (lc_changedSince_bad hi hL hn h0 h63 rfl (k := 1) (by decide) (h_changedSince_bad (g.1.2.2.2 (i6 + 1)) hn h0 (Thr.dep (s_X3_changedSince_bad C (g.1.2.2.2 (i6 + 1)) q) (by decide))) (RetP.dep (s_X4_changedSince_bad D (g.1.2.2.2 (i6 + 1)) q) (by decide)) (fun E2 q => ⟨_, q.1.1⟩) (fun E2 q => K E2 ⟨1, F, S, hrs, su, gone, lv, ed, old, cnt, dr, mc, mr, lv', ed', ah, mk, CR.kept C (fun k hk => q.2 k (Or.inl hk)), q.1, ⟨o, (q.2 69 (Or.inr (by decide))).trans ho⟩, hn, R.le⟩))
  · skip
    exact j_bud (bc' := bc) (bs' := bs) (by omega) (by omega) (lc_changedSince_ok hi hL hn h0 h63 e1 (v := chgC lv (mr j) (F * S)) (PC := (fun E1 => CR g n ad E1 F S hrs su gone lv ed old cnt dr mc mr ∧ ∀ k, 63 ≤ k → E1 k = E k)) (PM := (fun E1 E2 => MR g n ad E2 0 F S hrs su gone lv' ed' old cnt ah mc mk ∧ ∀ k, (k < 63 ∨ 69 ≤ k) → E2 k = E1 k)) (h_changedSince_ok (nI j) hn h0 (fun E1 p => ⟨o, (p.2 69 (by decide)).trans ho⟩) (RetP.dep (Ret.toP (d := 10) (Ret.dep (s_X3_changedSince C j hj) (by decide)) ⟨C, fun _ _ => rfl⟩) (by decide))) (fun E1 p => p.2 63 (by decide)) (fun E1 o1 p => RetP.dep (RetP.vi (s_X4_changedSince_ok (MR.kept D (fun k h1 h2 => (up_ne (by omega)).trans (p.2 k h1))) j hj) ((chgC_congr rl (rm j hj).1).symm)) (by decide)) (fun E1 E2 q => ⟨⟨_, q.1.1⟩, q.2 69 (Or.inr (by decide))⟩) (fun E1 o1 E2 p ho1 q => K E2 ⟨0, F, S, hrs, su, gone, lv, ed, old, cnt, dr, mc, mr, lv', ed', ah, mk, CR.kept p.1 (fun k hk => (q.2 k (Or.inl hk)).trans (up_ne (by omega))), q.1, ⟨_, (q.2 69 (Or.inr (by decide))).trans up_eq⟩, hn, R.le⟩))
set_option maxRecDepth 100000 in
set_option maxHeartbeats 4000000 in
theorem st_bestSwap {g : jG} {n : Nat} {ad : Nat → Nat} {E : Nat → va_E} {i6 bc bs i : Nat} {Φ : Option Value → jR} {Ψ : String → jR} (hi : i6 + 6 ≤ g.1.2.2.1) (hL : g.1.2.2.1 ≤ 3072) (hi5 : i ≤ 512) (Q : Sim i g n ad E) (K : ∀ E2, Sim (i + 1) g n ad E2 → J g mL_law 12 bc bs 2592 [some (.ref g.1.2.1), some (.ref (ad 0)), some (.ref (ad 63)), some (.ref (ad 69)), some (.int (nI i6)), none, none, none, none] [] n ad E2 Φ Ψ) : J g mL_law 12 (1 + bc) (15 + bs) 2481 [some (.ref g.1.2.1), some (.ref (ad 0)), some (.ref (ad 63)), some (.ref (ad 69)), some (.int (nI i6)), none, none, none, none] [] n ad E Φ Ψ := by
  obtain ⟨th, F, S, hrs, su, gone, lv, ed, old, cnt, dr, mc, mr, lv', ed', ah, mk, C, D, ⟨o, ho⟩, hn, R⟩ := Q
  obtain ⟨-, -, -, -, -, -, hF, hS, hFp, hSp, hfi, hcn, hmc, -⟩ := id D
  obtain ⟨rl, re, rb, reb, rs0, rs9, rd, rm⟩ := id R
  have h0 := C.1
  have h63 := D.1
  have hN := fs128 hF hS
  rcases oob_or (g.1.2.2.2 (i6 + 1)) (c := F) (by omega) with q | ⟨a, ha, e1⟩
  · skip
    exact j_bud (bc' := 1 + bc) (bs' := 6 + bs) (by omega) (by omega) (lc_bestSwap_bad hi hL hn h0 h63 rfl (k := 1) (by decide) (h_bestSwap_bad (g.1.2.2.2 (i6 + 1)) hn h0 (Thr.dep (s_X3_bestSwap_bad C (g.1.2.2.2 (i6 + 1)) q) (by decide))) (RetP.dep (s_X4_bestSwap_bad D (g.1.2.2.2 (i6 + 1)) q) (by decide)) (fun E2 q => ⟨_, q.1.1⟩) (fun E2 q => K E2 ⟨1, F, S, hrs, su, gone, lv, ed, old, cnt, dr, mc, mr, lv', ed', ah, mk, CR.kept C (fun k hk => q.2 k (Or.inl hk)), q.1, ⟨o, (q.2 69 (Or.inr (by decide))).trans ho⟩, hn, R.le⟩))
  · skip
    exact j_bud (bc' := bc) (bs' := bs) (by omega) (by omega) (lc_bestSwap_ok hi hL hn h0 h63 e1 (v := nI (bestS (cntOf lv S) F a).1) (PC := (fun E1 => CR g n ad E1 F S hrs su gone lv ed old cnt dr mc mr ∧ ∀ k, 63 ≤ k → E1 k = E k)) (PM := (fun E1 E2 => MR g n ad E2 0 F S hrs su gone lv' ed' old cnt ah mc mk ∧ ∀ k, (k < 63 ∨ 69 ≤ k) → E2 k = E1 k)) (h_bestSwap_ok (nI a) hn h0 (fun E1 p => ⟨o, (p.2 69 (by decide)).trans ho⟩) (RetP.dep (s_X3_bestSwap C a ha) (by decide))) (fun E1 p => p.2 63 (by decide)) (fun E1 o1 p => RetP.dep (RetP.vi (s_X4_bestSwap_ok (MR.kept D (fun k h1 h2 => (up_ne (by omega)).trans (p.2 k h1))) a ha) ((swap_eq lv' hFp hF hSp).trans (congrArg (fun z => nI z.1) (best_cg rl ha).symm))) (by decide)) (fun E1 E2 q => ⟨⟨_, q.1.1⟩, q.2 69 (Or.inr (by decide))⟩) (fun E1 o1 E2 p ho1 q => K E2 ⟨0, F, S, hrs, su, gone, lv, ed, old, cnt, dr, mc, mr, lv', ed', ah, mk, CR.kept p.1 (fun k hk => (q.2 k (Or.inl hk)).trans (up_ne (by omega))), q.1, ⟨_, (q.2 69 (Or.inr (by decide))).trans up_eq⟩, hn, R.le⟩))
set_option maxRecDepth 100000 in
set_option maxHeartbeats 4000000 in
theorem st_firstReaching {g : jG} {n : Nat} {ad : Nat → Nat} {E : Nat → va_E} {i6 bc bs i : Nat} {Φ : Option Value → jR} {Ψ : String → jR} (hi : i6 + 6 ≤ g.1.2.2.1) (hL : g.1.2.2.1 ≤ 3072) (hi5 : i ≤ 512) (Q : Sim i g n ad E) (K : ∀ E2, Sim (i + 1) g n ad E2 → J g mL_law 12 bc bs 2592 [some (.ref g.1.2.1), some (.ref (ad 0)), some (.ref (ad 63)), some (.ref (ad 69)), some (.int (nI i6)), none, none, none, none] [] n ad E2 Φ Ψ) : J g mL_law 12 (1 + bc) (15 + bs) 1514 [some (.ref g.1.2.1), some (.ref (ad 0)), some (.ref (ad 63)), some (.ref (ad 69)), some (.int (nI i6)), none, none, none, none] [] n ad E Φ Ψ := by
  obtain ⟨th, F, S, hrs, su, gone, lv, ed, old, cnt, dr, mc, mr, lv', ed', ah, mk, C, D, ⟨o, ho⟩, hn, R⟩ := Q
  obtain ⟨-, -, -, -, -, -, hF, hS, hFp, hSp, hfi, hcn, hmc, -⟩ := id D
  obtain ⟨rl, re, rb, reb, rs0, rs9, rd, rm⟩ := id R
  have h0 := C.1
  have h63 := D.1
  have hN := fs128 hF hS
  rcases oob_or (g.1.2.2.2 (i6 + 1)) (c := F) (by omega) with q | ⟨a, ha, e1⟩
  · skip
    exact j_bud (bc' := 1 + bc) (bs' := 6 + bs) (by omega) (by omega) (lc_firstReaching_bad hi hL hn h0 h63 rfl rfl (k := 1) (by decide) (h_firstReaching_bad (g.1.2.2.2 (i6 + 1)) (g.1.2.2.2 (i6 + 2)) hn h0 (Thr.dep (s_X3_firstReaching_bad C (g.1.2.2.2 (i6 + 1)) (g.1.2.2.2 (i6 + 2)) q) (by decide))) (RetP.dep (s_X4_firstReaching_bad D (g.1.2.2.2 (i6 + 1)) (g.1.2.2.2 (i6 + 2)) q) (by decide)) (fun E2 q => ⟨_, q.1.1⟩) (fun E2 q => K E2 ⟨1, F, S, hrs, su, gone, lv, ed, old, cnt, dr, mc, mr, lv', ed', ah, mk, CR.kept C (fun k hk => q.2 k (Or.inl hk)), q.1, ⟨o, (q.2 69 (Or.inr (by decide))).trans ho⟩, hn, R.le⟩))
  · skip
    rcases hr : reachR lv S a (g.1.2.2.2 (i6 + 2)) with y0 | s0
    · skip
      exact j_bud (bc' := bc) (bs' := bs) (by omega) (by omega) (lc_firstReaching_ok hi hL hn h0 h63 e1 rfl (v := (-1)) (PC := (fun E1 => CR g n ad E1 F S hrs su gone lv ed old cnt dr mc mr ∧ ∀ k, 63 ≤ k → E1 k = E k)) (PM := (fun E1 E2 => MR g n ad E2 0 F S hrs su gone lv' ed' old cnt ah mc mk ∧ ∀ k, (k < 63 ∨ 69 ≤ k) → E2 k = E1 k)) (h_firstReaching_ok (nI a) (g.1.2.2.2 (i6 + 2)) hn h0 (fun E1 p => ⟨o, (p.2 69 (by decide)).trans ho⟩) (RetP.dep (Ret.toP (d := 10) (Ret.dep (s_X3_firstReaching_none C a ha (g.1.2.2.2 (i6 + 2)) y0 hr) (by decide)) ⟨C, fun _ _ => rfl⟩) (by decide))) (fun E1 p => p.2 63 (by decide)) (fun E1 o1 p => RetP.dep (RetP.vi (s_X4_firstReaching_none (MR.kept D (fun k h1 h2 => (up_ne (by omega)).trans (p.2 k h1))) a ha (g.1.2.2.2 (i6 + 2)) y0 ((reach_cg rl ha).symm.trans hr)) (rfl)) (by decide)) (fun E1 E2 q => ⟨⟨_, q.1.1⟩, q.2 69 (Or.inr (by decide))⟩) (fun E1 o1 E2 p ho1 q => K E2 ⟨0, F, S, hrs, su, gone, lv, ed, old, cnt, dr, mc, mr, lv', ed', ah, mk, CR.kept p.1 (fun k hk => (q.2 k (Or.inl hk)).trans (up_ne (by omega))), q.1, ⟨_, (q.2 69 (Or.inr (by decide))).trans up_eq⟩, hn, R.le⟩))
    · skip
      exact j_bud (bc' := bc) (bs' := bs) (by omega) (by omega) (lc_firstReaching_ok hi hL hn h0 h63 e1 rfl (v := nI s0) (PC := (fun E1 => CR g n ad E1 F S hrs su gone lv ed old cnt dr mc mr ∧ ∀ k, 63 ≤ k → E1 k = E k)) (PM := (fun E1 E2 => MR g n ad E2 0 F S hrs su gone lv' ed' old cnt ah mc mk ∧ ∀ k, (k < 63 ∨ 69 ≤ k) → E2 k = E1 k)) (h_firstReaching_ok (nI a) (g.1.2.2.2 (i6 + 2)) hn h0 (fun E1 p => ⟨o, (p.2 69 (by decide)).trans ho⟩) (RetP.dep (Ret.toP (d := 10) (Ret.dep (s_X3_firstReaching_some C a ha (g.1.2.2.2 (i6 + 2)) s0 hr) (by decide)) ⟨C, fun _ _ => rfl⟩) (by decide))) (fun E1 p => p.2 63 (by decide)) (fun E1 o1 p => RetP.dep (RetP.vi (s_X4_firstReaching_some (MR.kept D (fun k h1 h2 => (up_ne (by omega)).trans (p.2 k h1))) a ha (g.1.2.2.2 (i6 + 2)) s0 ((reach_cg rl ha).symm.trans hr)) (rfl)) (by decide)) (fun E1 E2 q => ⟨⟨_, q.1.1⟩, q.2 69 (Or.inr (by decide))⟩) (fun E1 o1 E2 p ho1 q => K E2 ⟨0, F, S, hrs, su, gone, lv, ed, old, cnt, dr, mc, mr, lv', ed', ah, mk, CR.kept p.1 (fun k hk => (q.2 k (Or.inl hk)).trans (up_ne (by omega))), q.1, ⟨_, (q.2 69 (Or.inr (by decide))).trans up_eq⟩, hn, R.le⟩))
set_option maxRecDepth 100000 in
set_option maxHeartbeats 4000000 in
theorem st_sumOf {g : jG} {n : Nat} {ad : Nat → Nat} {E : Nat → va_E} {i6 bc bs i : Nat} {Φ : Option Value → jR} {Ψ : String → jR} (hi : i6 + 6 ≤ g.1.2.2.1) (hL : g.1.2.2.1 ≤ 3072) (hi5 : i ≤ 512) (Q : Sim i g n ad E) (K : ∀ E2, Sim (i + 1) g n ad E2 → J g mL_law 12 bc bs 2592 [some (.ref g.1.2.1), some (.ref (ad 0)), some (.ref (ad 63)), some (.ref (ad 69)), some (.int (nI i6)), none, none, none, none] [] n ad E2 Φ Ψ) : J g mL_law 12 (1 + bc) (15 + bs) 1232 [some (.ref g.1.2.1), some (.ref (ad 0)), some (.ref (ad 63)), some (.ref (ad 69)), some (.int (nI i6)), none, none, none, none] [] n ad E Φ Ψ := by
  obtain ⟨th, F, S, hrs, su, gone, lv, ed, old, cnt, dr, mc, mr, lv', ed', ah, mk, C, D, ⟨o, ho⟩, hn, R⟩ := Q
  obtain ⟨-, -, -, -, -, -, hF, hS, hFp, hSp, hfi, hcn, hmc, -⟩ := id D
  obtain ⟨rl, re, rb, reb, rs0, rs9, rd, rm⟩ := id R
  have h0 := C.1
  have h63 := D.1
  have hN := fs128 hF hS
  rcases oob_or (g.1.2.2.2 (i6 + 1)) (c := F) (by omega) with q | ⟨fa, hfa, e1⟩
  · skip
    exact j_bud (bc' := 1 + bc) (bs' := 6 + bs) (by omega) (by omega) (lc_sumOf_bad hi hL hn h0 h63 rfl rfl rfl rfl (k := 1) (by decide) (h_sumOf_bad (g.1.2.2.2 (i6 + 1)) (g.1.2.2.2 (i6 + 2)) (g.1.2.2.2 (i6 + 3)) (g.1.2.2.2 (i6 + 4)) hn h0 (Thr.dep (s_X3_sumOf_bad C (g.1.2.2.2 (i6 + 1)) (g.1.2.2.2 (i6 + 2)) (g.1.2.2.2 (i6 + 3)) (g.1.2.2.2 (i6 + 4)) (Or.inl q)) (by decide))) (RetP.dep (s_X4_sumOf_bad D (g.1.2.2.2 (i6 + 1)) (g.1.2.2.2 (i6 + 2)) (g.1.2.2.2 (i6 + 3)) (g.1.2.2.2 (i6 + 4)) (Or.inl q)) (by decide)) (fun E2 q => ⟨_, q.1.1⟩) (fun E2 q => K E2 ⟨1, F, S, hrs, su, gone, lv, ed, old, cnt, dr, mc, mr, lv', ed', ah, mk, CR.kept C (fun k hk => q.2 k (Or.inl hk)), q.1, ⟨o, (q.2 69 (Or.inr (by decide))).trans ho⟩, hn, R.le⟩))
  · skip
    rcases oob_or (g.1.2.2.2 (i6 + 2)) (c := S) (by omega) with q | ⟨sa, hsa, e2⟩
    · skip
      exact j_bud (bc' := 1 + bc) (bs' := 6 + bs) (by omega) (by omega) (lc_sumOf_bad hi hL hn h0 h63 e1 rfl rfl rfl (k := 1) (by decide) (h_sumOf_bad (nI fa) (g.1.2.2.2 (i6 + 2)) (g.1.2.2.2 (i6 + 3)) (g.1.2.2.2 (i6 + 4)) hn h0 (Thr.dep (s_X3_sumOf_bad C (nI fa) (g.1.2.2.2 (i6 + 2)) (g.1.2.2.2 (i6 + 3)) (g.1.2.2.2 (i6 + 4)) (Or.inr (Or.inl q))) (by decide))) (RetP.dep (s_X4_sumOf_bad D (nI fa) (g.1.2.2.2 (i6 + 2)) (g.1.2.2.2 (i6 + 3)) (g.1.2.2.2 (i6 + 4)) (Or.inr (Or.inl q))) (by decide)) (fun E2 q => ⟨_, q.1.1⟩) (fun E2 q => K E2 ⟨1, F, S, hrs, su, gone, lv, ed, old, cnt, dr, mc, mr, lv', ed', ah, mk, CR.kept C (fun k hk => q.2 k (Or.inl hk)), q.1, ⟨o, (q.2 69 (Or.inr (by decide))).trans ho⟩, hn, R.le⟩))
    · skip
      rcases oob_or (g.1.2.2.2 (i6 + 3)) (c := F) (by omega) with q | ⟨fb, hfb, e3⟩
      · skip
        exact j_bud (bc' := 1 + bc) (bs' := 6 + bs) (by omega) (by omega) (lc_sumOf_bad hi hL hn h0 h63 e1 e2 rfl rfl (k := 1) (by decide) (h_sumOf_bad (nI fa) (nI sa) (g.1.2.2.2 (i6 + 3)) (g.1.2.2.2 (i6 + 4)) hn h0 (Thr.dep (s_X3_sumOf_bad C (nI fa) (nI sa) (g.1.2.2.2 (i6 + 3)) (g.1.2.2.2 (i6 + 4)) (Or.inr (Or.inr (Or.inl q)))) (by decide))) (RetP.dep (s_X4_sumOf_bad D (nI fa) (nI sa) (g.1.2.2.2 (i6 + 3)) (g.1.2.2.2 (i6 + 4)) (Or.inr (Or.inr (Or.inl q)))) (by decide)) (fun E2 q => ⟨_, q.1.1⟩) (fun E2 q => K E2 ⟨1, F, S, hrs, su, gone, lv, ed, old, cnt, dr, mc, mr, lv', ed', ah, mk, CR.kept C (fun k hk => q.2 k (Or.inl hk)), q.1, ⟨o, (q.2 69 (Or.inr (by decide))).trans ho⟩, hn, R.le⟩))
      · skip
        rcases oob_or (g.1.2.2.2 (i6 + 4)) (c := S) (by omega) with q | ⟨sb, hsb, e4⟩
        · skip
          exact j_bud (bc' := 1 + bc) (bs' := 6 + bs) (by omega) (by omega) (lc_sumOf_bad hi hL hn h0 h63 e1 e2 e3 rfl (k := 1) (by decide) (h_sumOf_bad (nI fa) (nI sa) (nI fb) (g.1.2.2.2 (i6 + 4)) hn h0 (Thr.dep (s_X3_sumOf_bad C (nI fa) (nI sa) (nI fb) (g.1.2.2.2 (i6 + 4)) (Or.inr (Or.inr (Or.inr q)))) (by decide))) (RetP.dep (s_X4_sumOf_bad D (nI fa) (nI sa) (nI fb) (g.1.2.2.2 (i6 + 4)) (Or.inr (Or.inr (Or.inr q)))) (by decide)) (fun E2 q => ⟨_, q.1.1⟩) (fun E2 q => K E2 ⟨1, F, S, hrs, su, gone, lv, ed, old, cnt, dr, mc, mr, lv', ed', ah, mk, CR.kept C (fun k hk => q.2 k (Or.inl hk)), q.1, ⟨o, (q.2 69 (Or.inr (by decide))).trans ho⟩, hn, R.le⟩))
        · skip
          by_cases hp : fb < fa ∨ sb < sa
          · skip
            exact j_bud (bc' := 1 + bc) (bs' := 6 + bs) (by omega) (by omega) (lc_sumOf_bad hi hL hn h0 h63 e1 e2 e3 e4 (k := 2) (by decide) (h_sumOf_iae (nI fa) (nI sa) (nI fb) (nI sb) hn h0 (Thr.dep (s_X3_sumOf_iae C fa sa fb sb hfa hsa hfb hsb hp) (by decide))) (RetP.dep (s_X4_sumOf_iae D fa sa fb sb hfa hsa hfb hsb hp) (by decide)) (fun E2 q => ⟨_, q.1.1⟩) (fun E2 q => K E2 ⟨2, F, S, hrs, su, gone, lv, ed, old, cnt, dr, mc, mr, lv', ed', ah, mk, CR.kept C (fun k hk => q.2 k (Or.inl hk)), q.1, ⟨o, (q.2 69 (Or.inr (by decide))).trans ho⟩, hn, R.le⟩))
          · skip
            have h1 : fa ≤ fb := by omega
            have h2 : sa ≤ sb := by omega
            exact j_bud (bc' := bc) (bs' := bs) (by omega) (by omega) (lc_sumOf_ok hi hL hn h0 h63 e1 e2 e3 e4 (v := sumP lv S fa sa fb sb) (PC := (fun E1 => CR g n ad E1 F S hrs su gone lv ed old cnt dr mc mr ∧ ∀ k, 63 ≤ k → E1 k = E k)) (PM := (fun E1 E2 => MR g n ad E2 0 F S hrs su gone lv' ed' old cnt ah mc mk ∧ ∀ k, (k < 63 ∨ 69 ≤ k) → E2 k = E1 k)) (h_sumOf_ok (nI fa) (nI sa) (nI fb) (nI sb) hn h0 (fun E1 p => ⟨o, (p.2 69 (by decide)).trans ho⟩) (RetP.dep (Ret.toP (d := 10) (Ret.dep (s_X3_sumOf C fa sa fb sb hfa hsa hfb hsb h1 h2) (by decide)) ⟨C, fun _ _ => rfl⟩) (by decide))) (fun E1 p => p.2 63 (by decide)) (fun E1 o1 p => RetP.dep (RetP.vl (s_X4_sumOf_ok (MR.kept D (fun k h1 h2 => (up_ne (by omega)).trans (p.2 k h1))) fa sa fb sb hfa hsa hfb hsb h1 h2) ((sumP_congr rl hfb hsb).symm)) (by decide)) (fun E1 E2 q => ⟨⟨_, q.1.1⟩, q.2 69 (Or.inr (by decide))⟩) (fun E1 o1 E2 p ho1 q => K E2 ⟨0, F, S, hrs, su, gone, lv, ed, old, cnt, dr, mc, mr, lv', ed', ah, mk, CR.kept p.1 (fun k hk => (q.2 k (Or.inl hk)).trans (up_ne (by omega))), q.1, ⟨_, (q.2 69 (Or.inr (by decide))).trans up_eq⟩, hn, R.le⟩))
set_option maxRecDepth 100000 in
set_option maxHeartbeats 4000000 in
theorem st_dryIn {g : jG} {n : Nat} {ad : Nat → Nat} {E : Nat → va_E} {i6 bc bs i : Nat} {Φ : Option Value → jR} {Ψ : String → jR} (hi : i6 + 6 ≤ g.1.2.2.1) (hL : g.1.2.2.1 ≤ 3072) (hi5 : i ≤ 512) (Q : Sim i g n ad E) (K : ∀ E2, Sim (i + 1) g n ad E2 → J g mL_law 12 bc bs 2592 [some (.ref g.1.2.1), some (.ref (ad 0)), some (.ref (ad 63)), some (.ref (ad 69)), some (.int (nI i6)), none, none, none, none] [] n ad E2 Φ Ψ) : J g mL_law 12 (1 + bc) (15 + bs) 1637 [some (.ref g.1.2.1), some (.ref (ad 0)), some (.ref (ad 63)), some (.ref (ad 69)), some (.int (nI i6)), none, none, none, none] [] n ad E Φ Ψ := by
  obtain ⟨th, F, S, hrs, su, gone, lv, ed, old, cnt, dr, mc, mr, lv', ed', ah, mk, C, D, ⟨o, ho⟩, hn, R⟩ := Q
  obtain ⟨-, -, -, -, -, -, hF, hS, hFp, hSp, hfi, hcn, hmc, -⟩ := id D
  obtain ⟨rl, re, rb, reb, rs0, rs9, rd, rm⟩ := id R
  have h0 := C.1
  have h63 := D.1
  have hN := fs128 hF hS
  rcases oob_or (g.1.2.2.2 (i6 + 1)) (c := F) (by omega) with q | ⟨fa, hfa, e1⟩
  · skip
    exact j_bud (bc' := 1 + bc) (bs' := 6 + bs) (by omega) (by omega) (lc_dryIn_bad hi hL hn h0 h63 rfl rfl rfl rfl (k := 1) (by decide) (h_dryIn_bad (g.1.2.2.2 (i6 + 1)) (g.1.2.2.2 (i6 + 2)) (g.1.2.2.2 (i6 + 3)) (g.1.2.2.2 (i6 + 4)) hn h0 (Thr.dep (s_X3_dryIn_bad C (g.1.2.2.2 (i6 + 1)) (g.1.2.2.2 (i6 + 2)) (g.1.2.2.2 (i6 + 3)) (g.1.2.2.2 (i6 + 4)) (Or.inl q)) (by decide))) (RetP.dep (s_X4_dryIn_bad D (g.1.2.2.2 (i6 + 1)) (g.1.2.2.2 (i6 + 2)) (g.1.2.2.2 (i6 + 3)) (g.1.2.2.2 (i6 + 4)) (Or.inl q)) (by decide)) (fun E2 q => ⟨_, q.1.1⟩) (fun E2 q => K E2 ⟨1, F, S, hrs, su, gone, lv, ed, old, cnt, dr, mc, mr, lv', ed', ah, mk, CR.kept C (fun k hk => q.2 k (Or.inl hk)), q.1, ⟨o, (q.2 69 (Or.inr (by decide))).trans ho⟩, hn, R.le⟩))
  · skip
    rcases oob_or (g.1.2.2.2 (i6 + 2)) (c := S) (by omega) with q | ⟨sa, hsa, e2⟩
    · skip
      exact j_bud (bc' := 1 + bc) (bs' := 6 + bs) (by omega) (by omega) (lc_dryIn_bad hi hL hn h0 h63 e1 rfl rfl rfl (k := 1) (by decide) (h_dryIn_bad (nI fa) (g.1.2.2.2 (i6 + 2)) (g.1.2.2.2 (i6 + 3)) (g.1.2.2.2 (i6 + 4)) hn h0 (Thr.dep (s_X3_dryIn_bad C (nI fa) (g.1.2.2.2 (i6 + 2)) (g.1.2.2.2 (i6 + 3)) (g.1.2.2.2 (i6 + 4)) (Or.inr (Or.inl q))) (by decide))) (RetP.dep (s_X4_dryIn_bad D (nI fa) (g.1.2.2.2 (i6 + 2)) (g.1.2.2.2 (i6 + 3)) (g.1.2.2.2 (i6 + 4)) (Or.inr (Or.inl q))) (by decide)) (fun E2 q => ⟨_, q.1.1⟩) (fun E2 q => K E2 ⟨1, F, S, hrs, su, gone, lv, ed, old, cnt, dr, mc, mr, lv', ed', ah, mk, CR.kept C (fun k hk => q.2 k (Or.inl hk)), q.1, ⟨o, (q.2 69 (Or.inr (by decide))).trans ho⟩, hn, R.le⟩))
    · skip
      rcases oob_or (g.1.2.2.2 (i6 + 3)) (c := F) (by omega) with q | ⟨fb, hfb, e3⟩
      · skip
        exact j_bud (bc' := 1 + bc) (bs' := 6 + bs) (by omega) (by omega) (lc_dryIn_bad hi hL hn h0 h63 e1 e2 rfl rfl (k := 1) (by decide) (h_dryIn_bad (nI fa) (nI sa) (g.1.2.2.2 (i6 + 3)) (g.1.2.2.2 (i6 + 4)) hn h0 (Thr.dep (s_X3_dryIn_bad C (nI fa) (nI sa) (g.1.2.2.2 (i6 + 3)) (g.1.2.2.2 (i6 + 4)) (Or.inr (Or.inr (Or.inl q)))) (by decide))) (RetP.dep (s_X4_dryIn_bad D (nI fa) (nI sa) (g.1.2.2.2 (i6 + 3)) (g.1.2.2.2 (i6 + 4)) (Or.inr (Or.inr (Or.inl q)))) (by decide)) (fun E2 q => ⟨_, q.1.1⟩) (fun E2 q => K E2 ⟨1, F, S, hrs, su, gone, lv, ed, old, cnt, dr, mc, mr, lv', ed', ah, mk, CR.kept C (fun k hk => q.2 k (Or.inl hk)), q.1, ⟨o, (q.2 69 (Or.inr (by decide))).trans ho⟩, hn, R.le⟩))
      · skip
        rcases oob_or (g.1.2.2.2 (i6 + 4)) (c := S) (by omega) with q | ⟨sb, hsb, e4⟩
        · skip
          exact j_bud (bc' := 1 + bc) (bs' := 6 + bs) (by omega) (by omega) (lc_dryIn_bad hi hL hn h0 h63 e1 e2 e3 rfl (k := 1) (by decide) (h_dryIn_bad (nI fa) (nI sa) (nI fb) (g.1.2.2.2 (i6 + 4)) hn h0 (Thr.dep (s_X3_dryIn_bad C (nI fa) (nI sa) (nI fb) (g.1.2.2.2 (i6 + 4)) (Or.inr (Or.inr (Or.inr q)))) (by decide))) (RetP.dep (s_X4_dryIn_bad D (nI fa) (nI sa) (nI fb) (g.1.2.2.2 (i6 + 4)) (Or.inr (Or.inr (Or.inr q)))) (by decide)) (fun E2 q => ⟨_, q.1.1⟩) (fun E2 q => K E2 ⟨1, F, S, hrs, su, gone, lv, ed, old, cnt, dr, mc, mr, lv', ed', ah, mk, CR.kept C (fun k hk => q.2 k (Or.inl hk)), q.1, ⟨o, (q.2 69 (Or.inr (by decide))).trans ho⟩, hn, R.le⟩))
        · skip
          by_cases hp : fb < fa ∨ sb < sa
          · skip
            exact j_bud (bc' := 1 + bc) (bs' := 6 + bs) (by omega) (by omega) (lc_dryIn_bad hi hL hn h0 h63 e1 e2 e3 e4 (k := 2) (by decide) (h_dryIn_iae (nI fa) (nI sa) (nI fb) (nI sb) hn h0 (Thr.dep (s_X3_dryIn_iae C fa sa fb sb hfa hsa hfb hsb hp) (by decide))) (RetP.dep (s_X4_dryIn_iae D fa sa fb sb hfa hsa hfb hsb hp) (by decide)) (fun E2 q => ⟨_, q.1.1⟩) (fun E2 q => K E2 ⟨2, F, S, hrs, su, gone, lv, ed, old, cnt, dr, mc, mr, lv', ed', ah, mk, CR.kept C (fun k hk => q.2 k (Or.inl hk)), q.1, ⟨o, (q.2 69 (Or.inr (by decide))).trans ho⟩, hn, R.le⟩))
          · skip
            have h1 : fa ≤ fb := by omega
            have h2 : sa ≤ sb := by omega
            exact j_bud (bc' := bc) (bs' := bs) (by omega) (by omega) (lc_dryIn_ok hi hL hn h0 h63 e1 e2 e3 e4 (v := dryP lv S fa sa fb sb) (PC := (fun E1 => CR g n ad E1 F S hrs su gone lv ed old cnt dr mc mr ∧ ∀ k, 63 ≤ k → E1 k = E k)) (PM := (fun E1 E2 => MR g n ad E2 0 F S hrs su gone lv' ed' old cnt ah mc mk ∧ ∀ k, (k < 63 ∨ 69 ≤ k) → E2 k = E1 k)) (h_dryIn_ok (nI fa) (nI sa) (nI fb) (nI sb) hn h0 (fun E1 p => ⟨o, (p.2 69 (by decide)).trans ho⟩) (RetP.dep (Ret.toP (d := 10) (Ret.dep (s_X3_dryIn C fa sa fb sb hfa hsa hfb hsb h1 h2) (by decide)) ⟨C, fun _ _ => rfl⟩) (by decide))) (fun E1 p => p.2 63 (by decide)) (fun E1 o1 p => RetP.dep (RetP.vi (s_X4_dryIn_ok (MR.kept D (fun k h1 h2 => (up_ne (by omega)).trans (p.2 k h1))) fa sa fb sb hfa hsa hfb hsb h1 h2) ((dryP_cg rl hfb hsb).symm)) (by decide)) (fun E1 E2 q => ⟨⟨_, q.1.1⟩, q.2 69 (Or.inr (by decide))⟩) (fun E1 o1 E2 p ho1 q => K E2 ⟨0, F, S, hrs, su, gone, lv, ed, old, cnt, dr, mc, mr, lv', ed', ah, mk, CR.kept p.1 (fun k hk => (q.2 k (Or.inl hk)).trans (up_ne (by omega))), q.1, ⟨_, (q.2 69 (Or.inr (by decide))).trans up_eq⟩, hn, R.le⟩))
set_option maxRecDepth 100000 in
set_option maxHeartbeats 4000000 in
theorem st_lowestIn {g : jG} {n : Nat} {ad : Nat → Nat} {E : Nat → va_E} {i6 bc bs i : Nat} {Φ : Option Value → jR} {Ψ : String → jR} (hi : i6 + 6 ≤ g.1.2.2.1) (hL : g.1.2.2.1 ≤ 3072) (hi5 : i ≤ 512) (Q : Sim i g n ad E) (K : ∀ E2, Sim (i + 1) g n ad E2 → J g mL_law 12 bc bs 2592 [some (.ref g.1.2.1), some (.ref (ad 0)), some (.ref (ad 63)), some (.ref (ad 69)), some (.int (nI i6)), none, none, none, none] [] n ad E2 Φ Ψ) : J g mL_law 12 (1 + bc) (15 + bs) 1867 [some (.ref g.1.2.1), some (.ref (ad 0)), some (.ref (ad 63)), some (.ref (ad 69)), some (.int (nI i6)), none, none, none, none] [] n ad E Φ Ψ := by
  obtain ⟨th, F, S, hrs, su, gone, lv, ed, old, cnt, dr, mc, mr, lv', ed', ah, mk, C, D, ⟨o, ho⟩, hn, R⟩ := Q
  obtain ⟨-, -, -, -, -, -, hF, hS, hFp, hSp, hfi, hcn, hmc, -⟩ := id D
  obtain ⟨rl, re, rb, reb, rs0, rs9, rd, rm⟩ := id R
  have h0 := C.1
  have h63 := D.1
  have hN := fs128 hF hS
  rcases oob_or (g.1.2.2.2 (i6 + 1)) (c := F) (by omega) with q | ⟨fa, hfa, e1⟩
  · skip
    exact j_bud (bc' := 1 + bc) (bs' := 6 + bs) (by omega) (by omega) (lc_lowestIn_bad hi hL hn h0 h63 rfl rfl rfl rfl (k := 1) (by decide) (h_lowestIn_bad (g.1.2.2.2 (i6 + 1)) (g.1.2.2.2 (i6 + 2)) (g.1.2.2.2 (i6 + 3)) (g.1.2.2.2 (i6 + 4)) hn h0 (Thr.dep (s_X3_lowestIn_bad C (g.1.2.2.2 (i6 + 1)) (g.1.2.2.2 (i6 + 2)) (g.1.2.2.2 (i6 + 3)) (g.1.2.2.2 (i6 + 4)) (Or.inl q)) (by decide))) (RetP.dep (s_X4_lowestIn_bad D (g.1.2.2.2 (i6 + 1)) (g.1.2.2.2 (i6 + 2)) (g.1.2.2.2 (i6 + 3)) (g.1.2.2.2 (i6 + 4)) (Or.inl q)) (by decide)) (fun E2 q => ⟨_, q.1.1⟩) (fun E2 q => K E2 ⟨1, F, S, hrs, su, gone, lv, ed, old, cnt, dr, mc, mr, lv', ed', ah, mk, CR.kept C (fun k hk => q.2 k (Or.inl hk)), q.1, ⟨o, (q.2 69 (Or.inr (by decide))).trans ho⟩, hn, R.le⟩))
  · skip
    rcases oob_or (g.1.2.2.2 (i6 + 2)) (c := S) (by omega) with q | ⟨sa, hsa, e2⟩
    · skip
      exact j_bud (bc' := 1 + bc) (bs' := 6 + bs) (by omega) (by omega) (lc_lowestIn_bad hi hL hn h0 h63 e1 rfl rfl rfl (k := 1) (by decide) (h_lowestIn_bad (nI fa) (g.1.2.2.2 (i6 + 2)) (g.1.2.2.2 (i6 + 3)) (g.1.2.2.2 (i6 + 4)) hn h0 (Thr.dep (s_X3_lowestIn_bad C (nI fa) (g.1.2.2.2 (i6 + 2)) (g.1.2.2.2 (i6 + 3)) (g.1.2.2.2 (i6 + 4)) (Or.inr (Or.inl q))) (by decide))) (RetP.dep (s_X4_lowestIn_bad D (nI fa) (g.1.2.2.2 (i6 + 2)) (g.1.2.2.2 (i6 + 3)) (g.1.2.2.2 (i6 + 4)) (Or.inr (Or.inl q))) (by decide)) (fun E2 q => ⟨_, q.1.1⟩) (fun E2 q => K E2 ⟨1, F, S, hrs, su, gone, lv, ed, old, cnt, dr, mc, mr, lv', ed', ah, mk, CR.kept C (fun k hk => q.2 k (Or.inl hk)), q.1, ⟨o, (q.2 69 (Or.inr (by decide))).trans ho⟩, hn, R.le⟩))
    · skip
      rcases oob_or (g.1.2.2.2 (i6 + 3)) (c := F) (by omega) with q | ⟨fb, hfb, e3⟩
      · skip
        exact j_bud (bc' := 1 + bc) (bs' := 6 + bs) (by omega) (by omega) (lc_lowestIn_bad hi hL hn h0 h63 e1 e2 rfl rfl (k := 1) (by decide) (h_lowestIn_bad (nI fa) (nI sa) (g.1.2.2.2 (i6 + 3)) (g.1.2.2.2 (i6 + 4)) hn h0 (Thr.dep (s_X3_lowestIn_bad C (nI fa) (nI sa) (g.1.2.2.2 (i6 + 3)) (g.1.2.2.2 (i6 + 4)) (Or.inr (Or.inr (Or.inl q)))) (by decide))) (RetP.dep (s_X4_lowestIn_bad D (nI fa) (nI sa) (g.1.2.2.2 (i6 + 3)) (g.1.2.2.2 (i6 + 4)) (Or.inr (Or.inr (Or.inl q)))) (by decide)) (fun E2 q => ⟨_, q.1.1⟩) (fun E2 q => K E2 ⟨1, F, S, hrs, su, gone, lv, ed, old, cnt, dr, mc, mr, lv', ed', ah, mk, CR.kept C (fun k hk => q.2 k (Or.inl hk)), q.1, ⟨o, (q.2 69 (Or.inr (by decide))).trans ho⟩, hn, R.le⟩))
      · skip
        rcases oob_or (g.1.2.2.2 (i6 + 4)) (c := S) (by omega) with q | ⟨sb, hsb, e4⟩
        · skip
          exact j_bud (bc' := 1 + bc) (bs' := 6 + bs) (by omega) (by omega) (lc_lowestIn_bad hi hL hn h0 h63 e1 e2 e3 rfl (k := 1) (by decide) (h_lowestIn_bad (nI fa) (nI sa) (nI fb) (g.1.2.2.2 (i6 + 4)) hn h0 (Thr.dep (s_X3_lowestIn_bad C (nI fa) (nI sa) (nI fb) (g.1.2.2.2 (i6 + 4)) (Or.inr (Or.inr (Or.inr q)))) (by decide))) (RetP.dep (s_X4_lowestIn_bad D (nI fa) (nI sa) (nI fb) (g.1.2.2.2 (i6 + 4)) (Or.inr (Or.inr (Or.inr q)))) (by decide)) (fun E2 q => ⟨_, q.1.1⟩) (fun E2 q => K E2 ⟨1, F, S, hrs, su, gone, lv, ed, old, cnt, dr, mc, mr, lv', ed', ah, mk, CR.kept C (fun k hk => q.2 k (Or.inl hk)), q.1, ⟨o, (q.2 69 (Or.inr (by decide))).trans ho⟩, hn, R.le⟩))
        · skip
          by_cases hp : fb < fa ∨ sb < sa
          · skip
            exact j_bud (bc' := 1 + bc) (bs' := 6 + bs) (by omega) (by omega) (lc_lowestIn_bad hi hL hn h0 h63 e1 e2 e3 e4 (k := 2) (by decide) (h_lowestIn_iae (nI fa) (nI sa) (nI fb) (nI sb) hn h0 (Thr.dep (s_X3_lowestIn_iae C fa sa fb sb hfa hsa hfb hsb hp) (by decide))) (RetP.dep (s_X4_lowestIn_iae D fa sa fb sb hfa hsa hfb hsb hp) (by decide)) (fun E2 q => ⟨_, q.1.1⟩) (fun E2 q => K E2 ⟨2, F, S, hrs, su, gone, lv, ed, old, cnt, dr, mc, mr, lv', ed', ah, mk, CR.kept C (fun k hk => q.2 k (Or.inl hk)), q.1, ⟨o, (q.2 69 (Or.inr (by decide))).trans ho⟩, hn, R.le⟩))
          · skip
            have h1 : fa ≤ fb := by omega
            have h2 : sa ≤ sb := by omega
            exact j_bud (bc' := bc) (bs' := bs) (by omega) (by omega) (lc_lowestIn_ok hi hL hn h0 h63 e1 e2 e3 e4 (v := lowR lv S fa sa fb sb) (PC := (fun E1 => CR g n ad E1 F S hrs su gone lv ed old cnt dr mc mr ∧ ∀ k, 63 ≤ k → E1 k = E k)) (PM := (fun E1 E2 => MR g n ad E2 0 F S hrs su gone lv' ed' old cnt ah mc mk ∧ ∀ k, (k < 63 ∨ 69 ≤ k) → E2 k = E1 k)) (h_lowestIn_ok (nI fa) (nI sa) (nI fb) (nI sb) hn h0 (fun E1 p => ⟨o, (p.2 69 (by decide)).trans ho⟩) (RetP.dep (Ret.toP (d := 10) (Ret.dep (s_X3_lowestIn C fa sa fb sb hfa hsa hfb hsb h1 h2) (by decide)) ⟨C, fun _ _ => rfl⟩) (by decide))) (fun E1 p => p.2 63 (by decide)) (fun E1 o1 p => RetP.dep (RetP.vi (s_X4_lowestIn_ok (MR.kept D (fun k h1 h2 => (up_ne (by omega)).trans (p.2 k h1))) fa sa fb sb hfa hsa hfb hsb h1 h2) ((lowM_eq lv' S h1 h2).trans (low_cg rl hfb hsb).symm)) (by decide)) (fun E1 E2 q => ⟨⟨_, q.1.1⟩, q.2 69 (Or.inr (by decide))⟩) (fun E1 o1 E2 p ho1 q => K E2 ⟨0, F, S, hrs, su, gone, lv, ed, old, cnt, dr, mc, mr, lv', ed', ah, mk, CR.kept p.1 (fun k hk => (q.2 k (Or.inl hk)).trans (up_ne (by omega))), q.1, ⟨_, (q.2 69 (Or.inr (by decide))).trans up_eq⟩, hn, R.le⟩))
set_option maxRecDepth 100000 in
set_option maxHeartbeats 4000000 in
theorem st_dryAt {g : jG} {n : Nat} {ad : Nat → Nat} {E : Nat → va_E} {i6 bc bs i : Nat} {Φ : Option Value → jR} {Ψ : String → jR} (hi : i6 + 6 ≤ g.1.2.2.1) (hL : g.1.2.2.1 ≤ 3072) (hi5 : i ≤ 512) (Q : Sim i g n ad E) (K : ∀ E2, Sim (i + 1) g n ad E2 → J g mL_law 12 bc bs 2592 [some (.ref g.1.2.1), some (.ref (ad 0)), some (.ref (ad 63)), some (.ref (ad 69)), some (.int (nI i6)), none, none, none, none] [] n ad E2 Φ Ψ) : J g mL_law 12 (1 + bc) (15 + bs) 1742 [some (.ref g.1.2.1), some (.ref (ad 0)), some (.ref (ad 63)), some (.ref (ad 69)), some (.int (nI i6)), none, none, none, none] [] n ad E Φ Ψ := by
  obtain ⟨th, F, S, hrs, su, gone, lv, ed, old, cnt, dr, mc, mr, lv', ed', ah, mk, C, D, ⟨o, ho⟩, hn, R⟩ := Q
  obtain ⟨-, -, -, -, -, -, hF, hS, hFp, hSp, hfi, hcn, hmc, -⟩ := id D
  obtain ⟨rl, re, rb, reb, rs0, rs9, rd, rm⟩ := id R
  have h0 := C.1
  have h63 := D.1
  have hN := fs128 hF hS
  have hdl := dcnt_le lv (F * S)
  rcases oob_or (g.1.2.2.2 (i6 + 1)) (c := dcnt lv (F * S)) (by omega) with q | ⟨p9, hp9, e1⟩
  · skip
    exact j_bud (bc' := 1 + bc) (bs' := 6 + bs) (by omega) (by omega) (lc_dryAt_bad hi hL hn h0 h63 rfl (k := 1) (by decide) (h_dryAt_bad (g.1.2.2.2 (i6 + 1)) hn h0 (Thr.dep (s_X3_dryAt_none C (g.1.2.2.2 (i6 + 1)) _ (dryAt_none (by omega) q)) (by decide))) (RetP.dep (s_X4_dryAt_bad D (g.1.2.2.2 (i6 + 1)) (by rw [← dcnt_cg rl]; exact q)) (by decide)) (fun E2 q => ⟨_, q.1.1⟩) (fun E2 q => K E2 ⟨1, F, S, hrs, su, gone, lv, ed, old, cnt, dr, mc, mr, lv', ed', ah, mk, CR.kept C (fun k hk => q.2 k (Or.inl hk)), q.1, ⟨o, (q.2 69 (Or.inr (by decide))).trans ho⟩, hn, R.le⟩))
  · obtain ⟨k0, hk0, hd0, hp0⟩ := dry_place lv (F * S) hp9
    exact j_bud (bc' := bc) (bs' := bs) (by omega) (by omega) (lc_dryAt_ok hi hL hn h0 h63 e1 (v := nI k0) (PC := (fun E1 => CR g n ad E1 F S hrs su gone lv ed old cnt dr mc mr ∧ ∀ k, 63 ≤ k → E1 k = E k)) (PM := (fun E1 E2 => MR g n ad E2 0 F S hrs su gone lv' ed' old cnt ah mc mk ∧ ∀ k, (k < 63 ∨ 69 ≤ k) → E2 k = E1 k)) (h_dryAt_ok (nI p9) hn h0 (fun E1 p => ⟨o, (p.2 69 (by decide)).trans ho⟩) (RetP.dep (Ret.toP (d := 10) (Ret.dep (s_X3_dryAt_some C (nI p9) k0 (dryAt_some (by omega) hk0 hd0 hp0)) (by decide)) ⟨C, fun _ _ => rfl⟩) (by decide))) (fun E1 p => p.2 63 (by decide)) (fun E1 o1 p => RetP.dep (RetP.vi (s_X4_dryAt_ok (MR.kept D (fun k h1 h2 => (up_ne (by omega)).trans (p.2 k h1))) p9 k0 hk0 (by rw [← rl k0 hk0]; exact hd0) (by rw [← dcnt_cg (fun k hk => rl k (by omega))]; exact hp0)) (rfl)) (by decide)) (fun E1 E2 q => ⟨⟨_, q.1.1⟩, q.2 69 (Or.inr (by decide))⟩) (fun E1 o1 E2 p ho1 q => K E2 ⟨0, F, S, hrs, su, gone, lv, ed, old, cnt, dr, mc, mr, lv', ed', ah, mk, CR.kept p.1 (fun k hk => (q.2 k (Or.inl hk)).trans (up_ne (by omega))), q.1, ⟨_, (q.2 69 (Or.inr (by decide))).trans up_eq⟩, hn, R.le⟩))
set_option maxRecDepth 100000 in
set_option maxHeartbeats 4000000 in
theorem st_totalIn {g : jG} {n : Nat} {ad : Nat → Nat} {E : Nat → va_E} {i6 bc bs i : Nat} {Φ : Option Value → jR} {Ψ : String → jR} (hi : i6 + 6 ≤ g.1.2.2.1) (hL : g.1.2.2.1 ≤ 3072) (hi5 : i ≤ 512) (Q : Sim i g n ad E) (K : ∀ E2, Sim (i + 1) g n ad E2 → J g mL_law 12 bc bs 2592 [some (.ref g.1.2.1), some (.ref (ad 0)), some (.ref (ad 63)), some (.ref (ad 69)), some (.int (nI i6)), none, none, none, none] [] n ad E2 Φ Ψ) : J g mL_law 12 (1 + bc) (15 + bs) 2233 [some (.ref g.1.2.1), some (.ref (ad 0)), some (.ref (ad 63)), some (.ref (ad 69)), some (.int (nI i6)), none, none, none, none] [] n ad E Φ Ψ := by
  obtain ⟨th, F, S, hrs, su, gone, lv, ed, old, cnt, dr, mc, mr, lv', ed', ah, mk, C, D, ⟨o, ho⟩, hn, R⟩ := Q
  obtain ⟨-, -, -, -, -, -, hF, hS, hFp, hSp, hfi, hcn, hmc, -⟩ := id D
  obtain ⟨rl, re, rb, reb, rs0, rs9, rd, rm⟩ := id R
  have h0 := C.1
  have h63 := D.1
  have hN := fs128 hF hS
  by_cases hx : (g.1.2.2.2 (i6 + 1)) < 1 ∨ ¬ (g.1.2.2.2 (i6 + 1)) ≤ 40
  · skip
    exact j_bud (bc' := 1 + bc) (bs' := 6 + bs) (by omega) (by omega) (lc_totalIn_bad hi hL hn h0 h63 rfl (k := 1) (by decide) (h_totalIn_iae (g.1.2.2.2 (i6 + 1)) hn h0 (Thr.dep (s_X3_totalIn_iae C  (g.1.2.2.2 (i6 + 1)) hx) (by decide))) (RetP.dep (s_X4_totalIn_iae D  (g.1.2.2.2 (i6 + 1)) hx) (by decide)) (fun E2 q => ⟨_, q.1.1⟩) (fun E2 q => K E2 ⟨1, F, S, hrs, su, gone, lv, ed, old, cnt, dr, mc, mr, lv', ed', ah, mk, CR.kept C (fun k hk => q.2 k (Or.inl hk)), q.1, ⟨o, (q.2 69 (Or.inr (by decide))).trans ho⟩, hn, R.le⟩))
  · skip
    have hx1 : ¬ (g.1.2.2.2 (i6 + 1)) < 1 := fun r => hx (Or.inl r)
    have hx2 : (g.1.2.2.2 (i6 + 1)) ≤ 40 := Decidable.not_not.mp (fun r => hx (Or.inr r))
    obtain ⟨t9, ht1, ht2, e1⟩ := rng_of (c := 40) (by decide) hx1 hx2
    exact j_bud (bc' := bc) (bs' := bs) (by omega) (by omega) (lc_totalIn_ok hi hL hn h0 h63 e1 (v := sumP (flowR su ed F S t9 lv).2 S 0 0 (F - 1) (S - 1)) (PC := (fun E1 => CR g n ad E1 F S hrs su gone lv ed old cnt dr mc mr ∧ ∀ k, 63 ≤ k → E1 k = E k)) (PM := (fun E1 E2 => MR g n ad E2 0 F S hrs su gone lv' ed' old cnt ah mc mk ∧ ∀ k, (k < 63 ∨ 69 ≤ k) → E2 k = E1 k)) (h_totalIn_ok (nI t9) hn h0 (fun E1 p => ⟨o, (p.2 69 (by decide)).trans ho⟩) (RetP.dep (s_X3_totalIn C t9 ht1 ht2) (by decide))) (fun E1 p => p.2 63 (by decide)) (fun E1 o1 p => RetP.dep (RetP.vl (s_X4_totalIn_ok (MR.kept D (fun k h1 h2 => (up_ne (by omega)).trans (p.2 k h1))) t9 ht1 ht2) ((sumP_congr (flowR_congr re rl).2 (show F - 1 < F by omega) (show S - 1 < S by omega)).symm)) (by decide)) (fun E1 E2 q => ⟨⟨_, q.1.1⟩, q.2 69 (Or.inr (by decide))⟩) (fun E1 o1 E2 p ho1 q => K E2 ⟨0, F, S, hrs, su, gone, lv, ed, old, cnt, dr, mc, mr, lv', ed', ah, mk, CR.kept p.1 (fun k hk => (q.2 k (Or.inl hk)).trans (up_ne (by omega))), q.1, ⟨_, (q.2 69 (Or.inr (by decide))).trans up_eq⟩, hn, R.le⟩))
set_option maxRecDepth 100000 in
set_option maxHeartbeats 4000000 in
theorem st_goneIn {g : jG} {n : Nat} {ad : Nat → Nat} {E : Nat → va_E} {i6 bc bs i : Nat} {Φ : Option Value → jR} {Ψ : String → jR} (hi : i6 + 6 ≤ g.1.2.2.1) (hL : g.1.2.2.1 ≤ 3072) (hi5 : i ≤ 512) (Q : Sim i g n ad E) (K : ∀ E2, Sim (i + 1) g n ad E2 → J g mL_law 12 bc bs 2592 [some (.ref g.1.2.1), some (.ref (ad 0)), some (.ref (ad 63)), some (.ref (ad 69)), some (.int (nI i6)), none, none, none, none] [] n ad E2 Φ Ψ) : J g mL_law 12 (1 + bc) (15 + bs) 2288 [some (.ref g.1.2.1), some (.ref (ad 0)), some (.ref (ad 63)), some (.ref (ad 69)), some (.int (nI i6)), none, none, none, none] [] n ad E Φ Ψ := by
  obtain ⟨th, F, S, hrs, su, gone, lv, ed, old, cnt, dr, mc, mr, lv', ed', ah, mk, C, D, ⟨o, ho⟩, hn, R⟩ := Q
  obtain ⟨-, -, -, -, -, -, hF, hS, hFp, hSp, hfi, hcn, hmc, -⟩ := id D
  obtain ⟨rl, re, rb, reb, rs0, rs9, rd, rm⟩ := id R
  have h0 := C.1
  have h63 := D.1
  have hN := fs128 hF hS
  by_cases hx : (g.1.2.2.2 (i6 + 1)) < 1 ∨ ¬ (g.1.2.2.2 (i6 + 1)) ≤ 40
  · skip
    exact j_bud (bc' := 1 + bc) (bs' := 6 + bs) (by omega) (by omega) (lc_goneIn_bad hi hL hn h0 h63 rfl (k := 1) (by decide) (h_goneIn_iae (g.1.2.2.2 (i6 + 1)) hn h0 (Thr.dep (s_X3_goneIn_iae C  (g.1.2.2.2 (i6 + 1)) hx) (by decide))) (RetP.dep (s_X4_goneIn_iae D  (g.1.2.2.2 (i6 + 1)) hx) (by decide)) (fun E2 q => ⟨_, q.1.1⟩) (fun E2 q => K E2 ⟨1, F, S, hrs, su, gone, lv, ed, old, cnt, dr, mc, mr, lv', ed', ah, mk, CR.kept C (fun k hk => q.2 k (Or.inl hk)), q.1, ⟨o, (q.2 69 (Or.inr (by decide))).trans ho⟩, hn, R.le⟩))
  · skip
    have hx1 : ¬ (g.1.2.2.2 (i6 + 1)) < 1 := fun r => hx (Or.inl r)
    have hx2 : (g.1.2.2.2 (i6 + 1)) ≤ 40 := Decidable.not_not.mp (fun r => hx (Or.inr r))
    obtain ⟨t9, ht1, ht2, e1⟩ := rng_of (c := 40) (by decide) hx1 hx2
    exact j_bud (bc' := bc) (bs' := bs) (by omega) (by omega) (lc_goneIn_ok hi hL hn h0 h63 e1 (v := (flowR su ed F S t9 lv).1) (PC := (fun E1 => CR g n ad E1 F S hrs su gone lv ed old cnt dr mc mr ∧ ∀ k, 63 ≤ k → E1 k = E k)) (PM := (fun E1 E2 => MR g n ad E2 0 F S hrs su gone lv' ed' old cnt ah mc mk ∧ ∀ k, (k < 63 ∨ 69 ≤ k) → E2 k = E1 k)) (h_goneIn_ok (nI t9) hn h0 (fun E1 p => ⟨o, (p.2 69 (by decide)).trans ho⟩) (RetP.dep (s_X3_goneIn C t9 ht1 ht2) (by decide))) (fun E1 p => p.2 63 (by decide)) (fun E1 o1 p => RetP.dep (RetP.vi (s_X4_goneIn_ok (MR.kept D (fun k h1 h2 => (up_ne (by omega)).trans (p.2 k h1))) t9 ht1 ht2) ((flowR_congr re rl).1.symm)) (by decide)) (fun E1 E2 q => ⟨⟨_, q.1.1⟩, q.2 69 (Or.inr (by decide))⟩) (fun E1 o1 E2 p ho1 q => K E2 ⟨0, F, S, hrs, su, gone, lv, ed, old, cnt, dr, mc, mr, lv', ed', ah, mk, CR.kept p.1 (fun k hk => (q.2 k (Or.inl hk)).trans (up_ne (by omega))), q.1, ⟨_, (q.2 69 (Or.inr (by decide))).trans up_eq⟩, hn, R.le⟩))
set_option maxRecDepth 100000 in
set_option maxHeartbeats 4000000 in
theorem st_sunWanted {g : jG} {n : Nat} {ad : Nat → Nat} {E : Nat → va_E} {i6 bc bs i : Nat} {Φ : Option Value → jR} {Ψ : String → jR} (hi : i6 + 6 ≤ g.1.2.2.1) (hL : g.1.2.2.1 ≤ 3072) (hi5 : i ≤ 512) (Q : Sim i g n ad E) (K : ∀ E2, Sim (i + 1) g n ad E2 → J g mL_law 12 bc bs 2592 [some (.ref g.1.2.1), some (.ref (ad 0)), some (.ref (ad 63)), some (.ref (ad 69)), some (.int (nI i6)), none, none, none, none] [] n ad E2 Φ Ψ) : J g mL_law 12 (1 + bc) (15 + bs) 2357 [some (.ref g.1.2.1), some (.ref (ad 0)), some (.ref (ad 63)), some (.ref (ad 69)), some (.int (nI i6)), none, none, none, none] [] n ad E Φ Ψ := by
  obtain ⟨th, F, S, hrs, su, gone, lv, ed, old, cnt, dr, mc, mr, lv', ed', ah, mk, C, D, ⟨o, ho⟩, hn, R⟩ := Q
  obtain ⟨-, -, -, -, -, -, hF, hS, hFp, hSp, hfi, hcn, hmc, -⟩ := id D
  obtain ⟨rl, re, rb, reb, rs0, rs9, rd, rm⟩ := id R
  have h0 := C.1
  have h63 := D.1
  have hN := fs128 hF hS
  by_cases hx : (g.1.2.2.2 (i6 + 1)) < 1 ∨ ¬ (g.1.2.2.2 (i6 + 1)) ≤ 40
  · skip
    exact j_bud (bc' := 1 + bc) (bs' := 6 + bs) (by omega) (by omega) (lc_sunWanted_bad hi hL hn h0 h63 rfl (k := 1) (by decide) (h_sunWanted_iae (g.1.2.2.2 (i6 + 1)) hn h0 (Thr.dep (s_X3_sunWanted_iae C  (g.1.2.2.2 (i6 + 1)) hx) (by decide))) (RetP.dep (s_X4_sunWanted_iae D  (g.1.2.2.2 (i6 + 1)) hx) (by decide)) (fun E2 q => ⟨_, q.1.1⟩) (fun E2 q => K E2 ⟨1, F, S, hrs, su, gone, lv, ed, old, cnt, dr, mc, mr, lv', ed', ah, mk, CR.kept C (fun k hk => q.2 k (Or.inl hk)), q.1, ⟨o, (q.2 69 (Or.inr (by decide))).trans ho⟩, hn, R.le⟩))
  · skip
    have hx1 : ¬ (g.1.2.2.2 (i6 + 1)) < 1 := fun r => hx (Or.inl r)
    have hx2 : (g.1.2.2.2 (i6 + 1)) ≤ 40 := Decidable.not_not.mp (fun r => hx (Or.inr r))
    obtain ⟨t9, ht1, ht2, e1⟩ := rng_of (c := 40) (by decide) hx1 hx2
    exact j_bud (bc' := bc) (bs' := bs) (by omega) (by omega) (lc_sunWanted_ok hi hL hn h0 h63 e1 (v := wantD ed F S t9 lv) (PC := (fun E1 => CR g n ad E1 F S hrs su gone lv ed old cnt dr mc mr ∧ ∀ k, 63 ≤ k → E1 k = E k)) (PM := (fun E1 E2 => MR g n ad E2 0 F S hrs su gone lv' ed' old cnt ah mc mk ∧ ∀ k, (k < 63 ∨ 69 ≤ k) → E2 k = E1 k)) (h_sunWanted_ok (nI t9) hn h0 (fun E1 p => ⟨o, (p.2 69 (by decide)).trans ho⟩) (RetP.dep (s_X3_sunWanted C t9 ht1 ht2) (by decide))) (fun E1 p => p.2 63 (by decide)) (fun E1 o1 p => RetP.dep (RetP.vi (s_X4_sunWanted_ok (MR.kept D (fun k h1 h2 => (up_ne (by omega)).trans (p.2 k h1))) t9 ht1 ht2) ((want_cg re rl).symm)) (by decide)) (fun E1 E2 q => ⟨⟨_, q.1.1⟩, q.2 69 (Or.inr (by decide))⟩) (fun E1 o1 E2 p ho1 q => K E2 ⟨0, F, S, hrs, su, gone, lv, ed, old, cnt, dr, mc, mr, lv', ed', ah, mk, CR.kept p.1 (fun k hk => (q.2 k (Or.inl hk)).trans (up_ne (by omega))), q.1, ⟨_, (q.2 69 (Or.inr (by decide))).trans up_eq⟩, hn, R.le⟩))
set_option maxRecDepth 100000 in
set_option maxHeartbeats 4000000 in
theorem st_bestEdge {g : jG} {n : Nat} {ad : Nat → Nat} {E : Nat → va_E} {i6 bc bs i : Nat} {Φ : Option Value → jR} {Ψ : String → jR} (hi : i6 + 6 ≤ g.1.2.2.1) (hL : g.1.2.2.1 ≤ 3072) (hi5 : i ≤ 512) (Q : Sim i g n ad E) (K : ∀ E2, Sim (i + 1) g n ad E2 → J g mL_law 12 bc bs 2592 [some (.ref g.1.2.1), some (.ref (ad 0)), some (.ref (ad 63)), some (.ref (ad 69)), some (.int (nI i6)), none, none, none, none] [] n ad E2 Φ Ψ) : J g mL_law 12 (1 + bc) (15 + bs) 2413 [some (.ref g.1.2.1), some (.ref (ad 0)), some (.ref (ad 63)), some (.ref (ad 69)), some (.int (nI i6)), none, none, none, none] [] n ad E Φ Ψ := by
  obtain ⟨th, F, S, hrs, su, gone, lv, ed, old, cnt, dr, mc, mr, lv', ed', ah, mk, C, D, ⟨o, ho⟩, hn, R⟩ := Q
  obtain ⟨-, -, -, -, -, -, hF, hS, hFp, hSp, hfi, hcn, hmc, -⟩ := id D
  obtain ⟨rl, re, rb, reb, rs0, rs9, rd, rm⟩ := id R
  have h0 := C.1
  have h63 := D.1
  have hN := fs128 hF hS
  rcases oob_or (g.1.2.2.2 (i6 + 1)) (c := S) (by omega) with q | ⟨b, hb, e1⟩
  · skip
    exact j_bud (bc' := 1 + bc) (bs' := 6 + bs) (by omega) (by omega) (lc_bestEdge_bad hi hL hn h0 h63 rfl rfl (k := 1) (by decide) (h_bestEdge_bad (g.1.2.2.2 (i6 + 1)) (g.1.2.2.2 (i6 + 2)) hn h0 (Thr.dep (s_X3_bestEdge_bad C (g.1.2.2.2 (i6 + 1)) (g.1.2.2.2 (i6 + 2)) q) (by decide))) (RetP.dep (s_X4_bestEdge_bad D (g.1.2.2.2 (i6 + 1)) (g.1.2.2.2 (i6 + 2)) q) (by decide)) (fun E2 q => ⟨_, q.1.1⟩) (fun E2 q => K E2 ⟨1, F, S, hrs, su, gone, lv, ed, old, cnt, dr, mc, mr, lv', ed', ah, mk, CR.kept C (fun k hk => q.2 k (Or.inl hk)), q.1, ⟨o, (q.2 69 (Or.inr (by decide))).trans ho⟩, hn, R.le⟩))
  · skip
    by_cases hx : (g.1.2.2.2 (i6 + 2)) < 1 ∨ ¬ (g.1.2.2.2 (i6 + 2)) ≤ 40
    · skip
      exact j_bud (bc' := 1 + bc) (bs' := 6 + bs) (by omega) (by omega) (lc_bestEdge_bad hi hL hn h0 h63 e1 rfl (k := 2) (by decide) (h_bestEdge_iae (nI b) (g.1.2.2.2 (i6 + 2)) hn h0 (Thr.dep (s_X3_bestEdge_iae C b hb (g.1.2.2.2 (i6 + 2)) hx) (by decide))) (RetP.dep (s_X4_bestEdge_iae D b hb (g.1.2.2.2 (i6 + 2)) hx) (by decide)) (fun E2 q => ⟨_, q.1.1⟩) (fun E2 q => K E2 ⟨2, F, S, hrs, su, gone, lv, ed, old, cnt, dr, mc, mr, lv', ed', ah, mk, CR.kept C (fun k hk => q.2 k (Or.inl hk)), q.1, ⟨o, (q.2 69 (Or.inr (by decide))).trans ho⟩, hn, R.le⟩))
    · skip
      have hx1 : ¬ (g.1.2.2.2 (i6 + 2)) < 1 := fun r => hx (Or.inl r)
      have hx2 : (g.1.2.2.2 (i6 + 2)) ≤ 40 := Decidable.not_not.mp (fun r => hx (Or.inr r))
      obtain ⟨t9, ht1, ht2, e2⟩ := rng_of (c := 40) (by decide) hx1 hx2
      exact j_bud (bc' := bc) (bs' := bs) (by omega) (by omega) (lc_bestEdge_ok hi hL hn h0 h63 e1 e2 (v := nI (edgeD su ed F S t9 b lv)) (PC := (fun E1 => CR g n ad E1 F S hrs su gone lv ed old cnt dr mc mr ∧ ∀ k, 63 ≤ k → E1 k = E k)) (PM := (fun E1 E2 => MR g n ad E2 0 F S hrs su gone lv' ed' old cnt ah mc mk ∧ ∀ k, (k < 63 ∨ 69 ≤ k) → E2 k = E1 k)) (h_bestEdge_ok (nI b) (nI t9) hn h0 (fun E1 p => ⟨o, (p.2 69 (by decide)).trans ho⟩) (RetP.dep (s_X3_bestEdge C b hb t9 ht1 ht2) (by decide))) (fun E1 p => p.2 63 (by decide)) (fun E1 o1 p => RetP.dep (RetP.vi (s_X4_bestEdge_ok (MR.kept D (fun k h1 h2 => (up_ne (by omega)).trans (p.2 k h1))) b hb t9 ht1 ht2) ((edge_eq su ed' F S t9 b lv' (fun j9 hj9 => (over_cg re rl) ▸ over_nn ht2 hSp hN rs0 rs9 reb (by omega) (by omega) (by omega) (by omega) rb j9 hj9)).trans (congrArg nI (edge_cg re rl).symm))) (by decide)) (fun E1 E2 q => ⟨⟨_, q.1.1⟩, q.2 69 (Or.inr (by decide))⟩) (fun E1 o1 E2 p ho1 q => K E2 ⟨0, F, S, hrs, su, gone, lv, ed, old, cnt, dr, mc, mr, lv', ed', ah, mk, CR.kept p.1 (fun k hk => (q.2 k (Or.inl hk)).trans (up_ne (by omega))), q.1, ⟨_, (q.2 69 (Or.inr (by decide))).trans up_eq⟩, hn, R.le⟩))
set_option maxRecDepth 100000 in
set_option maxHeartbeats 4000000 in
theorem st_lay {g : jG} {n : Nat} {ad : Nat → Nat} {E : Nat → va_E} {i6 bc bs i : Nat} {Φ : Option Value → jR} {Ψ : String → jR} (hi : i6 + 6 ≤ g.1.2.2.1) (hL : g.1.2.2.1 ≤ 3072) (hi5 : i ≤ 512) (Q : Sim i g n ad E) (K : ∀ E2, Sim (i + 1) g n ad E2 → J g mL_law 12 bc bs 2592 [some (.ref g.1.2.1), some (.ref (ad 0)), some (.ref (ad 63)), some (.ref (ad 69)), some (.int (nI i6)), none, none, none, none] [] n ad E2 Φ Ψ) : J g mL_law 12 (1 + bc) (15 + bs) 248 [some (.ref g.1.2.1), some (.ref (ad 0)), some (.ref (ad 63)), some (.ref (ad 69)), some (.int (nI i6)), none, none, none, none] [] n ad E Φ Ψ := by
  obtain ⟨th, F, S, hrs, su, gone, lv, ed, old, cnt, dr, mc, mr, lv', ed', ah, mk, C, D, ⟨o, ho⟩, hn, R⟩ := Q
  obtain ⟨-, -, -, -, -, -, hF, hS, hFp, hSp, hfi, hcn, hmc, -⟩ := id D
  obtain ⟨rl, re, rb, reb, rs0, rs9, rd, rm⟩ := id R
  have h0 := C.1
  have h63 := D.1
  have hN := fs128 hF hS
  by_cases hx : ((g.1.2.2.2 (i6 + 1)) < 1 ∨ ¬ (g.1.2.2.2 (i6 + 1)) ≤ 8) ∨ ((g.1.2.2.2 (i6 + 2)) < 1 ∨ ¬ (g.1.2.2.2 (i6 + 2)) ≤ 16)
  · skip
    exact j_bud (bc' := 1 + bc) (bs' := 6 + bs) (by omega) (by omega) (lc_lay_bad hi hL hn h0 h63 rfl rfl (k := 1) (by decide) (h_lay_iae (g.1.2.2.2 (i6 + 1)) (g.1.2.2.2 (i6 + 2)) hn h0 (Thr.dep (s_X3_lay_bad C (g.1.2.2.2 (i6 + 1)) (g.1.2.2.2 (i6 + 2)) hx) (by decide))) (RetP.dep (s_X4_lay_bad D (g.1.2.2.2 (i6 + 1)) (g.1.2.2.2 (i6 + 2)) hx) (by decide)) (fun E2 q => ⟨_, q.1.1⟩) (fun E2 q => K E2 ⟨1, F, S, hrs, su, gone, lv, ed, old, cnt, dr, mc, mr, lv', ed', ah, mk, CR.kept C (fun k hk => q.2 k (Or.inl hk)), q.1, ⟨o, (q.2 69 (Or.inr (by decide))).trans ho⟩, hn, R.le⟩))
  · skip
    obtain ⟨a, ha1, ha, e1⟩ := rng_of (c := 8) (by decide) (fun r => hx (Or.inl (Or.inl r))) (Decidable.not_not.mp (fun r => hx (Or.inl (Or.inr r))))
    obtain ⟨b, hb1, hb, e2⟩ := rng_of (c := 16) (by decide) (fun r => hx (Or.inr (Or.inl r))) (Decidable.not_not.mp (fun r => hx (Or.inr (Or.inr r))))
    exact j_bud (bc' := bc) (bs' := bs) (by omega) (by omega) (lc_lay_ok hi hL hn h0 h63 e1 e2 (v := nI (a * b)) (PC := (fun E1 => CR g n ad E1 a b hrs su gone (cpyN (fun _ => 0) lv 128) (cpyN (fun _ => 50) ed 16) 0 0 dr 0 mr ∧ ∀ k, 63 ≤ k → E1 k = E k)) (PM := (fun E1 E2 => MR g n ad E2 0 a b hrs su gone (cpyN (fun _ => 0) lv' 128) (cpyN (fun _ => 50) ed' 16) 0 0 ah 0 mk ∧ ∀ k, (k < 63 ∨ 69 ≤ k) → E2 k = E1 k)) (h_lay_ok (nI a) (nI b) hn h0 (fun E1 p => ⟨o, (p.2 69 (by decide)).trans ho⟩) (RetP.dep (s_X3_lay C a b ha1 ha hb1 hb) (by decide))) (fun E1 p => p.2 63 (by decide)) (fun E1 o1 p => RetP.dep (RetP.vi (s_X4_lay_ok (MR.kept D (fun k h1 h2 => (up_ne (by omega)).trans (p.2 k h1))) a b ha1 ha hb1 hb) (rfl)) (by decide)) (fun E1 E2 q => ⟨⟨_, q.1.1⟩, q.2 69 (Or.inr (by decide))⟩) (fun E1 o1 E2 p ho1 q => K E2 ⟨0, a, b, hrs, su, gone, cpyN (fun _ => 0) lv 128, cpyN (fun _ => 50) ed 16, 0, 0, dr, 0, mr, cpyN (fun _ => 0) lv' 128, cpyN (fun _ => 50) ed' 16, ah, mk, CR.kept p.1 (fun k hk => (q.2 k (Or.inl hk)).trans (up_ne (by omega))), q.1, ⟨_, (q.2 69 (Or.inr (by decide))).trans up_eq⟩, hn, R.lay ha hb⟩))
set_option maxRecDepth 100000 in
set_option maxHeartbeats 4000000 in
theorem st_rain {g : jG} {n : Nat} {ad : Nat → Nat} {E : Nat → va_E} {i6 bc bs i : Nat} {Φ : Option Value → jR} {Ψ : String → jR} (hi : i6 + 6 ≤ g.1.2.2.1) (hL : g.1.2.2.1 ≤ 3072) (hi5 : i ≤ 512) (Q : Sim i g n ad E) (K : ∀ E2, Sim (i + 1) g n ad E2 → J g mL_law 12 bc bs 2592 [some (.ref g.1.2.1), some (.ref (ad 0)), some (.ref (ad 63)), some (.ref (ad 69)), some (.int (nI i6)), none, none, none, none] [] n ad E2 Φ Ψ) : J g mL_law 12 (1 + bc) (15 + bs) 316 [some (.ref g.1.2.1), some (.ref (ad 0)), some (.ref (ad 63)), some (.ref (ad 69)), some (.int (nI i6)), none, none, none, none] [] n ad E Φ Ψ := by
  obtain ⟨th, F, S, hrs, su, gone, lv, ed, old, cnt, dr, mc, mr, lv', ed', ah, mk, C, D, ⟨o, ho⟩, hn, R⟩ := Q
  obtain ⟨-, -, -, -, -, -, hF, hS, hFp, hSp, hfi, hcn, hmc, -⟩ := id D
  obtain ⟨rl, re, rb, reb, rs0, rs9, rd, rm⟩ := id R
  have h0 := C.1
  have h63 := D.1
  have hN := fs128 hF hS
  rcases oob_or (g.1.2.2.2 (i6 + 1)) (c := F) (by omega) with q | ⟨a, ha, e1⟩
  · skip
    exact j_bud (bc' := 1 + bc) (bs' := 6 + bs) (by omega) (by omega) (lc_rain_bad hi hL hn h0 h63 rfl rfl rfl (k := 1) (by decide) (h_rain_bad (g.1.2.2.2 (i6 + 1)) (g.1.2.2.2 (i6 + 2)) (g.1.2.2.2 (i6 + 3)) hn h0 (Thr.dep (s_X3_rain_bad C (g.1.2.2.2 (i6 + 1)) (g.1.2.2.2 (i6 + 2)) (g.1.2.2.2 (i6 + 3)) (Or.inl q)) (by decide))) (RetP.dep (s_X4_rain_bad D (g.1.2.2.2 (i6 + 1)) (g.1.2.2.2 (i6 + 2)) (g.1.2.2.2 (i6 + 3)) (Or.inl q)) (by decide)) (fun E2 q => ⟨_, q.1.1⟩) (fun E2 q => K E2 ⟨1, F, S, hrs, su, gone, lv, ed, old, cnt, dr, mc, mr, lv', ed', ah, mk, CR.kept C (fun k hk => q.2 k (Or.inl hk)), q.1, ⟨o, (q.2 69 (Or.inr (by decide))).trans ho⟩, hn, R.le⟩))
  · skip
    rcases oob_or (g.1.2.2.2 (i6 + 2)) (c := S) (by omega) with q | ⟨b, hb, e2⟩
    · skip
      exact j_bud (bc' := 1 + bc) (bs' := 6 + bs) (by omega) (by omega) (lc_rain_bad hi hL hn h0 h63 e1 rfl rfl (k := 1) (by decide) (h_rain_bad (nI a) (g.1.2.2.2 (i6 + 2)) (g.1.2.2.2 (i6 + 3)) hn h0 (Thr.dep (s_X3_rain_bad C (nI a) (g.1.2.2.2 (i6 + 2)) (g.1.2.2.2 (i6 + 3)) (Or.inr q)) (by decide))) (RetP.dep (s_X4_rain_bad D (nI a) (g.1.2.2.2 (i6 + 2)) (g.1.2.2.2 (i6 + 3)) (Or.inr q)) (by decide)) (fun E2 q => ⟨_, q.1.1⟩) (fun E2 q => K E2 ⟨1, F, S, hrs, su, gone, lv, ed, old, cnt, dr, mc, mr, lv', ed', ah, mk, CR.kept C (fun k hk => q.2 k (Or.inl hk)), q.1, ⟨o, (q.2 69 (Or.inr (by decide))).trans ho⟩, hn, R.le⟩))
    · skip
      by_cases hx : (g.1.2.2.2 (i6 + 3)) < -99 ∨ ¬ (g.1.2.2.2 (i6 + 3)) ≤ 99
      · skip
        exact j_bud (bc' := 1 + bc) (bs' := 6 + bs) (by omega) (by omega) (lc_rain_bad hi hL hn h0 h63 e1 e2 rfl (k := 2) (by decide) (h_rain_iae (nI a) (nI b) (g.1.2.2.2 (i6 + 3)) hn h0 (Thr.dep (s_X3_rain_iae C a b ha hb (g.1.2.2.2 (i6 + 3)) hx) (by decide))) (RetP.dep (s_X4_rain_iae D a b ha hb (g.1.2.2.2 (i6 + 3)) hx) (by decide)) (fun E2 q => ⟨_, q.1.1⟩) (fun E2 q => K E2 ⟨2, F, S, hrs, su, gone, lv, ed, old, cnt, dr, mc, mr, lv', ed', ah, mk, CR.kept C (fun k hk => q.2 k (Or.inl hk)), q.1, ⟨o, (q.2 69 (Or.inr (by decide))).trans ho⟩, hn, R.le⟩))
      · skip
        have hx1 : ¬ (g.1.2.2.2 (i6 + 3)) < -99 := fun r => hx (Or.inl r)
        have hx2 : (g.1.2.2.2 (i6 + 3)) ≤ 99 := Decidable.not_not.mp (fun r => hx (Or.inr r))
        exact j_bud (bc' := bc) (bs' := bs) (by omega) (by omega) (lc_rain_ok hi hL hn h0 h63 e1 e2 rfl (v := lv (a * S + b) + (g.1.2.2.2 (i6 + 3))) (PC := (fun E1 => CR g n ad E1 F S hrs su gone (upd lv (a * S + b) (lv (a * S + b) + (g.1.2.2.2 (i6 + 3)))) ed (kOld old cnt) (kCnt cnt) (rowUp dr (kSlot old cnt) (cpyN lv (dr (kSlot old cnt)) (F * S))) mc mr ∧ ∀ k, 63 ≤ k → E1 k = E k)) (PM := (fun E1 E2 => MR g n ad E2 0 F S hrs su gone (upd lv' (a * S + b) (lv' (a * S + b) + (g.1.2.2.2 (i6 + 3)))) ed' (kOld old cnt) (kCnt cnt) (va_cpy lv' ah 0 (128 * kSlot old cnt) 128) mc mk ∧ ∀ k, (k < 63 ∨ 69 ≤ k) → E2 k = E1 k)) (h_rain_ok (nI a) (nI b) (g.1.2.2.2 (i6 + 3)) hn h0 (fun E1 p => ⟨o, (p.2 69 (by decide)).trans ho⟩) (RetP.dep (s_X3_rain C a b ha hb (g.1.2.2.2 (i6 + 3)) hx1 hx2) (by decide))) (fun E1 p => p.2 63 (by decide)) (fun E1 o1 p => RetP.dep (RetP.vi (s_X4_rain_ok (MR.kept D (fun k h1 h2 => (up_ne (by omega)).trans (p.2 k h1))) a b ha hb (g.1.2.2.2 (i6 + 3)) hx1 hx2) (by rw [rl _ (ixN ha hb)])) (by decide)) (fun E1 E2 q => ⟨⟨_, q.1.1⟩, q.2 69 (Or.inr (by decide))⟩) (fun E1 o1 E2 p ho1 q => K E2 ⟨0, F, S, hrs, su, gone, upd lv (a * S + b) (lv (a * S + b) + (g.1.2.2.2 (i6 + 3))), ed, kOld old cnt, kCnt cnt, rowUp dr (kSlot old cnt) (cpyN lv (dr (kSlot old cnt)) (F * S)), mc, mr, upd lv' (a * S + b) (lv' (a * S + b) + (g.1.2.2.2 (i6 + 3))), ed', va_cpy lv' ah 0 (128 * kSlot old cnt) 128, mk, CR.kept p.1 (fun k hk => (q.2 k (Or.inl hk)).trans (up_ne (by omega))), q.1, ⟨_, (q.2 69 (Or.inr (by decide))).trans up_eq⟩, hn, R.keep hfi hcn hN (upd_cg (by rw [rl _ (ixN ha hb)]) rl) (rain_bd (i99 hx1 hx2).1 (i99 hx1 hx2).2 (by omega) (by omega) rb (ixN ha hb))⟩))
set_option maxRecDepth 100000 in
set_option maxHeartbeats 4000000 in
theorem st_splash {g : jG} {n : Nat} {ad : Nat → Nat} {E : Nat → va_E} {i6 bc bs i : Nat} {Φ : Option Value → jR} {Ψ : String → jR} (hi : i6 + 6 ≤ g.1.2.2.1) (hL : g.1.2.2.1 ≤ 3072) (hi5 : i ≤ 512) (Q : Sim i g n ad E) (K : ∀ E2, Sim (i + 1) g n ad E2 → J g mL_law 12 bc bs 2592 [some (.ref g.1.2.1), some (.ref (ad 0)), some (.ref (ad 63)), some (.ref (ad 69)), some (.int (nI i6)), none, none, none, none] [] n ad E2 Φ Ψ) : J g mL_law 12 (1 + bc) (15 + bs) 396 [some (.ref g.1.2.1), some (.ref (ad 0)), some (.ref (ad 63)), some (.ref (ad 69)), some (.int (nI i6)), none, none, none, none] [] n ad E Φ Ψ := by
  obtain ⟨th, F, S, hrs, su, gone, lv, ed, old, cnt, dr, mc, mr, lv', ed', ah, mk, C, D, ⟨o, ho⟩, hn, R⟩ := Q
  obtain ⟨-, -, -, -, -, -, hF, hS, hFp, hSp, hfi, hcn, hmc, -⟩ := id D
  obtain ⟨rl, re, rb, reb, rs0, rs9, rd, rm⟩ := id R
  have h0 := C.1
  have h63 := D.1
  have hN := fs128 hF hS
  rcases oob_or (g.1.2.2.2 (i6 + 1)) (c := F) (by omega) with q | ⟨fa, hfa, e1⟩
  · skip
    exact j_bud (bc' := 1 + bc) (bs' := 6 + bs) (by omega) (by omega) (lc_splash_bad hi hL hn h0 h63 rfl rfl rfl rfl rfl (k := 1) (by decide) (h_splash_bad (g.1.2.2.2 (i6 + 1)) (g.1.2.2.2 (i6 + 2)) (g.1.2.2.2 (i6 + 3)) (g.1.2.2.2 (i6 + 4)) (g.1.2.2.2 (i6 + 5)) hn h0 (Thr.dep (s_X3_splash_bad C (g.1.2.2.2 (i6 + 1)) (g.1.2.2.2 (i6 + 2)) (g.1.2.2.2 (i6 + 3)) (g.1.2.2.2 (i6 + 4)) (g.1.2.2.2 (i6 + 5)) (Or.inl q)) (by decide))) (RetP.dep (s_X4_splash_bad D (g.1.2.2.2 (i6 + 1)) (g.1.2.2.2 (i6 + 2)) (g.1.2.2.2 (i6 + 3)) (g.1.2.2.2 (i6 + 4)) (g.1.2.2.2 (i6 + 5)) (Or.inl q)) (by decide)) (fun E2 q => ⟨_, q.1.1⟩) (fun E2 q => K E2 ⟨1, F, S, hrs, su, gone, lv, ed, old, cnt, dr, mc, mr, lv', ed', ah, mk, CR.kept C (fun k hk => q.2 k (Or.inl hk)), q.1, ⟨o, (q.2 69 (Or.inr (by decide))).trans ho⟩, hn, R.le⟩))
  · skip
    rcases oob_or (g.1.2.2.2 (i6 + 2)) (c := S) (by omega) with q | ⟨sa, hsa, e2⟩
    · skip
      exact j_bud (bc' := 1 + bc) (bs' := 6 + bs) (by omega) (by omega) (lc_splash_bad hi hL hn h0 h63 e1 rfl rfl rfl rfl (k := 1) (by decide) (h_splash_bad (nI fa) (g.1.2.2.2 (i6 + 2)) (g.1.2.2.2 (i6 + 3)) (g.1.2.2.2 (i6 + 4)) (g.1.2.2.2 (i6 + 5)) hn h0 (Thr.dep (s_X3_splash_bad C (nI fa) (g.1.2.2.2 (i6 + 2)) (g.1.2.2.2 (i6 + 3)) (g.1.2.2.2 (i6 + 4)) (g.1.2.2.2 (i6 + 5)) (Or.inr (Or.inl q))) (by decide))) (RetP.dep (s_X4_splash_bad D (nI fa) (g.1.2.2.2 (i6 + 2)) (g.1.2.2.2 (i6 + 3)) (g.1.2.2.2 (i6 + 4)) (g.1.2.2.2 (i6 + 5)) (Or.inr (Or.inl q))) (by decide)) (fun E2 q => ⟨_, q.1.1⟩) (fun E2 q => K E2 ⟨1, F, S, hrs, su, gone, lv, ed, old, cnt, dr, mc, mr, lv', ed', ah, mk, CR.kept C (fun k hk => q.2 k (Or.inl hk)), q.1, ⟨o, (q.2 69 (Or.inr (by decide))).trans ho⟩, hn, R.le⟩))
    · skip
      rcases oob_or (g.1.2.2.2 (i6 + 3)) (c := F) (by omega) with q | ⟨fb, hfb, e3⟩
      · skip
        exact j_bud (bc' := 1 + bc) (bs' := 6 + bs) (by omega) (by omega) (lc_splash_bad hi hL hn h0 h63 e1 e2 rfl rfl rfl (k := 1) (by decide) (h_splash_bad (nI fa) (nI sa) (g.1.2.2.2 (i6 + 3)) (g.1.2.2.2 (i6 + 4)) (g.1.2.2.2 (i6 + 5)) hn h0 (Thr.dep (s_X3_splash_bad C (nI fa) (nI sa) (g.1.2.2.2 (i6 + 3)) (g.1.2.2.2 (i6 + 4)) (g.1.2.2.2 (i6 + 5)) (Or.inr (Or.inr (Or.inl q)))) (by decide))) (RetP.dep (s_X4_splash_bad D (nI fa) (nI sa) (g.1.2.2.2 (i6 + 3)) (g.1.2.2.2 (i6 + 4)) (g.1.2.2.2 (i6 + 5)) (Or.inr (Or.inr (Or.inl q)))) (by decide)) (fun E2 q => ⟨_, q.1.1⟩) (fun E2 q => K E2 ⟨1, F, S, hrs, su, gone, lv, ed, old, cnt, dr, mc, mr, lv', ed', ah, mk, CR.kept C (fun k hk => q.2 k (Or.inl hk)), q.1, ⟨o, (q.2 69 (Or.inr (by decide))).trans ho⟩, hn, R.le⟩))
      · skip
        rcases oob_or (g.1.2.2.2 (i6 + 4)) (c := S) (by omega) with q | ⟨sb, hsb, e4⟩
        · skip
          exact j_bud (bc' := 1 + bc) (bs' := 6 + bs) (by omega) (by omega) (lc_splash_bad hi hL hn h0 h63 e1 e2 e3 rfl rfl (k := 1) (by decide) (h_splash_bad (nI fa) (nI sa) (nI fb) (g.1.2.2.2 (i6 + 4)) (g.1.2.2.2 (i6 + 5)) hn h0 (Thr.dep (s_X3_splash_bad C (nI fa) (nI sa) (nI fb) (g.1.2.2.2 (i6 + 4)) (g.1.2.2.2 (i6 + 5)) (Or.inr (Or.inr (Or.inr q)))) (by decide))) (RetP.dep (s_X4_splash_bad D (nI fa) (nI sa) (nI fb) (g.1.2.2.2 (i6 + 4)) (g.1.2.2.2 (i6 + 5)) (Or.inr (Or.inr (Or.inr q)))) (by decide)) (fun E2 q => ⟨_, q.1.1⟩) (fun E2 q => K E2 ⟨1, F, S, hrs, su, gone, lv, ed, old, cnt, dr, mc, mr, lv', ed', ah, mk, CR.kept C (fun k hk => q.2 k (Or.inl hk)), q.1, ⟨o, (q.2 69 (Or.inr (by decide))).trans ho⟩, hn, R.le⟩))
        · skip
          by_cases hp : fb < fa ∨ sb < sa
          · skip
            exact j_bud (bc' := 1 + bc) (bs' := 6 + bs) (by omega) (by omega) (lc_splash_bad hi hL hn h0 h63 e1 e2 e3 e4 rfl (k := 2) (by decide) (h_splash_iae (nI fa) (nI sa) (nI fb) (nI sb) (g.1.2.2.2 (i6 + 5)) hn h0 (Thr.dep (s_X3_splash_iae C fa sa fb sb hfa hsa hfb hsb (g.1.2.2.2 (i6 + 5)) hp) (by decide))) (RetP.dep (s_X4_splash_iae D fa sa fb sb hfa hsa hfb hsb (g.1.2.2.2 (i6 + 5)) hp) (by decide)) (fun E2 q => ⟨_, q.1.1⟩) (fun E2 q => K E2 ⟨2, F, S, hrs, su, gone, lv, ed, old, cnt, dr, mc, mr, lv', ed', ah, mk, CR.kept C (fun k hk => q.2 k (Or.inl hk)), q.1, ⟨o, (q.2 69 (Or.inr (by decide))).trans ho⟩, hn, R.le⟩))
          · skip
            have h1 : fa ≤ fb := by omega
            have h2 : sa ≤ sb := by omega
            by_cases hx : (g.1.2.2.2 (i6 + 5)) < -99 ∨ ¬ (g.1.2.2.2 (i6 + 5)) ≤ 99
            · skip
              exact j_bud (bc' := 1 + bc) (bs' := 6 + bs) (by omega) (by omega) (lc_splash_bad hi hL hn h0 h63 e1 e2 e3 e4 rfl (k := 2) (by decide) (h_splash_iae (nI fa) (nI sa) (nI fb) (nI sb) (g.1.2.2.2 (i6 + 5)) hn h0 (Thr.dep (s_X3_splash_num C fa sa fb sb hfa hsa hfb hsb h1 h2 (g.1.2.2.2 (i6 + 5)) hx) (by decide))) (RetP.dep (s_X4_splash_num D fa sa fb sb hfa hsa hfb hsb h1 h2 (g.1.2.2.2 (i6 + 5)) hx) (by decide)) (fun E2 q => ⟨_, q.1.1⟩) (fun E2 q => K E2 ⟨2, F, S, hrs, su, gone, lv, ed, old, cnt, dr, mc, mr, lv', ed', ah, mk, CR.kept C (fun k hk => q.2 k (Or.inl hk)), q.1, ⟨o, (q.2 69 (Or.inr (by decide))).trans ho⟩, hn, R.le⟩))
            · skip
              have hx1 : ¬ (g.1.2.2.2 (i6 + 5)) < -99 := fun r => hx (Or.inl r)
              have hx2 : (g.1.2.2.2 (i6 + 5)) ≤ 99 := Decidable.not_not.mp (fun r => hx (Or.inr r))
              exact j_bud (bc' := bc) (bs' := bs) (by omega) (by omega) (lc_splash_ok hi hL hn h0 h63 e1 e2 e3 e4 rfl (v := nI ((fb - fa + 1) * (sb - sa + 1))) (PC := (fun E1 => CR g n ad E1 F S hrs su gone (splL lv S fa sa fb sb (g.1.2.2.2 (i6 + 5))) ed (kOld old cnt) (kCnt cnt) (rowUp dr (kSlot old cnt) (cpyN lv (dr (kSlot old cnt)) (F * S))) mc mr ∧ ∀ k, 63 ≤ k → E1 k = E k)) (PM := (fun E1 E2 => MR g n ad E2 0 F S hrs su gone (splL lv' S fa sa fb sb (g.1.2.2.2 (i6 + 5))) ed' (kOld old cnt) (kCnt cnt) (va_cpy lv' ah 0 (128 * kSlot old cnt) 128) mc mk ∧ ∀ k, (k < 63 ∨ 69 ≤ k) → E2 k = E1 k)) (h_splash_ok (nI fa) (nI sa) (nI fb) (nI sb) (g.1.2.2.2 (i6 + 5)) hn h0 (fun E1 p => ⟨o, (p.2 69 (by decide)).trans ho⟩) (RetP.dep (s_X3_splash C fa sa fb sb hfa hsa hfb hsb h1 h2 (g.1.2.2.2 (i6 + 5)) hx1 hx2) (by decide))) (fun E1 p => p.2 63 (by decide)) (fun E1 o1 p => RetP.dep (RetP.vi (s_X4_splash_ok (MR.kept D (fun k h1 h2 => (up_ne (by omega)).trans (p.2 k h1))) fa sa fb sb hfa hsa hfb hsb h1 h2 (g.1.2.2.2 (i6 + 5)) hx1 hx2) (rfl)) (by decide)) (fun E1 E2 q => ⟨⟨_, q.1.1⟩, q.2 69 (Or.inr (by decide))⟩) (fun E1 o1 E2 p ho1 q => K E2 ⟨0, F, S, hrs, su, gone, splL lv S fa sa fb sb (g.1.2.2.2 (i6 + 5)), ed, kOld old cnt, kCnt cnt, rowUp dr (kSlot old cnt) (cpyN lv (dr (kSlot old cnt)) (F * S)), mc, mr, splL lv' S fa sa fb sb (g.1.2.2.2 (i6 + 5)), ed', va_cpy lv' ah 0 (128 * kSlot old cnt) 128, mk, CR.kept p.1 (fun k hk => (q.2 k (Or.inl hk)).trans (up_ne (by omega))), q.1, ⟨_, (q.2 69 (Or.inr (by decide))).trans up_eq⟩, hn, R.keep hfi hcn hN (spl_cg hfb hsb rl) (spl_bd h2 hsb (i99 hx1 hx2).1 (i99 hx1 hx2).2 (by omega) (by omega) rb)⟩))
set_option maxRecDepth 100000 in
set_option maxHeartbeats 4000000 in
theorem st_swap {g : jG} {n : Nat} {ad : Nat → Nat} {E : Nat → va_E} {i6 bc bs i : Nat} {Φ : Option Value → jR} {Ψ : String → jR} (hi : i6 + 6 ≤ g.1.2.2.1) (hL : g.1.2.2.1 ≤ 3072) (hi5 : i ≤ 512) (Q : Sim i g n ad E) (K : ∀ E2, Sim (i + 1) g n ad E2 → J g mL_law 12 bc bs 2592 [some (.ref g.1.2.1), some (.ref (ad 0)), some (.ref (ad 63)), some (.ref (ad 69)), some (.int (nI i6)), none, none, none, none] [] n ad E2 Φ Ψ) : J g mL_law 12 (1 + bc) (15 + bs) 500 [some (.ref g.1.2.1), some (.ref (ad 0)), some (.ref (ad 63)), some (.ref (ad 69)), some (.int (nI i6)), none, none, none, none] [] n ad E Φ Ψ := by
  obtain ⟨th, F, S, hrs, su, gone, lv, ed, old, cnt, dr, mc, mr, lv', ed', ah, mk, C, D, ⟨o, ho⟩, hn, R⟩ := Q
  obtain ⟨-, -, -, -, -, -, hF, hS, hFp, hSp, hfi, hcn, hmc, -⟩ := id D
  obtain ⟨rl, re, rb, reb, rs0, rs9, rd, rm⟩ := id R
  have h0 := C.1
  have h63 := D.1
  have hN := fs128 hF hS
  rcases oob_or (g.1.2.2.2 (i6 + 1)) (c := F) (by omega) with q | ⟨a, ha, e1⟩
  · skip
    exact j_bud (bc' := 1 + bc) (bs' := 6 + bs) (by omega) (by omega) (lc_swap_bad hi hL hn h0 h63 rfl rfl (k := 1) (by decide) (h_swap_bad (g.1.2.2.2 (i6 + 1)) (g.1.2.2.2 (i6 + 2)) hn h0 (Thr.dep (s_X3_swap_bad C (g.1.2.2.2 (i6 + 1)) (g.1.2.2.2 (i6 + 2)) (Or.inl q)) (by decide))) (RetP.dep (s_X4_swap_bad D (g.1.2.2.2 (i6 + 1)) (g.1.2.2.2 (i6 + 2)) (Or.inl q)) (by decide)) (fun E2 q => ⟨_, q.1.1⟩) (fun E2 q => K E2 ⟨1, F, S, hrs, su, gone, lv, ed, old, cnt, dr, mc, mr, lv', ed', ah, mk, CR.kept C (fun k hk => q.2 k (Or.inl hk)), q.1, ⟨o, (q.2 69 (Or.inr (by decide))).trans ho⟩, hn, R.le⟩))
  · skip
    rcases oob_or (g.1.2.2.2 (i6 + 2)) (c := F) (by omega) with q | ⟨b, hb, e2⟩
    · skip
      exact j_bud (bc' := 1 + bc) (bs' := 6 + bs) (by omega) (by omega) (lc_swap_bad hi hL hn h0 h63 e1 rfl (k := 1) (by decide) (h_swap_bad (nI a) (g.1.2.2.2 (i6 + 2)) hn h0 (Thr.dep (s_X3_swap_bad C (nI a) (g.1.2.2.2 (i6 + 2)) (Or.inr q)) (by decide))) (RetP.dep (s_X4_swap_bad D (nI a) (g.1.2.2.2 (i6 + 2)) (Or.inr q)) (by decide)) (fun E2 q => ⟨_, q.1.1⟩) (fun E2 q => K E2 ⟨1, F, S, hrs, su, gone, lv, ed, old, cnt, dr, mc, mr, lv', ed', ah, mk, CR.kept C (fun k hk => q.2 k (Or.inl hk)), q.1, ⟨o, (q.2 69 (Or.inr (by decide))).trans ho⟩, hn, R.le⟩))
    · skip
      exact j_bud (bc' := bc) (bs' := bs) (by omega) (by omega) (lc_swap_ok hi hL hn h0 h63 e1 e2 (v := nI S - alkC lv S a b) (PC := (fun E1 => CR g n ad E1 F S hrs su gone (swpL lv S a b) ed (kOld old cnt) (kCnt cnt) (rowUp dr (kSlot old cnt) (cpyN lv (dr (kSlot old cnt)) (F * S))) mc mr ∧ ∀ k, 63 ≤ k → E1 k = E k)) (PM := (fun E1 E2 => MR g n ad E2 0 F S hrs su gone (swpL lv' S a b) ed' (kOld old cnt) (kCnt cnt) (va_cpy lv' ah 0 (128 * kSlot old cnt) 128) mc mk ∧ ∀ k, (k < 63 ∨ 69 ≤ k) → E2 k = E1 k)) (h_swap_ok (nI a) (nI b) hn h0 (fun E1 p => ⟨o, (p.2 69 (by decide)).trans ho⟩) (RetP.dep (s_X3_swap C a b ha hb) (by decide))) (fun E1 p => p.2 63 (by decide)) (fun E1 o1 p => RetP.dep (RetP.vi (s_X4_swap_ok (MR.kept D (fun k h1 h2 => (up_ne (by omega)).trans (p.2 k h1))) a b ha hb) (by rw [alk_cg rl ha hb])) (by decide)) (fun E1 E2 q => ⟨⟨_, q.1.1⟩, q.2 69 (Or.inr (by decide))⟩) (fun E1 o1 E2 p ho1 q => K E2 ⟨0, F, S, hrs, su, gone, swpL lv S a b, ed, kOld old cnt, kCnt cnt, rowUp dr (kSlot old cnt) (cpyN lv (dr (kSlot old cnt)) (F * S)), mc, mr, swpL lv' S a b, ed', va_cpy lv' ah 0 (128 * kSlot old cnt) 128, mk, CR.kept p.1 (fun k hk => (q.2 k (Or.inl hk)).trans (up_ne (by omega))), q.1, ⟨_, (q.2 69 (Or.inr (by decide))).trans up_eq⟩, hn, R.keep hfi hcn hN (swp_cg hSp ha hb rl) ((swp_bd hSp ha hb rb).le (by omega) (by omega))⟩))
set_option maxRecDepth 100000 in
set_option maxHeartbeats 4000000 in
theorem st_turn {g : jG} {n : Nat} {ad : Nat → Nat} {E : Nat → va_E} {i6 bc bs i : Nat} {Φ : Option Value → jR} {Ψ : String → jR} (hi : i6 + 6 ≤ g.1.2.2.1) (hL : g.1.2.2.1 ≤ 3072) (hi5 : i ≤ 512) (Q : Sim i g n ad E) (K : ∀ E2, Sim (i + 1) g n ad E2 → J g mL_law 12 bc bs 2592 [some (.ref g.1.2.1), some (.ref (ad 0)), some (.ref (ad 63)), some (.ref (ad 69)), some (.int (nI i6)), none, none, none, none] [] n ad E2 Φ Ψ) : J g mL_law 12 (1 + bc) (15 + bs) 568 [some (.ref g.1.2.1), some (.ref (ad 0)), some (.ref (ad 63)), some (.ref (ad 69)), some (.int (nI i6)), none, none, none, none] [] n ad E Φ Ψ := by
  obtain ⟨th, F, S, hrs, su, gone, lv, ed, old, cnt, dr, mc, mr, lv', ed', ah, mk, C, D, ⟨o, ho⟩, hn, R⟩ := Q
  obtain ⟨-, -, -, -, -, -, hF, hS, hFp, hSp, hfi, hcn, hmc, -⟩ := id D
  obtain ⟨rl, re, rb, reb, rs0, rs9, rd, rm⟩ := id R
  have h0 := C.1
  have h63 := D.1
  have hN := fs128 hF hS
  rcases oob_or (g.1.2.2.2 (i6 + 1)) (c := F) (by omega) with q | ⟨a, ha, e1⟩
  · skip
    exact j_bud (bc' := 1 + bc) (bs' := 6 + bs) (by omega) (by omega) (lc_turn_bad hi hL hn h0 h63 rfl (k := 1) (by decide) (h_turn_bad (g.1.2.2.2 (i6 + 1)) hn h0 (Thr.dep (s_X3_turn_bad C (g.1.2.2.2 (i6 + 1)) q) (by decide))) (RetP.dep (s_X4_turn_bad D (g.1.2.2.2 (i6 + 1)) q) (by decide)) (fun E2 q => ⟨_, q.1.1⟩) (fun E2 q => K E2 ⟨1, F, S, hrs, su, gone, lv, ed, old, cnt, dr, mc, mr, lv', ed', ah, mk, CR.kept C (fun k hk => q.2 k (Or.inl hk)), q.1, ⟨o, (q.2 69 (Or.inr (by decide))).trans ho⟩, hn, R.le⟩))
  · skip
    exact j_bud (bc' := bc) (bs' := bs) (by omega) (by omega) (lc_turn_ok hi hL hn h0 h63 e1 (v := chgC (turnL lv S a) lv (F * S)) (PC := (fun E1 => CR g n ad E1 F S hrs su gone (turnL lv S a) ed (kOld old cnt) (kCnt cnt) (rowUp dr (kSlot old cnt) (cpyN lv (dr (kSlot old cnt)) (F * S))) mc mr ∧ ∀ k, 63 ≤ k → E1 k = E k)) (PM := (fun E1 E2 => MR g n ad E2 0 F S hrs su gone (turnL lv' S a) ed' (kOld old cnt) (kCnt cnt) (va_cpy lv' ah 0 (128 * kSlot old cnt) 128) mc mk ∧ ∀ k, (k < 63 ∨ 69 ≤ k) → E2 k = E1 k)) (h_turn_ok (nI a) hn h0 (fun E1 p => ⟨o, (p.2 69 (by decide)).trans ho⟩) (RetP.dep (s_X3_turn C a ha) (by decide))) (fun E1 p => p.2 63 (by decide)) (fun E1 o1 p => RetP.dep (RetP.vi (s_X4_turn_ok (MR.kept D (fun k h1 h2 => (up_ne (by omega)).trans (p.2 k h1))) a ha) ((chgC_congr (turn_cg ha rl) rl).symm)) (by decide)) (fun E1 E2 q => ⟨⟨_, q.1.1⟩, q.2 69 (Or.inr (by decide))⟩) (fun E1 o1 E2 p ho1 q => K E2 ⟨0, F, S, hrs, su, gone, turnL lv S a, ed, kOld old cnt, kCnt cnt, rowUp dr (kSlot old cnt) (cpyN lv (dr (kSlot old cnt)) (F * S)), mc, mr, turnL lv' S a, ed', va_cpy lv' ah 0 (128 * kSlot old cnt) 128, mk, CR.kept p.1 (fun k hk => (q.2 k (Or.inl hk)).trans (up_ne (by omega))), q.1, ⟨_, (q.2 69 (Or.inr (by decide))).trans up_eq⟩, hn, R.keep hfi hcn hN (turn_cg ha rl) ((turn_bd ha rb).le (by omega) (by omega))⟩))
set_option maxRecDepth 100000 in
set_option maxHeartbeats 4000000 in
theorem st_bail {g : jG} {n : Nat} {ad : Nat → Nat} {E : Nat → va_E} {i6 bc bs i : Nat} {Φ : Option Value → jR} {Ψ : String → jR} (hi : i6 + 6 ≤ g.1.2.2.1) (hL : g.1.2.2.1 ≤ 3072) (hi5 : i ≤ 512) (Q : Sim i g n ad E) (K : ∀ E2, Sim (i + 1) g n ad E2 → J g mL_law 12 bc bs 2592 [some (.ref g.1.2.1), some (.ref (ad 0)), some (.ref (ad 63)), some (.ref (ad 69)), some (.int (nI i6)), none, none, none, none] [] n ad E2 Φ Ψ) : J g mL_law 12 (1 + bc) (15 + bs) 624 [some (.ref g.1.2.1), some (.ref (ad 0)), some (.ref (ad 63)), some (.ref (ad 69)), some (.int (nI i6)), none, none, none, none] [] n ad E Φ Ψ := by
  obtain ⟨th, F, S, hrs, su, gone, lv, ed, old, cnt, dr, mc, mr, lv', ed', ah, mk, C, D, ⟨o, ho⟩, hn, R⟩ := Q
  obtain ⟨-, -, -, -, -, -, hF, hS, hFp, hSp, hfi, hcn, hmc, -⟩ := id D
  obtain ⟨rl, re, rb, reb, rs0, rs9, rd, rm⟩ := id R
  have h0 := C.1
  have h63 := D.1
  have hN := fs128 hF hS
  rcases oob_or (g.1.2.2.2 (i6 + 1)) (c := F) (by omega) with q | ⟨a, ha, e1⟩
  · skip
    exact j_bud (bc' := 1 + bc) (bs' := 6 + bs) (by omega) (by omega) (lc_bail_bad hi hL hn h0 h63 rfl rfl (k := 1) (by decide) (h_bail_bad (g.1.2.2.2 (i6 + 1)) (g.1.2.2.2 (i6 + 2)) hn h0 (Thr.dep (s_X3_bail_bad C (g.1.2.2.2 (i6 + 1)) (g.1.2.2.2 (i6 + 2)) q) (by decide))) (RetP.dep (s_X4_bail_bad D (g.1.2.2.2 (i6 + 1)) (g.1.2.2.2 (i6 + 2)) q) (by decide)) (fun E2 q => ⟨_, q.1.1⟩) (fun E2 q => K E2 ⟨1, F, S, hrs, su, gone, lv, ed, old, cnt, dr, mc, mr, lv', ed', ah, mk, CR.kept C (fun k hk => q.2 k (Or.inl hk)), q.1, ⟨o, (q.2 69 (Or.inr (by decide))).trans ho⟩, hn, R.le⟩))
  · skip
    by_cases hx : (g.1.2.2.2 (i6 + 2)) < 1 ∨ ¬ (g.1.2.2.2 (i6 + 2)) ≤ 999
    · skip
      exact j_bud (bc' := 1 + bc) (bs' := 6 + bs) (by omega) (by omega) (lc_bail_bad hi hL hn h0 h63 e1 rfl (k := 2) (by decide) (h_bail_iae (nI a) (g.1.2.2.2 (i6 + 2)) hn h0 (Thr.dep (s_X3_bail_iae C a ha (g.1.2.2.2 (i6 + 2)) hx) (by decide))) (RetP.dep (s_X4_bail_iae D a ha (g.1.2.2.2 (i6 + 2)) hx) (by decide)) (fun E2 q => ⟨_, q.1.1⟩) (fun E2 q => K E2 ⟨2, F, S, hrs, su, gone, lv, ed, old, cnt, dr, mc, mr, lv', ed', ah, mk, CR.kept C (fun k hk => q.2 k (Or.inl hk)), q.1, ⟨o, (q.2 69 (Or.inr (by decide))).trans ho⟩, hn, R.le⟩))
    · skip
      have hx1 : ¬ (g.1.2.2.2 (i6 + 2)) < 1 := fun r => hx (Or.inl r)
      have hx2 : (g.1.2.2.2 (i6 + 2)) ≤ 999 := Decidable.not_not.mp (fun r => hx (Or.inr r))
      exact j_bud (bc' := bc) (bs' := bs) (by omega) (by omega) (lc_bail_ok hi hL hn h0 h63 e1 rfl (v := (bailR lv S a (g.1.2.2.2 (i6 + 2))).1) (PC := (fun E1 => CR g n ad E1 F S hrs su gone ((bailR lv S a (g.1.2.2.2 (i6 + 2))).2) ed (kOld old cnt) (kCnt cnt) (rowUp dr (kSlot old cnt) (cpyN lv (dr (kSlot old cnt)) (F * S))) mc mr ∧ ∀ k, 63 ≤ k → E1 k = E k)) (PM := (fun E1 E2 => MR g n ad E2 0 F S hrs su gone ((bailR lv' S a (g.1.2.2.2 (i6 + 2))).2) ed' (kOld old cnt) (kCnt cnt) (va_cpy lv' ah 0 (128 * kSlot old cnt) 128) mc mk ∧ ∀ k, (k < 63 ∨ 69 ≤ k) → E2 k = E1 k)) (h_bail_ok (nI a) (g.1.2.2.2 (i6 + 2)) hn h0 (fun E1 p => ⟨o, (p.2 69 (by decide)).trans ho⟩) (RetP.dep (s_X3_bail C a ha (g.1.2.2.2 (i6 + 2)) hx1 hx2) (by decide))) (fun E1 p => p.2 63 (by decide)) (fun E1 o1 p => RetP.dep (RetP.vi (s_X4_bail_ok (MR.kept D (fun k h1 h2 => (up_ne (by omega)).trans (p.2 k h1))) a ha (g.1.2.2.2 (i6 + 2)) hx1 hx2) ((bail_cg ha rl).1.symm)) (by decide)) (fun E1 E2 q => ⟨⟨_, q.1.1⟩, q.2 69 (Or.inr (by decide))⟩) (fun E1 o1 E2 p ho1 q => K E2 ⟨0, F, S, hrs, su, gone, (bailR lv S a (g.1.2.2.2 (i6 + 2))).2, ed, kOld old cnt, kCnt cnt, rowUp dr (kSlot old cnt) (cpyN lv (dr (kSlot old cnt)) (F * S)), mc, mr, (bailR lv' S a (g.1.2.2.2 (i6 + 2))).2, ed', va_cpy lv' ah 0 (128 * kSlot old cnt) 128, mk, CR.kept p.1 (fun k hk => (q.2 k (Or.inl hk)).trans (up_ne (by omega))), q.1, ⟨_, (q.2 69 (Or.inr (by decide))).trans up_eq⟩, hn, R.keep hfi hcn hN (bail_cg ha rl).2 ((bail_bd ha (i999 hx1 hx2).1 (i999 hx1 hx2).2 (by omega) (by omega) (by omega) (by omega) rb).le (by omega) (by omega))⟩))
set_option maxRecDepth 100000 in
set_option maxHeartbeats 4000000 in
theorem st_passHours {g : jG} {n : Nat} {ad : Nat → Nat} {E : Nat → va_E} {i6 bc bs i : Nat} {Φ : Option Value → jR} {Ψ : String → jR} (hi : i6 + 6 ≤ g.1.2.2.1) (hL : g.1.2.2.1 ≤ 3072) (hi5 : i ≤ 512) (Q : Sim i g n ad E) (K : ∀ E2, Sim (i + 1) g n ad E2 → J g mL_law 12 bc bs 2592 [some (.ref g.1.2.1), some (.ref (ad 0)), some (.ref (ad 63)), some (.ref (ad 69)), some (.int (nI i6)), none, none, none, none] [] n ad E2 Φ Ψ) : J g mL_law 12 (1 + bc) (15 + bs) 692 [some (.ref g.1.2.1), some (.ref (ad 0)), some (.ref (ad 63)), some (.ref (ad 69)), some (.int (nI i6)), none, none, none, none] [] n ad E Φ Ψ := by
  obtain ⟨th, F, S, hrs, su, gone, lv, ed, old, cnt, dr, mc, mr, lv', ed', ah, mk, C, D, ⟨o, ho⟩, hn, R⟩ := Q
  obtain ⟨-, -, -, -, -, -, hF, hS, hFp, hSp, hfi, hcn, hmc, -⟩ := id D
  obtain ⟨rl, re, rb, reb, rs0, rs9, rd, rm⟩ := id R
  have h0 := C.1
  have h63 := D.1
  have hN := fs128 hF hS
  by_cases hx : (g.1.2.2.2 (i6 + 1)) < 1 ∨ ¬ (g.1.2.2.2 (i6 + 1)) ≤ 40
  · skip
    exact j_bud (bc' := 1 + bc) (bs' := 6 + bs) (by omega) (by omega) (lc_passHours_bad hi hL hn h0 h63 rfl (k := 1) (by decide) (h_passHours_iae (g.1.2.2.2 (i6 + 1)) hn h0 (Thr.dep (s_X3_passHours_iae C  (g.1.2.2.2 (i6 + 1)) hx) (by decide))) (RetP.dep (s_X4_passHours_iae D  (g.1.2.2.2 (i6 + 1)) hx) (by decide)) (fun E2 q => ⟨_, q.1.1⟩) (fun E2 q => K E2 ⟨1, F, S, hrs, su, gone, lv, ed, old, cnt, dr, mc, mr, lv', ed', ah, mk, CR.kept C (fun k hk => q.2 k (Or.inl hk)), q.1, ⟨o, (q.2 69 (Or.inr (by decide))).trans ho⟩, hn, R.le⟩))
  · skip
    have hx1 : ¬ (g.1.2.2.2 (i6 + 1)) < 1 := fun r => hx (Or.inl r)
    have hx2 : (g.1.2.2.2 (i6 + 1)) ≤ 40 := Decidable.not_not.mp (fun r => hx (Or.inr r))
    obtain ⟨t9, ht1, ht2, e1⟩ := rng_of (c := 40) (by decide) hx1 hx2
    exact j_bud (bc' := bc) (bs' := bs) (by omega) (by omega) (lc_passHours_ok hi hL hn h0 h63 e1 (v := (flowR su ed F S t9 lv).1) (PC := (fun E1 => CR g n ad E1 F S (hrs + nI t9) su (gone + (flowR su ed F S t9 lv).1.toInt64) ((flowR su ed F S t9 lv).2) ed (kOld old cnt) (kCnt cnt) (rowUp dr (kSlot old cnt) (cpyN lv (dr (kSlot old cnt)) (F * S))) mc mr ∧ ∀ k, 63 ≤ k → E1 k = E k)) (PM := (fun E1 E2 => MR g n ad E2 0 F S (hrs + nI t9) su (gone + (flowR su ed' F S t9 lv').1.toInt64) ((flowR su ed' F S t9 lv').2) ed' (kOld old cnt) (kCnt cnt) (va_cpy lv' ah 0 (128 * kSlot old cnt) 128) mc mk ∧ ∀ k, (k < 63 ∨ 69 ≤ k) → E2 k = E1 k)) (h_passHours_ok (nI t9) hn h0 (fun E1 p => ⟨o, (p.2 69 (by decide)).trans ho⟩) (RetP.dep (s_X3_passHours C t9 ht1 ht2) (by decide))) (fun E1 p => p.2 63 (by decide)) (fun E1 o1 p => RetP.dep (RetP.vi (s_X4_passHours_ok (MR.kept D (fun k h1 h2 => (up_ne (by omega)).trans (p.2 k h1))) t9 ht1 ht2) ((flowR_congr re rl).1.symm)) (by decide)) (fun E1 E2 q => ⟨⟨_, q.1.1⟩, q.2 69 (Or.inr (by decide))⟩) (fun E1 o1 E2 p ho1 q => K E2 ⟨0, F, S, hrs + nI t9, su, gone + (flowR su ed F S t9 lv).1.toInt64, (flowR su ed F S t9 lv).2, ed, kOld old cnt, kCnt cnt, rowUp dr (kSlot old cnt) (cpyN lv (dr (kSlot old cnt)) (F * S)), mc, mr, (flowR su ed' F S t9 lv').2, ed', va_cpy lv' ah 0 (128 * kSlot old cnt) 128, mk, CR.kept p.1 (fun k hk => (q.2 k (Or.inl hk)).trans (up_ne (by omega))), (by have z := q.1; rw [← (flowR_congr (su := su) (t := t9) re rl).1] at z; exact z), ⟨_, (q.2 69 (Or.inr (by decide))).trans up_eq⟩, hn, R.keep hfi hcn hN (flowR_congr re rl).2 ((flow_bd ht2 hSp hN rs0 rs9 reb (by omega) (by omega) (by omega) (by omega) rb).2.le (by omega) (by omega))⟩))
set_option maxRecDepth 100000 in
set_option maxHeartbeats 4000000 in
theorem st_mark {g : jG} {n : Nat} {ad : Nat → Nat} {E : Nat → va_E} {i6 bc bs i : Nat} {Φ : Option Value → jR} {Ψ : String → jR} (hi : i6 + 6 ≤ g.1.2.2.1) (hL : g.1.2.2.1 ≤ 3072) (hi5 : i ≤ 512) (Q : Sim i g n ad E) (K : ∀ E2, Sim (i + 1) g n ad E2 → J g mL_law 12 bc bs 2592 [some (.ref g.1.2.1), some (.ref (ad 0)), some (.ref (ad 63)), some (.ref (ad 69)), some (.int (nI i6)), none, none, none, none] [] n ad E2 Φ Ψ) : J g mL_law 12 (1 + bc) (15 + bs) 748 [some (.ref g.1.2.1), some (.ref (ad 0)), some (.ref (ad 63)), some (.ref (ad 69)), some (.int (nI i6)), none, none, none, none] [] n ad E Φ Ψ := by
  obtain ⟨th, F, S, hrs, su, gone, lv, ed, old, cnt, dr, mc, mr, lv', ed', ah, mk, C, D, ⟨o, ho⟩, hn, R⟩ := Q
  obtain ⟨-, -, -, -, -, -, hF, hS, hFp, hSp, hfi, hcn, hmc, -⟩ := id D
  obtain ⟨rl, re, rb, reb, rs0, rs9, rd, rm⟩ := id R
  have h0 := C.1
  have h63 := D.1
  have hN := fs128 hF hS
  by_cases hc : mc < 12
  · skip
    exact j_bud (bc' := bc) (bs' := bs) (by omega) (by omega) (lc_mark_ok hi hL hn h0 h63  (v := nI mc) (PC := (fun E1 => CR g n ad E1 F S hrs su gone lv ed old cnt dr (mc + 1) (rowUp mr mc (cpyN lv (mr mc) (F * S))) ∧ ∀ k, 63 ≤ k → E1 k = E k)) (PM := (fun E1 E2 => MR g n ad E2 0 F S hrs su gone lv' ed' old cnt ah (mc + 1) (va_cpy lv' mk 0 (128 * mc) 128) ∧ ∀ k, (k < 63 ∨ 69 ≤ k) → E2 k = E1 k)) (h_mark_ok  hn h0 (fun E1 p => ⟨o, (p.2 69 (by decide)).trans ho⟩) (RetP.dep (s_X3_mark C hc) (by decide))) (fun E1 p => p.2 63 (by decide)) (fun E1 o1 p => RetP.dep (RetP.vi (s_X4_mark_ok (MR.kept D (fun k h1 h2 => (up_ne (by omega)).trans (p.2 k h1))) hc) (rfl)) (by decide)) (fun E1 E2 q => ⟨⟨_, q.1.1⟩, q.2 69 (Or.inr (by decide))⟩) (fun E1 o1 E2 p ho1 q => K E2 ⟨0, F, S, hrs, su, gone, lv, ed, old, cnt, dr, mc + 1, rowUp mr mc (cpyN lv (mr mc) (F * S)), lv', ed', ah, va_cpy lv' mk 0 (128 * mc) 128, CR.kept p.1 (fun k hk => (q.2 k (Or.inl hk)).trans (up_ne (by omega))), q.1, ⟨_, (q.2 69 (Or.inr (by decide))).trans up_eq⟩, hn, R.mark hN⟩))
  · skip
    exact j_bud (bc' := 1 + bc) (bs' := 6 + bs) (by omega) (by omega) (lc_mark_bad hi hL hn h0 h63  (k := 1) (by decide) (h_mark_ise  hn h0 (Thr.dep (s_X3_mark_bad C (by omega)) (by decide))) (RetP.dep (s_X4_mark_bad D (by omega)) (by decide)) (fun E2 q => ⟨_, q.1.1⟩) (fun E2 q => K E2 ⟨1, F, S, hrs, su, gone, lv, ed, old, cnt, dr, mc, mr, lv', ed', ah, mk, CR.kept C (fun k hk => q.2 k (Or.inl hk)), q.1, ⟨o, (q.2 69 (Or.inr (by decide))).trans ho⟩, hn, R.le⟩))
set_option maxRecDepth 100000 in
set_option maxHeartbeats 4000000 in
theorem st_back {g : jG} {n : Nat} {ad : Nat → Nat} {E : Nat → va_E} {i6 bc bs i : Nat} {Φ : Option Value → jR} {Ψ : String → jR} (hi : i6 + 6 ≤ g.1.2.2.1) (hL : g.1.2.2.1 ≤ 3072) (hi5 : i ≤ 512) (Q : Sim i g n ad E) (K : ∀ E2, Sim (i + 1) g n ad E2 → J g mL_law 12 bc bs 2592 [some (.ref g.1.2.1), some (.ref (ad 0)), some (.ref (ad 63)), some (.ref (ad 69)), some (.int (nI i6)), none, none, none, none] [] n ad E2 Φ Ψ) : J g mL_law 12 (1 + bc) (15 + bs) 792 [some (.ref g.1.2.1), some (.ref (ad 0)), some (.ref (ad 63)), some (.ref (ad 69)), some (.int (nI i6)), none, none, none, none] [] n ad E Φ Ψ := by
  obtain ⟨th, F, S, hrs, su, gone, lv, ed, old, cnt, dr, mc, mr, lv', ed', ah, mk, C, D, ⟨o, ho⟩, hn, R⟩ := Q
  obtain ⟨-, -, -, -, -, -, hF, hS, hFp, hSp, hfi, hcn, hmc, -⟩ := id D
  obtain ⟨rl, re, rb, reb, rs0, rs9, rd, rm⟩ := id R
  have h0 := C.1
  have h63 := D.1
  have hN := fs128 hF hS
  rcases oob_or (g.1.2.2.2 (i6 + 1)) (c := mc) (by omega) with q | ⟨j, hj, e1⟩
  · skip
    exact j_bud (bc' := 1 + bc) (bs' := 6 + bs) (by omega) (by omega) (lc_back_bad hi hL hn h0 h63 rfl (k := 1) (by decide) (h_back_bad (g.1.2.2.2 (i6 + 1)) hn h0 (Thr.dep (s_X3_back_bad C (g.1.2.2.2 (i6 + 1)) q) (by decide))) (RetP.dep (s_X4_back_bad D (g.1.2.2.2 (i6 + 1)) q) (by decide)) (fun E2 q => ⟨_, q.1.1⟩) (fun E2 q => K E2 ⟨1, F, S, hrs, su, gone, lv, ed, old, cnt, dr, mc, mr, lv', ed', ah, mk, CR.kept C (fun k hk => q.2 k (Or.inl hk)), q.1, ⟨o, (q.2 69 (Or.inr (by decide))).trans ho⟩, hn, R.le⟩))
  · skip
    exact j_bud (bc' := bc) (bs' := bs) (by omega) (by omega) (lc_back_ok hi hL hn h0 h63 e1 (v := chgC lv (mr j) (F * S)) (PC := (fun E1 => CR g n ad E1 F S hrs su gone (cpyN (mr j) lv (F * S)) ed (kOld old cnt) (kCnt cnt) (rowUp dr (kSlot old cnt) (cpyN lv (dr (kSlot old cnt)) (F * S))) mc mr ∧ ∀ k, 63 ≤ k → E1 k = E k)) (PM := (fun E1 E2 => MR g n ad E2 0 F S hrs su gone (va_cpy mk lv' (128 * j) 0 128) ed' (kOld old cnt) (kCnt cnt) (va_cpy lv' ah 0 (128 * kSlot old cnt) 128) mc mk ∧ ∀ k, (k < 63 ∨ 69 ≤ k) → E2 k = E1 k)) (h_back_ok (nI j) hn h0 (fun E1 p => ⟨o, (p.2 69 (by decide)).trans ho⟩) (RetP.dep (s_X3_back C j hj) (by decide))) (fun E1 p => p.2 63 (by decide)) (fun E1 o1 p => RetP.dep (RetP.vi (s_X4_back_ok (MR.kept D (fun k h1 h2 => (up_ne (by omega)).trans (p.2 k h1))) j hj) ((chgC_congr rl (rm j hj).1).symm)) (by decide)) (fun E1 E2 q => ⟨⟨_, q.1.1⟩, q.2 69 (Or.inr (by decide))⟩) (fun E1 o1 E2 p ho1 q => K E2 ⟨0, F, S, hrs, su, gone, cpyN (mr j) lv (F * S), ed, kOld old cnt, kCnt cnt, rowUp dr (kSlot old cnt) (cpyN lv (dr (kSlot old cnt)) (F * S)), mc, mr, va_cpy mk lv' (128 * j) 0 128, ed', va_cpy lv' ah 0 (128 * kSlot old cnt) 128, mk, CR.kept p.1 (fun k hk => (q.2 k (Or.inl hk)).trans (up_ne (by omega))), q.1, ⟨_, (q.2 69 (Or.inr (by decide))).trans up_eq⟩, hn, R.keep hfi hcn hN (back_cg hN (rm j hj)).1 (back_cg (lv' := lv') hN (rm j hj)).2⟩))
set_option maxRecDepth 100000 in
set_option maxHeartbeats 4000000 in
theorem st_undo {g : jG} {n : Nat} {ad : Nat → Nat} {E : Nat → va_E} {i6 bc bs i : Nat} {Φ : Option Value → jR} {Ψ : String → jR} (hi : i6 + 6 ≤ g.1.2.2.1) (hL : g.1.2.2.1 ≤ 3072) (hi5 : i ≤ 512) (Q : Sim i g n ad E) (K : ∀ E2, Sim (i + 1) g n ad E2 → J g mL_law 12 bc bs 2592 [some (.ref g.1.2.1), some (.ref (ad 0)), some (.ref (ad 63)), some (.ref (ad 69)), some (.int (nI i6)), none, none, none, none] [] n ad E2 Φ Ψ) : J g mL_law 12 (1 + bc) (15 + bs) 848 [some (.ref g.1.2.1), some (.ref (ad 0)), some (.ref (ad 63)), some (.ref (ad 69)), some (.int (nI i6)), none, none, none, none] [] n ad E Φ Ψ := by
  obtain ⟨th, F, S, hrs, su, gone, lv, ed, old, cnt, dr, mc, mr, lv', ed', ah, mk, C, D, ⟨o, ho⟩, hn, R⟩ := Q
  obtain ⟨-, -, -, -, -, -, hF, hS, hFp, hSp, hfi, hcn, hmc, -⟩ := id D
  obtain ⟨rl, re, rb, reb, rs0, rs9, rd, rm⟩ := id R
  have h0 := C.1
  have h63 := D.1
  have hN := fs128 hF hS
  by_cases hc : 1 ≤ cnt
  · skip
    exact j_bud (bc' := bc) (bs' := bs) (by omega) (by omega) (lc_undo_ok hi hL hn h0 h63  (v := chgC lv (dr (slot old (cnt - 1) 30)) (F * S)) (PC := (fun E1 => CR g n ad E1 F S hrs su gone (cpyN (dr (slot old (cnt - 1) 30)) lv (F * S)) ed old (cnt - 1) dr mc mr ∧ ∀ k, 63 ≤ k → E1 k = E k)) (PM := (fun E1 E2 => MR g n ad E2 0 F S hrs su gone (va_cpy ah lv' (128 * slot old (cnt - 1) 30) 0 128) ed' old (cnt - 1) ah mc mk ∧ ∀ k, (k < 63 ∨ 69 ≤ k) → E2 k = E1 k)) (h_undo_ok  hn h0 (fun E1 p => ⟨o, (p.2 69 (by decide)).trans ho⟩) (RetP.dep (s_X3_undo C hc) (by decide))) (fun E1 p => p.2 63 (by decide)) (fun E1 o1 p => RetP.dep (RetP.vi (s_X4_undo_ok (MR.kept D (fun k h1 h2 => (up_ne (by omega)).trans (p.2 k h1))) hc) ((chgC_congr rl (rd (cnt - 1) (by omega)).1).symm)) (by decide)) (fun E1 E2 q => ⟨⟨_, q.1.1⟩, q.2 69 (Or.inr (by decide))⟩) (fun E1 o1 E2 p ho1 q => K E2 ⟨0, F, S, hrs, su, gone, cpyN (dr (slot old (cnt - 1) 30)) lv (F * S), ed, old, cnt - 1, dr, mc, mr, va_cpy ah lv' (128 * slot old (cnt - 1) 30) 0 128, ed', ah, mk, CR.kept p.1 (fun k hk => (q.2 k (Or.inl hk)).trans (up_ne (by omega))), q.1, ⟨_, (q.2 69 (Or.inr (by decide))).trans up_eq⟩, hn, R.undo hN hc⟩))
  · skip
    exact j_bud (bc' := 1 + bc) (bs' := 6 + bs) (by omega) (by omega) (lc_undo_bad hi hL hn h0 h63  (k := 1) (by decide) (h_undo_ise  hn h0 (Thr.dep (s_X3_undo_bad C (by omega)) (by decide))) (RetP.dep (s_X4_undo_bad D (by omega)) (by decide)) (fun E2 q => ⟨_, q.1.1⟩) (fun E2 q => K E2 ⟨1, F, S, hrs, su, gone, lv, ed, old, cnt, dr, mc, mr, lv', ed', ah, mk, CR.kept C (fun k hk => q.2 k (Or.inl hk)), q.1, ⟨o, (q.2 69 (Or.inr (by decide))).trans ho⟩, hn, R.le⟩))
set_option maxRecDepth 100000 in
set_option maxHeartbeats 4000000 in
theorem st_setSun {g : jG} {n : Nat} {ad : Nat → Nat} {E : Nat → va_E} {i6 bc bs i : Nat} {Φ : Option Value → jR} {Ψ : String → jR} (hi : i6 + 6 ≤ g.1.2.2.1) (hL : g.1.2.2.1 ≤ 3072) (hi5 : i ≤ 512) (Q : Sim i g n ad E) (K : ∀ E2, Sim (i + 1) g n ad E2 → J g mL_law 12 bc bs 2592 [some (.ref g.1.2.1), some (.ref (ad 0)), some (.ref (ad 63)), some (.ref (ad 69)), some (.int (nI i6)), none, none, none, none] [] n ad E2 Φ Ψ) : J g mL_law 12 (1 + bc) (15 + bs) 892 [some (.ref g.1.2.1), some (.ref (ad 0)), some (.ref (ad 63)), some (.ref (ad 69)), some (.int (nI i6)), none, none, none, none] [] n ad E Φ Ψ := by
  obtain ⟨th, F, S, hrs, su, gone, lv, ed, old, cnt, dr, mc, mr, lv', ed', ah, mk, C, D, ⟨o, ho⟩, hn, R⟩ := Q
  obtain ⟨-, -, -, -, -, -, hF, hS, hFp, hSp, hfi, hcn, hmc, -⟩ := id D
  obtain ⟨rl, re, rb, reb, rs0, rs9, rd, rm⟩ := id R
  have h0 := C.1
  have h63 := D.1
  have hN := fs128 hF hS
  by_cases hx : (g.1.2.2.2 (i6 + 1)) < 0 ∨ ¬ (g.1.2.2.2 (i6 + 1)) ≤ 9
  · skip
    exact j_bud (bc' := 1 + bc) (bs' := 6 + bs) (by omega) (by omega) (lc_setSun_bad hi hL hn h0 h63 rfl (k := 1) (by decide) (h_setSun_iae (g.1.2.2.2 (i6 + 1)) hn h0 (Thr.dep (s_X3_setSun_bad C  (g.1.2.2.2 (i6 + 1)) hx) (by decide))) (RetP.dep (s_X4_setSun_bad D  (g.1.2.2.2 (i6 + 1)) hx) (by decide)) (fun E2 q => ⟨_, q.1.1⟩) (fun E2 q => K E2 ⟨1, F, S, hrs, su, gone, lv, ed, old, cnt, dr, mc, mr, lv', ed', ah, mk, CR.kept C (fun k hk => q.2 k (Or.inl hk)), q.1, ⟨o, (q.2 69 (Or.inr (by decide))).trans ho⟩, hn, R.le⟩))
  · skip
    have hx1 : ¬ (g.1.2.2.2 (i6 + 1)) < 0 := fun r => hx (Or.inl r)
    have hx2 : (g.1.2.2.2 (i6 + 1)) ≤ 9 := Decidable.not_not.mp (fun r => hx (Or.inr r))
    exact j_bud (bc' := bc) (bs' := bs) (by omega) (by omega) (lc_setSun_ok hi hL hn h0 h63 rfl (v := su) (PC := (fun E1 => CR g n ad E1 F S hrs (g.1.2.2.2 (i6 + 1)) gone lv ed old cnt dr mc mr ∧ ∀ k, 63 ≤ k → E1 k = E k)) (PM := (fun E1 E2 => MR g n ad E2 0 F S hrs (g.1.2.2.2 (i6 + 1)) gone lv' ed' old cnt ah mc mk ∧ ∀ k, (k < 63 ∨ 69 ≤ k) → E2 k = E1 k)) (h_setSun_ok (g.1.2.2.2 (i6 + 1)) hn h0 (fun E1 p => ⟨o, (p.2 69 (by decide)).trans ho⟩) (RetP.dep (s_X3_setSun C (g.1.2.2.2 (i6 + 1)) hx1 hx2) (by decide))) (fun E1 p => p.2 63 (by decide)) (fun E1 o1 p => RetP.dep (RetP.vi (s_X4_setSun_ok (MR.kept D (fun k h1 h2 => (up_ne (by omega)).trans (p.2 k h1))) (g.1.2.2.2 (i6 + 1)) hx1 hx2) (rfl)) (by decide)) (fun E1 E2 q => ⟨⟨_, q.1.1⟩, q.2 69 (Or.inr (by decide))⟩) (fun E1 o1 E2 p ho1 q => K E2 ⟨0, F, S, hrs, (g.1.2.2.2 (i6 + 1)), gone, lv, ed, old, cnt, dr, mc, mr, lv', ed', ah, mk, CR.kept p.1 (fun k hk => (q.2 k (Or.inl hk)).trans (up_ne (by omega))), q.1, ⟨_, (q.2 69 (Or.inr (by decide))).trans up_eq⟩, hn, R.sun hx1 hx2⟩))
set_option maxRecDepth 100000 in
set_option maxHeartbeats 4000000 in
theorem st_setEdge {g : jG} {n : Nat} {ad : Nat → Nat} {E : Nat → va_E} {i6 bc bs i : Nat} {Φ : Option Value → jR} {Ψ : String → jR} (hi : i6 + 6 ≤ g.1.2.2.1) (hL : g.1.2.2.1 ≤ 3072) (hi5 : i ≤ 512) (Q : Sim i g n ad E) (K : ∀ E2, Sim (i + 1) g n ad E2 → J g mL_law 12 bc bs 2592 [some (.ref g.1.2.1), some (.ref (ad 0)), some (.ref (ad 63)), some (.ref (ad 69)), some (.int (nI i6)), none, none, none, none] [] n ad E2 Φ Ψ) : J g mL_law 12 (1 + bc) (15 + bs) 948 [some (.ref g.1.2.1), some (.ref (ad 0)), some (.ref (ad 63)), some (.ref (ad 69)), some (.int (nI i6)), none, none, none, none] [] n ad E Φ Ψ := by
  obtain ⟨th, F, S, hrs, su, gone, lv, ed, old, cnt, dr, mc, mr, lv', ed', ah, mk, C, D, ⟨o, ho⟩, hn, R⟩ := Q
  obtain ⟨-, -, -, -, -, -, hF, hS, hFp, hSp, hfi, hcn, hmc, -⟩ := id D
  obtain ⟨rl, re, rb, reb, rs0, rs9, rd, rm⟩ := id R
  have h0 := C.1
  have h63 := D.1
  have hN := fs128 hF hS
  rcases oob_or (g.1.2.2.2 (i6 + 1)) (c := S) (by omega) with q | ⟨b, hb, e1⟩
  · skip
    exact j_bud (bc' := 1 + bc) (bs' := 6 + bs) (by omega) (by omega) (lc_setEdge_bad hi hL hn h0 h63 rfl rfl (k := 1) (by decide) (h_setEdge_bad (g.1.2.2.2 (i6 + 1)) (g.1.2.2.2 (i6 + 2)) hn h0 (Thr.dep (s_X3_setEdge_bad C (g.1.2.2.2 (i6 + 1)) (g.1.2.2.2 (i6 + 2)) q) (by decide))) (RetP.dep (s_X4_setEdge_bad D (g.1.2.2.2 (i6 + 1)) (g.1.2.2.2 (i6 + 2)) q) (by decide)) (fun E2 q => ⟨_, q.1.1⟩) (fun E2 q => K E2 ⟨1, F, S, hrs, su, gone, lv, ed, old, cnt, dr, mc, mr, lv', ed', ah, mk, CR.kept C (fun k hk => q.2 k (Or.inl hk)), q.1, ⟨o, (q.2 69 (Or.inr (by decide))).trans ho⟩, hn, R.le⟩))
  · skip
    by_cases hx : (g.1.2.2.2 (i6 + 2)) < 0 ∨ ¬ (g.1.2.2.2 (i6 + 2)) ≤ 999
    · skip
      exact j_bud (bc' := 1 + bc) (bs' := 6 + bs) (by omega) (by omega) (lc_setEdge_bad hi hL hn h0 h63 e1 rfl (k := 2) (by decide) (h_setEdge_iae (nI b) (g.1.2.2.2 (i6 + 2)) hn h0 (Thr.dep (s_X3_setEdge_iae C b hb (g.1.2.2.2 (i6 + 2)) hx) (by decide))) (RetP.dep (s_X4_setEdge_iae D b hb (g.1.2.2.2 (i6 + 2)) hx) (by decide)) (fun E2 q => ⟨_, q.1.1⟩) (fun E2 q => K E2 ⟨2, F, S, hrs, su, gone, lv, ed, old, cnt, dr, mc, mr, lv', ed', ah, mk, CR.kept C (fun k hk => q.2 k (Or.inl hk)), q.1, ⟨o, (q.2 69 (Or.inr (by decide))).trans ho⟩, hn, R.le⟩))
    · skip
      have hx1 : ¬ (g.1.2.2.2 (i6 + 2)) < 0 := fun r => hx (Or.inl r)
      have hx2 : (g.1.2.2.2 (i6 + 2)) ≤ 999 := Decidable.not_not.mp (fun r => hx (Or.inr r))
      exact j_bud (bc' := bc) (bs' := bs) (by omega) (by omega) (lc_setEdge_ok hi hL hn h0 h63 e1 rfl (v := ed b) (PC := (fun E1 => CR g n ad E1 F S hrs su gone lv (upd ed b (g.1.2.2.2 (i6 + 2))) old cnt dr mc mr ∧ ∀ k, 63 ≤ k → E1 k = E k)) (PM := (fun E1 E2 => MR g n ad E2 0 F S hrs su gone lv' (upd ed' b (g.1.2.2.2 (i6 + 2))) old cnt ah mc mk ∧ ∀ k, (k < 63 ∨ 69 ≤ k) → E2 k = E1 k)) (h_setEdge_ok (nI b) (g.1.2.2.2 (i6 + 2)) hn h0 (fun E1 p => ⟨o, (p.2 69 (by decide)).trans ho⟩) (RetP.dep (s_X3_setEdge C b hb (g.1.2.2.2 (i6 + 2)) hx1 hx2) (by decide))) (fun E1 p => p.2 63 (by decide)) (fun E1 o1 p => RetP.dep (RetP.vi (s_X4_setEdge_ok (MR.kept D (fun k h1 h2 => (up_ne (by omega)).trans (p.2 k h1))) b hb (g.1.2.2.2 (i6 + 2)) hx1 hx2) ((re b hb).symm)) (by decide)) (fun E1 E2 q => ⟨⟨_, q.1.1⟩, q.2 69 (Or.inr (by decide))⟩) (fun E1 o1 E2 p ho1 q => K E2 ⟨0, F, S, hrs, su, gone, lv, upd ed b (g.1.2.2.2 (i6 + 2)), old, cnt, dr, mc, mr, lv', upd ed' b (g.1.2.2.2 (i6 + 2)), ah, mk, CR.kept p.1 (fun k hk => (q.2 k (Or.inl hk)).trans (up_ne (by omega))), q.1, ⟨_, (q.2 69 (Or.inr (by decide))).trans up_eq⟩, hn, R.edge hx1 hx2⟩))
set_option maxRecDepth 100000 in
set_option maxHeartbeats 4000000 in
theorem st_flights {g : jG} {n : Nat} {ad : Nat → Nat} {E : Nat → va_E} {i6 bc bs i : Nat} {Φ : Option Value → jR} {Ψ : String → jR} (hi : i6 + 6 ≤ g.1.2.2.1) (hL : g.1.2.2.1 ≤ 3072) (hi5 : i ≤ 512) (Q : Sim i g n ad E) (K : ∀ E2, Sim (i + 1) g n ad E2 → J g mL_law 12 bc bs 2592 [some (.ref g.1.2.1), some (.ref (ad 0)), some (.ref (ad 63)), some (.ref (ad 69)), some (.int (nI i6)), none, none, none, none] [] n ad E2 Φ Ψ) : J g mL_law 12 (1 + bc) (15 + bs) 1016 [some (.ref g.1.2.1), some (.ref (ad 0)), some (.ref (ad 63)), some (.ref (ad 69)), some (.int (nI i6)), none, none, none, none] [] n ad E Φ Ψ := by
  obtain ⟨th, F, S, hrs, su, gone, lv, ed, old, cnt, dr, mc, mr, lv', ed', ah, mk, C, D, ⟨o, ho⟩, hn, R⟩ := Q
  obtain ⟨-, -, -, -, -, -, hF, hS, hFp, hSp, hfi, hcn, hmc, -⟩ := id D
  obtain ⟨rl, re, rb, reb, rs0, rs9, rd, rm⟩ := id R
  have h0 := C.1
  have h63 := D.1
  have hN := fs128 hF hS
  exact j_bud (bc' := bc) (bs' := bs) (by omega) (by omega) (lc_flights hi hL hn h0 h63  (v := nI F) (PC := (fun E1 => CR g n ad E1 F S hrs su gone lv ed old cnt dr mc mr ∧ ∀ k, 63 ≤ k → E1 k = E k)) (PM := (fun E1 E2 => MR g n ad E2 0 F S hrs su gone lv' ed' old cnt ah mc mk ∧ ∀ k, (k < 63 ∨ 69 ≤ k) → E2 k = E1 k)) (Ret.toP (d := 10) (Ret.dep (s_X3_flights C ) (by decide)) ⟨C, fun _ _ => rfl⟩) (fun E1 p => p.2 63 (by decide)) (fun E1 p => RetP.dep (RetP.vi (s_X4_flights (MR.kept D (fun k h1 h2 => p.2 k h1)) ) (rfl)) (by decide)) (fun E1 E2 p q => K E2 ⟨0, F, S, hrs, su, gone, lv, ed, old, cnt, dr, mc, mr, lv', ed', ah, mk, CR.kept p.1 (fun k hk => q.2 k (Or.inl hk)), q.1, ⟨o, (q.2 69 (Or.inr (by decide))).trans ((p.2 69 (by decide)).trans ho)⟩, hn, R.le⟩))
set_option maxRecDepth 100000 in
set_option maxHeartbeats 4000000 in
theorem st_steps {g : jG} {n : Nat} {ad : Nat → Nat} {E : Nat → va_E} {i6 bc bs i : Nat} {Φ : Option Value → jR} {Ψ : String → jR} (hi : i6 + 6 ≤ g.1.2.2.1) (hL : g.1.2.2.1 ≤ 3072) (hi5 : i ≤ 512) (Q : Sim i g n ad E) (K : ∀ E2, Sim (i + 1) g n ad E2 → J g mL_law 12 bc bs 2592 [some (.ref g.1.2.1), some (.ref (ad 0)), some (.ref (ad 63)), some (.ref (ad 69)), some (.int (nI i6)), none, none, none, none] [] n ad E2 Φ Ψ) : J g mL_law 12 (1 + bc) (15 + bs) 1029 [some (.ref g.1.2.1), some (.ref (ad 0)), some (.ref (ad 63)), some (.ref (ad 69)), some (.int (nI i6)), none, none, none, none] [] n ad E Φ Ψ := by
  obtain ⟨th, F, S, hrs, su, gone, lv, ed, old, cnt, dr, mc, mr, lv', ed', ah, mk, C, D, ⟨o, ho⟩, hn, R⟩ := Q
  obtain ⟨-, -, -, -, -, -, hF, hS, hFp, hSp, hfi, hcn, hmc, -⟩ := id D
  obtain ⟨rl, re, rb, reb, rs0, rs9, rd, rm⟩ := id R
  have h0 := C.1
  have h63 := D.1
  have hN := fs128 hF hS
  exact j_bud (bc' := bc) (bs' := bs) (by omega) (by omega) (lc_steps hi hL hn h0 h63  (v := nI S) (PC := (fun E1 => CR g n ad E1 F S hrs su gone lv ed old cnt dr mc mr ∧ ∀ k, 63 ≤ k → E1 k = E k)) (PM := (fun E1 E2 => MR g n ad E2 0 F S hrs su gone lv' ed' old cnt ah mc mk ∧ ∀ k, (k < 63 ∨ 69 ≤ k) → E2 k = E1 k)) (Ret.toP (d := 10) (Ret.dep (s_X3_steps C ) (by decide)) ⟨C, fun _ _ => rfl⟩) (fun E1 p => p.2 63 (by decide)) (fun E1 p => RetP.dep (RetP.vi (s_X4_steps (MR.kept D (fun k h1 h2 => p.2 k h1)) ) (rfl)) (by decide)) (fun E1 E2 p q => K E2 ⟨0, F, S, hrs, su, gone, lv, ed, old, cnt, dr, mc, mr, lv', ed', ah, mk, CR.kept p.1 (fun k hk => q.2 k (Or.inl hk)), q.1, ⟨o, (q.2 69 (Or.inr (by decide))).trans ((p.2 69 (by decide)).trans ho)⟩, hn, R.le⟩))
set_option maxRecDepth 100000 in
set_option maxHeartbeats 4000000 in
theorem st_hours {g : jG} {n : Nat} {ad : Nat → Nat} {E : Nat → va_E} {i6 bc bs i : Nat} {Φ : Option Value → jR} {Ψ : String → jR} (hi : i6 + 6 ≤ g.1.2.2.1) (hL : g.1.2.2.1 ≤ 3072) (hi5 : i ≤ 512) (Q : Sim i g n ad E) (K : ∀ E2, Sim (i + 1) g n ad E2 → J g mL_law 12 bc bs 2592 [some (.ref g.1.2.1), some (.ref (ad 0)), some (.ref (ad 63)), some (.ref (ad 69)), some (.int (nI i6)), none, none, none, none] [] n ad E2 Φ Ψ) : J g mL_law 12 (1 + bc) (15 + bs) 1042 [some (.ref g.1.2.1), some (.ref (ad 0)), some (.ref (ad 63)), some (.ref (ad 69)), some (.int (nI i6)), none, none, none, none] [] n ad E Φ Ψ := by
  obtain ⟨th, F, S, hrs, su, gone, lv, ed, old, cnt, dr, mc, mr, lv', ed', ah, mk, C, D, ⟨o, ho⟩, hn, R⟩ := Q
  obtain ⟨-, -, -, -, -, -, hF, hS, hFp, hSp, hfi, hcn, hmc, -⟩ := id D
  obtain ⟨rl, re, rb, reb, rs0, rs9, rd, rm⟩ := id R
  have h0 := C.1
  have h63 := D.1
  have hN := fs128 hF hS
  exact j_bud (bc' := bc) (bs' := bs) (by omega) (by omega) (lc_hours hi hL hn h0 h63  (v := hrs) (PC := (fun E1 => CR g n ad E1 F S hrs su gone lv ed old cnt dr mc mr ∧ ∀ k, 63 ≤ k → E1 k = E k)) (PM := (fun E1 E2 => MR g n ad E2 0 F S hrs su gone lv' ed' old cnt ah mc mk ∧ ∀ k, (k < 63 ∨ 69 ≤ k) → E2 k = E1 k)) (Ret.toP (d := 10) (Ret.dep (s_X3_hours C ) (by decide)) ⟨C, fun _ _ => rfl⟩) (fun E1 p => p.2 63 (by decide)) (fun E1 p => RetP.dep (RetP.vi (s_X4_hours (MR.kept D (fun k h1 h2 => p.2 k h1)) ) (rfl)) (by decide)) (fun E1 E2 p q => K E2 ⟨0, F, S, hrs, su, gone, lv, ed, old, cnt, dr, mc, mr, lv', ed', ah, mk, CR.kept p.1 (fun k hk => q.2 k (Or.inl hk)), q.1, ⟨o, (q.2 69 (Or.inr (by decide))).trans ((p.2 69 (by decide)).trans ho)⟩, hn, R.le⟩))
set_option maxRecDepth 100000 in
set_option maxHeartbeats 4000000 in
theorem st_sun {g : jG} {n : Nat} {ad : Nat → Nat} {E : Nat → va_E} {i6 bc bs i : Nat} {Φ : Option Value → jR} {Ψ : String → jR} (hi : i6 + 6 ≤ g.1.2.2.1) (hL : g.1.2.2.1 ≤ 3072) (hi5 : i ≤ 512) (Q : Sim i g n ad E) (K : ∀ E2, Sim (i + 1) g n ad E2 → J g mL_law 12 bc bs 2592 [some (.ref g.1.2.1), some (.ref (ad 0)), some (.ref (ad 63)), some (.ref (ad 69)), some (.int (nI i6)), none, none, none, none] [] n ad E2 Φ Ψ) : J g mL_law 12 (1 + bc) (15 + bs) 1055 [some (.ref g.1.2.1), some (.ref (ad 0)), some (.ref (ad 63)), some (.ref (ad 69)), some (.int (nI i6)), none, none, none, none] [] n ad E Φ Ψ := by
  obtain ⟨th, F, S, hrs, su, gone, lv, ed, old, cnt, dr, mc, mr, lv', ed', ah, mk, C, D, ⟨o, ho⟩, hn, R⟩ := Q
  obtain ⟨-, -, -, -, -, -, hF, hS, hFp, hSp, hfi, hcn, hmc, -⟩ := id D
  obtain ⟨rl, re, rb, reb, rs0, rs9, rd, rm⟩ := id R
  have h0 := C.1
  have h63 := D.1
  have hN := fs128 hF hS
  exact j_bud (bc' := bc) (bs' := bs) (by omega) (by omega) (lc_sun hi hL hn h0 h63  (v := su) (PC := (fun E1 => CR g n ad E1 F S hrs su gone lv ed old cnt dr mc mr ∧ ∀ k, 63 ≤ k → E1 k = E k)) (PM := (fun E1 E2 => MR g n ad E2 0 F S hrs su gone lv' ed' old cnt ah mc mk ∧ ∀ k, (k < 63 ∨ 69 ≤ k) → E2 k = E1 k)) (Ret.toP (d := 10) (Ret.dep (s_X3_sun C ) (by decide)) ⟨C, fun _ _ => rfl⟩) (fun E1 p => p.2 63 (by decide)) (fun E1 p => RetP.dep (RetP.vi (s_X4_sun (MR.kept D (fun k h1 h2 => p.2 k h1)) ) (rfl)) (by decide)) (fun E1 E2 p q => K E2 ⟨0, F, S, hrs, su, gone, lv, ed, old, cnt, dr, mc, mr, lv', ed', ah, mk, CR.kept p.1 (fun k hk => q.2 k (Or.inl hk)), q.1, ⟨o, (q.2 69 (Or.inr (by decide))).trans ((p.2 69 (by decide)).trans ho)⟩, hn, R.le⟩))
set_option maxRecDepth 100000 in
set_option maxHeartbeats 4000000 in
theorem st_marks {g : jG} {n : Nat} {ad : Nat → Nat} {E : Nat → va_E} {i6 bc bs i : Nat} {Φ : Option Value → jR} {Ψ : String → jR} (hi : i6 + 6 ≤ g.1.2.2.1) (hL : g.1.2.2.1 ≤ 3072) (hi5 : i ≤ 512) (Q : Sim i g n ad E) (K : ∀ E2, Sim (i + 1) g n ad E2 → J g mL_law 12 bc bs 2592 [some (.ref g.1.2.1), some (.ref (ad 0)), some (.ref (ad 63)), some (.ref (ad 69)), some (.int (nI i6)), none, none, none, none] [] n ad E2 Φ Ψ) : J g mL_law 12 (1 + bc) (15 + bs) 1124 [some (.ref g.1.2.1), some (.ref (ad 0)), some (.ref (ad 63)), some (.ref (ad 69)), some (.int (nI i6)), none, none, none, none] [] n ad E Φ Ψ := by
  obtain ⟨th, F, S, hrs, su, gone, lv, ed, old, cnt, dr, mc, mr, lv', ed', ah, mk, C, D, ⟨o, ho⟩, hn, R⟩ := Q
  obtain ⟨-, -, -, -, -, -, hF, hS, hFp, hSp, hfi, hcn, hmc, -⟩ := id D
  obtain ⟨rl, re, rb, reb, rs0, rs9, rd, rm⟩ := id R
  have h0 := C.1
  have h63 := D.1
  have hN := fs128 hF hS
  exact j_bud (bc' := bc) (bs' := bs) (by omega) (by omega) (lc_marks hi hL hn h0 h63  (v := nI mc) (PC := (fun E1 => CR g n ad E1 F S hrs su gone lv ed old cnt dr mc mr ∧ ∀ k, 63 ≤ k → E1 k = E k)) (PM := (fun E1 E2 => MR g n ad E2 0 F S hrs su gone lv' ed' old cnt ah mc mk ∧ ∀ k, (k < 63 ∨ 69 ≤ k) → E2 k = E1 k)) (Ret.toP (d := 10) (Ret.dep (s_X3_marks C ) (by decide)) ⟨C, fun _ _ => rfl⟩) (fun E1 p => p.2 63 (by decide)) (fun E1 p => RetP.dep (RetP.vi (s_X4_marks (MR.kept D (fun k h1 h2 => p.2 k h1)) ) (rfl)) (by decide)) (fun E1 E2 p q => K E2 ⟨0, F, S, hrs, su, gone, lv, ed, old, cnt, dr, mc, mr, lv', ed', ah, mk, CR.kept p.1 (fun k hk => q.2 k (Or.inl hk)), q.1, ⟨o, (q.2 69 (Or.inr (by decide))).trans ((p.2 69 (by decide)).trans ho)⟩, hn, R.le⟩))
set_option maxRecDepth 100000 in
set_option maxHeartbeats 4000000 in
theorem st_deeds {g : jG} {n : Nat} {ad : Nat → Nat} {E : Nat → va_E} {i6 bc bs i : Nat} {Φ : Option Value → jR} {Ψ : String → jR} (hi : i6 + 6 ≤ g.1.2.2.1) (hL : g.1.2.2.1 ≤ 3072) (hi5 : i ≤ 512) (Q : Sim i g n ad E) (K : ∀ E2, Sim (i + 1) g n ad E2 → J g mL_law 12 bc bs 2592 [some (.ref g.1.2.1), some (.ref (ad 0)), some (.ref (ad 63)), some (.ref (ad 69)), some (.int (nI i6)), none, none, none, none] [] n ad E2 Φ Ψ) : J g mL_law 12 (1 + bc) (15 + bs) 1137 [some (.ref g.1.2.1), some (.ref (ad 0)), some (.ref (ad 63)), some (.ref (ad 69)), some (.int (nI i6)), none, none, none, none] [] n ad E Φ Ψ := by
  obtain ⟨th, F, S, hrs, su, gone, lv, ed, old, cnt, dr, mc, mr, lv', ed', ah, mk, C, D, ⟨o, ho⟩, hn, R⟩ := Q
  obtain ⟨-, -, -, -, -, -, hF, hS, hFp, hSp, hfi, hcn, hmc, -⟩ := id D
  obtain ⟨rl, re, rb, reb, rs0, rs9, rd, rm⟩ := id R
  have h0 := C.1
  have h63 := D.1
  have hN := fs128 hF hS
  exact j_bud (bc' := bc) (bs' := bs) (by omega) (by omega) (lc_deeds hi hL hn h0 h63  (v := nI cnt) (PC := (fun E1 => CR g n ad E1 F S hrs su gone lv ed old cnt dr mc mr ∧ ∀ k, 63 ≤ k → E1 k = E k)) (PM := (fun E1 E2 => MR g n ad E2 0 F S hrs su gone lv' ed' old cnt ah mc mk ∧ ∀ k, (k < 63 ∨ 69 ≤ k) → E2 k = E1 k)) (Ret.toP (d := 10) (Ret.dep (s_X3_deeds C ) (by decide)) ⟨C, fun _ _ => rfl⟩) (fun E1 p => p.2 63 (by decide)) (fun E1 p => RetP.dep (RetP.vi (s_X4_deeds (MR.kept D (fun k h1 h2 => p.2 k h1)) ) (rfl)) (by decide)) (fun E1 E2 p q => K E2 ⟨0, F, S, hrs, su, gone, lv, ed, old, cnt, dr, mc, mr, lv', ed', ah, mk, CR.kept p.1 (fun k hk => q.2 k (Or.inl hk)), q.1, ⟨o, (q.2 69 (Or.inr (by decide))).trans ((p.2 69 (by decide)).trans ho)⟩, hn, R.le⟩))
set_option maxRecDepth 100000 in
set_option maxHeartbeats 4000000 in
theorem st_gone {g : jG} {n : Nat} {ad : Nat → Nat} {E : Nat → va_E} {i6 bc bs i : Nat} {Φ : Option Value → jR} {Ψ : String → jR} (hi : i6 + 6 ≤ g.1.2.2.1) (hL : g.1.2.2.1 ≤ 3072) (hi5 : i ≤ 512) (Q : Sim i g n ad E) (K : ∀ E2, Sim (i + 1) g n ad E2 → J g mL_law 12 bc bs 2592 [some (.ref g.1.2.1), some (.ref (ad 0)), some (.ref (ad 63)), some (.ref (ad 69)), some (.int (nI i6)), none, none, none, none] [] n ad E2 Φ Ψ) : J g mL_law 12 (1 + bc) (15 + bs) 1150 [some (.ref g.1.2.1), some (.ref (ad 0)), some (.ref (ad 63)), some (.ref (ad 69)), some (.int (nI i6)), none, none, none, none] [] n ad E Φ Ψ := by
  obtain ⟨th, F, S, hrs, su, gone, lv, ed, old, cnt, dr, mc, mr, lv', ed', ah, mk, C, D, ⟨o, ho⟩, hn, R⟩ := Q
  obtain ⟨-, -, -, -, -, -, hF, hS, hFp, hSp, hfi, hcn, hmc, -⟩ := id D
  obtain ⟨rl, re, rb, reb, rs0, rs9, rd, rm⟩ := id R
  have h0 := C.1
  have h63 := D.1
  have hN := fs128 hF hS
  exact j_bud (bc' := bc) (bs' := bs) (by omega) (by omega) (lc_gone hi hL hn h0 h63  (v := gone) (PC := (fun E1 => CR g n ad E1 F S hrs su gone lv ed old cnt dr mc mr ∧ ∀ k, 63 ≤ k → E1 k = E k)) (PM := (fun E1 E2 => MR g n ad E2 0 F S hrs su gone lv' ed' old cnt ah mc mk ∧ ∀ k, (k < 63 ∨ 69 ≤ k) → E2 k = E1 k)) (Ret.toP (d := 10) (Ret.dep (s_X3_gone C ) (by decide)) ⟨C, fun _ _ => rfl⟩) (fun E1 p => p.2 63 (by decide)) (fun E1 p => RetP.dep (RetP.vl (s_X4_gone (MR.kept D (fun k h1 h2 => p.2 k h1)) ) (rfl)) (by decide)) (fun E1 E2 p q => K E2 ⟨0, F, S, hrs, su, gone, lv, ed, old, cnt, dr, mc, mr, lv', ed', ah, mk, CR.kept p.1 (fun k hk => q.2 k (Or.inl hk)), q.1, ⟨o, (q.2 69 (Or.inr (by decide))).trans ((p.2 69 (by decide)).trans ho)⟩, hn, R.le⟩))
set_option maxRecDepth 100000 in
set_option maxHeartbeats 4000000 in
theorem st_total {g : jG} {n : Nat} {ad : Nat → Nat} {E : Nat → va_E} {i6 bc bs i : Nat} {Φ : Option Value → jR} {Ψ : String → jR} (hi : i6 + 6 ≤ g.1.2.2.1) (hL : g.1.2.2.1 ≤ 3072) (hi5 : i ≤ 512) (Q : Sim i g n ad E) (K : ∀ E2, Sim (i + 1) g n ad E2 → J g mL_law 12 bc bs 2592 [some (.ref g.1.2.1), some (.ref (ad 0)), some (.ref (ad 63)), some (.ref (ad 69)), some (.int (nI i6)), none, none, none, none] [] n ad E2 Φ Ψ) : J g mL_law 12 (1 + bc) (15 + bs) 1500 [some (.ref g.1.2.1), some (.ref (ad 0)), some (.ref (ad 63)), some (.ref (ad 69)), some (.int (nI i6)), none, none, none, none] [] n ad E Φ Ψ := by
  obtain ⟨th, F, S, hrs, su, gone, lv, ed, old, cnt, dr, mc, mr, lv', ed', ah, mk, C, D, ⟨o, ho⟩, hn, R⟩ := Q
  obtain ⟨-, -, -, -, -, -, hF, hS, hFp, hSp, hfi, hcn, hmc, -⟩ := id D
  obtain ⟨rl, re, rb, reb, rs0, rs9, rd, rm⟩ := id R
  have h0 := C.1
  have h63 := D.1
  have hN := fs128 hF hS
  exact j_bud (bc' := bc) (bs' := bs) (by omega) (by omega) (lc_total hi hL hn h0 h63  (v := sumP lv S 0 0 (F - 1) (S - 1)) (PC := (fun E1 => CR g n ad E1 F S hrs su gone lv ed old cnt dr mc mr ∧ ∀ k, 63 ≤ k → E1 k = E k)) (PM := (fun E1 E2 => MR g n ad E2 0 F S hrs su gone lv' ed' old cnt ah mc mk ∧ ∀ k, (k < 63 ∨ 69 ≤ k) → E2 k = E1 k)) (Ret.toP (d := 10) (Ret.dep (s_X3_total C ) (by decide)) ⟨C, fun _ _ => rfl⟩) (fun E1 p => p.2 63 (by decide)) (fun E1 p => RetP.dep (RetP.vl (s_X4_total (MR.kept D (fun k h1 h2 => p.2 k h1)) ) ((sumP_congr rl (show F - 1 < F by omega) (show S - 1 < S by omega)).symm)) (by decide)) (fun E1 E2 p q => K E2 ⟨0, F, S, hrs, su, gone, lv, ed, old, cnt, dr, mc, mr, lv', ed', ah, mk, CR.kept p.1 (fun k hk => q.2 k (Or.inl hk)), q.1, ⟨o, (q.2 69 (Or.inr (by decide))).trans ((p.2 69 (by decide)).trans ho)⟩, hn, R.le⟩))
set_option maxRecDepth 100000 in
set_option maxHeartbeats 4000000 in
theorem st_dry {g : jG} {n : Nat} {ad : Nat → Nat} {E : Nat → va_E} {i6 bc bs i : Nat} {Φ : Option Value → jR} {Ψ : String → jR} (hi : i6 + 6 ≤ g.1.2.2.1) (hL : g.1.2.2.1 ≤ 3072) (hi5 : i ≤ 512) (Q : Sim i g n ad E) (K : ∀ E2, Sim (i + 1) g n ad E2 → J g mL_law 12 bc bs 2592 [some (.ref g.1.2.1), some (.ref (ad 0)), some (.ref (ad 63)), some (.ref (ad 69)), some (.int (nI i6)), none, none, none, none] [] n ad E2 Φ Ψ) : J g mL_law 12 (1 + bc) (15 + bs) 1729 [some (.ref g.1.2.1), some (.ref (ad 0)), some (.ref (ad 63)), some (.ref (ad 69)), some (.int (nI i6)), none, none, none, none] [] n ad E Φ Ψ := by
  obtain ⟨th, F, S, hrs, su, gone, lv, ed, old, cnt, dr, mc, mr, lv', ed', ah, mk, C, D, ⟨o, ho⟩, hn, R⟩ := Q
  obtain ⟨-, -, -, -, -, -, hF, hS, hFp, hSp, hfi, hcn, hmc, -⟩ := id D
  obtain ⟨rl, re, rb, reb, rs0, rs9, rd, rm⟩ := id R
  have h0 := C.1
  have h63 := D.1
  have hN := fs128 hF hS
  exact j_bud (bc' := bc) (bs' := bs) (by omega) (by omega) (lc_dry hi hL hn h0 h63  (v := uptC lv (F * S) 0) (PC := (fun E1 => CR g n ad E1 F S hrs su gone lv ed old cnt dr mc mr ∧ ∀ k, 63 ≤ k → E1 k = E k)) (PM := (fun E1 E2 => MR g n ad E2 0 F S hrs su gone lv' ed' old cnt ah mc mk ∧ ∀ k, (k < 63 ∨ 69 ≤ k) → E2 k = E1 k)) (Ret.toP (d := 10) (Ret.dep (s_X3_dry C ) (by decide)) ⟨C, fun _ _ => rfl⟩) (fun E1 p => p.2 63 (by decide)) (fun E1 p => RetP.dep (RetP.vi (s_X4_dry (MR.kept D (fun k h1 h2 => p.2 k h1)) ) ((dryP_flat lv' hFp hSp).trans (uptC_congr rl).symm)) (by decide)) (fun E1 E2 p q => K E2 ⟨0, F, S, hrs, su, gone, lv, ed, old, cnt, dr, mc, mr, lv', ed', ah, mk, CR.kept p.1 (fun k hk => q.2 k (Or.inl hk)), q.1, ⟨o, (q.2 69 (Or.inr (by decide))).trans ((p.2 69 (by decide)).trans ho)⟩, hn, R.le⟩))
set_option maxRecDepth 100000 in
set_option maxHeartbeats 4000000 in
theorem st_driestFlight {g : jG} {n : Nat} {ad : Nat → Nat} {E : Nat → va_E} {i6 bc bs i : Nat} {Φ : Option Value → jR} {Ψ : String → jR} (hi : i6 + 6 ≤ g.1.2.2.1) (hL : g.1.2.2.1 ≤ 3072) (hi5 : i ≤ 512) (Q : Sim i g n ad E) (K : ∀ E2, Sim (i + 1) g n ad E2 → J g mL_law 12 bc bs 2592 [some (.ref g.1.2.1), some (.ref (ad 0)), some (.ref (ad 63)), some (.ref (ad 69)), some (.int (nI i6)), none, none, none, none] [] n ad E2 Φ Ψ) : J g mL_law 12 (1 + bc) (15 + bs) 1854 [some (.ref g.1.2.1), some (.ref (ad 0)), some (.ref (ad 63)), some (.ref (ad 69)), some (.int (nI i6)), none, none, none, none] [] n ad E Φ Ψ := by
  obtain ⟨th, F, S, hrs, su, gone, lv, ed, old, cnt, dr, mc, mr, lv', ed', ah, mk, C, D, ⟨o, ho⟩, hn, R⟩ := Q
  obtain ⟨-, -, -, -, -, -, hF, hS, hFp, hSp, hfi, hcn, hmc, -⟩ := id D
  obtain ⟨rl, re, rb, reb, rs0, rs9, rd, rm⟩ := id R
  have h0 := C.1
  have h63 := D.1
  have hN := fs128 hF hS
  exact j_bud (bc' := bc) (bs' := bs) (by omega) (by omega) (lc_driestFlight hi hL hn h0 h63  (v := nI (driestR lv F S).1) (PC := (fun E1 => CR g n ad E1 F S hrs su gone lv ed old cnt dr mc mr ∧ ∀ k, 63 ≤ k → E1 k = E k)) (PM := (fun E1 E2 => MR g n ad E2 0 F S hrs su gone lv' ed' old cnt ah mc mk ∧ ∀ k, (k < 63 ∨ 69 ≤ k) → E2 k = E1 k)) (Ret.toP (d := 10) (Ret.dep (s_X3_driestFlight C ) (by decide)) ⟨C, fun _ _ => rfl⟩) (fun E1 p => p.2 63 (by decide)) (fun E1 p => RetP.dep (RetP.vi (s_X4_driestFlight (MR.kept D (fun k h1 h2 => p.2 k h1)) ) (congrArg nI ((driestM_eq lv' hFp hSp hS).trans (congrArg Prod.fst (driest_cg rl hSp)).symm))) (by decide)) (fun E1 E2 p q => K E2 ⟨0, F, S, hrs, su, gone, lv, ed, old, cnt, dr, mc, mr, lv', ed', ah, mk, CR.kept p.1 (fun k hk => q.2 k (Or.inl hk)), q.1, ⟨o, (q.2 69 (Or.inr (by decide))).trans ((p.2 69 (by decide)).trans ho)⟩, hn, R.le⟩))
set_option maxRecDepth 100000 in
set_option maxHeartbeats 4000000 in
theorem st_upTo {g : jG} {n : Nat} {ad : Nat → Nat} {E : Nat → va_E} {i6 bc bs i : Nat} {Φ : Option Value → jR} {Ψ : String → jR} (hi : i6 + 6 ≤ g.1.2.2.1) (hL : g.1.2.2.1 ≤ 3072) (hi5 : i ≤ 512) (Q : Sim i g n ad E) (K : ∀ E2, Sim (i + 1) g n ad E2 → J g mL_law 12 bc bs 2592 [some (.ref g.1.2.1), some (.ref (ad 0)), some (.ref (ad 63)), some (.ref (ad 69)), some (.int (nI i6)), none, none, none, none] [] n ad E2 Φ Ψ) : J g mL_law 12 (1 + bc) (15 + bs) 2015 [some (.ref g.1.2.1), some (.ref (ad 0)), some (.ref (ad 63)), some (.ref (ad 69)), some (.int (nI i6)), none, none, none, none] [] n ad E Φ Ψ := by
  obtain ⟨th, F, S, hrs, su, gone, lv, ed, old, cnt, dr, mc, mr, lv', ed', ah, mk, C, D, ⟨o, ho⟩, hn, R⟩ := Q
  obtain ⟨-, -, -, -, -, -, hF, hS, hFp, hSp, hfi, hcn, hmc, -⟩ := id D
  obtain ⟨rl, re, rb, reb, rs0, rs9, rd, rm⟩ := id R
  have h0 := C.1
  have h63 := D.1
  have hN := fs128 hF hS
  exact j_bud (bc' := bc) (bs' := bs) (by omega) (by omega) (lc_upTo hi hL hn h0 h63 rfl (v := uptC lv (F * S) (g.1.2.2.2 (i6 + 1))) (PC := (fun E1 => CR g n ad E1 F S hrs su gone lv ed old cnt dr mc mr ∧ ∀ k, 63 ≤ k → E1 k = E k)) (PM := (fun E1 E2 => MR g n ad E2 0 F S hrs su gone lv' ed' old cnt ah mc mk ∧ ∀ k, (k < 63 ∨ 69 ≤ k) → E2 k = E1 k)) (Ret.toP (d := 10) (Ret.dep (s_X3_upTo C (g.1.2.2.2 (i6 + 1))) (by decide)) ⟨C, fun _ _ => rfl⟩) (fun E1 p => p.2 63 (by decide)) (fun E1 p => RetP.dep (RetP.vi (s_X4_upTo (MR.kept D (fun k h1 h2 => p.2 k h1)) (g.1.2.2.2 (i6 + 1))) ((uptC_congr rl).symm)) (by decide)) (fun E1 E2 p q => K E2 ⟨0, F, S, hrs, su, gone, lv, ed, old, cnt, dr, mc, mr, lv', ed', ah, mk, CR.kept p.1 (fun k hk => q.2 k (Or.inl hk)), q.1, ⟨o, (q.2 69 (Or.inr (by decide))).trans ((p.2 69 (by decide)).trans ho)⟩, hn, R.le⟩))
set_option maxRecDepth 100000 in
set_option maxHeartbeats 4000000 in
theorem st_outOfOrder {g : jG} {n : Nat} {ad : Nat → Nat} {E : Nat → va_E} {i6 bc bs i : Nat} {Φ : Option Value → jR} {Ψ : String → jR} (hi : i6 + 6 ≤ g.1.2.2.1) (hL : g.1.2.2.1 ≤ 3072) (hi5 : i ≤ 512) (Q : Sim i g n ad E) (K : ∀ E2, Sim (i + 1) g n ad E2 → J g mL_law 12 bc bs 2592 [some (.ref g.1.2.1), some (.ref (ad 0)), some (.ref (ad 63)), some (.ref (ad 69)), some (.int (nI i6)), none, none, none, none] [] n ad E2 Φ Ψ) : J g mL_law 12 (1 + bc) (15 + bs) 2096 [some (.ref g.1.2.1), some (.ref (ad 0)), some (.ref (ad 63)), some (.ref (ad 69)), some (.int (nI i6)), none, none, none, none] [] n ad E Φ Ψ := by
  obtain ⟨th, F, S, hrs, su, gone, lv, ed, old, cnt, dr, mc, mr, lv', ed', ah, mk, C, D, ⟨o, ho⟩, hn, R⟩ := Q
  obtain ⟨-, -, -, -, -, -, hF, hS, hFp, hSp, hfi, hcn, hmc, -⟩ := id D
  obtain ⟨rl, re, rb, reb, rs0, rs9, rd, rm⟩ := id R
  have h0 := C.1
  have h63 := D.1
  have hN := fs128 hF hS
  exact j_bud (bc' := bc) (bs' := bs) (by omega) (by omega) (lc_outOfOrder hi hL hn h0 h63  (v := outS (cntOf lv S) F 0 0) (PC := (fun E1 => CR g n ad E1 F S hrs su gone lv ed old cnt dr mc mr ∧ ∀ k, 63 ≤ k → E1 k = E k)) (PM := (fun E1 E2 => MR g n ad E2 0 F S hrs su gone lv' ed' old cnt ah mc mk ∧ ∀ k, (k < 63 ∨ 69 ≤ k) → E2 k = E1 k)) (RetP.dep (s_X3_outOfOrder C ) (by decide)) (fun E1 p => p.2 63 (by decide)) (fun E1 p => RetP.dep (RetP.vi (s_X4_outOfOrder (MR.kept D (fun k h1 h2 => p.2 k h1)) ) ((pairs_00 lv' hFp hSp).trans (out_cg rl hFp hFp).symm)) (by decide)) (fun E1 E2 p q => K E2 ⟨0, F, S, hrs, su, gone, lv, ed, old, cnt, dr, mc, mr, lv', ed', ah, mk, CR.kept p.1 (fun k hk => q.2 k (Or.inl hk)), q.1, ⟨o, (q.2 69 (Or.inr (by decide))).trans ((p.2 69 (by decide)).trans ho)⟩, hn, R.le⟩))
set_option maxRecDepth 100000 in
set_option maxHeartbeats 4000000 in
theorem st_hoursUntilDry {g : jG} {n : Nat} {ad : Nat → Nat} {E : Nat → va_E} {i6 bc bs i : Nat} {Φ : Option Value → jR} {Ψ : String → jR} (hi : i6 + 6 ≤ g.1.2.2.1) (hL : g.1.2.2.1 ≤ 3072) (hi5 : i ≤ 512) (Q : Sim i g n ad E) (K : ∀ E2, Sim (i + 1) g n ad E2 → J g mL_law 12 bc bs 2592 [some (.ref g.1.2.1), some (.ref (ad 0)), some (.ref (ad 63)), some (.ref (ad 69)), some (.int (nI i6)), none, none, none, none] [] n ad E2 Φ Ψ) : J g mL_law 12 (1 + bc) (15 + bs) 2344 [some (.ref g.1.2.1), some (.ref (ad 0)), some (.ref (ad 63)), some (.ref (ad 69)), some (.int (nI i6)), none, none, none, none] [] n ad E Φ Ψ := by
  obtain ⟨th, F, S, hrs, su, gone, lv, ed, old, cnt, dr, mc, mr, lv', ed', ah, mk, C, D, ⟨o, ho⟩, hn, R⟩ := Q
  obtain ⟨-, -, -, -, -, -, hF, hS, hFp, hSp, hfi, hcn, hmc, -⟩ := id D
  obtain ⟨rl, re, rb, reb, rs0, rs9, rd, rm⟩ := id R
  have h0 := C.1
  have h63 := D.1
  have hN := fs128 hF hS
  exact j_bud (bc' := bc) (bs' := bs) (by omega) (by omega) (lc_hoursUntilDry hi hL hn h0 h63  (v := untilD su ed F S lv) (PC := (fun E1 => CR g n ad E1 F S hrs su gone lv ed old cnt dr mc mr ∧ ∀ k, 63 ≤ k → E1 k = E k)) (PM := (fun E1 E2 => MR g n ad E2 0 F S hrs su gone lv' ed' old cnt ah mc mk ∧ ∀ k, (k < 63 ∨ 69 ≤ k) → E2 k = E1 k)) (RetP.dep (s_X3_hoursUntilDry C ) (by decide)) (fun E1 p => p.2 63 (by decide)) (fun E1 p => RetP.dep (RetP.vi (s_X4_hoursUntilDry (MR.kept D (fun k h1 h2 => p.2 k h1)) ) ((untilD_congr re rl).symm)) (by decide)) (fun E1 E2 p q => K E2 ⟨0, F, S, hrs, su, gone, lv, ed, old, cnt, dr, mc, mr, lv', ed', ah, mk, CR.kept p.1 (fun k hk => q.2 k (Or.inl hk)), q.1, ⟨o, (q.2 69 (Or.inr (by decide))).trans ((p.2 69 (by decide)).trans ho)⟩, hn, R.le⟩))
set_option maxRecDepth 100000 in
set_option maxHeartbeats 4000000 in
theorem st_meanLevel {g : jG} {n : Nat} {ad : Nat → Nat} {E : Nat → va_E} {i6 bc bs i : Nat} {Φ : Option Value → jR} {Ψ : String → jR} (hi : i6 + 6 ≤ g.1.2.2.1) (hL : g.1.2.2.1 ≤ 3072) (hi5 : i ≤ 512) (Q : Sim i g n ad E) (K : ∀ E2, Sim (i + 1) g n ad E2 → J g mL_law 12 bc bs 2592 [some (.ref g.1.2.1), some (.ref (ad 0)), some (.ref (ad 63)), some (.ref (ad 69)), some (.int (nI i6)), none, none, none, none] [] n ad E2 Φ Ψ) : J g mL_law 12 (1 + bc) (15 + bs) 2537 [some (.ref g.1.2.1), some (.ref (ad 0)), some (.ref (ad 63)), some (.ref (ad 69)), some (.int (nI i6)), none, none, none, none] [] n ad E Φ Ψ := by
  obtain ⟨th, F, S, hrs, su, gone, lv, ed, old, cnt, dr, mc, mr, lv', ed', ah, mk, C, D, ⟨o, ho⟩, hn, R⟩ := Q
  obtain ⟨-, -, -, -, -, -, hF, hS, hFp, hSp, hfi, hcn, hmc, -⟩ := id D
  obtain ⟨rl, re, rb, reb, rs0, rs9, rd, rm⟩ := id R
  have h0 := C.1
  have h63 := D.1
  have hN := fs128 hF hS
  exact j_bud (bc' := bc) (bs' := bs) (by omega) (by omega) (lc_meanLevel hi hL hn h0 h63  (v := meanD lv F S) (PC := (fun E1 => CR g n ad E1 F S hrs su gone lv ed old cnt dr mc mr ∧ ∀ k, 63 ≤ k → E1 k = E k)) (PM := (fun E1 E2 => MR g n ad E2 0 F S hrs su gone lv' ed' old cnt ah mc mk ∧ ∀ k, (k < 63 ∨ 69 ≤ k) → E2 k = E1 k)) (Ret.toP (d := 10) (Ret.dep (s_X3_meanLevel C ) (by decide)) ⟨C, fun _ _ => rfl⟩) (fun E1 p => p.2 63 (by decide)) (fun E1 p => RetP.dep (RetP.vd (s_X4_meanLevel (MR.kept D (fun k h1 h2 => p.2 k h1)) ) ((mean_cg rl hFp hSp).symm)) (by decide)) (fun E1 E2 p q => K E2 ⟨0, F, S, hrs, su, gone, lv, ed, old, cnt, dr, mc, mr, lv', ed', ah, mk, CR.kept p.1 (fun k hk => q.2 k (Or.inl hk)), q.1, ⟨o, (q.2 69 (Or.inr (by decide))).trans ((p.2 69 (by decide)).trans ho)⟩, hn, R.le⟩))
set_option maxRecDepth 100000 in
set_option maxHeartbeats 4000000 in
theorem st_digest {g : jG} {n : Nat} {ad : Nat → Nat} {E : Nat → va_E} {i6 bc bs i : Nat} {Φ : Option Value → jR} {Ψ : String → jR} (hi : i6 + 6 ≤ g.1.2.2.1) (hL : g.1.2.2.1 ≤ 3072) (hi5 : i ≤ 512) (Q : Sim i g n ad E) (K : ∀ E2, Sim (i + 1) g n ad E2 → J g mL_law 12 bc bs 2592 [some (.ref g.1.2.1), some (.ref (ad 0)), some (.ref (ad 63)), some (.ref (ad 69)), some (.int (nI i6)), none, none, none, none] [] n ad E2 Φ Ψ) : J g mL_law 12 (1 + bc) (15 + bs) 2578 [some (.ref g.1.2.1), some (.ref (ad 0)), some (.ref (ad 63)), some (.ref (ad 69)), some (.int (nI i6)), none, none, none, none] [] n ad E Φ Ψ := by
  obtain ⟨th, F, S, hrs, su, gone, lv, ed, old, cnt, dr, mc, mr, lv', ed', ah, mk, C, D, ⟨o, ho⟩, hn, R⟩ := Q
  obtain ⟨-, -, -, -, -, -, hF, hS, hFp, hSp, hfi, hcn, hmc, -⟩ := id D
  obtain ⟨rl, re, rb, reb, rs0, rs9, rd, rm⟩ := id R
  have h0 := C.1
  have h63 := D.1
  have hN := fs128 hF hS
  exact j_bud (bc' := 1 + bc) (bs' := 15 + bs) (by omega) (by omega) (lc_digest hi hL hn h0 h63  (v := dgAll hrs su gone lv ed F S cnt mc mr) (PC := (fun E1 => CR g n ad E1 F S hrs su gone lv ed old cnt dr mc mr ∧ ∀ k, 63 ≤ k → E1 k = E k)) (PM := (fun E1 E2 => MR g n ad E2 0 F S hrs su gone lv' ed' old cnt ah mc mk ∧ ∀ k, (k < 63 ∨ 69 ≤ k) → E2 k = E1 k)) (RetP.dep (s_X3_digest C ) (by decide)) (fun E1 p => p.2 63 (by decide)) (fun E1 p Φ1 Ψ1 z => j_dep (d' := 5) (by decide) (s_X4_digest (MR.kept D (fun k h1 h2 => p.2 k h1)) Φ1 Ψ1 (fun E2 q => by have y := z E2 q; rw [dig_cg hFp hF hSp hS re rl (fun j hj => (rm j hj).1)] at y; exact y))) (fun E1 E2 p q => K E2 ⟨0, F, S, hrs, su, gone, lv, ed, old, cnt, dr, mc, mr, lv', ed', ah, mk, CR.kept p.1 (fun k hk => q.2 k (Or.inl hk)), q.1, ⟨o, (q.2 69 (Or.inr (by decide))).trans ((p.2 69 (by decide)).trans ho)⟩, hn, R.le⟩))
