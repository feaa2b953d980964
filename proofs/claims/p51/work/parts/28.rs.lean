/-! Class and Sim in step. -/
def GR (i N : Nat) (r r' : Nat → Int32) : Prop := (∀ k, k < N → r k = r' k) ∧ BD (-(99 * (i : Int))) (999 + 99 * (i : Int)) N r
theorem GR.le {i N : Nat} {r r' : Nat → Int32} (h : GR i N r r') : GR (i + 1) N r r' := ⟨h.1, h.2.le (by omega) (by omega)⟩
def RS (i F S : Nat) (su : Int32) (lv ed : Nat → Int32) (old cnt : Nat) (dr : Nat → Nat → Int32) (mc : Nat) (mr : Nat → Nat → Int32) (m : Nat → Nat → Int32) (e : Nat → Int32) (A B : Nat → Nat → Nat → Int32) : Prop :=
  (∀ k, k < F * S → lv k = flS m S k) ∧ (∀ s, s < S → ed s = e s) ∧ BD (-(99 * (i : Int))) (999 + 99 * (i : Int)) (F * S) lv ∧ EB S ed ∧ 0 ≤ su.toInt ∧ su.toInt ≤ 9 ∧ (∀ p, p < cnt → GR i (F * S) (dr (slot old p 30)) (flS (A p) S)) ∧ ∀ j, j < mc → GR i (F * S) (mr j) (flS (B j) S)
section RSL
variable {i F S : Nat} {su : Int32} {lv ed : Nat → Int32} {old cnt : Nat} {dr : Nat → Nat → Int32} {mc : Nat} {mr : Nat → Nat → Int32} {m : Nat → Nat → Int32} {e : Nat → Int32} {A B : Nat → Nat → Nat → Int32}
theorem RS.le (R : RS i F S su lv ed old cnt dr mc mr m e A B) : RS (i + 1) F S su lv ed old cnt dr mc mr m e A B := by
  obtain ⟨rl, re, rb, reb, rs0, rs9, rd, rm⟩ := R
  exact ⟨rl, re, rb.le (by omega) (by omega), reb, rs0, rs9, fun p hp => (rd p hp).le, fun j hj => (rm j hj).le⟩
theorem keC_eq {c : Nat} (h : c ≤ 30) : keC c = kCnt c := by
  unfold keC kCnt
  split <;> split <;> omega
theorem keep_at {old cnt p : Nat} (h1 : old < 30) (h2 : cnt ≤ 30) (hp : p < kCnt cnt) (A : Nat → Nat → Nat → Int32) (m : Nat → Nat → Int32) : (slot (kOld old cnt) p 30 = kSlot old cnt ∧ keA cnt A m p = m) ∨ (slot (kOld old cnt) p 30 ≠ kSlot old cnt ∧ ∃ p', p' < cnt ∧ slot (kOld old cnt) p 30 = slot old p' 30 ∧ keA cnt A m p = A p') := by
  unfold kCnt at hp
  unfold keA
  by_cases hc : cnt < 30
  · rw [if_pos hc] at hp
    have e1 : kOld old cnt = old := if_pos hc
    have e2 : kSlot old cnt = slot old cnt 30 := if_pos hc
    rw [e1, e2, if_neg (by omega)]
    by_cases q : p = cnt
    · left
      rw [q, if_neg (by omega)]
      exact ⟨rfl, rfl⟩
    · refine Or.inr ⟨?_, p, by omega, rfl, if_pos (by omega)⟩
      unfold slot
      split <;> split <;> omega
  · rw [if_neg hc] at hp
    have hc30 : cnt = 30 := by omega
    have e1 : kOld old cnt = (if old + 1 < 30 then old + 1 else 0) := if_neg hc
    have e2 : kSlot old cnt = old := if_neg hc
    have e3 : (if cnt = 30 then (if p < 29 then A (p + 1) else m) else (if p < cnt then A p else m)) = if p < 29 then A (p + 1) else m := if_pos hc30
    rw [e1, e2, e3]
    by_cases q : p = 29
    · left
      subst q
      refine ⟨?_, if_neg (Nat.lt_irrefl _)⟩
      unfold slot
      split <;> split <;> omega
    · refine Or.inr ⟨?_, p + 1, by omega, ?_, if_pos (by omega)⟩
      · unfold slot
        split <;> split <;> omega
      · unfold slot
        split <;> split <;> split <;> omega
theorem RS.keep {ln : Nat → Int32} {mn : Nat → Nat → Int32} (R : RS i F S su lv ed old cnt dr mc mr m e A B) (h1 : old < 30) (h2 : cnt ≤ 30) (hl : ∀ k, k < F * S → ln k = flS mn S k) (hb : BD (-(99 * (i : Int)) - 99) (999 + 99 * (i : Int) + 99) (F * S) ln) : RS (i + 1) F S su ln ed (kOld old cnt) (kCnt cnt) (rowUp dr (kSlot old cnt) (cpyN lv (dr (kSlot old cnt)) (F * S))) mc mr mn e (keA cnt A m) B := by
  obtain ⟨rl, re, rb, reb, rs0, rs9, rd, rm⟩ := R
  refine ⟨hl, re, hb.le (by omega) (by omega), reb, rs0, rs9, fun p hp => ?_, fun j hj => (rm j hj).le⟩
  rcases keep_at h1 h2 hp A m with ⟨e1, e2⟩ | ⟨ne, p', hp', e1, e2⟩
  · rw [e1, e2, rowUp_at]
    refine ⟨fun k hk => ?_, fun k hk => ?_⟩
    · rw [cpyN_lt hk]
      exact rl k hk
    · rw [cpyN_lt hk]
      exact (rb.le (lo' := -(99 * ((i + 1 : Nat) : Int))) (hi' := 999 + 99 * ((i + 1 : Nat) : Int)) (by omega) (by omega)) k hk
  · have q := (rd p' hp').le
    rw [← e1] at q
    have er : rowUp dr (kSlot old cnt) (cpyN lv (dr (kSlot old cnt)) (F * S)) (slot (kOld old cnt) p 30) = dr (slot (kOld old cnt) p 30) := if_neg ne
    rw [er, e2]
    exact q
theorem RS.lay {a b : Nat} (R : RS i F S su lv ed old cnt dr mc mr m e A B) (ha : a ≤ 8) (hb : b ≤ 16) : RS (i + 1) a b su (cpyN (fun _ => 0) lv 128) (cpyN (fun _ => 50) ed 16) 0 0 dr 0 mr (fun _ _ => 0) (fifty b b) A B := by
  obtain ⟨rl, re, rb, reb, rs0, rs9, rd, rm⟩ := R
  have hab := fs128 ha hb
  have z5 : (50 : Int32).toInt = 50 := by decide
  refine ⟨fun k hk => ?_, fun s hs => ?_, fun k hk => ?_, fun s hs => ?_, rs0, rs9, fun p hp => absurd hp (Nat.not_lt_zero p), fun p hp => absurd hp (Nat.not_lt_zero p)⟩
  · rw [cpyN_lt (by omega)]
    rfl
  · rw [cpyN_lt (by omega)]
    exact (if_pos hs).symm
  · rw [cpyN_lt (by omega), z_i]
    omega
  · rw [cpyN_lt (by omega), z5]
    omega
theorem RS.mark (R : RS i F S su lv ed old cnt dr mc mr m e A B) : RS (i + 1) F S su lv ed old cnt dr (mc + 1) (rowUp mr mc (cpyN lv (mr mc) (F * S))) m e A (fun k => if k < mc then B k else m) := by
  obtain ⟨rl, re, rb, reb, rs0, rs9, rd, rm⟩ := R
  refine ⟨rl, re, rb.le (by omega) (by omega), reb, rs0, rs9, fun p hp => (rd p hp).le, fun j hj => ?_⟩
  by_cases q : j = mc
  · subst q
    dsimp only
    rw [rowUp_at, if_neg (Nat.lt_irrefl _)]
    refine ⟨fun k hk => ?_, fun k hk => ?_⟩
    · rw [cpyN_lt hk]
      exact rl k hk
    · rw [cpyN_lt hk]
      exact (rb.le (lo' := -(99 * ((i + 1 : Nat) : Int))) (hi' := 999 + 99 * ((i + 1 : Nat) : Int)) (by omega) (by omega)) k hk
  · have r := (rm j (by omega)).le
    have er : rowUp mr mc (cpyN lv (mr mc) (F * S)) j = mr j := if_neg q
    dsimp only
    rw [er, if_pos (show j < mc by omega)]
    exact r
theorem RS.undo (R : RS i F S su lv ed old cnt dr mc mr m e A B) (hc : 1 ≤ cnt) : RS (i + 1) F S su (cpyN (dr (slot old (cnt - 1) 30)) lv (F * S)) ed old (cnt - 1) dr mc mr (A (cnt - 1)) e A B := by
  obtain ⟨rl, re, rb, reb, rs0, rs9, rd, rm⟩ := R
  have r := (rd (cnt - 1) (by omega)).le
  refine ⟨fun k hk => ?_, re, fun k hk => ?_, reb, rs0, rs9, fun p hp => (rd p (by omega)).le, fun j hj => (rm j hj).le⟩
  · rw [cpyN_lt hk]
    exact r.1 k hk
  · rw [cpyN_lt hk]
    exact r.2 k hk
theorem back_cg {N : Nat} {j : Nat} {row : Nat → Int32} (r : GR i N (mr j) row) : (∀ k, k < N → cpyN (mr j) lv N k = row k) ∧ BD (-(99 * (i : Int)) - 99) (999 + 99 * (i : Int) + 99) N (cpyN (mr j) lv N) := by
  refine ⟨fun k hk => ?_, fun k hk => ?_⟩
  · rw [cpyN_lt hk]
    exact r.1 k hk
  · rw [cpyN_lt hk]
    exact (r.2.le (lo' := -(99 * (i : Int)) - 99) (hi' := 999 + 99 * (i : Int) + 99) (by omega) (by omega)) k hk
theorem RS.sun {x : Int32} (R : RS i F S su lv ed old cnt dr mc mr m e A B) (h1 : 0 ≤ x.toInt) (h2 : x.toInt ≤ 9) : RS (i + 1) F S x lv ed old cnt dr mc mr m e A B := by
  obtain ⟨rl, re, rb, reb, -, -, rd, rm⟩ := R.le
  exact ⟨rl, re, rb, reb, h1, h2, rd, rm⟩
theorem RS.edge {b : Nat} {x : Int32} (R : RS i F S su lv ed old cnt dr mc mr m e A B) (h1 : 0 ≤ x.toInt) (h2 : x.toInt ≤ 999) : RS (i + 1) F S su lv (upd ed b x) old cnt dr mc mr m (upd e b x) A B := by
  obtain ⟨rl, re, rb, reb, rs0, rs9, rd, rm⟩ := R.le
  refine ⟨rl, upd_cg rfl re, rb, fun s hs => ?_, rs0, rs9, rd, rm⟩
  unfold upd
  by_cases q : s = b
  · rw [if_pos q]
    omega
  · rw [if_neg q]
    exact reb s hs
end RSL
/-- the Sim at told places -/
def SX (g : jG) (n : Nat) (ad : Nat → Nat) (E : Nat → va_E) (iL iE : Nat) (r : Nat → Nat) (ia im F S : Nat) (sun hrs : Int32) (gone : Int64) (m : Nat → Nat → Int32) (e : Nat → Int32) (c : Nat) (A : Nat → Nat → Nat → Int32) (mc : Nat) (B : Nat → Nat → Nat → Int32) : Prop :=
  SV g n ad E 63 iL iE r F S sun hrs gone m e (.ref (ad ia)) (.ref (ad im)) ∧ (63 ≤ iL ∧ 63 ≤ iE ∧ ∀ f, f < F → 63 ≤ r f) ∧ KL g n ad E (fun k => Mu 63 iL iE F r k ∨ k < 63) ia c F S A ∧ KL g n ad E (fun k => Mu 63 iL iE F r k ∨ k < 63) im mc F S B
section SXL
variable {g : jG} {n n' : Nat} {ad ad' : Nat → Nat} {E E' : Nat → va_E} {iL iE : Nat} {r : Nat → Nat} {ia im F S : Nat} {sun hrs sun' hrs' : Int32} {gone gone' : Int64} {m : Nat → Nat → Int32} {e e' : Nat → Int32} {c mc : Nat} {A B : Nat → Nat → Nat → Int32}
theorem SX.sr (X : SX g n ad E iL iE r ia im F S sun hrs gone m e c A mc B) : SR g n ad E F S sun hrs gone m e c A mc B := ⟨iL, iE, r, ia, im, X⟩
theorem SX.upd0 (X : SX g n ad E iL iE r ia im F S sun hrs gone m e c A mc B) {k : Nat} {x : va_E} (hk : Mu 63 iL iE F r k) : KL g n ad (va_up E k x) (fun k => Mu 63 iL iE F r k ∨ k < 63) ia c F S A ∧ KL g n ad (va_up E k x) (fun k => Mu 63 iL iE F r k ∨ k < 63) im mc F S B :=
  ⟨X.2.2.1.tr (Nat.le_refl _) (fun _ _ => rfl) (fun j _ hX => up_ne (fun z => hX (Or.inl (z ▸ hk)))) (fun _ _ q => q), X.2.2.2.tr (Nat.le_refl _) (fun _ _ => rfl) (fun j _ hX => up_ne (fun z => hX (Or.inl (z ▸ hk)))) (fun _ _ q => q)⟩
theorem SX.row (X : SX g n ad E iL iE r ia im F S sun hrs gone m e c A mc B) {f : Nat} {h : Nat → Int32} (hf : f < F) : SX g n ad (va_up E (r f) (aI g S h)) iL iE r ia im F S sun hrs gone (mup m f h) e c A mc B :=
  ⟨X.1.setM hf, X.2.1, X.upd0 (Or.inr (Or.inr (Or.inr ⟨f, hf, rfl⟩)))⟩
theorem SX.top (X : SX g n ad E iL iE r ia im F S sun hrs gone m e c A mc B) : SX g n ad (va_up E 63 (.inr (4, [.ref (ad iL), .ref (ad iE), .int sun', .int hrs', .long gone', .ref (ad ia), .ref (ad im)]))) iL iE r ia im F S sun' hrs' gone' m e c A mc B :=
  ⟨X.1.setTop, X.2.1, X.upd0 (Or.inl rfl)⟩
theorem SX.edge (X : SX g n ad E iL iE r ia im F S sun hrs gone m e c A mc B) : SX g n ad (va_up E iE (aI g S e')) iL iE r ia im F S sun hrs gone m e' c A mc B :=
  ⟨X.1.setE, X.2.1, X.upd0 (Or.inr (Or.inr (Or.inl rfl)))⟩
theorem SX.tr (X : SX g n ad E iL iE r ia im F S sun hrs gone m e c A mc B) (hn : n ≤ n') (ha : ∀ i, i < n → ad' i = ad i) (hE : ∀ k, 63 ≤ k → k < n → E' k = E k) : SX g n' ad' E' iL iE r ia im F S sun hrs gone m e c A mc B := by
  obtain ⟨V, ⟨l1, l2, l3⟩, K1, K2⟩ := X
  obtain ⟨⟨b1, b2, b3, b4⟩, h2, h3, h4, h5, h6, h7, h8⟩ := V
  refine ⟨⟨⟨by omega, by omega, by omega, fun f hf => by have := b4 f hf; omega⟩, h2, h3, ?_, ?_, (hE _ l2 b3).trans h6, fun f hf => (hE _ (l3 f hf) (b4 f hf)).trans (h7 f hf), h8⟩, ⟨l1, l2, l3⟩, K1.tr hn ha (fun k hk q => hE k (Nat.not_lt.mp fun z => q (Or.inr z)) hk) (fun _ _ q => q), K2.tr hn ha (fun k hk q => hE k (Nat.not_lt.mp fun z => q (Or.inr z)) hk) (fun _ _ q => q)⟩
  · rw [hE _ (Nat.le_refl _) b1, h4, ha _ b2, ha _ b3, ha _ K1.1.1, ha _ K2.1.1]
  · rw [hE _ l1 b2, h5]
    exact aO_cg (refs_cg (fun k hk => ha _ (b4 k hk)))
theorem SX.swap (X : SX g n ad E iL iE r ia im F S sun hrs gone m e c A mc B) {a b : Nat} (ha : a < F) (hb : b < F) : SX g n ad (va_up E iL (aO g F (fun f => if f < F then some (ad (swR a b r f)) else none))) iL iE (swR a b r) ia im F S sun hrs gone (fun f => m (swp a b f)) e c A mc B := by
  have hX : ∀ k, k < n → ¬ (Mu 63 iL iE F r k ∨ k < 63) → ¬ (Mu 63 iL iE F (swR a b r) k ∨ k < 63) := fun k _ q z => q (by
    rcases z with (z | z | z | ⟨f, hf, z⟩) | z
    · exact Or.inl (Or.inl z)
    · exact Or.inl (Or.inr (Or.inl z))
    · exact Or.inl (Or.inr (Or.inr (Or.inl z)))
    · exact Or.inl (Or.inr (Or.inr (Or.inr ⟨_, swp_lt ha hb hf, z⟩)))
    · exact Or.inr z)
  have u := X.upd0 (k := iL) (x := aO g F (fun f => if f < F then some (ad (swR a b r f)) else none)) (Or.inr (Or.inl rfl))
  exact ⟨X.1.swap ha hb, ⟨X.2.1.1, X.2.1.2.1, fun f hf => X.2.1.2.2 _ (swp_lt ha hb hf)⟩, u.1.tr (Nat.le_refl _) (fun _ _ => rfl) (fun _ _ _ => rfl) hX, u.2.tr (Nat.le_refl _) (fun _ _ => rfl) (fun _ _ _ => rfl) hX⟩
/-- new rows, from the place q on, take the level's place -/
theorem SX.level (X : SX g n ad E iL iE r ia im F S sun hrs gone m e c A mc B) {q : Nat} {m' : Nat → Nat → Int32} (hq : n ≤ q) (hn : q + 1 + F ≤ n') (ha : ∀ i, i < n → ad' i = ad i) (hE : ∀ k, 63 ≤ k → k < n → E' k = E k) (M : MT g n' ad' E' q (fun f => q + 1 + f) F S m') : SX g n' ad' (va_up E' 63 (.inr (4, [.ref (ad' q), .ref (ad' iE), .int sun, .int hrs, .long gone, .ref (ad' ia), .ref (ad' im)]))) q iE (fun f => q + 1 + f) ia im F S sun hrs gone m' e c A mc B := by
  obtain ⟨V, ⟨l1, l2, l3⟩, K1, K2⟩ := X
  obtain ⟨⟨b1, b2, b3, b4⟩, ⟨d1, d2, d3, d4⟩, h3, h4, h5, h6, h7, h8⟩ := V
  have hX : ∀ k, k < n → ¬ (Mu 63 iL iE F r k ∨ k < 63) → ¬ (Mu 63 q iE F (fun f => q + 1 + f) k ∨ k < 63) := fun k hk w z => by
    rcases z with (z | z | z | ⟨f, hf, z⟩) | z
    · exact w (Or.inl (Or.inl z))
    · omega
    · exact w (Or.inl (Or.inr (Or.inr (Or.inl z))))
    · dsimp only at z; omega
    · exact w (Or.inr z)
  have hE' : ∀ k, k < n → ¬ (Mu 63 iL iE F r k ∨ k < 63) → va_up E' 63 (.inr (4, [.ref (ad' q), .ref (ad' iE), .int sun, .int hrs, .long gone, .ref (ad' ia), .ref (ad' im)])) k = E k := fun k hk w => (up_ne (fun z => w (Or.inl (Or.inl z)))).trans (hE k (Nat.not_lt.mp fun z => w (Or.inr z)) hk)
  refine ⟨⟨⟨by first | omega | (dsimp only at *; omega), by first | omega | (dsimp only at *; omega), by first | omega | (dsimp only at *; omega), fun f hf => by first | omega | (dsimp only at *; omega)⟩, ⟨by first | omega | (dsimp only at *; omega), d2, by first | omega | (dsimp only at *; omega), fun f hf => ⟨by first | omega | (dsimp only at *; omega), by first | omega | (dsimp only at *; omega), by first | omega | (dsimp only at *; omega)⟩⟩, fun f f' _ _ z => by first | omega | (dsimp only at *; omega), up_eq, (up_ne (by first | omega | (dsimp only at *; omega))).trans M.2.1, (up_ne (Ne.symm d2)).trans ((hE _ l2 b3).trans h6), fun f hf => (up_ne (by first | omega | (dsimp only at *; omega))).trans (M.2.2 f hf), h8⟩, ⟨by first | omega | (dsimp only at *; omega), l2, fun f hf => by first | omega | (dsimp only at *; omega)⟩, K1.tr (by first | omega | (dsimp only at *; omega)) ha hE' hX, K2.tr (by first | omega | (dsimp only at *; omega)) ha hE' hX⟩
end SXL
/-- class and Sim in step, after i steps -/
def AS (i : Nat) (g : jG) (n : Nat) (ad : Nat → Nat) (E : Nat → va_E) : Prop := ∃ (F S : Nat) (hrs su : Int32) (gone : Int64) (lv ed : Nat → Int32) (old cnt : Nat) (dr : Nat → Nat → Int32) (mc : Nat) (mr : Nat → Nat → Int32) (m : Nat → Nat → Int32) (e : Nat → Int32) (A B : Nat → Nat → Nat → Int32), CR g n ad E F S hrs su gone lv ed old cnt dr mc mr ∧ SR g n ad E F S su hrs gone m e cnt A mc B ∧ RS i F S su lv ed old cnt dr mc mr m e A B
