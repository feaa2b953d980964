/-! The law's own Sim: its making, its laying, its keeping, its copy. -/
section SRL
variable {g : jG} {n n' : Nat} {ad ad' : Nat → Nat} {E E' : Nat → va_E} {F S : Nat} {sun hrs : Int32} {gone : Int64} {m : Nat → Nat → Int32} {e : Nat → Int32} {c mc : Nat} {A B : Nat → Nat → Nat → Int32}
theorem SR.tr (R : SR g n ad E F S sun hrs gone m e c A mc B) (hn : n ≤ n') (ha : ∀ i, i < n → ad' i = ad i) (hE : ∀ k, 63 ≤ k → k < n → E' k = E k) : SR g n' ad' E' F S sun hrs gone m e c A mc B := by
  obtain ⟨iL, iE, r, ia, im, V, ⟨l1, l2, l3⟩, K1, K2⟩ := R
  obtain ⟨⟨b1, b2, b3, b4⟩, h2, h3, h4, h5, h6, h7, h8⟩ := V
  refine ⟨iL, iE, r, ia, im, ⟨⟨by omega, by omega, by omega, fun f hf => by have := b4 f hf; omega⟩, h2, h3, ?_, ?_, (hE _ l2 b3).trans h6, fun f hf => (hE _ (l3 f hf) (b4 f hf)).trans (h7 f hf), h8⟩, ⟨l1, l2, l3⟩, K1.tr hn ha (fun k hk q => hE k (Nat.not_lt.mp fun z => q (Or.inr z)) hk) (fun _ _ q => q), K2.tr hn ha (fun k hk q => hE k (Nat.not_lt.mp fun z => q (Or.inr z)) hk) (fun _ _ q => q)⟩
  · rw [hE _ (Nat.le_refl _) b1, h4, ha _ b2, ha _ b3, ha _ K1.1.1, ha _ K2.1.1]
  · rw [hE _ l1 b2, h5]
    exact aO_cg (refs_cg (fun k hk => ha _ (b4 k hk)))
theorem SR.cg {A' B' : Nat → Nat → Nat → Int32} (R : SR g n ad E F S sun hrs gone m e c A mc B) (h1 : ∀ k, k < c → A k = A' k) (h2 : ∀ k, k < mc → B k = B' k) : SR g n ad E F S sun hrs gone m e c A' mc B' := by
  obtain ⟨iL, iE, r, ia, im, V, l, K1, K2⟩ := R
  exact ⟨iL, iE, r, ia, im, V, l, K1.cg h1, K2.cg h2⟩
end SRL
/-- SR, and the kept lists lie away from Z too -/
def SRZ (Z : Nat → Prop) (g : jG) (n : Nat) (ad : Nat → Nat) (E : Nat → va_E) (F S : Nat) (sun hrs : Int32) (gone : Int64) (m : Nat → Nat → Int32) (e : Nat → Int32) (c : Nat) (A : Nat → Nat → Nat → Int32) (mc : Nat) (B : Nat → Nat → Nat → Int32) : Prop :=
  ∃ (iL iE : Nat) (r : Nat → Nat) (ia im : Nat), SV g n ad E 63 iL iE r F S sun hrs gone m e (.ref (ad ia)) (.ref (ad im)) ∧ (63 ≤ iL ∧ 63 ≤ iE ∧ ∀ f, f < F → 63 ≤ r f) ∧ (∀ k, Z k → ¬ Mu 63 iL iE F r k) ∧ KL g n ad E (fun k => (Mu 63 iL iE F r k ∨ k < 63) ∨ Z k) ia c F S A ∧ KL g n ad E (fun k => (Mu 63 iL iE F r k ∨ k < 63) ∨ Z k) im mc F S B
/-- what the Sim's methods leave that make new rows -/
def OS (n : Nat) (ad : Nat → Nat) (E : Nat → va_E) (P : Nat → (Nat → Nat) → (Nat → va_E) → Prop) : Option Value → jR := fun v n' ad' E' => v = none ∧ n ≤ n' ∧ (∀ k, k < n → ad' k = ad k) ∧ (∀ k, k < n → k ≠ 63 → E' k = E k) ∧ P n' ad' E'
def keC (c : Nat) : Nat := if c = 30 then 30 else c + 1
def keA (c : Nat) (A : Nat → Nat → Nat → Int32) (m : Nat → Nat → Int32) : Nat → Nat → Nat → Int32 := fun k => if c = 30 then (if k < 29 then A (k + 1) else m) else (if k < c then A k else m)
set_option maxRecDepth 100000 in
set_option maxHeartbeats 4000000 in
theorem c_X4_keepZ {Z : Nat → Prop} {g : jG} {n : Nat} {ad : Nat → Nat} {E : Nat → va_E} {F S : Nat} {sun hrs : Int32} {gone : Int64} {m : Nat → Nat → Int32} {e : Nat → Int32} {c mc : Nat} {A B : Nat → Nat → Nat → Int32} (R : SRZ Z g n ad E F S sun hrs gone m e c A mc B) (hZ : ∀ k, Z k → k < n) (hc : c ≤ 30) (Ψ : String → jR) : JE g mX4_keep 4 (F + 1 + (1 + 0)) (F * S + F + (31 + 0)) [.ref (ad 63)] n ad E (OS n ad E (fun n' ad' E' => SRZ Z g n' ad' E' F S sun hrs gone m e (keC c) (keA c A m) mc B)) Ψ := by
  show J g mX4_keep 4 (F + 1 + (1 + 0)) (F * S + F + (31 + 0)) 0 [some (.ref (ad 63))] [] n ad E _ Ψ
  obtain ⟨iL, iE, r, ia, im, V, ⟨l1, l2, l3⟩, hZM, K1, K2⟩ := R
  obtain ⟨⟨hwn, hLn, hEn, hrn⟩, ⟨hwL, hwE, hLE, hrA⟩, hri, hw, hL, hE, hR, ⟨hF1, hF8⟩, hS1, hS16⟩ := id V
  refine j_aload_n dX4_keep_0 rfl ?_
  refine j_aload_n dX4_keep_1 rfl ?_
  refine j_get fl_X4_22 dX4_keep_2 hwn hw rfl ?_
  refine j_aload_n dX4_keep_5 rfl ?_
  refine j_get fl_X4_9 dX4_keep_6 hwn hw rfl ?_
  refine j_callS (As := [.ref (ad iL)]) (rest := [.ref (ad ia), .ref (ad 63)]) (d' := 2) (Φ' := OC g F S m n ad E) (Ψ' := fun _ _ _ _ => False) cm_X4_copied ct_X4_copied ln_X4_35 dX4_keep_9 (by decide) rfl rfl (Nat.le_of_ble_eq_true rfl) (Nat.le_of_ble_eq_true rfl) (c_X4_copied V.mt hF8 _) (fun v n1 a1 E1 q => ?_) (fun _ _ _ _ q => q.elim)
  obtain ⟨rfl, rfl, x1, x2, x3⟩ := q
  rw [← x1 63 hwn, ← x1 ia K1.1.1]
  have V1 : SV g (n + 1 + F) a1 E1 63 iL iE r F S sun hrs gone m e (.ref (ad ia)) (.ref (ad im)) := V.tr (by omega) x1 x2
  rw [← x1 ia K1.1.1, ← x1 im K2.1.1] at V1
  obtain ⟨-, -, -, hw1, -⟩ := id V1
  have KK := K1.tr (n' := n + 1 + F) (ad' := a1) (E' := E1) (by omega) x1 (fun k hk _ => x2 k hk) (fun _ _ q => q)
  obtain ⟨hia, j, q, hA, hj⟩ := id KK
  show J g mX4_keep 4 (1 + 0) (31 + 0) 12 [some (.ref (a1 63))] [.ref (a1 n), .ref (a1 ia), .ref (a1 63)] (n + 1 + F) a1 E1 _ Ψ
  refine j_aload_n dX4_keep_12 rfl ?_
  refine j_get fl_X4_22 dX4_keep_13 (by omega) hw1 rfl ?_
  refine j_alen 1 dX4_keep_16 hia.1 hA rfl ?_
  refine j_bipush (v := nI 30) dX4_keep_17 (by decide) ?_
  have goal : ∀ fr : Nat, fr = (if c = 30 then 1 else 0) → J g mX4_keep 4 (1 + 0) (31 + 0) 27 [some (.ref (a1 63))] [.int (nI fr), .ref (a1 n), .ref (a1 ia), .ref (a1 63)] (n + 1 + F) a1 E1 (OS n ad E (fun n' ad' E' => SRZ Z g n' ad' E' F S sun hrs gone m e (keC c) (keA c A m) mc B)) Ψ := by
    intro fr hfr
    have hfc : fr ≤ c := by rw [hfr]; split <;> omega
    refine j_bud (bc' := 0 + 1 + 0) (bs' := 0 + (c + 1 - fr) + 0) (by omega) (by rw [hfr]; split <;> omega) ?_
    refine j_callS (As := [.ref (a1 ia), .ref (a1 n), .int (nI fr)]) (rest := [.ref (a1 63)]) (d' := 2) (Φ' := OW g j n c fr (n + 1 + F) a1 E1) (Ψ' := fun _ _ _ _ => False) cm_X4_with ct_X4_with ln_X4_39 dX4_keep_27 (by decide) rfl rfl (Nat.le_of_ble_eq_true rfl) (Nat.le_of_ble_eq_true rfl) (c_X4_with hia.1 (by omega) hA (fun k hk => ⟨(hj k hk).2.1.1, _, (hj k hk).2.2.1⟩) x3.2.1 hfc (by omega) _) (fun v n2 a2 E2 q2 => ?_) (fun _ _ _ _ q => q.elim)
    obtain ⟨rfl, rfl, y1, y2, y3⟩ := q2
    rw [← y1 63 (by omega)]
    show J g mX4_keep 4 0 0 30 [some (.ref (a2 63))] [.ref (a2 (n + 1 + F)), .ref (a2 63)] (n + 1 + F + 1) a2 E2 _ Ψ
    have V2 : SV g (n + 1 + F + 1) a2 E2 63 iL iE r F S sun hrs gone m e (.ref (a1 ia)) (.ref (a1 im)) := V1.tr (by omega) y1 y2
    rw [← y1 im (by have := K2.1.1; omega)] at V2
    obtain ⟨-, -, -, hw2, -⟩ := id V2
    refine j_put fl_X4_22 fp_X4 dX4_keep_30 (by omega) hw2 (Or.inl rfl) rfl rfl (Nat.le_of_ble_eq_true rfl) ?_
    refine j_vret dX4_keep_33 rfl ⟨rfl, by omega, fun k hk => (y1 k (by omega)).trans (x1 k hk), fun k hk hne => (up_ne hne).trans ((y2 k (by omega)).trans (x2 k hk)), ?_⟩
    have V3 : SV g (n + 1 + F + 1) a2 (va_up E2 63 (.inr (4, [.ref (a2 iL), .ref (a2 iE), .int sun, .int hrs, .long gone, .ref (a2 (n + 1 + F)), .ref (a2 im)]))) 63 iL iE r F S sun hrs gone m e (.ref (a2 (n + 1 + F))) (.ref (a2 im)) := V2.setTop
    have eE : ∀ k, k < n → k ≠ 63 → va_up E2 63 (.inr (4, [.ref (a2 iL), .ref (a2 iE), .int sun, .int hrs, .long gone, .ref (a2 (n + 1 + F)), .ref (a2 im)])) k = E k := fun k hk hne => (up_ne hne).trans ((y2 k (by omega)).trans (x2 k hk))
    have aa : ∀ k, k < n → a2 k = ad k := fun k hk => (y1 k (by omega)).trans (x1 k hk)
    have notX : ∀ k, n ≤ k → ¬ ((Mu 63 iL iE F r k ∨ k < 63) ∨ Z k) := fun k hk z => by
      rcases z with ((z | z | z | ⟨f, hf, z⟩) | z) | z
      · omega
      · omega
      · omega
      · have := hrn f hf
        omega
      · omega
      · have := hZ k z
        omega
    refine ⟨iL, iE, r, n + 1 + F, im, V3, ⟨l1, l2, l3⟩, hZM, ?_, K2.tr (by omega) aa (fun k hk hX => eE k hk (fun z => hX (Or.inl (Or.inl (Or.inl z))))) (fun _ _ q => q)⟩
    -- the kept ones
    have hfrc : c + 1 - fr = keC c := by
      unfold keC
      rw [hfr]
      split <;> omega
    rw [hfrc] at y3
    refine ⟨⟨by omega, notX _ (by omega)⟩, wjF j n c fr, fun k => if k < c - fr then q (k + fr) else fun f => n + 1 + f, (up_ne (by omega)).trans y3, fun k hk => ?_⟩
    have hk2 : k < c + 1 - fr := by omega
    unfold wjF
    by_cases hq : k < c - fr
    · dsimp only
      rw [if_pos hq, if_pos hq]
      obtain ⟨⟨z1, z2⟩, M⟩ := hj (k + fr) (by omega)
      have eA : keA c A m k = A (k + fr) := by
        unfold keA
        by_cases h30 : c = 30
        · rw [if_pos h30] at hfr ⊢
          subst hfr
          rw [if_pos (by omega)]
        · rw [if_neg h30] at hfr ⊢
          subst hfr
          rw [if_pos (by omega), Nat.add_zero]
      rw [eA]
      refine ⟨⟨z1, z2⟩, M.tr (by omega) y1 (fun k' hk' => ?_)⟩
      have hX : ¬ ((Mu 63 iL iE F r k' ∨ k' < 63) ∨ Z k') ∧ k' < n + 1 + F := by
        rcases hk' with rfl | ⟨f, hf, rfl⟩
        · exact ⟨z1, M.1.1⟩
        · exact ⟨z2 f hf, M.1.2 f hf⟩
      exact (up_ne (fun z => hX.1 (Or.inl (Or.inl (Or.inl z))))).trans (y2 k' hX.2)
    · dsimp only
      rw [if_neg hq, if_neg hq]
      have eA : keA c A m k = m := by
        unfold keA
        by_cases h30 : c = 30
        · rw [if_pos h30] at hfr ⊢
          subst hfr
          rw [if_neg (by omega)]
        · rw [if_neg h30] at hfr ⊢
          subst hfr
          rw [if_neg (by omega)]
      rw [eA]
      refine ⟨⟨notX _ (Nat.le_refl _), fun f hf => notX _ (by omega)⟩, x3.tr (by omega) y1 (fun k' hk' => ?_)⟩
      rcases hk' with rfl | ⟨f, hf, rfl⟩
      · exact (up_ne (by omega)).trans (y2 _ (by omega))
      · exact (up_ne (by omega)).trans (y2 _ (by omega))
  by_cases h30 : c = 30
  · refine j_icmp_ne_f (tgt := 26) dX4_keep_19 (by decide) (nI_eq' h30) ?_
    refine j_iconst (v := nI 1) dX4_keep_22 (by decide) ?_
    refine j_goto (tgt := 27) dX4_keep_23 (by decide) ?_
    exact goal 1 (if_pos h30).symm
  · refine j_icmp_ne_t (tgt := 26) dX4_keep_19 (by decide) (nI_ne' (by omega) (by omega) h30) ?_
    refine j_iconst (v := nI 0) dX4_keep_26 (by decide) ?_
    exact goal 0 (if_neg h30).symm
theorem c_X4_keep {g : jG} {n : Nat} {ad : Nat → Nat} {E : Nat → va_E} {F S : Nat} {sun hrs : Int32} {gone : Int64} {m : Nat → Nat → Int32} {e : Nat → Int32} {c mc : Nat} {A B : Nat → Nat → Nat → Int32} (R : SR g n ad E F S sun hrs gone m e c A mc B) (hc : c ≤ 30) (Ψ : String → jR) : JE g mX4_keep 4 (F + 1 + (1 + 0)) (F * S + F + (31 + 0)) [.ref (ad 63)] n ad E (OS n ad E (fun n' ad' E' => SR g n' ad' E' F S sun hrs gone m e (keC c) (keA c A m) mc B)) Ψ := by
  obtain ⟨iL, iE, r, ia, im, V, l, K1, K2⟩ := R
  have w : ∀ k, k < n → ¬ (Mu 63 iL iE F r k ∨ k < 63) → ¬ ((Mu 63 iL iE F r k ∨ k < 63) ∨ (fun _ : Nat => False) k) := fun k _ q z => z.elim q id
  refine j_post (fun v n' ad' E' q => ?_) (fun _ _ _ _ q => q) (c_X4_keepZ (Z := fun _ => False) ⟨iL, iE, r, ia, im, V, l, fun _ z => z.elim, K1.tr (Nat.le_refl _) (fun _ _ => rfl) (fun _ _ _ => rfl) w, K2.tr (Nat.le_refl _) (fun _ _ => rfl) (fun _ _ _ => rfl) w⟩ (fun _ z => z.elim) hc Ψ)
  obtain ⟨q1, q2, q3, q4, iL', iE', r', ia', im', V', l', -, K1', K2'⟩ := q
  exact ⟨q1, q2, q3, q4, iL', iE', r', ia', im', V', l', K1'.tr (Nat.le_refl _) (fun _ _ => rfl) (fun _ _ _ => rfl) (fun _ _ q z => q (Or.inl z)), K2'.tr (Nat.le_refl _) (fun _ _ => rfl) (fun _ _ _ => rfl) (fun _ _ q z => q (Or.inl z))⟩
def fifty (S t : Nat) : Nat → Int32 := fun s => if s < t then 50 else 0
set_option maxRecDepth 100000 in
set_option maxHeartbeats 4000000 in
theorem c_X4_lay {g : jG} {n : Nat} {ad : Nat → Nat} {E : Nat → va_E} {F S F' S' : Nat} {sun hrs : Int32} {gone : Int64} {m : Nat → Nat → Int32} {e : Nat → Int32} {c mc : Nat} {A B : Nat → Nat → Nat → Int32} (R : SR g n ad E F S sun hrs gone m e c A mc B) (h1 : 1 ≤ F') (h2 : F' ≤ 8) (h3 : 1 ≤ S') (h4 : S' ≤ 16) (Ψ : String → jR) : JE g mX4_lay 1 (3 + 1 + F') (0 + S' + F' + F' * S') [.ref (ad 63), .int (nI F'), .int (nI S')] n ad E (OS n ad E (fun n' ad' E' => SR g n' ad' E' F' S' sun hrs gone (fun _ _ => 0) (fifty S' S') 0 A 0 B)) Ψ := by
  show J g mX4_lay 1 (3 + 1 + F') (0 + S' + F' + F' * S') 0 [some (.ref (ad 63)), some (.int (nI F')), some (.int (nI S')), none] [] n ad E _ Ψ
  obtain ⟨iL, iE, r, ia, im, V, ⟨l1, l2, l3⟩, K1, K2⟩ := R
  obtain ⟨⟨hwn, hLn, hEn, hrn⟩, -, -, hw, -⟩ := id V
  refine j_aload_n dX4_lay_0 rfl ?_
  refine j_iload_n dX4_lay_1 rfl ?_
  refine j_iload_n dX4_lay_2 rfl ?_
  refine j_newII (bc := 3) (bs := 0 + S') (N := F') (K0 := S') ac_int cl_X4_7 (by omega) (by omega) dX4_lay_3 (fun a1 g1 => ?_)
  rw [← g1 63 hwn]
  generalize hG : (fun k => if k < n then E k else if k = n then aO g F' (fun i => if i < F' then some (a1 (n + 1 + i)) else none) else aI g S' (fun _ => 0)) = G1
  have G1o : ∀ k, k < n → G1 k = E k := fun k hk => by rw [← hG]; exact if_pos hk
  have G1n : G1 n = aO g F' (fun i => if i < F' then some (a1 (n + 1 + i)) else none) := by rw [← hG]; exact (if_neg (Nat.lt_irrefl n)).trans (if_pos rfl)
  have G1r : ∀ i, G1 (n + 1 + i) = aI g S' (fun _ => 0) := fun i => by rw [← hG]; exact (if_neg (by omega)).trans (if_neg (by omega))
  refine j_put fl_X4_9 fp_X4 dX4_lay_7 (by omega) ((G1o 63 hwn).trans hw) (Or.inl rfl) rfl rfl (Nat.le_of_ble_eq_true rfl) ?_
  refine j_aload_n dX4_lay_10 rfl ?_
  refine j_iload_n dX4_lay_11 rfl ?_
  refine j_newI (bc := 2) (bs := 0) (N := S') ac_int (by omega) dX4_lay_12 (fun a2 g2 => ?_)
  rw [← g2 63 (by omega)]
  refine j_put fl_X4_14 fp_X4 dX4_lay_14 (by omega) ((up_ne (by omega)).trans up_eq) (Or.inl rfl) rfl rfl (Nat.le_of_ble_eq_true rfl) ?_
  refine j_iconst (v := nI 0) dX4_lay_17 (by decide) ?_
  refine j_istore_n (L' := [some (.ref (a2 63)), some (.int (nI F')), some (.int (nI S')), some (.int (nI 0))]) dX4_lay_18 (by decide) rfl rfl ?_
  let Inv : Nat → (Nat → va_E) → Prop := fun t E1 => (∀ k, k < n → k ≠ 63 → E1 k = E k) ∧ E1 63 = .inr (4, [.ref (a1 n), .ref (a2 (n + 1 + F')), .int sun, .int hrs, .long gone, .ref (ad ia), .ref (ad im)]) ∧ E1 n = aO g F' (fun i => if i < F' then some (a1 (n + 1 + i)) else none) ∧ (∀ i, i < F' → E1 (n + 1 + i) = aI g S' (fun _ => 0)) ∧ E1 (n + 1 + F') = aI g S' (fifty S' t)
  suffices hall : ∀ E1 : Nat → va_E, Inv 0 E1 → J g mX4_lay 1 2 0 19 [some (.ref (a2 63)), some (.int (nI F')), some (.int (nI S')), some (.int (nI 0))] [] (n + 1 + F' + 1) a2 E1 (OS n ad E (fun n' ad' E' => SR g n' ad' E' F' S' sun hrs gone (fun _ _ => 0) (fifty S' S') 0 A 0 B)) Ψ by
    refine hall _ ⟨fun k hk hne => (up_ne hne).trans ((up_ne (by omega)).trans ((up_ne hne).trans (G1o k hk))), up_eq, (up_ne (by omega)).trans ((up_ne (by omega)).trans ((up_ne (by omega)).trans G1n)), fun i hi => (up_ne (by omega)).trans ((up_ne (by omega)).trans ((up_ne (by omega)).trans (G1r i))), (up_ne (by omega)).trans (up_eq.trans ?_)⟩
    exact congrArg (aI g S') (funext fun s => (if_neg (Nat.not_lt_zero s)).symm)
  refine up_ind (P := fun t => ∀ E1 : Nat → va_E, Inv t E1 → J g mX4_lay 1 2 0 19 [some (.ref (a2 63)), some (.int (nI F')), some (.int (nI S')), some (.int (nI t))] [] (n + 1 + F' + 1) a2 E1 (OS n ad E (fun n' ad' E' => SR g n' ad' E' F' S' sun hrs gone (fun _ _ => 0) (fifty S' S') 0 A 0 B)) Ψ) (N := S') 0 ?_ S' (by omega) ?_
  · intro t ht0 ht ih E1 ⟨i1, i2, i3, i4, i5⟩
    refine j_iload_n dX4_lay_19 rfl ?_
    refine j_iload_n dX4_lay_20 rfl ?_
    refine j_icmp_ge_f (tgt := 38) dX4_lay_21 (by decide) (nI_nle' (by omega) (by omega) (by omega)) ?_
    refine j_aload_n dX4_lay_24 rfl ?_
    refine j_get fl_X4_14 dX4_lay_25 (by omega) i2 rfl ?_
    refine j_iload_n dX4_lay_28 rfl ?_
    refine j_bipush (v := 50) dX4_lay_29 (by decide) ?_
    refine j_iast (j := t) dX4_lay_31 (by omega) i5 (by omega) ht ?_
    refine j_iinc (v := nI (t + 1)) (L' := [some (.ref (a2 63)), some (.int (nI F')), some (.int (nI S')), some (.int (nI (t + 1)))]) dX4_lay_32 (by decide) rfl (nI_1 _) rfl rfl ?_
    refine j_goto (tgt := 19) dX4_lay_35 (by decide) ?_
    refine ih _ ⟨fun k hk hne => (up_ne (by omega)).trans (i1 k hk hne), (up_ne (by omega)).trans i2, (up_ne (by omega)).trans i3, fun i hi => (up_ne (by omega)).trans (i4 i hi), up_eq.trans (congrArg (aI g S') (funext fun s => ?_))⟩
    unfold upd fifty
    by_cases q : s = t
    · subst q
      rw [if_pos rfl, if_pos (Nat.lt_succ_self _)]
    · rw [if_neg q]
      by_cases q2 : s < t
      · rw [if_pos q2, if_pos (by omega)]
      · rw [if_neg q2, if_neg (by omega)]
  · intro E1 ⟨i1, i2, i3, i4, i5⟩
    refine j_iload_n dX4_lay_19 rfl ?_
    refine j_iload_n dX4_lay_20 rfl ?_
    refine j_icmp_ge_t (tgt := 38) dX4_lay_21 (by decide) (nI_le' (by omega) (by omega) (by omega)) ?_
    refine j_aload_n dX4_lay_38 rfl ?_
    refine j_iconst (v := nI 0) dX4_lay_39 (by decide) ?_
    refine j_anP (bc := 1) (bs := 0) (N := 0) cl_X4_7 (by omega) dX4_lay_40 (fun a3 g3 => ?_)
    rw [← g3 63 (by omega)]
    refine j_put fl_X4_22 fp_X4 dX4_lay_43 (by omega) ((up_ne (by omega)).trans i2) (Or.inl rfl) rfl rfl (Nat.le_of_ble_eq_true rfl) ?_
    refine j_aload_n dX4_lay_46 rfl ?_
    refine j_iconst (v := nI 0) dX4_lay_47 (by decide) ?_
    refine j_anP (bc := 0) (bs := 0) (N := 0) cl_X4_7 (by omega) dX4_lay_48 (fun a4 g4 => ?_)
    rw [← g4 63 (by omega)]
    refine j_put fl_X4_26 fp_X4 dX4_lay_51 (by omega) ((up_ne (by omega)).trans up_eq) (Or.inl rfl) rfl rfl (Nat.le_of_ble_eq_true rfl) ?_
    have aa : ∀ k, k < n → a4 k = ad k := fun k hk => (g4 k (by omega)).trans ((g3 k (by omega)).trans ((g2 k (by omega)).trans (g1 k hk)))
    have a31 : ∀ k, k < n + 1 + F' → a4 k = a1 k := fun k hk => (g4 k (by omega)).trans ((g3 k (by omega)).trans (g2 k (by omega)))
    refine j_vret dX4_lay_54 rfl ⟨rfl, by omega, aa, fun k hk hne => (up_ne hne).trans ((up_ne (by omega)).trans ((up_ne hne).trans ((up_ne (by omega)).trans (i1 k hk hne)))), ?_⟩
    have nX : ∀ k, n + 1 + F' + 1 ≤ k → ¬ (Mu 63 n (n + 1 + F') F' (fun f => n + 1 + f) k ∨ k < 63) := fun k hk z => by
      rcases z with (z | z | z | ⟨f, hf, z⟩) | z <;> first | omega | (dsimp only at *; omega)
    refine ⟨n, n + 1 + F', fun f => n + 1 + f, n + 1 + F' + 1, n + 1 + F' + 2, ⟨⟨by first | omega | (dsimp only at *; omega), by first | omega | (dsimp only at *; omega), by first | omega | (dsimp only at *; omega), fun f hf => by first | omega | (dsimp only at *; omega)⟩, ⟨by first | omega | (dsimp only at *; omega), by first | omega | (dsimp only at *; omega), by first | omega | (dsimp only at *; omega), fun f hf => ⟨by first | omega | (dsimp only at *; omega), by first | omega | (dsimp only at *; omega), by first | omega | (dsimp only at *; omega)⟩⟩, fun f f' _ _ q => by first | omega | (dsimp only at *; omega), ?_, ?_, ?_, fun f hf => ?_, ⟨h1, h2⟩, h3, h4⟩, ⟨by first | omega | (dsimp only at *; omega), by first | omega | (dsimp only at *; omega), fun f hf => by first | omega | (dsimp only at *; omega)⟩, ⟨⟨by first | omega | (dsimp only at *; omega), nX _ (by first | omega | (dsimp only at *; omega))⟩, fun _ => 0, fun _ _ => 0, ?_, fun k hk => absurd hk (Nat.not_lt_zero k)⟩, ⟨⟨by first | omega | (dsimp only at *; omega), nX _ (by first | omega | (dsimp only at *; omega))⟩, fun _ => 0, fun _ _ => 0, ?_, fun k hk => absurd hk (Nat.not_lt_zero k)⟩⟩
    · rw [a31 n (by omega), g4 (n + 1 + F') (by omega), g3 (n + 1 + F') (by omega), g4 (n + 1 + F' + 1) (by omega)]
      exact up_eq
    · refine (up_ne (by omega)).trans ((up_ne (by omega)).trans ((up_ne (by omega)).trans ((up_ne (by omega)).trans (i3.trans (aO_cg (funext fun f => ?_))))))
      by_cases q : f < F'
      · dsimp only
        rw [if_pos q, if_pos q, a31 _ (by omega)]
      · rw [if_neg q, if_neg q]
    · exact (up_ne (by omega)).trans ((up_ne (by omega)).trans ((up_ne (by omega)).trans ((up_ne (by omega)).trans i5)))
    · dsimp only
      exact (up_ne (by omega)).trans ((up_ne (by omega)).trans ((up_ne (by omega)).trans ((up_ne (by omega)).trans (i4 f hf))))
    · exact (up_ne (by omega)).trans ((up_ne (by omega)).trans ((up_ne (by omega)).trans (up_eq.trans (aP_cg (funext fun k => (if_neg (Nat.not_lt_zero k)).symm)))))
    · exact (up_ne (by omega)).trans (up_eq.trans (aP_cg (funext fun k => (if_neg (Nat.not_lt_zero k)).symm)))
/-- what the Sim's constructor leaves -/
def OI (g : jG) (w n : Nat) (ad : Nat → Nat) (E : Nat → va_E) : Option Value → jR := fun v n' ad' E' => v = none ∧ n' = n + 8 ∧ (∀ k, k < n → ad' k = ad k) ∧ (∀ k, k < n → k ≠ w → E' k = E k) ∧ E' w = .inr (4, [.ref (ad' n), .ref (ad' (n + 5)), .int 1, .int 0, .long 0, .ref (ad' (n + 6)), .ref (ad' (n + 7))]) ∧ E' n = aO g 4 (fun i => if i < 4 then some (ad' (n + 1 + i)) else none) ∧ (∀ i, i < 4 → E' (n + 1 + i) = aI g 8 (fun _ => 0)) ∧ (∃ h, E' (n + 5) = aI g 8 h) ∧ E' (n + 6) = aP g 0 (fun _ => none) ∧ E' (n + 7) = aP g 0 (fun _ => none)
set_option maxRecDepth 100000 in
set_option maxHeartbeats 4000000 in
theorem c_X4_init {g : jG} {n w : Nat} {ad : Nat → Nat} {E : Nat → va_E} (hw : w < n) (h : E w = .inr (4, [.null, .null, .int 0, .int 0, .long 0, .null, .null])) (Ψ : String → jR) : JE g mX4_init 2 (3 + 1 + 4) (8 + 4 + 4 * 8) [.ref (ad w)] n ad E (OI g w n ad E) Ψ := by
  show J g mX4_init 2 (3 + 1 + 4) (8 + 4 + 4 * 8) 0 [some (.ref (ad w))] [] n ad E (OI g w n ad E) Ψ
  refine j_aload_n dX4_init_0 rfl ?_
  refine j_objInit ln_X4_1 ji_obj jc_obj dX4_init_1 (by decide) (Nat.le_of_ble_eq_true rfl) ?_
  refine j_aload_n dX4_init_4 rfl ?_
  refine j_iconst (v := nI 4) dX4_init_5 (by decide) ?_
  refine j_bipush (v := nI 8) dX4_init_6 (by decide) ?_
  refine j_newII (bc := 3) (bs := 8) (N := 4) (K0 := 8) ac_int cl_X4_7 (by omega) (by omega) dX4_init_8 (fun a1 g1 => ?_)
  rw [← g1 w hw]
  generalize hG : (fun k => if k < n then E k else if k = n then aO g 4 (fun i => if i < 4 then some (a1 (n + 1 + i)) else none) else aI g 8 (fun _ => 0)) = G1
  have G1o : ∀ k, k < n → G1 k = E k := fun k hk => by rw [← hG]; exact if_pos hk
  have G1n : G1 n = aO g 4 (fun i => if i < 4 then some (a1 (n + 1 + i)) else none) := by rw [← hG]; exact (if_neg (Nat.lt_irrefl n)).trans (if_pos rfl)
  have G1r : ∀ i, G1 (n + 1 + i) = aI g 8 (fun _ => 0) := fun i => by rw [← hG]; exact (if_neg (by omega)).trans (if_neg (by omega))
  show J g mX4_init 2 3 8 12 [some (.ref (a1 w))] [.ref (a1 n), .ref (a1 w)] (n + 5) a1 G1 (OI g w n ad E) Ψ
  refine j_put fl_X4_9 fp_X4 dX4_init_12 (by omega) ((G1o w hw).trans h) (Or.inl rfl) rfl rfl (Nat.le_of_ble_eq_true rfl) ?_
  refine j_aload_n dX4_init_15 rfl ?_
  refine j_bipush (v := nI 8) dX4_init_16 (by decide) ?_
  refine j_newI (bc := 2) (bs := 0) (N := 8) ac_int (by omega) dX4_init_18 (fun a2 g2 => ?_)
  rw [← g2 w (by omega)]
  refine j_dup dX4_init_20 rfl ?_
  refine j_iconst (v := nI 0) dX4_init_21 (by decide) ?_
  refine j_bipush (v := 50) dX4_init_22 (by decide) ?_
  refine j_iast (j := 0) dX4_init_24 (by omega) up_eq (by decide) (by decide) ?_
  refine j_E up_up ?_
  refine j_dup dX4_init_25 rfl ?_
  refine j_iconst (v := nI 1) dX4_init_26 (by decide) ?_
  refine j_bipush (v := 50) dX4_init_27 (by decide) ?_
  refine j_iast (j := 1) dX4_init_29 (by omega) up_eq (by decide) (by decide) ?_
  refine j_E up_up ?_
  refine j_dup dX4_init_30 rfl ?_
  refine j_iconst (v := nI 2) dX4_init_31 (by decide) ?_
  refine j_bipush (v := 50) dX4_init_32 (by decide) ?_
  refine j_iast (j := 2) dX4_init_34 (by omega) up_eq (by decide) (by decide) ?_
  refine j_E up_up ?_
  refine j_dup dX4_init_35 rfl ?_
  refine j_iconst (v := nI 3) dX4_init_36 (by decide) ?_
  refine j_bipush (v := 50) dX4_init_37 (by decide) ?_
  refine j_iast (j := 3) dX4_init_39 (by omega) up_eq (by decide) (by decide) ?_
  refine j_E up_up ?_
  refine j_dup dX4_init_40 rfl ?_
  refine j_iconst (v := nI 4) dX4_init_41 (by decide) ?_
  refine j_bipush (v := 50) dX4_init_42 (by decide) ?_
  refine j_iast (j := 4) dX4_init_44 (by omega) up_eq (by decide) (by decide) ?_
  refine j_E up_up ?_
  refine j_dup dX4_init_45 rfl ?_
  refine j_iconst (v := nI 5) dX4_init_46 (by decide) ?_
  refine j_bipush (v := 50) dX4_init_47 (by decide) ?_
  refine j_iast (j := 5) dX4_init_49 (by omega) up_eq (by decide) (by decide) ?_
  refine j_E up_up ?_
  refine j_dup dX4_init_50 rfl ?_
  refine j_bipush (v := nI 6) dX4_init_51 (by decide) ?_
  refine j_bipush (v := 50) dX4_init_53 (by decide) ?_
  refine j_iast (j := 6) dX4_init_55 (by omega) up_eq (by decide) (by decide) ?_
  refine j_E up_up ?_
  refine j_dup dX4_init_56 rfl ?_
  refine j_bipush (v := nI 7) dX4_init_57 (by decide) ?_
  refine j_bipush (v := 50) dX4_init_59 (by decide) ?_
  refine j_iast (j := 7) dX4_init_61 (by omega) up_eq (by decide) (by decide) ?_
  refine j_E up_up ?_
  refine j_put fl_X4_14 fp_X4 dX4_init_62 (by omega) ((up_ne (by omega)).trans up_eq) (Or.inl rfl) rfl rfl (Nat.le_of_ble_eq_true rfl) ?_
  refine j_aload_n dX4_init_65 rfl ?_
  refine j_iconst (v := 1) dX4_init_66 (by decide) ?_
  refine j_put fl_X4_18 fp_X4 dX4_init_67 (by omega) up_eq (Or.inl rfl) rfl rfl (Nat.le_of_ble_eq_true rfl) ?_
  refine j_E up_up ?_
  refine j_aload_n dX4_init_70 rfl ?_
  refine j_iconst (v := nI 0) dX4_init_71 (by decide) ?_
  refine j_anP (bc := 1) (bs := 0) (N := 0) cl_X4_7 (by omega) dX4_init_72 (fun a3 g3 => ?_)
  rw [← g3 w (by omega)]
  refine j_put fl_X4_22 fp_X4 dX4_init_75 (by omega) ((up_ne (by omega)).trans up_eq) (Or.inl rfl) rfl rfl (Nat.le_of_ble_eq_true rfl) ?_
  refine j_aload_n dX4_init_78 rfl ?_
  refine j_iconst (v := nI 0) dX4_init_79 (by decide) ?_
  refine j_anP (bc := 0) (bs := 0) (N := 0) cl_X4_7 (by omega) dX4_init_80 (fun a4 g4 => ?_)
  rw [← g4 w (by omega)]
  refine j_put fl_X4_26 fp_X4 dX4_init_83 (by omega) ((up_ne (by omega)).trans up_eq) (Or.inl rfl) rfl rfl (Nat.le_of_ble_eq_true rfl) ?_
  have a41 : ∀ k, k < n + 5 → a4 k = a1 k := fun k hk => (g4 k (by omega)).trans ((g3 k (by omega)).trans (g2 k (by omega)))
  refine j_vret dX4_init_86 rfl ⟨rfl, by omega, fun k hk => (a41 k (by omega)).trans (g1 k hk), fun k hk hne => ?_, ?_, ?_, fun i hi => ?_, ⟨_, (up_ne (by omega)).trans ((up_ne (by omega)).trans ((up_ne (by omega)).trans ((up_ne (by omega)).trans ((up_ne (by omega)).trans (up_eq)))))⟩, ?_, ?_⟩
  · exact (up_ne hne).trans ((up_ne (by omega)).trans ((up_ne hne).trans ((up_ne (by omega)).trans ((up_ne hne).trans ((up_ne (by omega)).trans ((up_ne hne).trans (G1o k hk)))))))
  · rw [a41 n (by omega), g4 (n + 5) (by omega), g3 (n + 5) (by omega), g4 (n + 6) (by omega)]
    exact up_eq
  · refine (up_ne (by omega)).trans ((up_ne (by omega)).trans ((up_ne (by omega)).trans ((up_ne (by omega)).trans ((up_ne (by omega)).trans ((up_ne (by omega)).trans ((up_ne (by omega)).trans (G1n.trans (aO_cg (funext fun f => ?_)))))))))
    by_cases q : f < 4
    · rw [if_pos q, if_pos q, a41 _ (by omega)]
    · rw [if_neg q, if_neg q]
  · exact (up_ne (by omega)).trans ((up_ne (by omega)).trans ((up_ne (by omega)).trans ((up_ne (by omega)).trans ((up_ne (by omega)).trans ((up_ne (by omega)).trans ((up_ne (by omega)).trans (G1r i)))))))
  · exact (up_ne (by omega)).trans ((up_ne (by omega)).trans ((up_ne (by omega)).trans (up_eq)))
  · exact (up_ne (by omega)).trans up_eq
set_option maxRecDepth 100000 in
set_option maxHeartbeats 4000000 in
theorem c_X4_copy {g : jG} {n : Nat} {ad : Nat → Nat} {E : Nat → va_E} {w iL iE : Nat} {r : Nat → Nat} {F S : Nat} {sun hrs : Int32} {gone : Int64} {m : Nat → Nat → Int32} {e : Nat → Int32} {va vm : Value} (V : SV g n ad E w iL iE r F S sun hrs gone m e va vm) (Ψ : String → jR) : JE g mX4_copy 4 (3 + 1 + 4 + (F + 1 + (0 + 1)) + 1) (8 + 4 + 4 * 8 + (F * S + F + (0 + S)) + 7) [.ref (ad w)] n ad E (fun v n' ad' E' => v = some (.ref (ad' n)) ∧ n < n' ∧ (∀ k, k < n → ad' k = ad k) ∧ (∀ k, k < n → E' k = E k) ∧ ∃ (iL' iE' : Nat) (r' : Nat → Nat) (va' vm' : Value), SV g n' ad' E' n iL' iE' r' F S sun 0 0 m e va' vm' ∧ n ≤ iL' ∧ n ≤ iE' ∧ ∀ f, f < F → n ≤ r' f) Ψ := by
  show J g mX4_copy 4 (3 + 1 + 4 + (F + 1 + (0 + 1)) + 1) (8 + 4 + 4 * 8 + (F * S + F + (0 + S)) + 7) 0 [some (.ref (ad w)), none] [] n ad E _ Ψ
  obtain ⟨⟨hwn, hLn, hEn, hrn⟩, ⟨hwL, hwE, hLE, hrA⟩, hri, hw, hL, hE, hR, ⟨hF1, hF8⟩, hS1, hS16⟩ := id V
  refine j_new (fs := [.null, .null, .int 0, .int 0, .long 0, .null, .null]) (C0 := RX4) (T0 := TX4) (N0 := 7) (ci := 4) rfl wcl_X4 fp_X4 cl_X4_10 in_X4 iz_X4 (fun j hj => by match j, hj with | 0, _ => rfl | 1, _ => rfl | 2, _ => rfl | 3, _ => rfl | 4, _ => rfl | 5, _ => rfl | 6, _ => rfl) dX4_copy_0 (fun a1 g1 => ?_)
  rw [← g1 w hwn]
  refine j_dup dX4_copy_3 rfl ?_
  refine j_callI (k := n) (As := []) (rest := [.ref (a1 n)]) (d' := 2) (Φ' := OI g n (n + 1) a1 (va_up E n (.inr (4, [.null, .null, .int 0, .int 0, .long 0, .null, .null])))) (Ψ' := fun _ _ _ _ => False) cm_X4_init rfl rfl ci_X4_init rfl (Or.inl ln_X4_34) dX4_copy_4 (by decide) rfl rfl (Nat.le_of_ble_eq_true rfl) (Nat.le_of_ble_eq_true rfl) (c_X4_init (by omega) up_eq _) (fun v n1 a2 E2 q => ?_) (fun _ _ _ _ q => q.elim)
  obtain ⟨rfl, rfl, x1, x2, x3, x4, x5, x6, x7, x8⟩ := q
  rw [← x1 w (by omega), ← x1 n (by omega)]
  have E2o : ∀ k, k < n → E2 k = E k := fun k hk => (x2 k (by omega) (by omega)).trans (up_ne (by omega))
  have a2o : ∀ k, k < n → a2 k = ad k := fun k hk => (x1 k (by omega)).trans (g1 k hk)
  have V2 : SV g (n + 1 + 8) a2 E2 w iL iE r F S sun hrs gone m e va vm := V.tr (by omega) a2o E2o
  show J g mX4_copy 4 (F + 1 + (0 + 1)) (F * S + F + (0 + S)) 7 [some (.ref (a2 w)), none] [.ref (a2 n)] (n + 1 + 8) a2 E2 _ Ψ
  refine j_astore_n (L' := [some (.ref (a2 w)), some (.ref (a2 n))]) dX4_copy_7 (by decide) rfl rfl ?_
  refine j_aload_n dX4_copy_8 rfl ?_
  refine j_aload_n dX4_copy_9 rfl ?_
  refine j_get fl_X4_9 dX4_copy_10 V2.1.1 V2.2.2.2.1 rfl ?_
  refine j_callS (As := [.ref (a2 iL)]) (rest := [.ref (a2 n)]) (d' := 2) (Φ' := OC g F S m (n + 1 + 8) a2 E2) (Ψ' := fun _ _ _ _ => False) cm_X4_copied ct_X4_copied ln_X4_35 dX4_copy_13 (by decide) rfl rfl (Nat.le_of_ble_eq_true rfl) (Nat.le_of_ble_eq_true rfl) (c_X4_copied V2.mt hF8 _) (fun v n1 a3 E3 q => ?_) (fun _ _ _ _ q => q.elim)
  obtain ⟨rfl, rfl, y1, y2, y3⟩ := q
  rw [← y1 w (by omega), ← y1 n (by omega)]
  have V3 : SV g (n + 1 + 8 + 1 + F) a3 E3 w iL iE r F S sun hrs gone m e va vm := V2.tr (by omega) y1 y2
  show J g mX4_copy 4 (0 + 1) (0 + S) 16 [some (.ref (a3 w)), some (.ref (a3 n))] [.ref (a3 (n + 1 + 8)), .ref (a3 n)] (n + 1 + 8 + 1 + F) a3 E3 _ Ψ
  have e3n : E3 n = .inr (4, [.ref (a2 (n + 1)), .ref (a2 (n + 1 + 5)), .int 1, .int 0, .long 0, .ref (a2 (n + 1 + 6)), .ref (a2 (n + 1 + 7))]) := (y2 n (by omega)).trans x3
  refine j_put fl_X4_9 fp_X4 dX4_copy_16 (by omega) e3n (Or.inl rfl) rfl rfl (Nat.le_of_ble_eq_true rfl) ?_
  refine j_aload_n dX4_copy_19 rfl ?_
  refine j_aload_n dX4_copy_20 rfl ?_
  refine j_get fl_X4_14 dX4_copy_21 V3.1.1 ((up_ne (by omega)).trans V3.2.2.2.1) rfl ?_
  refine j_clone (bc := 0) (bs := 0) ln_X4_30 kw_same kw_nat kw_inst kw_sel kw_cl dX4_copy_24 V3.1.2.2.1 ((up_ne (by omega)).trans V3.2.2.2.2.2.1) (by decide) (Nat.le_of_ble_eq_true rfl) (fun a4 g4 => ?_)
  rw [← g4 w (by omega), ← g4 n (by omega)]
  refine j_castI cl_X4_29 dX4_copy_27 (by omega) up_eq ?_
  refine j_put fl_X4_14 fp_X4 dX4_copy_30 (by omega) ((up_ne (by omega)).trans up_eq) (Or.inl rfl) rfl rfl (Nat.le_of_ble_eq_true rfl) ?_
  refine j_aload_n dX4_copy_33 rfl ?_
  refine j_aload_n dX4_copy_34 rfl ?_
  refine j_get fl_X4_18 dX4_copy_35 (by omega) ((up_ne (by omega)).trans ((up_ne (by omega)).trans ((up_ne (by omega)).trans V3.2.2.2.1))) rfl ?_
  refine j_put fl_X4_18 fp_X4 dX4_copy_38 (by omega) up_eq (Or.inl rfl) rfl rfl (Nat.le_of_ble_eq_true rfl) ?_
  refine j_E up_up ?_
  refine j_aload_n dX4_copy_41 rfl ?_
  have a4o : ∀ k, k < n + 1 + 8 + 1 + F → a4 k = a3 k := g4
  have a42 : ∀ k, k < n + 1 + 8 → a4 k = a2 k := fun k hk => (g4 k (by omega)).trans (y1 k hk)
  refine j_rret dX4_copy_42 rfl (Or.inr ⟨_, rfl⟩) ⟨rfl, by first | omega | (dsimp only at *; omega), fun k hk => (a42 k (by first | omega | (dsimp only at *; omega))).trans (a2o k hk), fun k hk => ?_, n + 1 + 8, n + 1 + 8 + 1 + F, fun f => n + 1 + 8 + 1 + f, .ref (a2 (n + 1 + 6)), .ref (a2 (n + 1 + 7)), ?_, by first | omega | (dsimp only at *; omega), by first | omega | (dsimp only at *; omega), fun f hf => by first | omega | (dsimp only at *; omega)⟩
  · exact (up_ne (by omega)).trans ((up_ne (by omega)).trans ((up_ne (by omega)).trans ((y2 k (by omega)).trans (E2o k hk))))
  · refine ⟨⟨by first | omega | (dsimp only at *; omega), by first | omega | (dsimp only at *; omega), by first | omega | (dsimp only at *; omega), fun f hf => by first | omega | (dsimp only at *; omega)⟩, ⟨by first | omega | (dsimp only at *; omega), by first | omega | (dsimp only at *; omega), by first | omega | (dsimp only at *; omega), fun f hf => ⟨by first | omega | (dsimp only at *; omega), by first | omega | (dsimp only at *; omega), by first | omega | (dsimp only at *; omega)⟩⟩, fun f f' _ _ q => by first | omega | (dsimp only at *; omega), ?_, ?_, ?_, fun f hf => ?_, ⟨hF1, hF8⟩, hS1, hS16⟩
    · rw [a4o (n + 1 + 8) (by omega)]
      exact up_eq
    · refine (up_ne (by omega)).trans ((up_ne (by omega)).trans ((up_ne (by omega)).trans (y3.2.1.trans (aO_cg (funext fun f => ?_)))))
      by_cases q : f < F
      · dsimp only
        rw [if_pos q, if_pos q, a4o _ (by omega)]
      · rw [if_neg q, if_neg q]
    · exact (up_ne (by omega)).trans up_eq
    · dsimp only
      exact (up_ne (by omega)).trans ((up_ne (by omega)).trans ((up_ne (by omega)).trans (y3.2.2 f hf)))
