/-! The law's own Sim: its making, its laying, its keeping, its copy. -/
section SRL
variable {g : jG} {n n' : Nat} {ad ad' : Nat → Nat} {E E' : Nat → va_E} {F S : Nat} {sun hrs : Int32} {gone : Int64} {m : Nat → Nat → Int32} {e : Nat → Int32} {c mc : Nat} {A B : Nat → Nat → Nat → Int32}
theorem SR.tr (R : SR g n ad E F S sun hrs gone m e c A mc B) (hn : n ≤ n') (ha : ∀ i, i < n → ad' i = ad i) (hE : ∀ k, 63 ≤ k → k < n → E' k = E k) : SR g n' ad' E' F S sun hrs gone m e c A mc B := by
  obtain ⟨iL, iE, r, ia, im, V, ⟨l1, l2, l3⟩, K1, K2⟩ := R
  obtain ⟨⟨b1, b2, b3, b4⟩, h2, h3, h4, h5, h6, h7, h8⟩ := V
  refine ⟨iL, iE, r, ia, im, ⟨⟨by omega, by omega, by omega, fun f hf => by have := b4 f hf; omega⟩, h2, h3, ?_, ?_, (hE _ l2 b3).trans h6, fun f hf => (hE _ (l3 f hf) (b4 f hf)).trans (h7 f hf), h8⟩, ⟨l1, l2, l3⟩, K1.tr hn ha (fun k hk q => hE k (Nat.not_lt.mp fun z => q (Or.inr z)) hk) (fun _ _ q => q), K2.tr hn ha (fun k hk q => hE k (Nat.not_lt.mp fun z => q (Or.inr z)) hk) (fun _ _ q => q)⟩
  · rw [hE _ (Nat.le_refl _) b1, h4, ha _ b2, ha _ b3, ha _ K1.1.1, ha _ K2.1.1]
  · rw [hE _ l1 b2, h5]
    exact aO_cg (refs_cg (fun k hk => ha _ (b4 k hk)))
theorem SR.cg {A' B' : Nat → Nat → Nat → Int32} (R : SR g n ad E F S sun hrs gone m e c A mc B) (h1 : ∀ k, k < c → A k = A' k) (h2 : ∀ k, k < mc → B k = B' k) : SR g n ad E F S sun hrs gone m e c A' mc B' := by
  obtain ⟨iL, iE, r, ia, im, V, l, K1, K2⟩ := R
  exact ⟨iL, iE, r, ia, im, V, l, K1.cg h1, K2.cg h2⟩
end SRL
/-- what the Sim's methods leave that make new rows -/
def OS (n : Nat) (ad : Nat → Nat) (E : Nat → va_E) (P : Nat → (Nat → Nat) → (Nat → va_E) → Prop) : Option Value → jR := fun v n' ad' E' => v = none ∧ n ≤ n' ∧ (∀ k, k < n → ad' k = ad k) ∧ (∀ k, k < 63 → E' k = E k) ∧ P n' ad' E'
def keC (c : Nat) : Nat := if c = 30 then 30 else c + 1
def keA (c : Nat) (A : Nat → Nat → Nat → Int32) (m : Nat → Nat → Int32) : Nat → Nat → Nat → Int32 := fun k => if c = 30 then (if k < 29 then A (k + 1) else m) else (if k < c then A k else m)
set_option maxRecDepth 100000 in
set_option maxHeartbeats 4000000 in
theorem c_X4_keep {g : jG} {n : Nat} {ad : Nat → Nat} {E : Nat → va_E} {F S : Nat} {sun hrs : Int32} {gone : Int64} {m : Nat → Nat → Int32} {e : Nat → Int32} {c mc : Nat} {A B : Nat → Nat → Nat → Int32} (R : SR g n ad E F S sun hrs gone m e c A mc B) (hc : c ≤ 30) (Ψ : String → jR) : JE g mX4_keep 4 (F + 1 + (1 + 0)) (F * S + F + (31 + 0)) [.ref (ad 63)] n ad E (OS n ad E (fun n' ad' E' => SR g n' ad' E' F S sun hrs gone m e (keC c) (keA c A m) mc B)) Ψ := by
  show J g mX4_keep 4 (F + 1 + (1 + 0)) (F * S + F + (31 + 0)) 0 [some (.ref (ad 63))] [] n ad E _ Ψ
  obtain ⟨iL, iE, r, ia, im, V, ⟨l1, l2, l3⟩, K1, K2⟩ := R
  obtain ⟨⟨hwn, hLn, hEn, hrn⟩, ⟨hwL, hwE, hLE, hrA⟩, hri, hw, hL, hE, hR, ⟨hF1, hF8⟩, hS1, hS16⟩ := id V
  refine j_aload_n dX4_keep_0 rfl ?_
  refine j_aload_n dX4_keep_1 rfl ?_
  refine j_get fl_X4_22 dX4_keep_2 hwn hw rfl ?_
  refine j_aload_n dX4_keep_5 rfl ?_
  refine j_get fl_X4_9 dX4_keep_6 hwn hw rfl ?_
  refine j_callS (As := [.ref (ad iL)]) (rest := [.ref (ad ia), .ref (ad 63)]) (d' := 2) (Φ' := OC g F S m n ad E) (Ψ' := fun _ _ _ _ => False) cm_X4_copied ct_X4_copied ln_X4_35 dX4_keep_9 (by decide) rfl rfl (Nat.le_of_ble_eq_true rfl) (Nat.le_of_ble_eq_true rfl) (c_X4_copied V.mt hF8 _) (fun v n1 a1 E1 q => ?_) (fun _ _ _ _ q => q.elim)
  obtain ⟨rfl, rfl, x1, x2, x3⟩ := q
  rw [← x1 63 hwn, ← x1 ia K1.1.1]
  have V1 : SV g (n + 1 + F) a1 E1 63 iL iE r F S sun hrs gone m e (.ref (ad ia)) (.ref (ad im)) := V.tr (by omega) x1 x2
  rw [← x1 ia K1.1.1, ← x1 im K2.1.1] at V1
  obtain ⟨-, -, -, hw1, -⟩ := id V1
  have KK := K1.tr (n' := n + 1 + F) (ad' := a1) (E' := E1) (by omega) x1 (fun k hk _ => x2 k hk) (fun _ _ q => q)
  obtain ⟨hia, j, q, hA, hj⟩ := id KK
  show J g mX4_keep 4 (1 + 0) (31 + 0) 12 [some (.ref (a1 63))] [.ref (a1 n), .ref (a1 ia), .ref (a1 63)] (n + 1 + F) a1 E1 _ Ψ
  refine j_aload_n dX4_keep_12 rfl ?_
  refine j_get fl_X4_22 dX4_keep_13 (by omega) hw1 rfl ?_
  refine j_alen 1 dX4_keep_16 hia.1 hA rfl ?_
  refine j_bipush (v := nI 30) dX4_keep_17 (by decide) ?_
  have goal : ∀ fr : Nat, fr = (if c = 30 then 1 else 0) → J g mX4_keep 4 (1 + 0) (31 + 0) 27 [some (.ref (a1 63))] [.int (nI fr), .ref (a1 n), .ref (a1 ia), .ref (a1 63)] (n + 1 + F) a1 E1 (OS n ad E (fun n' ad' E' => SR g n' ad' E' F S sun hrs gone m e (keC c) (keA c A m) mc B)) Ψ := by
    intro fr hfr
    have hfc : fr ≤ c := by rw [hfr]; split <;> omega
    refine j_bud (bc' := 0 + 1 + 0) (bs' := 0 + (c + 1 - fr) + 0) (by omega) (by rw [hfr]; split <;> omega) ?_
    refine j_callS (As := [.ref (a1 ia), .ref (a1 n), .int (nI fr)]) (rest := [.ref (a1 63)]) (d' := 2) (Φ' := OW g j n c fr (n + 1 + F) a1 E1) (Ψ' := fun _ _ _ _ => False) cm_X4_with ct_X4_with ln_X4_39 dX4_keep_27 (by decide) rfl rfl (Nat.le_of_ble_eq_true rfl) (Nat.le_of_ble_eq_true rfl) (c_X4_with hia.1 (by omega) hA (fun k hk => ⟨(hj k hk).2.1.1, _, (hj k hk).2.2.1⟩) x3.2.1 hfc (by omega) _) (fun v n2 a2 E2 q2 => ?_) (fun _ _ _ _ q => q.elim)
    obtain ⟨rfl, rfl, y1, y2, y3⟩ := q2
    rw [← y1 63 (by omega)]
    show J g mX4_keep 4 0 0 30 [some (.ref (a2 63))] [.ref (a2 (n + 1 + F)), .ref (a2 63)] (n + 1 + F + 1) a2 E2 _ Ψ
    have V2 : SV g (n + 1 + F + 1) a2 E2 63 iL iE r F S sun hrs gone m e (.ref (a1 ia)) (.ref (a1 im)) := V1.tr (by omega) y1 y2
    rw [← y1 im (by have := K2.1.1; omega)] at V2
    obtain ⟨-, -, -, hw2, -⟩ := id V2
    refine j_put fl_X4_22 fp_X4 dX4_keep_30 (by omega) hw2 (Or.inl rfl) rfl rfl (Nat.le_of_ble_eq_true rfl) ?_
    refine j_vret dX4_keep_33 rfl ⟨rfl, by omega, fun k hk => (y1 k (by omega)).trans (x1 k hk), fun k hk => (up_ne (by omega)).trans ((y2 k (by omega)).trans (x2 k (by omega))), ?_⟩
    have V3 : SV g (n + 1 + F + 1) a2 (va_up E2 63 (.inr (4, [.ref (a2 iL), .ref (a2 iE), .int sun, .int hrs, .long gone, .ref (a2 (n + 1 + F)), .ref (a2 im)]))) 63 iL iE r F S sun hrs gone m e (.ref (a2 (n + 1 + F))) (.ref (a2 im)) := V2.setTop
    have eE : ∀ k, k < n → k ≠ 63 → va_up E2 63 (.inr (4, [.ref (a2 iL), .ref (a2 iE), .int sun, .int hrs, .long gone, .ref (a2 (n + 1 + F)), .ref (a2 im)])) k = E k := fun k hk hne => (up_ne hne).trans ((y2 k (by omega)).trans (x2 k hk))
    have aa : ∀ k, k < n → a2 k = ad k := fun k hk => (y1 k (by omega)).trans (x1 k hk)
    have notX : ∀ k, n ≤ k → ¬ (Mu 63 iL iE F r k ∨ k < 63) := fun k hk z => by
      rcases z with (z | z | z | ⟨f, hf, z⟩) | z
      · omega
      · omega
      · omega
      · have := hrn f hf
        omega
      · omega
    refine ⟨iL, iE, r, n + 1 + F, im, V3, ⟨l1, l2, l3⟩, ?_, K2.tr (by omega) aa (fun k hk hX => eE k hk (fun z => hX (Or.inl (Or.inl z)))) (fun _ _ q => q)⟩
    -- the kept ones
    have hfrc : c + 1 - fr = keC c := by
      unfold keC
      rw [hfr]
      split <;> omega
    rw [hfrc] at y3
    refine ⟨⟨by omega, notX _ (by omega)⟩, wjF j n c fr, fun k => if k < c - fr then q (k + fr) else fun f => n + 1 + f, (up_ne (by omega)).trans y3, fun k hk => ?_⟩
    have hk2 : k < c + 1 - fr := by omega
    unfold wjF
    by_cases hq : k < c - fr
    · rw [if_pos hq, if_pos hq]
      obtain ⟨⟨z1, z2⟩, M⟩ := hj (k + fr) (by omega)
      have eA : keA c A m k = A (k + fr) := by
        unfold keA
        by_cases h30 : c = 30
        · rw [if_pos h30] at hfr ⊢
          subst hfr
          rw [if_pos (by omega)]
        · rw [if_neg h30] at hfr ⊢
          subst hfr
          rw [if_pos (by omega), Nat.add_zero]
      rw [eA]
      refine ⟨⟨z1, z2⟩, M.tr (by omega) y1 (fun k' hk' => ?_)⟩
      have hX : ¬ (Mu 63 iL iE F r k' ∨ k' < 63) ∧ k' < n + 1 + F := by
        rcases hk' with rfl | ⟨f, hf, rfl⟩
        · exact ⟨z1, M.1.1⟩
        · exact ⟨z2 f hf, M.1.2 f hf⟩
      exact (up_ne (fun z => hX.1 (Or.inl (Or.inl z)))).trans (y2 k' hX.2)
    · rw [if_neg hq, if_neg hq]
      have eA : keA c A m k = m := by
        unfold keA
        by_cases h30 : c = 30
        · rw [if_pos h30] at hfr ⊢
          subst hfr
          rw [if_neg (by omega)]
        · rw [if_neg h30] at hfr ⊢
          subst hfr
          rw [if_neg (by omega)]
      rw [eA]
      refine ⟨⟨notX _ (Nat.le_refl _), fun f hf => notX _ (by omega)⟩, x3.tr (by omega) y1 (fun k' hk' => ?_)⟩
      rcases hk' with rfl | ⟨f, hf, rfl⟩
      · exact (up_ne (by omega)).trans (y2 _ (by omega))
      · exact (up_ne (by omega)).trans (y2 _ (by omega))
  by_cases h30 : c = 30
  · refine j_icmp_ne_f (tgt := 26) dX4_keep_19 (by decide) (nI_eq' h30) ?_
    refine j_iconst (v := nI 1) dX4_keep_22 (by decide) ?_
    refine j_goto (tgt := 27) dX4_keep_23 (by decide) ?_
    exact goal 1 (if_pos h30).symm
  · refine j_icmp_ne_t (tgt := 26) dX4_keep_19 (by decide) (nI_ne' (by omega) (by omega) h30) ?_
    refine j_iconst (v := nI 0) dX4_keep_26 (by decide) ?_
    exact goal 0 (if_neg h30).symm
