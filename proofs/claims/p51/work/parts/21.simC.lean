/-! The law's own Sim: what makes new rows. -/
theorem ext_fn {a1 a2 : Nat → Nat} {q t : Nat} (h : ∀ f, f < t → a2 (q + f) = a1 (q + f)) : va_up (fun f => if f < t then some (a1 (q + f)) else none) t (some (a2 (q + t))) = fun f => if f < t + 1 then some (a2 (q + f)) else none := by
  funext f
  unfold va_up
  by_cases h1 : f = t
  · subst h1
    rw [if_pos rfl, if_pos (Nat.lt_succ_self _)]
  · rw [if_neg h1]
    show (if f < t then some (a1 (q + f)) else none) = _
    by_cases h2 : f < t
    · rw [if_pos h2, if_pos (by omega), h f h2]
    · rw [if_neg h2, if_neg (by omega)]
/-- what copied leaves: fresh rows from the place n on -/
def OC (g : jG) (F S : Nat) (m : Nat → Nat → Int32) (n : Nat) (ad : Nat → Nat) (E : Nat → va_E) : Option Value → jR := fun v n' ad' E' => v = some (.ref (ad' n)) ∧ n' = n + 1 + F ∧ (∀ k, k < n → ad' k = ad k) ∧ (∀ k, k < n → E' k = E k) ∧ MT g n' ad' E' n (fun f => n + 1 + f) F S m
set_option maxRecDepth 100000 in
set_option maxHeartbeats 4000000 in
theorem c_X4_copied {g : jG} {n i : Nat} {ad : Nat → Nat} {E : Nat → va_E} {r : Nat → Nat} {F S : Nat} {m : Nat → Nat → Int32} (M : MT g n ad E i r F S m) (hF : F ≤ 8) (Ψ : String → jR) : JE g mX4_copied 2 (F + 1) (F * S + F) [.ref (ad i)] n ad E (OC g F S m n ad E) Ψ := by
  show J g mX4_copied 2 (F + 1) (F * S + F) 0 [some (.ref (ad i)), none, none] [] n ad E (OC g F S m n ad E) Ψ
  obtain ⟨⟨hi, hr⟩, hO, hR⟩ := id M
  refine j_aload_n dX4_copied_0 rfl ?_
  refine j_alen 2 dX4_copied_1 hi hO rfl ?_
  refine j_anO (bc := F) (bs := F * S) (N := F) cl_X4_29 (by omega) dX4_copied_2 (fun a1 g1 => ?_)
  rw [← g1 i hi]
  refine j_astore_n (L' := [some (.ref (a1 i)), some (.ref (a1 n)), none]) dX4_copied_5 (by decide) rfl rfl ?_
  refine j_iconst (v := nI 0) dX4_copied_6 (by decide) ?_
  refine j_istore_n (L' := [some (.ref (a1 i)), some (.ref (a1 n)), some (.int (nI 0))]) dX4_copied_7 (by decide) rfl rfl ?_
  let Inv : Nat → (Nat → Nat) → (Nat → va_E) → Prop := fun t a E1 => (∀ k, k < n → a k = ad k) ∧ (∀ k, k < n → E1 k = E k) ∧ E1 n = aO g F (fun f => if f < t then some (a (n + 1 + f)) else none) ∧ ∀ f, f < t → E1 (n + 1 + f) = aI g S (m f)
  suffices hall : ∀ (a : Nat → Nat) (E1 : Nat → va_E), Inv 0 a E1 → J g mX4_copied 2 (F - 0) ((F - 0) * S) 8 [some (.ref (a i)), some (.ref (a n)), some (.int (nI 0))] [] (n + 1 + 0) a E1 (OC g F S m n ad E) Ψ from
    hall a1 _ ⟨g1, fun k hk => up_ne (by omega), up_eq.trans (aO_cg (funext fun f => (if_neg (Nat.not_lt_zero f)).symm)), fun f hf => absurd hf (Nat.not_lt_zero f)⟩
  refine up_ind (P := fun t => ∀ (a : Nat → Nat) (E1 : Nat → va_E), Inv t a E1 → J g mX4_copied 2 (F - t) ((F - t) * S) 8 [some (.ref (a i)), some (.ref (a n)), some (.int (nI t))] [] (n + 1 + t) a E1 (OC g F S m n ad E) Ψ) (N := F) 0 ?_ F (by omega) ?_
  · intro t ht0 ht ih a E1 ⟨i1, i2, i3, i4⟩
    have M1 : MT g (n + 1 + t) a E1 i r F S m := M.tr (by omega) i1 (fun k hk => i2 k (by rcases hk with rfl | ⟨f, hf, rfl⟩ <;> first | exact hi | exact hr f hf))
    refine j_iload_n dX4_copied_8 rfl ?_
    refine j_aload_n dX4_copied_9 rfl ?_
    refine j_alen 2 dX4_copied_10 M1.1.1 M1.2.1 rfl ?_
    refine j_icmp_ge_f (tgt := 32) dX4_copied_11 (by decide) (nI_nle' (by omega) (by omega) (by omega)) ?_
    refine j_aload_n dX4_copied_14 rfl ?_
    refine j_iload_n dX4_copied_15 rfl ?_
    refine j_aload_n dX4_copied_16 rfl ?_
    refine j_iload_n dX4_copied_17 rfl ?_
    refine j_aald (a := a (r t)) dX4_copied_18 M1.1.1 M1.2.1 (by omega) ht (if_pos ht) ?_
    refine j_bud (bc' := F - (t + 1) + 1) (bs' := (F - (t + 1)) * S + S) (by omega) (by rw [← Nat.succ_mul]; exact Nat.mul_le_mul_right _ (by omega)) ?_
    refine j_clone ln_X4_30 kw_same kw_nat kw_inst kw_sel kw_cl dX4_copied_19 (M1.1.2 t ht) (M1.2.2 t ht) (by decide) (Nat.le_of_ble_eq_true rfl) (fun a2 g2 => ?_)
    rw [← g2 i (by omega), ← g2 n (by omega)]
    refine j_castI cl_X4_29 dX4_copied_22 (by omega) up_eq ?_
    refine j_aastO (j := t) dX4_copied_25 (by omega) (by omega) ((up_ne (by omega)).trans i3) up_eq (by omega) ht ?_
    refine j_iinc (v := nI (t + 1)) (L' := [some (.ref (a2 i)), some (.ref (a2 n)), some (.int (nI (t + 1)))]) dX4_copied_26 (by decide) rfl (nI_1 _) rfl rfl ?_
    refine j_goto (tgt := 8) dX4_copied_29 (by decide) ?_
    refine ih a2 _ ⟨fun k hk => (g2 k (by omega)).trans (i1 k hk), fun k hk => (up_ne (by omega)).trans ((up_ne (by omega)).trans (i2 k hk)), up_eq.trans (aO_cg (ext_fn (fun f hf => g2 _ (by omega)))), fun f hf => ?_⟩
    by_cases q : f = t
    · subst q
      exact (up_ne (by omega)).trans up_eq
    · exact (up_ne (by omega)).trans ((up_ne (by omega)).trans (i4 f (by omega)))
  · intro a E1 ⟨i1, i2, i3, i4⟩
    have M1 : MT g (n + 1 + F) a E1 i r F S m := M.tr (by omega) i1 (fun k hk => i2 k (by rcases hk with rfl | ⟨f, hf, rfl⟩ <;> first | exact hi | exact hr f hf))
    refine j_iload_n dX4_copied_8 rfl ?_
    refine j_aload_n dX4_copied_9 rfl ?_
    refine j_alen 2 dX4_copied_10 M1.1.1 M1.2.1 rfl ?_
    refine j_icmp_ge_t (tgt := 32) dX4_copied_11 (by decide) (nI_le' (by omega) (by omega) (by omega)) ?_
    refine j_aload_n dX4_copied_32 rfl ?_
    exact j_rret dX4_copied_33 rfl (Or.inl ⟨_, rfl⟩) ⟨rfl, rfl, i1, i2, ⟨by omega, fun f hf => (show n + 1 + f < n + 1 + F by omega)⟩, i3, i4⟩
/-- the places that 'with' puts into its new array -/
def wjF (j : Nat → Nat) (il c fr : Nat) : Nat → Nat := fun k => if k < c - fr then j (k + fr) else il
def OW (g : jG) (j : Nat → Nat) (il c fr n : Nat) (ad : Nat → Nat) (E : Nat → va_E) : Option Value → jR := fun v n' ad' E' => v = some (.ref (ad' n)) ∧ n' = n + 1 ∧ (∀ k, k < n → ad' k = ad k) ∧ (∀ k, k < n → E' k = E k) ∧ E' n = aP g (c + 1 - fr) (fun k => if k < c + 1 - fr then some (ad' (wjF j il c fr k)) else none)
set_option maxRecDepth 100000 in
set_option maxHeartbeats 4000000 in
theorem c_X4_with {g : jG} {n ia il c fr F : Nat} {ad : Nat → Nat} {E : Nat → va_E} {j : Nat → Nat} {h0 : Nat → Option Nat} (hia : ia < n) (hil : il < n) (hA : E ia = aP g c (fun k => if k < c then some (ad (j k)) else none)) (hj : ∀ k, k < c → j k < n ∧ ∃ h, E (j k) = aO g F h) (hl : E il = aO g F h0) (hfr : fr ≤ c) (hc : c ≤ 100) (Ψ : String → jR) : JE g mX4_with 2 (0 + 1) (0 + (c + 1 - fr)) [.ref (ad ia), .ref (ad il), .int (nI fr)] n ad E (OW g j il c fr n ad E) Ψ := by
  show J g mX4_with 2 (0 + 1) (0 + (c + 1 - fr)) 0 [some (.ref (ad ia)), some (.ref (ad il)), some (.int (nI fr)), none, none] [] n ad E (OW g j il c fr n ad E) Ψ
  refine j_aload_n dX4_with_0 rfl ?_
  refine j_alen 1 dX4_with_1 hia hA rfl ?_
  refine j_iconst (v := nI 1) dX4_with_2 (by decide) ?_
  refine j_iadd dX4_with_3 ?_
  refine j_topi (y := nI (c + 1)) (nI_add _ _) ?_
  refine j_iload_n dX4_with_4 rfl ?_
  refine j_isub dX4_with_5 ?_
  refine j_topi (y := nI (c + 1 - fr)) (pk_sub (by omega)) ?_
  refine j_anP (bc := 0) (bs := 0) (N := c + 1 - fr) cl_X4_7 (by omega) dX4_with_6 (fun a1 g1 => ?_)
  rw [← g1 ia hia, ← g1 il hil]
  refine j_astore_n (L' := [some (.ref (a1 ia)), some (.ref (a1 il)), some (.int (nI fr)), some (.ref (a1 n)), none]) dX4_with_9 (by decide) rfl rfl ?_
  refine j_iload_n dX4_with_10 rfl ?_
  refine j_istore (L' := [some (.ref (a1 ia)), some (.ref (a1 il)), some (.int (nI fr)), some (.ref (a1 n)), some (.int (nI fr))]) dX4_with_11 (by decide) rfl rfl ?_
  let Inv : Nat → (Nat → va_E) → Prop := fun t E1 => (∀ k, k < n → E1 k = E k) ∧ E1 n = aP g (c + 1 - fr) (fun k => if k < t - fr then some (a1 (j (k + fr))) else none)
  have hA1 : ∀ E1 : Nat → va_E, (∀ k, k < n → E1 k = E k) → E1 ia = aP g c (fun k => if k < c then some (a1 (j k)) else none) := fun E1 i1 => (i1 ia hia).trans (hA.trans (aP_cg (refs_cg (fun k hk => g1 _ (hj k hk).1))))
  suffices hall : ∀ (E1 : Nat → va_E), Inv fr E1 → J g mX4_with 2 0 0 13 [some (.ref (a1 ia)), some (.ref (a1 il)), some (.int (nI fr)), some (.ref (a1 n)), some (.int (nI fr))] [] (n + 1) a1 E1 (OW g j il c fr n ad E) Ψ from
    hall _ ⟨fun k hk => up_ne (by omega), up_eq.trans (aP_cg (funext fun f => (if_neg (by omega)).symm))⟩
  refine up_ind (P := fun t => ∀ (E1 : Nat → va_E), Inv t E1 → J g mX4_with 2 0 0 13 [some (.ref (a1 ia)), some (.ref (a1 il)), some (.int (nI fr)), some (.ref (a1 n)), some (.int (nI t))] [] (n + 1) a1 E1 (OW g j il c fr n ad E) Ψ) (N := c) fr ?_ (c - fr) (by omega) ?_
  · intro t ht0 ht ih E1 ⟨i2, i3⟩
    obtain ⟨hjt, h9, hE9⟩ := hj t ht
    refine j_iload dX4_with_13 rfl ?_
    refine j_aload_n dX4_with_15 rfl ?_
    refine j_alen 1 dX4_with_16 (by omega) (hA1 E1 i2) rfl ?_
    refine j_icmp_ge_f (tgt := 36) dX4_with_17 (by decide) (nI_nle' (by omega) (by omega) (by omega)) ?_
    refine j_aload_n dX4_with_20 rfl ?_
    refine j_iload dX4_with_21 rfl ?_
    refine j_iload_n dX4_with_23 rfl ?_
    refine j_isub dX4_with_24 ?_
    refine j_topi (y := nI (t - fr)) (pk_sub (by omega)) ?_
    refine j_aload_n dX4_with_25 rfl ?_
    refine j_iload dX4_with_26 rfl ?_
    refine j_aaldP (a := a1 (j t)) dX4_with_28 (by omega) (hA1 E1 i2) (by omega) ht (if_pos ht) ?_
    refine j_aastP (j := t - fr) (kv := j t) dX4_with_29 (by omega) (by omega) i3 ((i2 _ hjt).trans hE9) (by omega) (by omega) ?_
    refine j_iinc (v := nI (t + 1)) (L' := [some (.ref (a1 ia)), some (.ref (a1 il)), some (.int (nI fr)), some (.ref (a1 n)), some (.int (nI (t + 1)))]) dX4_with_30 (by decide) rfl (nI_1 _) rfl rfl ?_
    refine j_goto (tgt := 13) dX4_with_33 (by decide) ?_
    refine ih _ ⟨fun k hk => (up_ne (by omega)).trans (i2 k hk), up_eq.trans (aP_cg (funext fun k => ?_))⟩
    unfold va_up
    by_cases q : k = t - fr
    · subst q
      rw [if_pos rfl, if_pos (by omega), show t - fr + fr = t by omega]
    · rw [if_neg q]
      show (if k < t - fr then some (a1 (j (k + fr))) else none) = _
      by_cases q2 : k < t - fr
      · rw [if_pos q2, if_pos (by omega)]
      · rw [if_neg q2, if_neg (by omega)]
  · intro E1 ⟨i2, i3⟩
    refine j_iload dX4_with_13 rfl ?_
    refine j_aload_n dX4_with_15 rfl ?_
    refine j_alen 1 dX4_with_16 (by omega) (hA1 E1 i2) rfl ?_
    refine j_icmp_ge_t (tgt := 36) dX4_with_17 (by decide) (nI_le' (by omega) (by omega) (by omega)) ?_
    refine j_aload_n dX4_with_36 rfl ?_
    refine j_aload_n dX4_with_37 rfl ?_
    refine j_alen 1 dX4_with_38 (by omega) i3 rfl ?_
    refine j_iconst (v := nI 1) dX4_with_39 (by decide) ?_
    refine j_isub dX4_with_40 ?_
    refine j_topi (y := nI (c + 1 - fr - 1)) (pk_sub (by omega)) ?_
    refine j_aload_n dX4_with_41 rfl ?_
    refine j_aastP (j := c + 1 - fr - 1) (kv := il) dX4_with_42 (by omega) (by omega) i3 ((i2 _ hil).trans hl) (by omega) (by omega) ?_
    refine j_aload_n dX4_with_43 rfl ?_
    refine j_rret dX4_with_44 rfl (Or.inl ⟨_, rfl⟩) ⟨rfl, rfl, g1, fun k hk => (up_ne (by omega)).trans (i2 k hk), up_eq.trans (aP_cg (funext fun k => ?_))⟩
    unfold va_up wjF
    by_cases q : k = c + 1 - fr - 1
    · subst q
      rw [if_pos rfl, if_pos (by omega), if_neg (by omega)]
    · rw [if_neg q]
      show (if k < c - fr then some (a1 (j (k + fr))) else none) = _
      by_cases q2 : k < c - fr
      · rw [if_pos q2, if_pos (by omega), if_pos q2]
      · rw [if_neg q2, if_neg (by omega)]
