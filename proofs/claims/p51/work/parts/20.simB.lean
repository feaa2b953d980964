/-! The law's own Sim: swap, an hour, hours. -/
theorem sw_fn {ad r : Nat → Nat} {F a b : Nat} (ha : a < F) (hb : b < F) : va_up (va_up (fun f => if f < F then some (ad (r f)) else none) a (some (ad (r b)))) b (some (ad (r a))) = fun f => if f < F then some (ad (swR a b r f)) else none := by
  funext f
  unfold va_up swR swp
  by_cases h1 : f = b
  · rw [if_pos h1]
    subst h1
    by_cases h2 : f = a
    · subst h2
      rw [if_pos hb, if_pos rfl]
    · rw [if_pos hb, if_neg h2, if_pos rfl]
  · rw [if_neg h1]
    by_cases h2 : f = a
    · subst h2
      rw [if_pos rfl, if_pos ha, if_pos rfl]
    · rw [if_neg h2, if_neg h2, if_neg h1]
theorem SV.swap {g : jG} {n : Nat} {ad : Nat → Nat} {E : Nat → va_E} {w iL iE : Nat} {r : Nat → Nat} {F S : Nat} {sun hrs : Int32} {gone : Int64} {m : Nat → Nat → Int32} {e : Nat → Int32} {va vm : Value} {a b : Nat} (V : SV g n ad E w iL iE r F S sun hrs gone m e va vm) (ha : a < F) (hb : b < F) : SV g n ad (va_up E iL (aO g F (fun f => if f < F then some (ad (swR a b r f)) else none))) w iL iE (swR a b r) F S sun hrs gone (fun f => m (swp a b f)) e va vm := by
  obtain ⟨⟨b1, b2, b3, b4⟩, ⟨a1, a2, a3, a4⟩, h3, h4, h5, h6, h7, h8⟩ := V
  refine ⟨⟨b1, b2, b3, fun f hf => b4 _ (swp_lt ha hb hf)⟩, ⟨a1, a2, a3, fun f hf => a4 _ (swp_lt ha hb hf)⟩, fun f f' hf hf' q => ?_, (up_ne a1).trans h4, up_eq, (up_ne (Ne.symm a3)).trans h6, fun f hf => (up_ne (a4 _ (swp_lt ha hb hf)).2.1).trans (h7 _ (swp_lt ha hb hf)), h8⟩
  have q1 := h3 _ _ (swp_lt ha hb hf) (swp_lt ha hb hf') q
  unfold swp at q1
  split at q1 <;> split at q1 <;> (try split at q1) <;> (try split at q1) <;> omega
set_option maxRecDepth 100000 in
set_option maxHeartbeats 4000000 in
theorem s_X4_swap {g : jG} {n : Nat} {ad : Nat → Nat} {E : Nat → va_E} {w iL iE : Nat} {r : Nat → Nat} {F S : Nat} {sun hrs : Int32} {gone : Int64} {m : Nat → Nat → Int32} {e : Nat → Int32} {va vm : Value} (V : SV g n ad E w iL iE r F S sun hrs gone m e va vm) (a b : Nat) (ha : a < F) (hb : b < F) : Ret g mX4_swap 0 [.ref (ad w), .int (nI a), .int (nI b)] n ad E none (va_up E iL (aO g F (fun f => if f < F then some (ad (swR a b r f)) else none))) := by
  obtain ⟨⟨hwn, hLn, hEn, hrn⟩, ⟨hwL, hwE, hLE, hrA⟩, hri, hw, hL, hE, hR, ⟨hF1, hF8⟩, hS1, hS16⟩ := id V
  intro Φ Ψ h
  show J g mX4_swap 0 0 0 0 [some (.ref (ad w)), some (.int (nI a)), some (.int (nI b)), none] [] n ad E Φ Ψ
  refine j_aload_n dX4_swap_0 rfl ?_
  refine j_get fl_X4_9 dX4_swap_1 hwn hw rfl ?_
  refine j_iload_n dX4_swap_4 rfl ?_
  refine j_aald (a := (ad (r a))) dX4_swap_5 hLn hL (by omega) ha (if_pos ha) ?_
  refine j_astore_n (L' := [some (.ref (ad w)), some (.int (nI a)), some (.int (nI b)), some (.ref (ad (r a)))]) dX4_swap_6 (by decide) rfl rfl ?_
  refine j_aload_n dX4_swap_7 rfl ?_
  refine j_get fl_X4_9 dX4_swap_8 hwn hw rfl ?_
  refine j_iload_n dX4_swap_11 rfl ?_
  refine j_aload_n dX4_swap_12 rfl ?_
  refine j_get fl_X4_9 dX4_swap_13 hwn hw rfl ?_
  refine j_iload_n dX4_swap_16 rfl ?_
  refine j_aald (a := (ad (r b))) dX4_swap_17 hLn hL (by omega) hb (if_pos hb) ?_
  refine j_aastO (j := a) dX4_swap_18 hLn (hrn b hb) hL (hR b hb) (by omega) ha ?_
  refine j_aload_n dX4_swap_19 rfl ?_
  refine j_get fl_X4_9 dX4_swap_20 hwn ((up_ne hwL).trans hw) rfl ?_
  refine j_iload_n dX4_swap_23 rfl ?_
  refine j_aload_n dX4_swap_24 rfl ?_
  refine j_aastO (j := b) dX4_swap_25 hLn (hrn a ha) up_eq ((up_ne (hrA a ha).2.1).trans (hR a ha)) (by omega) hb ?_
  refine j_E up_up ?_
  refine j_E (congrArg (fun f => va_up E iL (aO g F f)) (sw_fn ha hb)) ?_
  exact j_vret dX4_swap_26 rfl h
/-- one row dried by the sun -/
def rowB (sun : Int32) (s : Nat) (h : Nat → Int32) : Nat → Int32 := if h s ≤ 0 then h else upd h s (if h s ≤ sun then 0 else h s - sun)
def rowD (sun : Int32) (S : Nat) (h : Nat → Int32) : Nat → Int32 := lpf (rowB sun) 0 S h
def dryM (sun : Int32) (F S : Nat) (m : Nat → Nat → Int32) : Nat → Nat → Int32 := lpf (fun f m => mup m f (rowD sun S (m f))) 0 F m
def m2 (m : Nat → Nat → Int32) (S k : Nat) (v : Int32) : Nat → Nat → Int32 := mup m (k / S) (upd (m (k / S)) (k % S) v)
def psB (e : Nat → Int32) (F S k : Nat) (y : Int32 × (Nat → Nat → Int32)) : Int32 × (Nat → Nat → Int32) :=
  if y.2 (k / S) (k % S) - e (k % S) ≤ 0 then y else if k + 1 = F * S then (y.2 (k / S) (k % S) - e (k % S), m2 y.2 S k (e (k % S))) else (y.1, m2 (m2 y.2 S k (e (k % S))) S (k + 1) (m2 y.2 S k (e (k % S)) ((k + 1) / S) ((k + 1) % S) + (y.2 (k / S) (k % S) - e (k % S))))
def passS (sun : Int32) (e : Nat → Int32) (F S : Nat) (m : Nat → Nat → Int32) : Int32 × (Nat → Nat → Int32) := lpf (psB e F S) 0 (F * S) (0, dryM sun F S m)
theorem mup_self {m : Nat → Nat → Int32} {f : Nat} : mup m f (m f) = m := by
  funext j
  unfold mup
  by_cases h : j = f
  · rw [if_pos h, h]
  · rw [if_neg h]
theorem mup_mup {m : Nat → Nat → Int32} {f : Nat} {h h' : Nat → Int32} : mup (mup m f h) f h' = mup m f h' := by
  funext j
  unfold mup
  by_cases q : j = f
  · rw [if_pos q, if_pos q]
  · rw [if_neg q, if_neg q, if_neg q]
theorem mup_at {m : Nat → Nat → Int32} {f : Nat} {h : Nat → Int32} : mup m f h f = h := if_pos rfl
/-- all but what the Sim writes to is as it was -/
def Fr (w iL iE F : Nat) (r : Nat → Nat) (E E1 : Nat → va_E) : Prop := ∀ k, ¬ Mu w iL iE F r k → E1 k = E k
theorem Fr.row {w iL iE F f : Nat} {r : Nat → Nat} {E E1 : Nat → va_E} {x : va_E} (h : Fr w iL iE F r E E1) (hf : f < F) : Fr w iL iE F r E (va_up E1 (r f) x) := fun k hk => (up_ne (fun z => hk (Or.inr (Or.inr (Or.inr ⟨f, hf, z⟩))))).trans (h k hk)
theorem Fr.top {w iL iE F : Nat} {r : Nat → Nat} {E E1 : Nat → va_E} {x : va_E} (h : Fr w iL iE F r E E1) : Fr w iL iE F r E (va_up E1 w x) := fun k hk => (up_ne (fun z => hk (Or.inl z))).trans (h k hk)
set_option maxRecDepth 100000 in
set_option maxHeartbeats 4000000 in
theorem s_X4_pass {g : jG} {n : Nat} {ad : Nat → Nat} {E : Nat → va_E} {w iL iE : Nat} {r : Nat → Nat} {F S : Nat} {sun hrs : Int32} {gone : Int64} {m : Nat → Nat → Int32} {e : Nat → Int32} {va vm : Value} (V : SV g n ad E w iL iE r F S sun hrs gone m e va vm) : RetP g mX4_pass 0 [.ref (ad w)] n ad E (some (.int (passS sun e F S m).1)) (fun E1 => SV g n ad E1 w iL iE r F S sun (hrs + 1) (gone + ((passS sun e F S m).1).toInt64) ((passS sun e F S m).2) e va vm ∧ Fr w iL iE F r E E1) := by
  obtain ⟨⟨hwn, hLn, hEn, hrn⟩, ⟨hwL, hwE, hLE, hrA⟩, hri, hw, hL, hE, hR, ⟨hF1, hF8⟩, hS1, hS16⟩ := id V
  have hFS := fsS hF8 hS16
  intro Φ Ψ h
  show J g mX4_pass 0 0 0 0 [some (.ref (ad w)), none, none, none, none, none] [] n ad E Φ Ψ
  refine j_aload_n dX4_pass_0 rfl ?_
  refine j_get fl_X4_9 dX4_pass_1 hwn hw rfl ?_
  refine j_astore_n (L' := [some (.ref (ad w)), some (.ref (ad iL)), none, none, none, none]) dX4_pass_4 (by decide) rfl rfl ?_
  refine j_aload_n dX4_pass_5 rfl ?_
  refine j_alen 2 dX4_pass_6 hLn hL rfl ?_
  refine j_istore_n (L' := [some (.ref (ad w)), some (.ref (ad iL)), some (.int (nI F)), none, none, none]) dX4_pass_7 (by decide) rfl rfl ?_
  refine j_iconst (v := nI 0) dX4_pass_8 (by decide) ?_
  refine j_istore_n (L' := [some (.ref (ad w)), some (.ref (ad iL)), some (.int (nI F)), some (.int (nI 0)), none, none]) dX4_pass_9 (by decide) rfl rfl ?_
  suffices hall : ∀ E1 : Nat → va_E, (SV g n ad E1 w iL iE r F S sun hrs gone m e va vm ∧ Fr w iL iE F r E E1) → J g mX4_pass 0 0 0 10 [some (.ref (ad w)), some (.ref (ad iL)), some (.int (nI F)), some (.int (nI 0)), none, none] [] n ad E1 Φ Ψ from hall E ⟨V, fun _ _ => rfl⟩
  refine lpf_ind (b := fun f m1 => mup m1 f (rowD sun S (m1 f))) (P := fun (f : Nat) (m1 : Nat → Nat → Int32) => ∀ E1 : Nat → va_E, (SV g n ad E1 w iL iE r F S sun hrs gone m1 e va vm ∧ Fr w iL iE F r E E1) → J g mX4_pass 0 0 0 10 [some (.ref (ad w)), some (.ref (ad iL)), some (.int (nI F)), some (.int (nI f)), none, none] [] n ad E1 Φ Ψ) (N := F) 0 ?_ F m (by omega) ?_
  · intro f m1 hf0 hf ih E1 q1
    have V1 := q1.1
    obtain ⟨⟨hwn1, hLn1, hEn1, hrn1⟩, ⟨hwL1, hwE1, hLE1, hrA1⟩, hri1, hw1, hL1, hE1, hR1, ⟨hF11, hF81⟩, hS11, hS161⟩ := id V1
    show J g mX4_pass 0 0 0 10 [some (.ref (ad w)), some (.ref (ad iL)), some (.int (nI F)), some (.int (nI f)), none, none] [] n ad E1 Φ Ψ
    refine j_iload_n dX4_pass_10 rfl ?_
    refine j_iload_n dX4_pass_11 rfl ?_
    refine j_icmp_ge_f (tgt := 82) dX4_pass_12 (by decide) (nI_nle' (by omega) (by omega) (by omega)) ?_
    refine j_aload_n dX4_pass_15 rfl ?_
    refine j_iload_n dX4_pass_16 rfl ?_
    refine j_aald (a := (ad (r f))) dX4_pass_17 hLn1 hL1 (by omega) hf (if_pos hf) ?_
    refine j_astore (L' := [some (.ref (ad w)), some (.ref (ad iL)), some (.int (nI F)), some (.int (nI f)), some (.ref (ad (r f))), none]) dX4_pass_18 (by decide) rfl rfl ?_
    refine j_iconst (v := nI 0) dX4_pass_20 (by decide) ?_
    refine j_istore (L' := [some (.ref (ad w)), some (.ref (ad iL)), some (.int (nI F)), some (.int (nI f)), some (.ref (ad (r f))), some (.int (nI 0))]) dX4_pass_21 (by decide) rfl rfl ?_
    suffices hall2 : ∀ E1 : Nat → va_E, (SV g n ad E1 w iL iE r F S sun hrs gone (mup m1 f (m1 f)) e va vm ∧ Fr w iL iE F r E E1) → J g mX4_pass 0 0 0 23 [some (.ref (ad w)), some (.ref (ad iL)), some (.int (nI F)), some (.int (nI f)), some (.ref (ad (r f))), some (.int (nI 0))] [] n ad E1 Φ Ψ from hall2 E1 ⟨mup_self.symm ▸ V1, q1.2⟩
    refine lpf_ind (b := rowB sun) (P := fun (k : Nat) (h9 : Nat → Int32) => ∀ E1 : Nat → va_E, (SV g n ad E1 w iL iE r F S sun hrs gone (mup m1 f h9) e va vm ∧ Fr w iL iE F r E E1) → J g mX4_pass 0 0 0 23 [some (.ref (ad w)), some (.ref (ad iL)), some (.int (nI F)), some (.int (nI f)), some (.ref (ad (r f))), some (.int (nI k))] [] n ad E1 Φ Ψ) (N := S) 0 ?_ S (m1 f) (by omega) ?_
    · intro k h9 hk0 hk ih2 E2 q2
      have V2 := q2.1
      obtain ⟨⟨hwn2, hLn2, hEn2, hrn2⟩, ⟨hwL2, hwE2, hLE2, hrA2⟩, hri2, hw2, hL2, hE2, hR2, ⟨hF12, hF82⟩, hS12, hS162⟩ := id V2
      have hf2 := hR2 f hf
      rw [mup_at] at hf2
      show J g mX4_pass 0 0 0 23 [some (.ref (ad w)), some (.ref (ad iL)), some (.int (nI F)), some (.int (nI f)), some (.ref (ad (r f))), some (.int (nI k))] [] n ad E2 Φ Ψ
      by_cases hq : h9 k ≤ 0
      · skip
        refine j_iload dX4_pass_23 rfl ?_
        refine j_aload dX4_pass_25 rfl ?_
        refine j_alen 0 dX4_pass_27 (hrn2 f hf) hf2 rfl ?_
        refine j_icmp_ge_f (tgt := 76) dX4_pass_28 (by decide) (nI_nle' (by omega) (by omega) (by omega)) ?_
        refine j_aload dX4_pass_31 rfl ?_
        refine j_iload dX4_pass_33 rfl ?_
        refine j_iald dX4_pass_35 (hrn2 f hf) hf2 (by omega) (by omega) rfl ?_
        refine j_if_le_t (tgt := 70) dX4_pass_36 (by decide) hq ?_
        refine j_iinc (v := nI (k + 1)) (L' := [some (.ref (ad w)), some (.ref (ad iL)), some (.int (nI F)), some (.int (nI f)), some (.ref (ad (r f))), some (.int (nI (k + 1)))]) dX4_pass_70 (by decide) rfl (nI_1 _) rfl rfl ?_
        refine j_goto (tgt := 23) dX4_pass_73 (by decide) ?_
        exact ih2 h9 (if_pos hq).symm _ q2
      · skip
        by_cases hr : h9 k ≤ sun
        · skip
          refine j_iload dX4_pass_23 rfl ?_
          refine j_aload dX4_pass_25 rfl ?_
          refine j_alen 0 dX4_pass_27 (hrn2 f hf) hf2 rfl ?_
          refine j_icmp_ge_f (tgt := 76) dX4_pass_28 (by decide) (nI_nle' (by omega) (by omega) (by omega)) ?_
          refine j_aload dX4_pass_31 rfl ?_
          refine j_iload dX4_pass_33 rfl ?_
          refine j_iald dX4_pass_35 (hrn2 f hf) hf2 (by omega) (by omega) rfl ?_
          refine j_if_le_f (tgt := 70) dX4_pass_36 (by decide) hq ?_
          refine j_aload dX4_pass_39 rfl ?_
          refine j_iload dX4_pass_41 rfl ?_
          refine j_aload dX4_pass_43 rfl ?_
          refine j_iload dX4_pass_45 rfl ?_
          refine j_iald dX4_pass_47 (hrn2 f hf) hf2 (by omega) (by omega) rfl ?_
          refine j_aload_n dX4_pass_48 rfl ?_
          refine j_get fl_X4_18 dX4_pass_49 hwn2 hw2 rfl ?_
          refine j_icmp_le_t (tgt := 68) dX4_pass_52 (by decide) hr ?_
          refine j_iconst (v := 0) dX4_pass_68 (by decide) ?_
          refine j_iast (j := k) dX4_pass_69 (hrn2 f hf) hf2 (by omega) (by omega) ?_
          refine j_iinc (v := nI (k + 1)) (L' := [some (.ref (ad w)), some (.ref (ad iL)), some (.int (nI F)), some (.int (nI f)), some (.ref (ad (r f))), some (.int (nI (k + 1)))]) dX4_pass_70 (by decide) rfl (nI_1 _) rfl rfl ?_
          refine j_goto (tgt := 23) dX4_pass_73 (by decide) ?_
          exact ih2 (upd h9 k (0)) (by unfold rowB; rw [if_neg hq, if_pos hr]) _ ⟨by have := V2.setM (f0 := f) (h := upd h9 k (0)) hf; rwa [mup_mup] at this, q2.2.row hf⟩
        · skip
          refine j_iload dX4_pass_23 rfl ?_
          refine j_aload dX4_pass_25 rfl ?_
          refine j_alen 0 dX4_pass_27 (hrn2 f hf) hf2 rfl ?_
          refine j_icmp_ge_f (tgt := 76) dX4_pass_28 (by decide) (nI_nle' (by omega) (by omega) (by omega)) ?_
          refine j_aload dX4_pass_31 rfl ?_
          refine j_iload dX4_pass_33 rfl ?_
          refine j_iald dX4_pass_35 (hrn2 f hf) hf2 (by omega) (by omega) rfl ?_
          refine j_if_le_f (tgt := 70) dX4_pass_36 (by decide) hq ?_
          refine j_aload dX4_pass_39 rfl ?_
          refine j_iload dX4_pass_41 rfl ?_
          refine j_aload dX4_pass_43 rfl ?_
          refine j_iload dX4_pass_45 rfl ?_
          refine j_iald dX4_pass_47 (hrn2 f hf) hf2 (by omega) (by omega) rfl ?_
          refine j_aload_n dX4_pass_48 rfl ?_
          refine j_get fl_X4_18 dX4_pass_49 hwn2 hw2 rfl ?_
          refine j_icmp_le_f (tgt := 68) dX4_pass_52 (by decide) hr ?_
          refine j_aload dX4_pass_55 rfl ?_
          refine j_iload dX4_pass_57 rfl ?_
          refine j_iald dX4_pass_59 (hrn2 f hf) hf2 (by omega) (by omega) rfl ?_
          refine j_aload_n dX4_pass_60 rfl ?_
          refine j_get fl_X4_18 dX4_pass_61 hwn2 hw2 rfl ?_
          refine j_isub dX4_pass_64 ?_
          refine j_goto (tgt := 69) dX4_pass_65 (by decide) ?_
          refine j_iast (j := k) dX4_pass_69 (hrn2 f hf) hf2 (by omega) (by omega) ?_
          refine j_iinc (v := nI (k + 1)) (L' := [some (.ref (ad w)), some (.ref (ad iL)), some (.int (nI F)), some (.int (nI f)), some (.ref (ad (r f))), some (.int (nI (k + 1)))]) dX4_pass_70 (by decide) rfl (nI_1 _) rfl rfl ?_
          refine j_goto (tgt := 23) dX4_pass_73 (by decide) ?_
          exact ih2 (upd h9 k (h9 k - sun)) (by unfold rowB; rw [if_neg hq, if_neg hr]) _ ⟨by have := V2.setM (f0 := f) (h := upd h9 k (h9 k - sun)) hf; rwa [mup_mup] at this, q2.2.row hf⟩
    · intro E2 q2
      have V2 := q2.1
      obtain ⟨⟨hwn2, hLn2, hEn2, hrn2⟩, ⟨hwL2, hwE2, hLE2, hrA2⟩, hri2, hw2, hL2, hE2, hR2, ⟨hF12, hF82⟩, hS12, hS162⟩ := id V2
      show J g mX4_pass 0 0 0 23 [some (.ref (ad w)), some (.ref (ad iL)), some (.int (nI F)), some (.int (nI f)), some (.ref (ad (r f))), some (.int (nI S))] [] n ad E2 Φ Ψ
      refine j_iload dX4_pass_23 rfl ?_
      refine j_aload dX4_pass_25 rfl ?_
      refine j_alen 0 dX4_pass_27 (hrn2 f hf) (hR2 f hf) rfl ?_
      refine j_icmp_ge_t (tgt := 76) dX4_pass_28 (by decide) (nI_le' (by omega) (by omega) (by omega)) ?_
      refine j_iinc (v := nI (f + 1)) (L' := [some (.ref (ad w)), some (.ref (ad iL)), some (.int (nI F)), some (.int (nI (f + 1))), some (.ref (ad (r f))), some (.int (nI S))]) dX4_pass_76 (by decide) rfl (nI_1 _) rfl rfl ?_
      refine j_goto (tgt := 10) dX4_pass_79 (by decide) ?_
      refine j_clr 5 ?_
      refine j_clr 4 ?_
      exact ih _ rfl _ q2
  · intro E1 q1
    have V1 := q1.1
    obtain ⟨⟨hwn1, hLn1, hEn1, hrn1⟩, ⟨hwL1, hwE1, hLE1, hrA1⟩, hri1, hw1, hL1, hE1, hR1, ⟨hF11, hF81⟩, hS11, hS161⟩ := id V1
    show J g mX4_pass 0 0 0 10 [some (.ref (ad w)), some (.ref (ad iL)), some (.int (nI F)), some (.int (nI F)), none, none] [] n ad E1 Φ Ψ
    refine j_iload_n dX4_pass_10 rfl ?_
    refine j_iload_n dX4_pass_11 rfl ?_
    refine j_icmp_ge_t (tgt := 82) dX4_pass_12 (by decide) (nI_le' (by omega) (by omega) (by omega)) ?_
    refine j_iconst (v := 0) dX4_pass_82 (by decide) ?_
    refine j_istore_n (L' := [some (.ref (ad w)), some (.int 0), some (.int (nI F)), some (.int (nI F)), none, none]) dX4_pass_83 (by decide) rfl rfl ?_
    refine j_aload_n dX4_pass_84 rfl ?_
    refine j_get fl_X4_14 dX4_pass_85 hwn1 hw1 rfl ?_
    refine j_alen 0 dX4_pass_88 hEn1 hE1 rfl ?_
    refine j_istore_n (L' := [some (.ref (ad w)), some (.int 0), some (.int (nI S)), some (.int (nI F)), none, none]) dX4_pass_89 (by decide) rfl rfl ?_
    refine j_iconst (v := nI 0) dX4_pass_90 (by decide) ?_
    refine j_istore_n (L' := [some (.ref (ad w)), some (.int 0), some (.int (nI S)), some (.int (nI 0)), none, none]) dX4_pass_91 (by decide) rfl rfl ?_
    suffices hall3 : ∀ E1 : Nat → va_E, (SV g n ad E1 w iL iE r F S sun hrs gone (dryM sun F S m) e va vm ∧ Fr w iL iE F r E E1) → J g mX4_pass 0 0 0 92 [some (.ref (ad w)), some (.int 0), some (.int (nI S)), some (.int (nI 0)), none, none] [] n ad E1 Φ Ψ from hall3 E1 q1
    refine lpf_ind (b := psB e F S) (P := fun (k : Nat) (y : Int32 × (Nat → Nat → Int32)) => ∀ E1 : Nat → va_E, (SV g n ad E1 w iL iE r F S sun hrs gone y.2 e va vm ∧ Fr w iL iE F r E E1) → J g mX4_pass 0 0 0 92 [some (.ref (ad w)), some (.int y.1), some (.int (nI S)), some (.int (nI k)), none, none] [] n ad E1 Φ Ψ) (N := F * S) 0 ?_ (F * S) ((0, dryM sun F S m) : Int32 × (Nat → Nat → Int32)) (by omega) ?_
    · intro k y hk0 hk ih E3 q3
      obtain ⟨lo, m3⟩ := y
      have V3 := q3.1
      obtain ⟨⟨hwn3, hLn3, hEn3, hrn3⟩, ⟨hwL3, hwE3, hLE3, hrA3⟩, hri3, hw3, hL3, hE3, hR3, ⟨hF13, hF83⟩, hS13, hS163⟩ := id V3
      have hkF := divF hk
      have hkS := modS (k := k) hS1
      show J g mX4_pass 0 0 0 92 [some (.ref (ad w)), some (.int lo), some (.int (nI S)), some (.int (nI k)), none, none] [] n ad E3 Φ Ψ
      by_cases hq : m3 (k / S) (k % S) - e (k % S) ≤ 0
      · skip
        refine j_iload_n dX4_pass_92 rfl ?_
        refine j_iload_n dX4_pass_93 rfl ?_
        refine j_aload_n dX4_pass_94 rfl ?_
        refine j_get fl_X4_9 dX4_pass_95 hwn3 hw3 rfl ?_
        refine j_alen 2 dX4_pass_98 hLn3 hL3 rfl ?_
        refine j_imul dX4_pass_99 ?_
        refine j_topi (y := nI (S * F)) (pk_mul _ _) ?_
        refine j_st (st' := [.int (nI (F * S)), .int (nI k)]) (by rw [Nat.mul_comm S F]) ?_
        refine j_icmp_ge_f (tgt := 200) dX4_pass_100 (by decide) (nI_nle' (by omega) (by omega) (by omega)) ?_
        refine j_aload_n dX4_pass_103 rfl ?_
        refine j_get fl_X4_9 dX4_pass_104 hwn3 hw3 rfl ?_
        refine j_iload_n dX4_pass_107 rfl ?_
        refine j_iload_n dX4_pass_108 rfl ?_
        refine j_idiv dX4_pass_109 (nI_ne0 (by omega) (by omega)) ?_
        refine j_topi (y := nI (k / S)) (pk_div (by omega) (by omega) (by omega)) ?_
        refine j_aald (a := (ad (r (k / S)))) dX4_pass_110 hLn3 hL3 (by omega) hkF (if_pos hkF) ?_
        refine j_iload_n dX4_pass_111 rfl ?_
        refine j_iload_n dX4_pass_112 rfl ?_
        refine j_irem dX4_pass_113 (nI_ne0 (by omega) (by omega)) ?_
        refine j_topi (y := nI (k % S)) (pk_rem (by omega) (by omega) (by omega)) ?_
        refine j_iald dX4_pass_114 (hrn3 (k / S) hkF) (hR3 (k / S) hkF) (by omega) hkS rfl ?_
        refine j_aload_n dX4_pass_115 rfl ?_
        refine j_get fl_X4_14 dX4_pass_116 hwn3 hw3 rfl ?_
        refine j_iload_n dX4_pass_119 rfl ?_
        refine j_iload_n dX4_pass_120 rfl ?_
        refine j_irem dX4_pass_121 (nI_ne0 (by omega) (by omega)) ?_
        refine j_topi (y := nI (k % S)) (pk_rem (by omega) (by omega) (by omega)) ?_
        refine j_iald dX4_pass_122 hEn3 hE3 (by omega) hkS rfl ?_
        refine j_isub dX4_pass_123 ?_
        refine j_istore (L' := [some (.ref (ad w)), some (.int lo), some (.int (nI S)), some (.int (nI k)), some (.int (((m3 (k / S)) (k % S)) - (e (k % S)))), none]) dX4_pass_124 (by decide) rfl rfl ?_
        refine j_iload dX4_pass_126 rfl ?_
        refine j_if_gt_f (tgt := 134) dX4_pass_128 (by decide) (fun z => absurd hq (Int32.not_le.mpr z)) ?_
        refine j_goto (tgt := 194) dX4_pass_131 (by decide) ?_
        refine j_iinc (v := nI (k + 1)) (L' := [some (.ref (ad w)), some (.int lo), some (.int (nI S)), some (.int (nI (k + 1))), some (.int (((m3 (k / S)) (k % S)) - (e (k % S)))), none]) dX4_pass_194 (by decide) rfl (nI_1 _) rfl rfl ?_
        refine j_goto (tgt := 92) dX4_pass_197 (by decide) ?_
        refine j_clr 4 ?_
        exact ih (lo, m3) (if_pos hq).symm _ q3
      · skip
        have hp := Int32.not_le.mp hq
        by_cases hz : k + 1 = F * S
        · skip
          refine j_iload_n dX4_pass_92 rfl ?_
          refine j_iload_n dX4_pass_93 rfl ?_
          refine j_aload_n dX4_pass_94 rfl ?_
          refine j_get fl_X4_9 dX4_pass_95 hwn3 hw3 rfl ?_
          refine j_alen 2 dX4_pass_98 hLn3 hL3 rfl ?_
          refine j_imul dX4_pass_99 ?_
          refine j_topi (y := nI (S * F)) (pk_mul _ _) ?_
          refine j_st (st' := [.int (nI (F * S)), .int (nI k)]) (by rw [Nat.mul_comm S F]) ?_
          refine j_icmp_ge_f (tgt := 200) dX4_pass_100 (by decide) (nI_nle' (by omega) (by omega) (by omega)) ?_
          refine j_aload_n dX4_pass_103 rfl ?_
          refine j_get fl_X4_9 dX4_pass_104 hwn3 hw3 rfl ?_
          refine j_iload_n dX4_pass_107 rfl ?_
          refine j_iload_n dX4_pass_108 rfl ?_
          refine j_idiv dX4_pass_109 (nI_ne0 (by omega) (by omega)) ?_
          refine j_topi (y := nI (k / S)) (pk_div (by omega) (by omega) (by omega)) ?_
          refine j_aald (a := (ad (r (k / S)))) dX4_pass_110 hLn3 hL3 (by omega) hkF (if_pos hkF) ?_
          refine j_iload_n dX4_pass_111 rfl ?_
          refine j_iload_n dX4_pass_112 rfl ?_
          refine j_irem dX4_pass_113 (nI_ne0 (by omega) (by omega)) ?_
          refine j_topi (y := nI (k % S)) (pk_rem (by omega) (by omega) (by omega)) ?_
          refine j_iald dX4_pass_114 (hrn3 (k / S) hkF) (hR3 (k / S) hkF) (by omega) hkS rfl ?_
          refine j_aload_n dX4_pass_115 rfl ?_
          refine j_get fl_X4_14 dX4_pass_116 hwn3 hw3 rfl ?_
          refine j_iload_n dX4_pass_119 rfl ?_
          refine j_iload_n dX4_pass_120 rfl ?_
          refine j_irem dX4_pass_121 (nI_ne0 (by omega) (by omega)) ?_
          refine j_topi (y := nI (k % S)) (pk_rem (by omega) (by omega) (by omega)) ?_
          refine j_iald dX4_pass_122 hEn3 hE3 (by omega) hkS rfl ?_
          refine j_isub dX4_pass_123 ?_
          refine j_istore (L' := [some (.ref (ad w)), some (.int lo), some (.int (nI S)), some (.int (nI k)), some (.int (((m3 (k / S)) (k % S)) - (e (k % S)))), none]) dX4_pass_124 (by decide) rfl rfl ?_
          refine j_iload dX4_pass_126 rfl ?_
          refine j_if_gt_t (tgt := 134) dX4_pass_128 (by decide) hp ?_
          refine j_aload_n dX4_pass_134 rfl ?_
          refine j_get fl_X4_9 dX4_pass_135 hwn3 hw3 rfl ?_
          refine j_iload_n dX4_pass_138 rfl ?_
          refine j_iload_n dX4_pass_139 rfl ?_
          refine j_idiv dX4_pass_140 (nI_ne0 (by omega) (by omega)) ?_
          refine j_topi (y := nI (k / S)) (pk_div (by omega) (by omega) (by omega)) ?_
          refine j_aald (a := (ad (r (k / S)))) dX4_pass_141 hLn3 hL3 (by omega) hkF (if_pos hkF) ?_
          refine j_iload_n dX4_pass_142 rfl ?_
          refine j_iload_n dX4_pass_143 rfl ?_
          refine j_irem dX4_pass_144 (nI_ne0 (by omega) (by omega)) ?_
          refine j_topi (y := nI (k % S)) (pk_rem (by omega) (by omega) (by omega)) ?_
          refine j_aload_n dX4_pass_145 rfl ?_
          refine j_get fl_X4_14 dX4_pass_146 hwn3 hw3 rfl ?_
          refine j_iload_n dX4_pass_149 rfl ?_
          refine j_iload_n dX4_pass_150 rfl ?_
          refine j_irem dX4_pass_151 (nI_ne0 (by omega) (by omega)) ?_
          refine j_topi (y := nI (k % S)) (pk_rem (by omega) (by omega) (by omega)) ?_
          refine j_iald dX4_pass_152 hEn3 hE3 (by omega) hkS rfl ?_
          refine j_iast (j := k % S) dX4_pass_153 (hrn3 (k / S) hkF) (hR3 (k / S) hkF) (by omega) hkS ?_
          refine j_iload_n dX4_pass_154 rfl ?_
          refine j_iconst (v := 1) dX4_pass_155 (by decide) ?_
          refine j_iadd dX4_pass_156 ?_
          refine j_topi (y := nI (k + 1)) (nI_add _ _) ?_
          refine j_iload_n dX4_pass_157 rfl ?_
          refine j_aload_n dX4_pass_158 rfl ?_
          refine j_get fl_X4_9 dX4_pass_159 hwn3 ((up_ne (Ne.symm (hrA3 (k / S) hkF).1)).trans hw3) rfl ?_
          refine j_alen 2 dX4_pass_162 hLn3 ((up_ne (Ne.symm (hrA3 (k / S) hkF).2.1)).trans hL3) rfl ?_
          refine j_imul dX4_pass_163 ?_
          refine j_topi (y := nI (S * F)) (pk_mul _ _) ?_
          refine j_st (st' := [.int (nI (F * S)), .int (nI (k + 1))]) (by rw [Nat.mul_comm S F]) ?_
          refine j_icmp_ne_f (tgt := 173) dX4_pass_164 (by decide) (nI_eq' (by omega)) ?_
          refine j_iload dX4_pass_167 rfl ?_
          refine j_istore_n (L' := [some (.ref (ad w)), some (.int (((m3 (k / S)) (k % S)) - (e (k % S)))), some (.int (nI S)), some (.int (nI k)), some (.int (((m3 (k / S)) (k % S)) - (e (k % S)))), none]) dX4_pass_169 (by decide) rfl rfl ?_
          refine j_goto (tgt := 194) dX4_pass_170 (by decide) ?_
          refine j_iinc (v := nI (k + 1)) (L' := [some (.ref (ad w)), some (.int (((m3 (k / S)) (k % S)) - (e (k % S)))), some (.int (nI S)), some (.int (nI (k + 1))), some (.int (((m3 (k / S)) (k % S)) - (e (k % S)))), none]) dX4_pass_194 (by decide) rfl (nI_1 _) rfl rfl ?_
          refine j_goto (tgt := 92) dX4_pass_197 (by decide) ?_
          refine j_clr 4 ?_
          exact ih (m3 (k / S) (k % S) - e (k % S), m2 m3 S k (e (k % S))) (by unfold psB; rw [if_neg hq, if_pos hz]) _ ⟨V3.setM hkF, q3.2.row hkF⟩
        · skip
          have hz1 : k + 1 < F * S := by omega
          have hjF := divF hz1
          have hjS := modS (k := k + 1) hS1
          refine j_iload_n dX4_pass_92 rfl ?_
          refine j_iload_n dX4_pass_93 rfl ?_
          refine j_aload_n dX4_pass_94 rfl ?_
          refine j_get fl_X4_9 dX4_pass_95 hwn3 hw3 rfl ?_
          refine j_alen 2 dX4_pass_98 hLn3 hL3 rfl ?_
          refine j_imul dX4_pass_99 ?_
          refine j_topi (y := nI (S * F)) (pk_mul _ _) ?_
          refine j_st (st' := [.int (nI (F * S)), .int (nI k)]) (by rw [Nat.mul_comm S F]) ?_
          refine j_icmp_ge_f (tgt := 200) dX4_pass_100 (by decide) (nI_nle' (by omega) (by omega) (by omega)) ?_
          refine j_aload_n dX4_pass_103 rfl ?_
          refine j_get fl_X4_9 dX4_pass_104 hwn3 hw3 rfl ?_
          refine j_iload_n dX4_pass_107 rfl ?_
          refine j_iload_n dX4_pass_108 rfl ?_
          refine j_idiv dX4_pass_109 (nI_ne0 (by omega) (by omega)) ?_
          refine j_topi (y := nI (k / S)) (pk_div (by omega) (by omega) (by omega)) ?_
          refine j_aald (a := (ad (r (k / S)))) dX4_pass_110 hLn3 hL3 (by omega) hkF (if_pos hkF) ?_
          refine j_iload_n dX4_pass_111 rfl ?_
          refine j_iload_n dX4_pass_112 rfl ?_
          refine j_irem dX4_pass_113 (nI_ne0 (by omega) (by omega)) ?_
          refine j_topi (y := nI (k % S)) (pk_rem (by omega) (by omega) (by omega)) ?_
          refine j_iald dX4_pass_114 (hrn3 (k / S) hkF) (hR3 (k / S) hkF) (by omega) hkS rfl ?_
          refine j_aload_n dX4_pass_115 rfl ?_
          refine j_get fl_X4_14 dX4_pass_116 hwn3 hw3 rfl ?_
          refine j_iload_n dX4_pass_119 rfl ?_
          refine j_iload_n dX4_pass_120 rfl ?_
          refine j_irem dX4_pass_121 (nI_ne0 (by omega) (by omega)) ?_
          refine j_topi (y := nI (k % S)) (pk_rem (by omega) (by omega) (by omega)) ?_
          refine j_iald dX4_pass_122 hEn3 hE3 (by omega) hkS rfl ?_
          refine j_isub dX4_pass_123 ?_
          refine j_istore (L' := [some (.ref (ad w)), some (.int lo), some (.int (nI S)), some (.int (nI k)), some (.int (((m3 (k / S)) (k % S)) - (e (k % S)))), none]) dX4_pass_124 (by decide) rfl rfl ?_
          refine j_iload dX4_pass_126 rfl ?_
          refine j_if_gt_t (tgt := 134) dX4_pass_128 (by decide) hp ?_
          refine j_aload_n dX4_pass_134 rfl ?_
          refine j_get fl_X4_9 dX4_pass_135 hwn3 hw3 rfl ?_
          refine j_iload_n dX4_pass_138 rfl ?_
          refine j_iload_n dX4_pass_139 rfl ?_
          refine j_idiv dX4_pass_140 (nI_ne0 (by omega) (by omega)) ?_
          refine j_topi (y := nI (k / S)) (pk_div (by omega) (by omega) (by omega)) ?_
          refine j_aald (a := (ad (r (k / S)))) dX4_pass_141 hLn3 hL3 (by omega) hkF (if_pos hkF) ?_
          refine j_iload_n dX4_pass_142 rfl ?_
          refine j_iload_n dX4_pass_143 rfl ?_
          refine j_irem dX4_pass_144 (nI_ne0 (by omega) (by omega)) ?_
          refine j_topi (y := nI (k % S)) (pk_rem (by omega) (by omega) (by omega)) ?_
          refine j_aload_n dX4_pass_145 rfl ?_
          refine j_get fl_X4_14 dX4_pass_146 hwn3 hw3 rfl ?_
          refine j_iload_n dX4_pass_149 rfl ?_
          refine j_iload_n dX4_pass_150 rfl ?_
          refine j_irem dX4_pass_151 (nI_ne0 (by omega) (by omega)) ?_
          refine j_topi (y := nI (k % S)) (pk_rem (by omega) (by omega) (by omega)) ?_
          refine j_iald dX4_pass_152 hEn3 hE3 (by omega) hkS rfl ?_
          refine j_iast (j := k % S) dX4_pass_153 (hrn3 (k / S) hkF) (hR3 (k / S) hkF) (by omega) hkS ?_
          have V4 := V3.setM (f0 := k / S) (h := upd (m3 (k / S)) (k % S) (e (k % S))) hkF
          have F4 := q3.2.row (x := aI g S (upd (m3 (k / S)) (k % S) (e (k % S)))) hkF
          generalize hE4 : va_up E3 (r (k / S)) (aI g S (upd (m3 (k / S)) (k % S) (e (k % S)))) = E4 at V4 F4 ⊢
          have V5 : SV g n ad E4 w iL iE r F S sun hrs gone (m2 m3 S k (e (k % S))) e va vm := V4
          obtain ⟨⟨hwn5, hLn5, hEn5, hrn5⟩, ⟨hwL5, hwE5, hLE5, hrA5⟩, hri5, hw5, hL5, hE5, hR5, ⟨hF15, hF85⟩, hS15, hS165⟩ := id V5
          refine j_iload_n dX4_pass_154 rfl ?_
          refine j_iconst (v := 1) dX4_pass_155 (by decide) ?_
          refine j_iadd dX4_pass_156 ?_
          refine j_topi (y := nI (k + 1)) (nI_add _ _) ?_
          refine j_iload_n dX4_pass_157 rfl ?_
          refine j_aload_n dX4_pass_158 rfl ?_
          refine j_get fl_X4_9 dX4_pass_159 hwn5 hw5 rfl ?_
          refine j_alen 2 dX4_pass_162 hLn5 hL5 rfl ?_
          refine j_imul dX4_pass_163 ?_
          refine j_topi (y := nI (S * F)) (pk_mul _ _) ?_
          refine j_st (st' := [.int (nI (F * S)), .int (nI (k + 1))]) (by rw [Nat.mul_comm S F]) ?_
          refine j_icmp_ne_t (tgt := 173) dX4_pass_164 (by decide) (nI_ne' (by omega) (by omega) (by omega)) ?_
          refine j_aload_n dX4_pass_173 rfl ?_
          refine j_get fl_X4_9 dX4_pass_174 hwn5 hw5 rfl ?_
          refine j_iload_n dX4_pass_177 rfl ?_
          refine j_iconst (v := 1) dX4_pass_178 (by decide) ?_
          refine j_iadd dX4_pass_179 ?_
          refine j_topi (y := nI (k + 1)) (nI_add _ _) ?_
          refine j_iload_n dX4_pass_180 rfl ?_
          refine j_idiv dX4_pass_181 (nI_ne0 (by omega) (by omega)) ?_
          refine j_topi (y := nI ((k + 1) / S)) (pk_div (by omega) (by omega) (by omega)) ?_
          refine j_aald (a := (ad (r ((k + 1) / S)))) dX4_pass_182 hLn5 hL5 (by omega) hjF (if_pos hjF) ?_
          refine j_iload_n dX4_pass_183 rfl ?_
          refine j_iconst (v := 1) dX4_pass_184 (by decide) ?_
          refine j_iadd dX4_pass_185 ?_
          refine j_topi (y := nI (k + 1)) (nI_add _ _) ?_
          refine j_iload_n dX4_pass_186 rfl ?_
          refine j_irem dX4_pass_187 (nI_ne0 (by omega) (by omega)) ?_
          refine j_topi (y := nI ((k + 1) % S)) (pk_rem (by omega) (by omega) (by omega)) ?_
          refine j_dup2 dX4_pass_188 rfl rfl ?_
          refine j_iald dX4_pass_189 (hrn5 ((k + 1) / S) hjF) (hR5 ((k + 1) / S) hjF) (by omega) hjS rfl ?_
          refine j_iload dX4_pass_190 rfl ?_
          refine j_iadd dX4_pass_192 ?_
          refine j_iast (j := (k + 1) % S) dX4_pass_193 (hrn5 ((k + 1) / S) hjF) (hR5 ((k + 1) / S) hjF) (by omega) hjS ?_
          refine j_iinc (v := nI (k + 1)) (L' := [some (.ref (ad w)), some (.int lo), some (.int (nI S)), some (.int (nI (k + 1))), some (.int (((m3 (k / S)) (k % S)) - (e (k % S)))), none]) dX4_pass_194 (by decide) rfl (nI_1 _) rfl rfl ?_
          refine j_goto (tgt := 92) dX4_pass_197 (by decide) ?_
          refine j_clr 4 ?_
          exact ih (lo, m2 (m2 m3 S k (e (k % S))) S (k + 1) (m2 m3 S k (e (k % S)) ((k + 1) / S) ((k + 1) % S) + (m3 (k / S) (k % S) - e (k % S)))) (by unfold psB; rw [if_neg hq, if_neg hz]) _ ⟨V5.setM hjF, F4.row hjF⟩
    · intro E3 q3
      have V3 := q3.1
      obtain ⟨⟨hwn3, hLn3, hEn3, hrn3⟩, ⟨hwL3, hwE3, hLE3, hrA3⟩, hri3, hw3, hL3, hE3, hR3, ⟨hF13, hF83⟩, hS13, hS163⟩ := id V3
      show J g mX4_pass 0 0 0 92 [some (.ref (ad w)), some (.int ((passS sun e F S m).1)), some (.int (nI S)), some (.int (nI (F * S))), none, none] [] n ad E3 Φ Ψ
      refine j_iload_n dX4_pass_92 rfl ?_
      refine j_iload_n dX4_pass_93 rfl ?_
      refine j_aload_n dX4_pass_94 rfl ?_
      refine j_get fl_X4_9 dX4_pass_95 hwn3 hw3 rfl ?_
      refine j_alen 2 dX4_pass_98 hLn3 hL3 rfl ?_
      refine j_imul dX4_pass_99 ?_
      refine j_topi (y := nI (S * F)) (pk_mul _ _) ?_
      refine j_st (st' := [.int (nI (F * S)), .int (nI (F * S))]) (by rw [Nat.mul_comm S F]) ?_
      refine j_icmp_ge_t (tgt := 200) dX4_pass_100 (by decide) (nI_le' (by omega) (by omega) (by omega)) ?_
      refine j_aload_n dX4_pass_200 rfl ?_
      refine j_dup dX4_pass_201 rfl ?_
      refine j_get fl_X4_43 dX4_pass_202 hwn3 hw3 rfl ?_
      refine j_iconst (v := 1) dX4_pass_205 (by decide) ?_
      refine j_iadd dX4_pass_206 ?_
      refine j_put fl_X4_43 fp_X4 dX4_pass_207 hwn3 hw3 (Or.inl rfl) rfl rfl (Nat.le_of_ble_eq_true rfl) ?_
      refine j_aload_n dX4_pass_210 rfl ?_
      refine j_dup dX4_pass_211 rfl ?_
      refine j_get fl_X4_46 dX4_pass_212 hwn3 up_eq rfl ?_
      refine j_iload_n dX4_pass_215 rfl ?_
      refine j_i2l dX4_pass_216 ?_
      refine j_ladd dX4_pass_217 ?_
      refine j_put fl_X4_46 fp_X4 dX4_pass_218 hwn3 up_eq (Or.inl rfl) rfl rfl (Nat.le_of_ble_eq_true rfl) ?_
      refine j_E up_up ?_
      refine j_iload_n dX4_pass_221 rfl ?_
      exact j_iret dX4_pass_222 rfl (h _ ⟨V3.setTop, q3.2.top⟩)
def passN (sun : Int32) (e : Nat → Int32) (F S t : Nat) (m : Nat → Nat → Int32) (hrs : Int32) (gone : Int64) : Int32 × (Nat → Nat → Int32) × Int32 × Int64 := lpf (fun _ y => (y.1 + (passS sun e F S y.2.1).1, (passS sun e F S y.2.1).2, y.2.2.1 + 1, y.2.2.2 + ((passS sun e F S y.2.1).1).toInt64)) 0 t (0, m, hrs, gone)
theorem Fr.tr {w iL iE F : Nat} {r : Nat → Nat} {E E1 E2 : Nat → va_E} (h : Fr w iL iE F r E E1) (h' : Fr w iL iE F r E1 E2) : Fr w iL iE F r E E2 := fun k hk => (h' k hk).trans (h k hk)
set_option maxRecDepth 100000 in
set_option maxHeartbeats 4000000 in
theorem s_X4_pass_ {g : jG} {n : Nat} {ad : Nat → Nat} {E : Nat → va_E} {w iL iE : Nat} {r : Nat → Nat} {F S : Nat} {sun hrs : Int32} {gone : Int64} {m : Nat → Nat → Int32} {e : Nat → Int32} {va vm : Value} (V : SV g n ad E w iL iE r F S sun hrs gone m e va vm) (t : Nat) (ht : t ≤ 40) : RetP g mX4_pass_ 1 [.ref (ad w), .int (nI t)] n ad E (some (.int (passN sun e F S t m hrs gone).1)) (fun E1 => SV g n ad E1 w iL iE r F S sun ((passN sun e F S t m hrs gone).2.2.1) ((passN sun e F S t m hrs gone).2.2.2) ((passN sun e F S t m hrs gone).2.1) e va vm ∧ Fr w iL iE F r E E1) := by
  obtain ⟨⟨hwn, hLn, hEn, hrn⟩, ⟨hwL, hwE, hLE, hrA⟩, hri, hw, hL, hE, hR, ⟨hF1, hF8⟩, hS1, hS16⟩ := id V
  intro Φ Ψ h
  show J g mX4_pass_ 1 0 0 0 [some (.ref (ad w)), some (.int (nI t)), none, none] [] n ad E Φ Ψ
  refine j_iconst (v := 0) dX4_pass__0 (by decide) ?_
  refine j_istore_n (L' := [some (.ref (ad w)), some (.int (nI t)), some (.int 0), none]) dX4_pass__1 (by decide) rfl rfl ?_
  refine j_iconst (v := nI 0) dX4_pass__2 (by decide) ?_
  refine j_istore_n (L' := [some (.ref (ad w)), some (.int (nI t)), some (.int 0), some (.int (nI 0))]) dX4_pass__3 (by decide) rfl rfl ?_
  suffices hall : ∀ E1 : Nat → va_E, (SV g n ad E1 w iL iE r F S sun hrs gone m e va vm ∧ Fr w iL iE F r E E1) → J g mX4_pass_ 1 0 0 4 [some (.ref (ad w)), some (.int (nI t)), some (.int 0), some (.int (nI 0))] [] n ad E1 Φ Ψ from hall E ⟨V, fun _ _ => rfl⟩
  refine lpf_ind (b := fun _ y => (y.1 + (passS sun e F S y.2.1).1, (passS sun e F S y.2.1).2, y.2.2.1 + 1, y.2.2.2 + ((passS sun e F S y.2.1).1).toInt64)) (P := fun (k : Nat) (y : Int32 × (Nat → Nat → Int32) × Int32 × Int64) => ∀ E1 : Nat → va_E, (SV g n ad E1 w iL iE r F S sun y.2.2.1 y.2.2.2 y.2.1 e va vm ∧ Fr w iL iE F r E E1) → J g mX4_pass_ 1 0 0 4 [some (.ref (ad w)), some (.int (nI t)), some (.int y.1), some (.int (nI k))] [] n ad E1 Φ Ψ) (N := t) 0 ?_ t ((0, m, hrs, gone) : Int32 × (Nat → Nat → Int32) × Int32 × Int64) (by omega) ?_
  · intro k y hk0 hk ih E1 q1
    obtain ⟨a1, m1, h1, g1⟩ := y
    have V1 := q1.1
    obtain ⟨⟨hwn1, hLn1, hEn1, hrn1⟩, ⟨hwL1, hwE1, hLE1, hrA1⟩, hri1, hw1, hL1, hE1, hR1, ⟨hF11, hF81⟩, hS11, hS161⟩ := id V1
    show J g mX4_pass_ 1 0 0 4 [some (.ref (ad w)), some (.int (nI t)), some (.int a1), some (.int (nI k))] [] n ad E1 Φ Ψ
    refine j_iload_n dX4_pass__4 rfl ?_
    refine j_iload_n dX4_pass__5 rfl ?_
    refine j_icmp_ge_f (tgt := 22) dX4_pass__6 (by decide) (nI_nle' (by omega) (by omega) (by omega)) ?_
    refine j_iload_n dX4_pass__9 rfl ?_
    refine j_aload_n dX4_pass__10 rfl ?_
    refine j_cVp (As := []) (rest := [.int a1]) cm_X4_pass ci_X4_pass cs_X4_pass rfl ln_X4_50 (ci := 4) rfl dX4_pass__11 (d' := 0) (by decide) hwn1 hw1 rfl rfl (Nat.le_of_ble_eq_true rfl) (Nat.le_of_ble_eq_true rfl) (s_X4_pass V1) (fun E2 q2 => ?_)
    show J g mX4_pass_ 1 0 0 14 [some (.ref (ad w)), some (.int (nI t)), some (.int a1), some (.int (nI k))] [.int ((passS sun e F S m1).1), .int a1] n ad E2 Φ Ψ
    refine j_iadd dX4_pass__14 ?_
    refine j_istore_n (L' := [some (.ref (ad w)), some (.int (nI t)), some (.int (a1 + ((passS sun e F S m1).1))), some (.int (nI k))]) dX4_pass__15 (by decide) rfl rfl ?_
    refine j_iinc (v := nI (k + 1)) (L' := [some (.ref (ad w)), some (.int (nI t)), some (.int (a1 + ((passS sun e F S m1).1))), some (.int (nI (k + 1)))]) dX4_pass__16 (by decide) rfl (nI_1 _) rfl rfl ?_
    refine j_goto (tgt := 4) dX4_pass__19 (by decide) ?_
    exact ih (a1 + (passS sun e F S m1).1, (passS sun e F S m1).2, h1 + 1, g1 + ((passS sun e F S m1).1).toInt64) rfl _ ⟨q2.1, q1.2.tr q2.2⟩
  · intro E1 q1
    show J g mX4_pass_ 1 0 0 4 [some (.ref (ad w)), some (.int (nI t)), some (.int ((passN sun e F S t m hrs gone).1)), some (.int (nI t))] [] n ad E1 Φ Ψ
    refine j_iload_n dX4_pass__4 rfl ?_
    refine j_iload_n dX4_pass__5 rfl ?_
    refine j_icmp_ge_t (tgt := 22) dX4_pass__6 (by decide) (nI_le' (by omega) (by omega) (by omega)) ?_
    refine j_iload_n dX4_pass__22 rfl ?_
    exact j_iret dX4_pass__23 rfl (h _ q1)
