/-! The law's own Sim: what its methods answer and do. -/
theorem dn_eq {k : Nat} (h : 1 ≤ k) : nI k - 1 = nI (k - 1) := by
  obtain ⟨j, rfl⟩ : ∃ j, k = j + 1 := ⟨k - 1, by omega⟩
  rw [Nat.add_sub_cancel]
  exact nI_pred j
theorem dn_lt {k : Nat} (h : k < 2 ^ 30) : nI k - 1 < nI k := by
  rw [Int32.lt_iff_toInt_lt]
  have h1 : (nI k - nI 1).toInt = (k : Int) - (1 : Nat) := pk_sub_toInt h (by decide)
  have h2 : nI k - 1 = nI k - nI 1 := rfl
  rw [h2, h1, nI_toInt (by omega)]
  omega
theorem im1 (x : Int32) : x + Int32.ofInt (-1) = x - 1 := (Int32.sub_eq_add_neg x 1).symm
theorem divF {k F S : Nat} (h : k < F * S) : k / S < F := Nat.div_lt_of_lt_mul (by rwa [Nat.mul_comm] at h)
theorem modS {k S : Nat} (h : 1 ≤ S) : k % S < S := Nat.mod_lt _ h
def unlB (m m2 : Nat → Nat → Int32) (f s : Nat) (c : Int32) : Int32 := if m f s = m2 f s then c + 0 else c + 1
def unlC (m m2 : Nat → Nat → Int32) (F S : Nat) : Int32 := lpf (fun f c => lpf (fun s c => unlB m m2 f s c) 0 S c) 0 F 0
def smD (m : Nat → Nat → Int32) (fa sa fb sb : Nat) : Int64 := lpf (fun j x => lpf (fun i x => x + (m (fb - j) (sb - i)).toInt64) 0 (sb + 1 - sa) x) 0 (fb + 1 - fa) 0
def flS (m : Nat → Nat → Int32) (S : Nat) : Nat → Int32 := fun k => m (k / S) (k % S)
def prC (m : Nat → Nat → Int32) (F S : Nat) : Int32 := lpf (fun i x => lpf (fun j x => if flS m S i ≤ flS m S j then x + 0 else x + 1) (i + 1) (F * S - (i + 1)) x) 0 (F * S) 0
theorem fsS {F S : Nat} (hF : F ≤ 8) (hS : S ≤ 16) : F * S ≤ 128 := Nat.mul_le_mul hF hS
set_option maxRecDepth 100000 in
set_option maxHeartbeats 4000000 in
theorem s_X4_unlike {g : jG} {n : Nat} {ad : Nat → Nat} {E : Nat → va_E} {w iL iE : Nat} {r : Nat → Nat} {F S : Nat} {sun hrs : Int32} {gone : Int64} {m : Nat → Nat → Int32} {e : Nat → Int32} {va vm : Value} (V : SV g n ad E w iL iE r F S sun hrs gone m e va vm) {i2 : Nat} {r2 : Nat → Nat} {m2 : Nat → Nat → Int32} (V2 : MT g n ad E i2 r2 F S m2) : Ret g mX4_unlike 0 [.ref (ad w), .ref (ad i2)] n ad E (some (.int (unlC m m2 F S))) E := by
  obtain ⟨⟨hwn, hLn, hEn, hrn⟩, ⟨hwL, hwE, hLE, hrA⟩, hri, hw, hL, hE, hR, ⟨hF1, hF8⟩, hS1, hS16⟩ := id V
  intro Φ Ψ h
  show J g mX4_unlike 0 0 0 0 [some (.ref (ad w)), some (.ref (ad i2)), none, none, none] [] n ad E Φ Ψ
  refine j_iconst (v := 0) dX4_unlike_0 (by decide) ?_
  refine j_istore_n (L' := [some (.ref (ad w)), some (.ref (ad i2)), some (.int 0), none, none]) dX4_unlike_1 (by decide) rfl rfl ?_
  refine j_iconst (v := nI 0) dX4_unlike_2 (by decide) ?_
  refine j_istore_n (L' := [some (.ref (ad w)), some (.ref (ad i2)), some (.int 0), some (.int (nI 0)), none]) dX4_unlike_3 (by decide) rfl rfl ?_
  refine lpf_ind (b := fun f c => lpf (fun s c => unlB m m2 f s c) 0 S c) (P := fun (f : Nat) (c : Int32) => J g mX4_unlike 0 0 0 4 [some (.ref (ad w)), some (.ref (ad i2)), some (.int c), some (.int (nI f)), none] [] n ad E Φ Ψ) (N := F) 0 ?_ F 0 (by omega) ?_
  · intro f c hf0 hf ih
    show J g mX4_unlike 0 0 0 4 [some (.ref (ad w)), some (.ref (ad i2)), some (.int c), some (.int (nI f)), none] [] n ad E Φ Ψ
    have ih0 := ih
    clear ih
    refine j_iload_n dX4_unlike_4 rfl ?_
    refine j_aload_n dX4_unlike_5 rfl ?_
    refine j_get fl_X4_9 dX4_unlike_6 hwn hw rfl ?_
    refine j_alen 2 dX4_unlike_9 hLn hL rfl ?_
    refine j_icmp_ge_f (tgt := 64) dX4_unlike_10 (by decide) (nI_nle' (by omega) (by omega) (by omega)) ?_
    refine j_iconst (v := nI 0) dX4_unlike_13 (by decide) ?_
    refine j_istore (L' := [some (.ref (ad w)), some (.ref (ad i2)), some (.int c), some (.int (nI f)), some (.int (nI 0))]) dX4_unlike_14 (by decide) rfl rfl ?_
    refine lpf_ind (b := fun s c => unlB m m2 f s c) (P := fun (s : Nat) (c : Int32) => J g mX4_unlike 0 0 0 16 [some (.ref (ad w)), some (.ref (ad i2)), some (.int c), some (.int (nI f)), some (.int (nI s))] [] n ad E Φ Ψ) (N := S) 0 ?_ S c (by omega) ?_
    · intro s c hs0 hs ih
      show J g mX4_unlike 0 0 0 16 [some (.ref (ad w)), some (.ref (ad i2)), some (.int c), some (.int (nI f)), some (.int (nI s))] [] n ad E Φ Ψ
      refine j_iload dX4_unlike_16 rfl ?_
      refine j_aload_n dX4_unlike_18 rfl ?_
      refine j_get fl_X4_14 dX4_unlike_19 hwn hw rfl ?_
      refine j_alen 0 dX4_unlike_22 hEn hE rfl ?_
      refine j_icmp_ge_f (tgt := 58) dX4_unlike_23 (by decide) (nI_nle' (by omega) (by omega) (by omega)) ?_
      refine j_iload_n dX4_unlike_26 rfl ?_
      refine j_aload_n dX4_unlike_27 rfl ?_
      refine j_get fl_X4_9 dX4_unlike_28 hwn hw rfl ?_
      refine j_iload_n dX4_unlike_31 rfl ?_
      refine j_aald (a := (ad (r f))) dX4_unlike_32 hLn hL (by omega) hf (if_pos hf) ?_
      refine j_iload dX4_unlike_33 rfl ?_
      refine j_iald dX4_unlike_35 (hrn f hf) (hR f hf) (by omega) (by omega) rfl ?_
      refine j_aload_n dX4_unlike_36 rfl ?_
      refine j_iload_n dX4_unlike_37 rfl ?_
      refine j_aald (a := (ad (r2 f))) dX4_unlike_38 V2.1.1 V2.2.1 (by omega) hf (if_pos hf) ?_
      refine j_iload dX4_unlike_39 rfl ?_
      refine j_iald dX4_unlike_41 (V2.1.2 f hf) (V2.2.2 f hf) (by omega) (by omega) rfl ?_
      refine j_icmp_ne (tgt := 49) dX4_unlike_42 (by decide) (fun hq => ?_) (fun hq => ?_)
      · skip
        refine j_iconst (v := 1) dX4_unlike_49 (by decide) ?_
        refine j_iadd dX4_unlike_50 ?_
        refine j_istore_n (L' := [some (.ref (ad w)), some (.ref (ad i2)), some (.int (c + 1)), some (.int (nI f)), some (.int (nI s))]) dX4_unlike_51 (by decide) rfl rfl ?_
        refine j_iinc (v := nI (s + 1)) (L' := [some (.ref (ad w)), some (.ref (ad i2)), some (.int (c + 1)), some (.int (nI f)), some (.int (nI (s + 1)))]) dX4_unlike_52 (by decide) rfl (nI_1 _) rfl rfl ?_
        refine j_goto (tgt := 16) dX4_unlike_55 (by decide) ?_
        exact ih (c + 1) (by unfold unlB; simp only [hq, if_true, if_false])
      · skip
        refine j_iconst (v := 0) dX4_unlike_45 (by decide) ?_
        refine j_goto (tgt := 50) dX4_unlike_46 (by decide) ?_
        refine j_iadd dX4_unlike_50 ?_
        refine j_istore_n (L' := [some (.ref (ad w)), some (.ref (ad i2)), some (.int (c + 0)), some (.int (nI f)), some (.int (nI s))]) dX4_unlike_51 (by decide) rfl rfl ?_
        refine j_iinc (v := nI (s + 1)) (L' := [some (.ref (ad w)), some (.ref (ad i2)), some (.int (c + 0)), some (.int (nI f)), some (.int (nI (s + 1)))]) dX4_unlike_52 (by decide) rfl (nI_1 _) rfl rfl ?_
        refine j_goto (tgt := 16) dX4_unlike_55 (by decide) ?_
        exact ih (c + 0) (by unfold unlB; simp only [hq, if_true, if_false])
    · skip
      show J g mX4_unlike 0 0 0 16 [some (.ref (ad w)), some (.ref (ad i2)), some (.int (lpf (fun s c => unlB m m2 f s c) 0 S c)), some (.int (nI f)), some (.int (nI S))] [] n ad E Φ Ψ
      refine j_iload dX4_unlike_16 rfl ?_
      refine j_aload_n dX4_unlike_18 rfl ?_
      refine j_get fl_X4_14 dX4_unlike_19 hwn hw rfl ?_
      refine j_alen 0 dX4_unlike_22 hEn hE rfl ?_
      refine j_icmp_ge_t (tgt := 58) dX4_unlike_23 (by decide) (nI_le' (by omega) (by omega) (by omega)) ?_
      refine j_iinc (v := nI (f + 1)) (L' := [some (.ref (ad w)), some (.ref (ad i2)), some (.int (lpf (fun s c => unlB m m2 f s c) 0 S c)), some (.int (nI (f + 1))), some (.int (nI S))]) dX4_unlike_58 (by decide) rfl (nI_1 _) rfl rfl ?_
      refine j_goto (tgt := 4) dX4_unlike_61 (by decide) ?_
      refine j_clr 4 ?_
      exact ih0 _ rfl
  · skip
    show J g mX4_unlike 0 0 0 4 [some (.ref (ad w)), some (.ref (ad i2)), some (.int (unlC m m2 F S)), some (.int (nI F)), none] [] n ad E Φ Ψ
    refine j_iload_n dX4_unlike_4 rfl ?_
    refine j_aload_n dX4_unlike_5 rfl ?_
    refine j_get fl_X4_9 dX4_unlike_6 hwn hw rfl ?_
    refine j_alen 2 dX4_unlike_9 hLn hL rfl ?_
    refine j_icmp_ge_t (tgt := 64) dX4_unlike_10 (by decide) (nI_le' (by omega) (by omega) (by omega)) ?_
    refine j_iload_n dX4_unlike_64 rfl ?_
    exact j_iret dX4_unlike_65 rfl h
set_option maxRecDepth 100000 in
set_option maxHeartbeats 4000000 in
theorem s_X4_sum {g : jG} {n : Nat} {ad : Nat → Nat} {E : Nat → va_E} {w iL iE : Nat} {r : Nat → Nat} {F S : Nat} {sun hrs : Int32} {gone : Int64} {m : Nat → Nat → Int32} {e : Nat → Int32} {va vm : Value} (V : SV g n ad E w iL iE r F S sun hrs gone m e va vm) (fa sa fb sb : Nat) (h1 : fa ≤ fb) (h2 : sa ≤ sb) (h3 : fb < F) (h4 : sb < S) : Ret g mX4_sum 0 [.ref (ad w), .int (nI fa), .int (nI sa), .int (nI fb), .int (nI sb)] n ad E (some (.long (smD m fa sa fb sb))) E := by
  obtain ⟨⟨hwn, hLn, hEn, hrn⟩, ⟨hwL, hwE, hLE, hrA⟩, hri, hw, hL, hE, hR, ⟨hF1, hF8⟩, hS1, hS16⟩ := id V
  intro Φ Ψ h
  show J g mX4_sum 0 0 0 0 [some (.ref (ad w)), some (.int (nI fa)), some (.int (nI sa)), some (.int (nI fb)), some (.int (nI sb)), none, none, none, none] [] n ad E Φ Ψ
  refine j_lconst (v := 0) dX4_sum_0 rfl ?_
  refine j_lstore (L' := [some (.ref (ad w)), some (.int (nI fa)), some (.int (nI sa)), some (.int (nI fb)), some (.int (nI sb)), some (.long 0), none, none, none]) dX4_sum_1 (by decide) rfl rfl ?_
  refine j_iload_n dX4_sum_3 rfl ?_
  refine j_istore (L' := [some (.ref (ad w)), some (.int (nI fa)), some (.int (nI sa)), some (.int (nI fb)), some (.int (nI sb)), some (.long 0), none, some (.int (nI fb)), none]) dX4_sum_4 (by decide) rfl rfl ?_
  have e0 : nI fb = nI (fb + 1 - 0) - 1 := by rw [dn_eq (by omega)]; congr 1
  have e9 : nI sb = nI (sb + 1 - 0) - 1 := by rw [dn_eq (by omega)]; congr 1
  refine j_locals (L' := [some (.ref (ad w)), some (.int (nI fa)), some (.int (nI sa)), some (.int (nI fb)), some (.int (nI sb)), some (.long 0), none, some (.int (nI (fb + 1 - 0) - 1)), none]) (fun i v hv => by rw [← e0] at hv; exact hv) ?_
  refine lpf_ind (b := fun j x => lpf (fun i x => x + (m (fb - j) (sb - i)).toInt64) 0 (sb + 1 - sa) x) (P := fun (j : Nat) (x : Int64) => J g mX4_sum 0 0 0 6 [some (.ref (ad w)), some (.int (nI fa)), some (.int (nI sa)), some (.int (nI fb)), some (.int (nI sb)), some (.long x), none, some (.int (nI (fb + 1 - j) - 1)), none] [] n ad E Φ Ψ) (N := fb + 1 - fa) 0 ?_ (fb + 1 - fa) 0 (by omega) ?_
  · intro j x hj0 hj ih
    show J g mX4_sum 0 0 0 6 [some (.ref (ad w)), some (.int (nI fa)), some (.int (nI sa)), some (.int (nI fb)), some (.int (nI sb)), some (.long x), none, some (.int (nI (fb + 1 - j) - 1)), none] [] n ad E Φ Ψ
    have ih0 := ih
    clear ih
    have ej : nI (fb + 1 - j) - 1 = nI (fb - j) := by rw [dn_eq (by omega)]; congr 1; omega
    refine j_locals (L' := [some (.ref (ad w)), some (.int (nI fa)), some (.int (nI sa)), some (.int (nI fb)), some (.int (nI sb)), some (.long x), none, some (.int (nI (fb - j))), none]) (fun i v hv => by rw [← ej] at hv; exact hv) ?_
    refine j_iload dX4_sum_6 rfl ?_
    refine j_iload_n dX4_sum_8 rfl ?_
    refine j_icmp_lt_f (tgt := 50) dX4_sum_9 (by decide) (nI_nlt' (by omega) (by omega) (by omega)) ?_
    refine j_iload dX4_sum_12 rfl ?_
    refine j_istore (L' := [some (.ref (ad w)), some (.int (nI fa)), some (.int (nI sa)), some (.int (nI fb)), some (.int (nI sb)), some (.long x), none, some (.int (nI (fb - j))), some (.int (nI sb))]) dX4_sum_14 (by decide) rfl rfl ?_
    refine j_locals (L' := [some (.ref (ad w)), some (.int (nI fa)), some (.int (nI sa)), some (.int (nI fb)), some (.int (nI sb)), some (.long x), none, some (.int (nI (fb - j))), some (.int (nI (sb + 1 - 0) - 1))]) (fun i v hv => by rw [← e9] at hv; exact hv) ?_
    refine lpf_ind (b := fun i x => x + (m (fb - j) (sb - i)).toInt64) (P := fun (i : Nat) (x : Int64) => J g mX4_sum 0 0 0 16 [some (.ref (ad w)), some (.int (nI fa)), some (.int (nI sa)), some (.int (nI fb)), some (.int (nI sb)), some (.long x), none, some (.int (nI (fb - j))), some (.int (nI (sb + 1 - i) - 1))] [] n ad E Φ Ψ) (N := sb + 1 - sa) 0 ?_ (sb + 1 - sa) x (by omega) ?_
    · intro i x hi0 hi ih
      show J g mX4_sum 0 0 0 16 [some (.ref (ad w)), some (.int (nI fa)), some (.int (nI sa)), some (.int (nI fb)), some (.int (nI sb)), some (.long x), none, some (.int (nI (fb - j))), some (.int (nI (sb + 1 - i) - 1))] [] n ad E Φ Ψ
      have ei : nI (sb + 1 - i) - 1 = nI (sb - i) := by rw [dn_eq (by omega)]; congr 1; omega
      refine j_locals (L' := [some (.ref (ad w)), some (.int (nI fa)), some (.int (nI sa)), some (.int (nI fb)), some (.int (nI sb)), some (.long x), none, some (.int (nI (fb - j))), some (.int (nI (sb - i)))]) (fun i v hv => by rw [← ei] at hv; exact hv) ?_
      refine j_iload dX4_sum_16 rfl ?_
      refine j_iload_n dX4_sum_18 rfl ?_
      refine j_icmp_lt_f (tgt := 44) dX4_sum_19 (by decide) (nI_nlt' (by omega) (by omega) (by omega)) ?_
      refine j_lload dX4_sum_22 rfl ?_
      refine j_aload_n dX4_sum_24 rfl ?_
      refine j_get fl_X4_9 dX4_sum_25 hwn hw rfl ?_
      refine j_iload dX4_sum_28 rfl ?_
      refine j_aald (a := (ad (r (fb - j)))) dX4_sum_30 hLn hL (by omega) (by omega) (if_pos (by omega)) ?_
      refine j_iload dX4_sum_31 rfl ?_
      refine j_iald dX4_sum_33 (hrn (fb - j) (by omega)) (hR (fb - j) (by omega)) (by omega) (by omega) rfl ?_
      refine j_i2l dX4_sum_34 ?_
      refine j_ladd dX4_sum_35 ?_
      refine j_lstore (L' := [some (.ref (ad w)), some (.int (nI fa)), some (.int (nI sa)), some (.int (nI fb)), some (.int (nI sb)), some (.long (x + (((m (fb - j)) (sb - i)).toInt64))), none, some (.int (nI (fb - j))), some (.int (nI (sb - i)))]) dX4_sum_36 (by decide) rfl rfl ?_
      refine j_iinc (v := nI (sb + 1 - (i + 1)) - 1) (L' := [some (.ref (ad w)), some (.int (nI fa)), some (.int (nI sa)), some (.int (nI fb)), some (.int (nI sb)), some (.long (x + (((m (fb - j)) (sb - i)).toInt64))), none, some (.int (nI (fb - j))), some (.int (nI (sb + 1 - (i + 1)) - 1))]) dX4_sum_38 (by decide) rfl ((im1 _).trans (by congr 2; omega)) rfl rfl ?_
      refine j_goto (tgt := 16) dX4_sum_41 (by decide) ?_
      exact ih _ rfl
    · skip
      show J g mX4_sum 0 0 0 16 [some (.ref (ad w)), some (.int (nI fa)), some (.int (nI sa)), some (.int (nI fb)), some (.int (nI sb)), some (.long (lpf (fun i x => x + (m (fb - j) (sb - i)).toInt64) 0 (sb + 1 - sa) x)), none, some (.int (nI (fb - j))), some (.int (nI (sb + 1 - (sb + 1 - sa)) - 1))] [] n ad E Φ Ψ
      refine j_iload dX4_sum_16 rfl ?_
      refine j_iload_n dX4_sum_18 rfl ?_
      refine j_icmp_lt_t (tgt := 44) dX4_sum_19 (by decide) (by rw [show sb + 1 - (sb + 1 - sa) = sa by omega]; exact dn_lt (by omega)) ?_
      refine j_iinc (v := nI (fb + 1 - (j + 1)) - 1) (L' := [some (.ref (ad w)), some (.int (nI fa)), some (.int (nI sa)), some (.int (nI fb)), some (.int (nI sb)), some (.long (lpf (fun i x => x + (m (fb - j) (sb - i)).toInt64) 0 (sb + 1 - sa) x)), none, some (.int (nI (fb + 1 - (j + 1)) - 1)), some (.int (nI (sb + 1 - (sb + 1 - sa)) - 1))]) dX4_sum_44 (by decide) rfl ((im1 _).trans (by congr 2; omega)) rfl rfl ?_
      refine j_goto (tgt := 6) dX4_sum_47 (by decide) ?_
      refine j_clr 8 ?_
      exact ih0 _ rfl
  · skip
    show J g mX4_sum 0 0 0 6 [some (.ref (ad w)), some (.int (nI fa)), some (.int (nI sa)), some (.int (nI fb)), some (.int (nI sb)), some (.long (smD m fa sa fb sb)), none, some (.int (nI (fb + 1 - (fb + 1 - fa)) - 1)), none] [] n ad E Φ Ψ
    refine j_iload dX4_sum_6 rfl ?_
    refine j_iload_n dX4_sum_8 rfl ?_
    refine j_icmp_lt_t (tgt := 50) dX4_sum_9 (by decide) (by rw [show fb + 1 - (fb + 1 - fa) = fa by omega]; exact dn_lt (by omega)) ?_
    refine j_lload dX4_sum_50 rfl ?_
    exact j_lret dX4_sum_52 rfl h
set_option maxRecDepth 100000 in
set_option maxHeartbeats 4000000 in
theorem s_X4_pairs {g : jG} {n : Nat} {ad : Nat → Nat} {E : Nat → va_E} {w iL iE : Nat} {r : Nat → Nat} {F S : Nat} {sun hrs : Int32} {gone : Int64} {m : Nat → Nat → Int32} {e : Nat → Int32} {va vm : Value} (V : SV g n ad E w iL iE r F S sun hrs gone m e va vm) : Ret g mX4_pairs 0 [.ref (ad w)] n ad E (some (.int (prC m F S))) E := by
  obtain ⟨⟨hwn, hLn, hEn, hrn⟩, ⟨hwL, hwE, hLE, hrA⟩, hri, hw, hL, hE, hR, ⟨hF1, hF8⟩, hS1, hS16⟩ := id V
  have hFS := fsS hF8 hS16
  intro Φ Ψ h
  show J g mX4_pairs 0 0 0 0 [some (.ref (ad w)), none, none, none, none] [] n ad E Φ Ψ
  refine j_iconst (v := 0) dX4_pairs_0 (by decide) ?_
  refine j_istore_n (L' := [some (.ref (ad w)), some (.int 0), none, none, none]) dX4_pairs_1 (by decide) rfl rfl ?_
  refine j_aload_n dX4_pairs_2 rfl ?_
  refine j_get fl_X4_14 dX4_pairs_3 hwn hw rfl ?_
  refine j_alen 0 dX4_pairs_6 hEn hE rfl ?_
  refine j_istore_n (L' := [some (.ref (ad w)), some (.int 0), some (.int (nI S)), none, none]) dX4_pairs_7 (by decide) rfl rfl ?_
  refine j_iconst (v := nI 0) dX4_pairs_8 (by decide) ?_
  refine j_istore_n (L' := [some (.ref (ad w)), some (.int 0), some (.int (nI S)), some (.int (nI 0)), none]) dX4_pairs_9 (by decide) rfl rfl ?_
  refine lpf_ind (b := fun i x => lpf (fun j x => if flS m S i ≤ flS m S j then x + 0 else x + 1) (i + 1) (F * S - (i + 1)) x) (P := fun (i : Nat) (x : Int32) => J g mX4_pairs 0 0 0 10 [some (.ref (ad w)), some (.int x), some (.int (nI S)), some (.int (nI i)), none] [] n ad E Φ Ψ) (N := F * S) 0 ?_ (F * S) 0 (by omega) ?_
  · intro i x hi0 hi ih
    show J g mX4_pairs 0 0 0 10 [some (.ref (ad w)), some (.int x), some (.int (nI S)), some (.int (nI i)), none] [] n ad E Φ Ψ
    have ih0 := ih
    clear ih
    refine j_iload_n dX4_pairs_10 rfl ?_
    refine j_iload_n dX4_pairs_11 rfl ?_
    refine j_aload_n dX4_pairs_12 rfl ?_
    refine j_get fl_X4_9 dX4_pairs_13 hwn hw rfl ?_
    refine j_alen 2 dX4_pairs_16 hLn hL rfl ?_
    refine j_imul dX4_pairs_17 ?_
    refine j_topi (y := nI (S * F)) (pk_mul _ _) ?_
    refine j_st (st' := [.int (nI (F * S)), .int (nI i)]) (by rw [Nat.mul_comm S F]) ?_
    refine j_icmp_ge_f (tgt := 87) dX4_pairs_18 (by decide) (nI_nle' (by omega) (by omega) (by omega)) ?_
    refine j_iload_n dX4_pairs_21 rfl ?_
    refine j_iconst (v := nI 1) dX4_pairs_22 (by decide) ?_
    refine j_iadd dX4_pairs_23 ?_
    refine j_topi (y := nI (i + 1)) (nI_add _ _) ?_
    refine j_istore (L' := [some (.ref (ad w)), some (.int x), some (.int (nI S)), some (.int (nI i)), some (.int (nI (i + 1)))]) dX4_pairs_24 (by decide) rfl rfl ?_
    refine lpf_ind (b := fun j x => if flS m S i ≤ flS m S j then x + 0 else x + 1) (P := fun (j : Nat) (x : Int32) => J g mX4_pairs 0 0 0 26 [some (.ref (ad w)), some (.int x), some (.int (nI S)), some (.int (nI i)), some (.int (nI j))] [] n ad E Φ Ψ) (N := F * S) (i + 1) ?_ (F * S - (i + 1)) x (by omega) ?_
    · intro j x hj0 hj ih
      show J g mX4_pairs 0 0 0 26 [some (.ref (ad w)), some (.int x), some (.int (nI S)), some (.int (nI i)), some (.int (nI j))] [] n ad E Φ Ψ
      refine j_iload dX4_pairs_26 rfl ?_
      refine j_iload_n dX4_pairs_28 rfl ?_
      refine j_aload_n dX4_pairs_29 rfl ?_
      refine j_get fl_X4_9 dX4_pairs_30 hwn hw rfl ?_
      refine j_alen 2 dX4_pairs_33 hLn hL rfl ?_
      refine j_imul dX4_pairs_34 ?_
      refine j_topi (y := nI (S * F)) (pk_mul _ _) ?_
      refine j_st (st' := [.int (nI (F * S)), .int (nI j)]) (by rw [Nat.mul_comm S F]) ?_
      refine j_icmp_ge_f (tgt := 81) dX4_pairs_35 (by decide) (nI_nle' (by omega) (by omega) (by omega)) ?_
      refine j_iload_n dX4_pairs_38 rfl ?_
      refine j_aload_n dX4_pairs_39 rfl ?_
      refine j_get fl_X4_9 dX4_pairs_40 hwn hw rfl ?_
      refine j_iload_n dX4_pairs_43 rfl ?_
      refine j_iload_n dX4_pairs_44 rfl ?_
      refine j_idiv dX4_pairs_45 (nI_ne0 (by omega) (by omega)) ?_
      refine j_topi (y := nI (i / S)) (pk_div (by omega) (by omega) (by omega)) ?_
      refine j_aald (a := (ad (r (i / S)))) dX4_pairs_46 hLn hL (by omega) (divF hi) (if_pos (divF hi)) ?_
      refine j_iload_n dX4_pairs_47 rfl ?_
      refine j_iload_n dX4_pairs_48 rfl ?_
      refine j_irem dX4_pairs_49 (nI_ne0 (by omega) (by omega)) ?_
      refine j_topi (y := nI (i % S)) (pk_rem (by omega) (by omega) (by omega)) ?_
      refine j_iald dX4_pairs_50 (hrn (i / S) (divF hi)) (hR (i / S) (divF hi)) (by omega) (modS hS1) rfl ?_
      refine j_aload_n dX4_pairs_51 rfl ?_
      refine j_get fl_X4_9 dX4_pairs_52 hwn hw rfl ?_
      refine j_iload dX4_pairs_55 rfl ?_
      refine j_iload_n dX4_pairs_57 rfl ?_
      refine j_idiv dX4_pairs_58 (nI_ne0 (by omega) (by omega)) ?_
      refine j_topi (y := nI (j / S)) (pk_div (by omega) (by omega) (by omega)) ?_
      refine j_aald (a := (ad (r (j / S)))) dX4_pairs_59 hLn hL (by omega) (divF hj) (if_pos (divF hj)) ?_
      refine j_iload dX4_pairs_60 rfl ?_
      refine j_iload_n dX4_pairs_62 rfl ?_
      refine j_irem dX4_pairs_63 (nI_ne0 (by omega) (by omega)) ?_
      refine j_topi (y := nI (j % S)) (pk_rem (by omega) (by omega) (by omega)) ?_
      refine j_iald dX4_pairs_64 (hrn (j / S) (divF hj)) (hR (j / S) (divF hj)) (by omega) (modS hS1) rfl ?_
      refine j_icmp_le (tgt := 72) dX4_pairs_65 (by decide) (fun hq => ?_) (fun hq => ?_)
      · skip
        refine j_iconst (v := 0) dX4_pairs_72 (by decide) ?_
        refine j_iadd dX4_pairs_73 ?_
        refine j_istore_n (L' := [some (.ref (ad w)), some (.int (x + 0)), some (.int (nI S)), some (.int (nI i)), some (.int (nI j))]) dX4_pairs_74 (by decide) rfl rfl ?_
        refine j_iinc (v := nI (j + 1)) (L' := [some (.ref (ad w)), some (.int (x + 0)), some (.int (nI S)), some (.int (nI i)), some (.int (nI (j + 1)))]) dX4_pairs_75 (by decide) rfl (nI_1 _) rfl rfl ?_
        refine j_goto (tgt := 26) dX4_pairs_78 (by decide) ?_
        exact ih (x + 0) (by unfold flS; simp only [hq, if_true, if_false])
      · skip
        refine j_iconst (v := 1) dX4_pairs_68 (by decide) ?_
        refine j_goto (tgt := 73) dX4_pairs_69 (by decide) ?_
        refine j_iadd dX4_pairs_73 ?_
        refine j_istore_n (L' := [some (.ref (ad w)), some (.int (x + 1)), some (.int (nI S)), some (.int (nI i)), some (.int (nI j))]) dX4_pairs_74 (by decide) rfl rfl ?_
        refine j_iinc (v := nI (j + 1)) (L' := [some (.ref (ad w)), some (.int (x + 1)), some (.int (nI S)), some (.int (nI i)), some (.int (nI (j + 1)))]) dX4_pairs_75 (by decide) rfl (nI_1 _) rfl rfl ?_
        refine j_goto (tgt := 26) dX4_pairs_78 (by decide) ?_
        exact ih (x + 1) (by unfold flS; simp only [hq, if_true, if_false])
    · skip
      show J g mX4_pairs 0 0 0 26 [some (.ref (ad w)), some (.int (lpf (fun j x => if flS m S i ≤ flS m S j then x + 0 else x + 1) (i + 1) (F * S - (i + 1)) x)), some (.int (nI S)), some (.int (nI i)), some (.int (nI (F * S)))] [] n ad E Φ Ψ
      refine j_iload dX4_pairs_26 rfl ?_
      refine j_iload_n dX4_pairs_28 rfl ?_
      refine j_aload_n dX4_pairs_29 rfl ?_
      refine j_get fl_X4_9 dX4_pairs_30 hwn hw rfl ?_
      refine j_alen 2 dX4_pairs_33 hLn hL rfl ?_
      refine j_imul dX4_pairs_34 ?_
      refine j_topi (y := nI (S * F)) (pk_mul _ _) ?_
      refine j_st (st' := [.int (nI (F * S)), .int (nI (F * S))]) (by rw [Nat.mul_comm S F]) ?_
      refine j_icmp_ge_t (tgt := 81) dX4_pairs_35 (by decide) (nI_le' (by omega) (by omega) (by omega)) ?_
      refine j_iinc (v := nI (i + 1)) (L' := [some (.ref (ad w)), some (.int (lpf (fun j x => if flS m S i ≤ flS m S j then x + 0 else x + 1) (i + 1) (F * S - (i + 1)) x)), some (.int (nI S)), some (.int (nI (i + 1))), some (.int (nI (F * S)))]) dX4_pairs_81 (by decide) rfl (nI_1 _) rfl rfl ?_
      refine j_goto (tgt := 10) dX4_pairs_84 (by decide) ?_
      refine j_clr 4 ?_
      exact ih0 _ rfl
  · skip
    show J g mX4_pairs 0 0 0 10 [some (.ref (ad w)), some (.int (prC m F S)), some (.int (nI S)), some (.int (nI (F * S))), none] [] n ad E Φ Ψ
    refine j_iload_n dX4_pairs_10 rfl ?_
    refine j_iload_n dX4_pairs_11 rfl ?_
    refine j_aload_n dX4_pairs_12 rfl ?_
    refine j_get fl_X4_9 dX4_pairs_13 hwn hw rfl ?_
    refine j_alen 2 dX4_pairs_16 hLn hL rfl ?_
    refine j_imul dX4_pairs_17 ?_
    refine j_topi (y := nI (S * F)) (pk_mul _ _) ?_
    refine j_st (st' := [.int (nI (F * S)), .int (nI (F * S))]) (by rw [Nat.mul_comm S F]) ?_
    refine j_icmp_ge_t (tgt := 87) dX4_pairs_18 (by decide) (nI_le' (by omega) (by omega) (by omega)) ?_
    refine j_iload_n dX4_pairs_87 rfl ?_
    exact j_iret dX4_pairs_88 rfl h
