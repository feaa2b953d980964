/-! The law's loop. -/
theorem and63 (x : Int32) : ∃ c : Nat, c < 64 ∧ x &&& 63 = nI c := by
  refine ⟨(x.toBitVec &&& 63#32).toNat, ?_, ?_⟩
  · rw [BitVec.toNat_and]
    exact Nat.lt_succ_of_le Nat.and_le_right
  · rw [← Int32.toBitVec_inj, Int32.toBitVec_and]
    show _ = (Int32.ofNat _).toBitVec
    rw [Int32.toBitVec_ofNat', BitVec.ofNat_toNat, BitVec.setWidth_eq]
    rfl
theorem Sim.le {i n : Nat} {g : jG} {ad : Nat → Nat} {E : Nat → va_E} (Q : Sim i g n ad E) : Sim (i + 1) g n ad E := by
  obtain ⟨th, F, S, hrs, su, gone, lv, ed, old, cnt, dr, mc, mr, lv', ed', ah, mk, C, D, ho, hn, R⟩ := Q
  exact ⟨th, F, S, hrs, su, gone, lv, ed, old, cnt, dr, mc, mr, lv', ed', ah, mk, C, D, ho, hn, R.le⟩
set_option maxRecDepth 100000 in
set_option maxHeartbeats 4000000 in
theorem law_loop {g : jG} {n : Nat} {ad : Nat → Nat} {Φ : Option Value → jR} {Ψ : String → jR} (hL : g.1.2.2.1 ≤ 3072) (hΦ : ∀ E, Φ (some (.int 1)) n ad E) {m : Nat} (hm : m = g.1.2.2.1 / 6) : ∀ E : Nat → va_E, Sim 0 g n ad E → J g mL_law 12 m (15 * m) 23 [some (.ref g.1.2.1), some (.ref (ad 0)), some (.ref (ad 63)), some (.ref (ad 69)), some (.int (nI 0)), none, none, none, none] [] n ad E Φ Ψ := by
  refine up_ind (P := fun (i : Nat) => ∀ E : Nat → va_E, Sim i g n ad E → J g mL_law 12 (m - i) (15 * (m - i)) 23 [some (.ref g.1.2.1), some (.ref (ad 0)), some (.ref (ad 63)), some (.ref (ad 69)), some (.int (nI (6 * i))), none, none, none, none] [] n ad E Φ Ψ) (N := m) 0 ?_ m (by omega) ?_
  · intro i hi0 hi ih E Q
    show J g mL_law 12 (m - i) (15 * (m - i)) 23 [some (.ref g.1.2.1), some (.ref (ad 0)), some (.ref (ad 63)), some (.ref (ad 69)), some (.int (nI (6 * i))), none, none, none, none] [] n ad E Φ Ψ
    refine j_iload dL_law_23 rfl ?_
    refine j_aload_n dL_law_25 rfl ?_
    refine j_slen dL_law_26 ?_
    refine j_bipush (v := nI 6) dL_law_27 (by decide) ?_
    refine j_isub dL_law_29 ?_
    refine j_topi (y := nI (g.1.2.2.1 - 6)) (pk_sub (by omega)) ?_
    refine j_icmp_gt_f (tgt := 2598) dL_law_30 (by decide) (nI_nlt' (by omega) (by omega) (by omega)) ?_
    refine j_aload_n dL_law_33 rfl ?_
    refine j_iload dL_law_34 rfl ?_
    refine j_sald dL_law_36 (by omega) (by omega) ?_
    refine j_bipush (v := 63) dL_law_37 (by decide) ?_
    refine j_iand dL_law_39 ?_
    obtain ⟨c, hc, ec⟩ := and63 (g.1.2.2.2 (6 * i))
    refine j_topi ec ?_
    have K : ∀ E2, Sim (i + 1) g n ad E2 → J g mL_law 12 (m - (i + 1)) (15 * (m - (i + 1))) 2592 [some (.ref g.1.2.1), some (.ref (ad 0)), some (.ref (ad 63)), some (.ref (ad 69)), some (.int (nI (6 * i))), none, none, none, none] [] n ad E2 Φ Ψ := by
      intro E2 Q2
      refine j_iinc (v := nI (6 * (i + 1))) (L' := [some (.ref g.1.2.1), some (.ref (ad 0)), some (.ref (ad 63)), some (.ref (ad 69)), some (.int (nI (6 * (i + 1)))), none, none, none, none]) dL_law_2592 (by decide) rfl ((nI_add _ 6).trans (congrArg nI (by omega))) rfl rfl ?_
      refine j_goto (tgt := 23) dL_law_2595 (by decide) ?_
      exact ih E2 Q2
    have eb1 : m - i = 1 + (m - (i + 1)) := by omega
    have eb2 : 15 * (m - i) = 15 + 15 * (m - (i + 1)) := by omega
    rw [eb2, eb1]
    have hcs : c = 0 ∨ c = 1 ∨ c = 2 ∨ c = 3 ∨ c = 4 ∨ c = 5 ∨ c = 6 ∨ c = 7 ∨ c = 8 ∨ c = 9 ∨ c = 10 ∨ c = 11 ∨ c = 12 ∨ c = 13 ∨ c = 14 ∨ c = 15 ∨ c = 16 ∨ c = 17 ∨ c = 18 ∨ c = 19 ∨ c = 20 ∨ c = 21 ∨ c = 22 ∨ c = 23 ∨ c = 24 ∨ c = 25 ∨ c = 26 ∨ c = 27 ∨ c = 28 ∨ c = 29 ∨ c = 30 ∨ c = 31 ∨ c = 32 ∨ c = 33 ∨ c = 34 ∨ c = 35 ∨ c = 36 ∨ c = 37 ∨ c = 38 ∨ c = 39 ∨ c = 40 ∨ c = 41 ∨ c = 42 ∨ c = 43 ∨ c = 44 ∨ c = 45 ∨ c = 46 ∨ c = 47 ∨ 48 ≤ c := by omega
    rcases hcs with e | e | e | e | e | e | e | e | e | e | e | e | e | e | e | e | e | e | e | e | e | e | e | e | e | e | e | e | e | e | e | e | e | e | e | e | e | e | e | e | e | e | e | e | e | e | e | e | hge
    · subst e; exact j_tableIn (off := 208) (tgt := 248) dL_law_40 (by decide) (by decide) (by decide) (by decide) (st_lay (by omega) hL (by omega) Q K)
    · subst e; exact j_tableIn (off := 276) (tgt := 316) dL_law_40 (by decide) (by decide) (by decide) (by decide) (st_rain (by omega) hL (by omega) Q K)
    · subst e; exact j_tableIn (off := 356) (tgt := 396) dL_law_40 (by decide) (by decide) (by decide) (by decide) (st_splash (by omega) hL (by omega) Q K)
    · subst e; exact j_tableIn (off := 460) (tgt := 500) dL_law_40 (by decide) (by decide) (by decide) (by decide) (st_swap (by omega) hL (by omega) Q K)
    · subst e; exact j_tableIn (off := 528) (tgt := 568) dL_law_40 (by decide) (by decide) (by decide) (by decide) (st_turn (by omega) hL (by omega) Q K)
    · subst e; exact j_tableIn (off := 584) (tgt := 624) dL_law_40 (by decide) (by decide) (by decide) (by decide) (st_bail (by omega) hL (by omega) Q K)
    · subst e; exact j_tableIn (off := 652) (tgt := 692) dL_law_40 (by decide) (by decide) (by decide) (by decide) (st_passHours (by omega) hL (by omega) Q K)
    · subst e; exact j_tableIn (off := 708) (tgt := 748) dL_law_40 (by decide) (by decide) (by decide) (by decide) (st_mark (by omega) hL (by omega) Q K)
    · subst e; exact j_tableIn (off := 752) (tgt := 792) dL_law_40 (by decide) (by decide) (by decide) (by decide) (st_back (by omega) hL (by omega) Q K)
    · subst e; exact j_tableIn (off := 808) (tgt := 848) dL_law_40 (by decide) (by decide) (by decide) (by decide) (st_undo (by omega) hL (by omega) Q K)
    · subst e; exact j_tableIn (off := 852) (tgt := 892) dL_law_40 (by decide) (by decide) (by decide) (by decide) (st_setSun (by omega) hL (by omega) Q K)
    · subst e; exact j_tableIn (off := 908) (tgt := 948) dL_law_40 (by decide) (by decide) (by decide) (by decide) (st_setEdge (by omega) hL (by omega) Q K)
    · subst e; exact j_tableIn (off := 976) (tgt := 1016) dL_law_40 (by decide) (by decide) (by decide) (by decide) (st_flights (by omega) hL (by omega) Q K)
    · subst e; exact j_tableIn (off := 989) (tgt := 1029) dL_law_40 (by decide) (by decide) (by decide) (by decide) (st_steps (by omega) hL (by omega) Q K)
    · subst e; exact j_tableIn (off := 1002) (tgt := 1042) dL_law_40 (by decide) (by decide) (by decide) (by decide) (st_hours (by omega) hL (by omega) Q K)
    · subst e; exact j_tableIn (off := 1015) (tgt := 1055) dL_law_40 (by decide) (by decide) (by decide) (by decide) (st_sun (by omega) hL (by omega) Q K)
    · subst e; exact j_tableIn (off := 1028) (tgt := 1068) dL_law_40 (by decide) (by decide) (by decide) (by decide) (st_edgeOf (by omega) hL (by omega) Q K)
    · subst e; exact j_tableIn (off := 1084) (tgt := 1124) dL_law_40 (by decide) (by decide) (by decide) (by decide) (st_marks (by omega) hL (by omega) Q K)
    · subst e; exact j_tableIn (off := 1097) (tgt := 1137) dL_law_40 (by decide) (by decide) (by decide) (by decide) (st_deeds (by omega) hL (by omega) Q K)
    · subst e; exact j_tableIn (off := 1110) (tgt := 1150) dL_law_40 (by decide) (by decide) (by decide) (by decide) (st_gone (by omega) hL (by omega) Q K)
    · subst e; exact j_tableIn (off := 1124) (tgt := 1164) dL_law_40 (by decide) (by decide) (by decide) (by decide) (st_levelAt (by omega) hL (by omega) Q K)
    · subst e; exact j_tableIn (off := 1192) (tgt := 1232) dL_law_40 (by decide) (by decide) (by decide) (by decide) (st_sumOf (by omega) hL (by omega) Q K)
    · subst e; exact j_tableIn (off := 1283) (tgt := 1323) dL_law_40 (by decide) (by decide) (by decide) (by decide) (st_sumTo (by omega) hL (by omega) Q K)
    · subst e; exact j_tableIn (off := 1350) (tgt := 1390) dL_law_40 (by decide) (by decide) (by decide) (by decide) (st_flightSum (by omega) hL (by omega) Q K)
    · subst e; exact j_tableIn (off := 1405) (tgt := 1445) dL_law_40 (by decide) (by decide) (by decide) (by decide) (st_stepSum (by omega) hL (by omega) Q K)
    · subst e; exact j_tableIn (off := 1460) (tgt := 1500) dL_law_40 (by decide) (by decide) (by decide) (by decide) (st_total (by omega) hL (by omega) Q K)
    · subst e; exact j_tableIn (off := 1474) (tgt := 1514) dL_law_40 (by decide) (by decide) (by decide) (by decide) (st_firstReaching (by omega) hL (by omega) Q K)
    · subst e; exact j_tableIn (off := 1542) (tgt := 1582) dL_law_40 (by decide) (by decide) (by decide) (by decide) (st_bestRun (by omega) hL (by omega) Q K)
    · subst e; exact j_tableIn (off := 1597) (tgt := 1637) dL_law_40 (by decide) (by decide) (by decide) (by decide) (st_dryIn (by omega) hL (by omega) Q K)
    · subst e; exact j_tableIn (off := 1689) (tgt := 1729) dL_law_40 (by decide) (by decide) (by decide) (by decide) (st_dry (by omega) hL (by omega) Q K)
    · subst e; exact j_tableIn (off := 1702) (tgt := 1742) dL_law_40 (by decide) (by decide) (by decide) (by decide) (st_dryAt (by omega) hL (by omega) Q K)
    · subst e; exact j_tableIn (off := 1758) (tgt := 1798) dL_law_40 (by decide) (by decide) (by decide) (by decide) (st_longestDry (by omega) hL (by omega) Q K)
    · subst e; exact j_tableIn (off := 1814) (tgt := 1854) dL_law_40 (by decide) (by decide) (by decide) (by decide) (st_driestFlight (by omega) hL (by omega) Q K)
    · subst e; exact j_tableIn (off := 1827) (tgt := 1867) dL_law_40 (by decide) (by decide) (by decide) (by decide) (st_lowestIn (by omega) hL (by omega) Q K)
    · subst e; exact j_tableIn (off := 1919) (tgt := 1959) dL_law_40 (by decide) (by decide) (by decide) (by decide) (st_highestAt (by omega) hL (by omega) Q K)
    · subst e; exact j_tableIn (off := 1975) (tgt := 2015) dL_law_40 (by decide) (by decide) (by decide) (by decide) (st_upTo (by omega) hL (by omega) Q K)
    · subst e; exact j_tableIn (off := 2000) (tgt := 2040) dL_law_40 (by decide) (by decide) (by decide) (by decide) (st_levelInOrder (by omega) hL (by omega) Q K)
    · subst e; exact j_tableIn (off := 2056) (tgt := 2096) dL_law_40 (by decide) (by decide) (by decide) (by decide) (st_outOfOrder (by omega) hL (by omega) Q K)
    · subst e; exact j_tableIn (off := 2069) (tgt := 2109) dL_law_40 (by decide) (by decide) (by decide) (by decide) (st_alike (by omega) hL (by omega) Q K)
    · subst e; exact j_tableIn (off := 2137) (tgt := 2177) dL_law_40 (by decide) (by decide) (by decide) (by decide) (st_changedSince (by omega) hL (by omega) Q K)
    · subst e; exact j_tableIn (off := 2193) (tgt := 2233) dL_law_40 (by decide) (by decide) (by decide) (by decide) (st_totalIn (by omega) hL (by omega) Q K)
    · subst e; exact j_tableIn (off := 2248) (tgt := 2288) dL_law_40 (by decide) (by decide) (by decide) (by decide) (st_goneIn (by omega) hL (by omega) Q K)
    · subst e; exact j_tableIn (off := 2304) (tgt := 2344) dL_law_40 (by decide) (by decide) (by decide) (by decide) (st_hoursUntilDry (by omega) hL (by omega) Q K)
    · subst e; exact j_tableIn (off := 2317) (tgt := 2357) dL_law_40 (by decide) (by decide) (by decide) (by decide) (st_sunWanted (by omega) hL (by omega) Q K)
    · subst e; exact j_tableIn (off := 2373) (tgt := 2413) dL_law_40 (by decide) (by decide) (by decide) (by decide) (st_bestEdge (by omega) hL (by omega) Q K)
    · subst e; exact j_tableIn (off := 2441) (tgt := 2481) dL_law_40 (by decide) (by decide) (by decide) (by decide) (st_bestSwap (by omega) hL (by omega) Q K)
    · subst e; exact j_tableIn (off := 2497) (tgt := 2537) dL_law_40 (by decide) (by decide) (by decide) (by decide) (st_meanLevel (by omega) hL (by omega) Q K)
    · subst e; exact j_tableIn (off := 2538) (tgt := 2578) dL_law_40 (by decide) (by decide) (by decide) (by decide) (st_digest (by omega) hL (by omega) Q K)
    · refine j_tableOut (tgt := 2592) dL_law_40 (Or.inr (by rw [nI_toInt (by omega)]; omega)) (by decide) ?_
      exact j_bud (bc' := m - (i + 1)) (bs' := 15 * (m - (i + 1))) (by omega) (by omega) (K E Q.le)
  · intro E Q
    show J g mL_law 12 (m - m) (15 * (m - m)) 23 [some (.ref g.1.2.1), some (.ref (ad 0)), some (.ref (ad 63)), some (.ref (ad 69)), some (.int (nI (6 * m))), none, none, none, none] [] n ad E Φ Ψ
    refine j_iload dL_law_23 rfl ?_
    refine j_aload_n dL_law_25 rfl ?_
    refine j_slen dL_law_26 ?_
    refine j_bipush (v := nI 6) dL_law_27 (by decide) ?_
    refine j_isub dL_law_29 ?_
    refine j_topi (y := nI g.1.2.2.1 - nI 6) rfl ?_
    refine j_icmp_gt_t (tgt := 2598) dL_law_30 (by decide) (by rw [Int32.lt_iff_toInt_lt, pk_sub_toInt (by omega) (by omega), nI_toInt (by omega)]; omega) ?_
    refine j_iconst (v := 1) dL_law_2598 (by decide) ?_
    exact j_zret dL_law_2599 rfl rfl (hΦ E)
