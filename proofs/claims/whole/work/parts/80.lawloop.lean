-- the law's loop
theorem and63 (b : Int32) : 0 ≤ (b &&& Int32.ofInt 63).toInt ∧ (b &&& Int32.ofInt 63).toInt ≤ 63 := by
  have h1 : (b &&& Int32.ofInt 63).toBitVec.toNat ≤ 63 := by
    have e : (b &&& Int32.ofInt 63).toBitVec = b.toBitVec &&& (Int32.ofInt 63).toBitVec := rfl
    rw [e, BitVec.toNat_and]
    exact Nat.and_le_right
  have h2 : (b &&& Int32.ofInt 63).toInt = (b &&& Int32.ofInt 63).toBitVec.toInt := rfl
  rw [h2, BitVec.toInt_eq_toNat_of_lt (by omega)]
  omega
theorem v_iand63 {γ : gT} {g : GT} {cc : ByteArray} {nL : Nat} {own : String} {rm : Room} {G : Mem} {k n : Nat} {pc : Nat} {L : List (Option Value)} {st : List Value} {x : Int} (d : decode cc pc = .ok (.iand, 1)) (kk : ∀ y : Int, 0 ≤ y → y ≤ 63 → V γ g cc nL own rm G k n (pc + 1) L (vI y :: st)) : V γ g cc nL own rm G k n pc L (vI 63 :: vI x :: st) := by
  have hb := and63 (Int32.ofInt x)
  have h := kk _ hb.1 hb.2
  refine v_row (pc' := pc + 1) (fun p l e R s m args below meth c Q H locs ls C hL q => lv_iand C.1 C.2.1 d ?_) h
  have e : vI (Int32.ofInt x &&& Int32.ofInt 63).toInt = .int (Int32.ofInt x &&& Int32.ofInt 63) := by
    show Value.int (Int32.ofInt (Int32.ofInt x &&& Int32.ofInt 63).toInt) = _
    rw [Int32.ofInt_toInt]
  rw [e] at q
  exact q
set_option maxHeartbeats 4000000 in
set_option maxRecDepth 100000 in
theorem law_loop {γ : gT} {g : GT} {ar N : Nat} {a : Nat → Int} (hA : ArgI γ g ar N a) (hN : N ≤ 1536) (hEnd : ∀ (G : Mem) (k n : Nat) (i : Int), k ≤ 600000 → n ≤ 7200000 → V γ g cL_law 9 RL room_1 G k n 2173 [some (.ref ar), some (vR g 0), some (vR g 106), some (vR g 119), some (vR g 120), some (vI i), none, none, none] []) : ∀ (m j : Nat) (i : Int) (G : Mem) (k n : Nat), i = 3 * (j : Int) → ((N : Int) + 3 - i).toNat < m → i ≤ (N : Int) + 3 → k ≤ 1000 + 25 * j → n ≤ 20000 + 4300 * j → LawI G (1200 * (j : Int)) (6000 * (j : Int)) → V γ g cL_law 9 RL room_1 G k n 28 [some (.ref ar), some (vR g 0), some (vR g 106), some (vR g 119), some (vR g 120), some (vI i), none, none, none] [] := by
  intro m
  induction m with
  | zero => intro j i G k n; intros; omega
  | succ m ih =>
    intro j i G k n hij hm hle hk hn hI
    refine v_iload (pc := 28) rfl dL_law_28 ?_
    refine v_aload_n (pc := 30) rfl dL_law_30 ?_
    refine v_alenA (pc := 31) hA dL_law_31 ?_
    refine v_iconst (pc := 32) (z := 3) dL_law_32 ?_
    refine v_isub (pc := 33) dL_law_33 ?_
    refine v_icmp_gt (pc := 34) (tgt := 2173) (by omega) dL_law_34 (by decide) (fun q => ?_) (fun q => ?_)
    · exact hEnd G k n i (by omega) (by omega)
    have nx : ∀ (G2 : Mem) (k2 n2 : Nat), LawI G2 (1200 * (j : Int) + 1200) (6000 * (j : Int) + 6000) → k2 ≤ k + 25 → n2 ≤ n + 4300 → V γ g cL_law 9 RL room_1 G2 k2 n2 2167 [some (.ref ar), some (vR g 0), some (vR g 106), some (vR g 119), some (vR g 120), some (vI i), none, none, none] [] := fun G2 k2 n2 hL hk2 hn2 => by
      refine v_iinc (pc := 2167) (y := 3) rfl (by decide) rfl dL_law_2167 ?_
      refine v_goto (pc := 2170) (tgt := 28) dL_law_2170 (by decide) ?_
      refine v_loc (L' := [some (.ref ar), some (vR g 0), some (vR g 106), some (vR g 119), some (vR g 120), some (vI (i + 3)), none, none, none]) ⟨rfl, rfl, rfl, rfl, rfl, rfl, trivial⟩ ?_
      exact ih (j + 1) (i + 3) G2 k2 n2 (by omega) (by omega) (by omega) (by omega) (by omega) (by
        have e1 : 1200 * ((j + 1 : Nat) : Int) = 1200 * (j : Int) + 1200 := by omega
        have e2 : 6000 * ((j + 1 : Nat) : Int) = 6000 * (j : Int) + 6000 := by omega
        rw [e1, e2]
        exact hL)
    refine v_aload_n (pc := 37) rfl dL_law_37 ?_
    refine v_iload (pc := 38) rfl dL_law_38 ?_
    refine v_aarg (pc := 40) hA (by omega) (by omega) dL_law_40 ?_
    refine v_bipush (pc := 41) (z := 63) rfl dL_law_41 ?_
    refine v_iand63 (pc := 43) dL_law_43 (fun y y0 y1 => ?_)
    by_cases hs0 : y = 0
    · subst hs0
      refine v_table (pc := 44) (tgt := 252) (off := 208) (by decide) (by decide) (by decide) rfl dL_law_44 (by decide) ?_
      exact lc_0 hA hI (by omega) (by omega) hN (by omega) (by omega) nx
    by_cases hs1 : y = 1
    · subst hs1
      refine v_table (pc := 44) (tgt := 320) (off := 276) (by decide) (by decide) (by decide) rfl dL_law_44 (by decide) ?_
      exact lc_1 hA hI (by omega) (by omega) hN (by omega) (by omega) nx
    by_cases hs2 : y = 2
    · subst hs2
      refine v_table (pc := 44) (tgt := 376) (off := 332) (by decide) (by decide) (by decide) rfl dL_law_44 (by decide) ?_
      exact lc_2 hA hI (by omega) (by omega) hN (by omega) (by omega) nx
    by_cases hs3 : y = 3
    · subst hs3
      refine v_table (pc := 44) (tgt := 432) (off := 388) (by decide) (by decide) (by decide) rfl dL_law_44 (by decide) ?_
      exact lc_3 hA hI (by omega) (by omega) hN (by omega) (by omega) nx
    by_cases hs4 : y = 4
    · subst hs4
      refine v_table (pc := 44) (tgt := 500) (off := 456) (by decide) (by decide) (by decide) rfl dL_law_44 (by decide) ?_
      exact lc_4 hA hI (by omega) (by omega) hN (by omega) (by omega) nx
    by_cases hs5 : y = 5
    · subst hs5
      refine v_table (pc := 44) (tgt := 556) (off := 512) (by decide) (by decide) (by decide) rfl dL_law_44 (by decide) ?_
      exact lc_5 hA hI (by omega) (by omega) hN (by omega) (by omega) nx
    by_cases hs6 : y = 6
    · subst hs6
      refine v_table (pc := 44) (tgt := 612) (off := 568) (by decide) (by decide) (by decide) rfl dL_law_44 (by decide) ?_
      exact lc_6 hA hI (by omega) (by omega) hN (by omega) (by omega) nx
    by_cases hs7 : y = 7
    · subst hs7
      refine v_table (pc := 44) (tgt := 668) (off := 624) (by decide) (by decide) (by decide) rfl dL_law_44 (by decide) ?_
      exact lc_7 hA hI (by omega) (by omega) hN (by omega) (by omega) nx
    by_cases hs8 : y = 8
    · subst hs8
      refine v_table (pc := 44) (tgt := 681) (off := 637) (by decide) (by decide) (by decide) rfl dL_law_44 (by decide) ?_
      exact lc_8 hA hI (by omega) (by omega) hN (by omega) (by omega) nx
    by_cases hs9 : y = 9
    · subst hs9
      refine v_table (pc := 44) (tgt := 737) (off := 693) (by decide) (by decide) (by decide) rfl dL_law_44 (by decide) ?_
      exact lc_9 hA hI (by omega) (by omega) hN (by omega) (by omega) nx
    by_cases hs10 : y = 10
    · subst hs10
      refine v_table (pc := 44) (tgt := 793) (off := 749) (by decide) (by decide) (by decide) rfl dL_law_44 (by decide) ?_
      exact lc_10 hA hI (by omega) (by omega) hN (by omega) (by omega) nx
    by_cases hs11 : y = 11
    · subst hs11
      refine v_table (pc := 44) (tgt := 849) (off := 805) (by decide) (by decide) (by decide) rfl dL_law_44 (by decide) ?_
      exact lc_11 hA hI (by omega) (by omega) hN (by omega) (by omega) nx
    by_cases hs12 : y = 12
    · subst hs12
      refine v_table (pc := 44) (tgt := 905) (off := 861) (by decide) (by decide) (by decide) rfl dL_law_44 (by decide) ?_
      exact lc_12 hA hI (by omega) (by omega) hN (by omega) (by omega) nx
    by_cases hs13 : y = 13
    · subst hs13
      refine v_table (pc := 44) (tgt := 961) (off := 917) (by decide) (by decide) (by decide) rfl dL_law_44 (by decide) ?_
      exact lc_13 hA hI (by omega) (by omega) hN (by omega) (by omega) nx
    by_cases hs14 : y = 14
    · subst hs14
      refine v_table (pc := 44) (tgt := 974) (off := 930) (by decide) (by decide) (by decide) rfl dL_law_44 (by decide) ?_
      exact lc_14 hA hI (by omega) (by omega) hN (by omega) (by omega) nx
    by_cases hs15 : y = 15
    · subst hs15
      refine v_table (pc := 44) (tgt := 987) (off := 943) (by decide) (by decide) (by decide) rfl dL_law_44 (by decide) ?_
      exact lc_15 hA hI (by omega) (by omega) hN (by omega) (by omega) nx
    by_cases hs16 : y = 16
    · subst hs16
      refine v_table (pc := 44) (tgt := 1000) (off := 956) (by decide) (by decide) (by decide) rfl dL_law_44 (by decide) ?_
      exact lc_16 hA hI (by omega) (by omega) hN (by omega) (by omega) nx
    by_cases hs17 : y = 17
    · subst hs17
      refine v_table (pc := 44) (tgt := 1013) (off := 969) (by decide) (by decide) (by decide) rfl dL_law_44 (by decide) ?_
      exact lc_17 hA hI (by omega) (by omega) hN (by omega) (by omega) nx
    by_cases hs18 : y = 18
    · subst hs18
      refine v_table (pc := 44) (tgt := 1026) (off := 982) (by decide) (by decide) (by decide) rfl dL_law_44 (by decide) ?_
      exact lc_18 hA hI (by omega) (by omega) hN (by omega) (by omega) nx
    by_cases hs19 : y = 19
    · subst hs19
      refine v_table (pc := 44) (tgt := 1039) (off := 995) (by decide) (by decide) (by decide) rfl dL_law_44 (by decide) ?_
      exact lc_19 hA hI (by omega) (by omega) hN (by omega) (by omega) nx
    by_cases hs20 : y = 20
    · subst hs20
      refine v_table (pc := 44) (tgt := 1095) (off := 1051) (by decide) (by decide) (by decide) rfl dL_law_44 (by decide) ?_
      exact lc_20 hA hI (by omega) (by omega) hN (by omega) (by omega) nx
    by_cases hs21 : y = 21
    · subst hs21
      refine v_table (pc := 44) (tgt := 1120) (off := 1076) (by decide) (by decide) (by decide) rfl dL_law_44 (by decide) ?_
      exact lc_21 hA hI (by omega) (by omega) hN (by omega) (by omega) nx
    by_cases hs22 : y = 22
    · subst hs22
      refine v_table (pc := 44) (tgt := 1178) (off := 1134) (by decide) (by decide) (by decide) rfl dL_law_44 (by decide) ?_
      exact lc_22 hA hI (by omega) (by omega) hN (by omega) (by omega) nx
    by_cases hs23 : y = 23
    · subst hs23
      refine v_table (pc := 44) (tgt := 1191) (off := 1147) (by decide) (by decide) (by decide) rfl dL_law_44 (by decide) ?_
      exact lc_23 hA hI (by omega) (by omega) hN (by omega) (by omega) nx
    by_cases hs24 : y = 24
    · subst hs24
      refine v_table (pc := 44) (tgt := 1254) (off := 1210) (by decide) (by decide) (by decide) rfl dL_law_44 (by decide) ?_
      exact lc_24 hA hI (by omega) (by omega) hN (by omega) (by omega) nx
    by_cases hs25 : y = 25
    · subst hs25
      refine v_table (pc := 44) (tgt := 1310) (off := 1266) (by decide) (by decide) (by decide) rfl dL_law_44 (by decide) ?_
      exact lc_25 hA hI (by omega) (by omega) hN (by omega) (by omega) nx
    by_cases hs26 : y = 26
    · subst hs26
      refine v_table (pc := 44) (tgt := 1366) (off := 1322) (by decide) (by decide) (by decide) rfl dL_law_44 (by decide) ?_
      exact lc_26 hA hI (by omega) (by omega) hN (by omega) (by omega) nx
    by_cases hs27 : y = 27
    · subst hs27
      refine v_table (pc := 44) (tgt := 1422) (off := 1378) (by decide) (by decide) (by decide) rfl dL_law_44 (by decide) ?_
      exact lc_27 hA hI (by omega) (by omega) hN (by omega) (by omega) nx
    by_cases hs28 : y = 28
    · subst hs28
      refine v_table (pc := 44) (tgt := 1490) (off := 1446) (by decide) (by decide) (by decide) rfl dL_law_44 (by decide) ?_
      exact lc_28 hA hI (by omega) (by omega) hN (by omega) (by omega) nx
    by_cases hs29 : y = 29
    · subst hs29
      refine v_table (pc := 44) (tgt := 1503) (off := 1459) (by decide) (by decide) (by decide) rfl dL_law_44 (by decide) ?_
      exact lc_29 hA hI (by omega) (by omega) hN (by omega) (by omega) nx
    by_cases hs30 : y = 30
    · subst hs30
      refine v_table (pc := 44) (tgt := 1528) (off := 1484) (by decide) (by decide) (by decide) rfl dL_law_44 (by decide) ?_
      exact lc_30 hA hI (by omega) (by omega) hN (by omega) (by omega) nx
    by_cases hs31 : y = 31
    · subst hs31
      refine v_table (pc := 44) (tgt := 1541) (off := 1497) (by decide) (by decide) (by decide) rfl dL_law_44 (by decide) ?_
      exact lc_31 hA hI (by omega) (by omega) hN (by omega) (by omega) nx
    by_cases hs32 : y = 32
    · subst hs32
      refine v_table (pc := 44) (tgt := 1554) (off := 1510) (by decide) (by decide) (by decide) rfl dL_law_44 (by decide) ?_
      exact lc_32 hA hI (by omega) (by omega) hN (by omega) (by omega) nx
    by_cases hs33 : y = 33
    · subst hs33
      refine v_table (pc := 44) (tgt := 1567) (off := 1523) (by decide) (by decide) (by decide) rfl dL_law_44 (by decide) ?_
      exact lc_33 hA hI (by omega) (by omega) hN (by omega) (by omega) nx
    by_cases hs34 : y = 34
    · subst hs34
      refine v_table (pc := 44) (tgt := 1580) (off := 1536) (by decide) (by decide) (by decide) rfl dL_law_44 (by decide) ?_
      exact lc_34 hA hI (by omega) (by omega) hN (by omega) (by omega) nx
    by_cases hs35 : y = 35
    · subst hs35
      refine v_table (pc := 44) (tgt := 1593) (off := 1549) (by decide) (by decide) (by decide) rfl dL_law_44 (by decide) ?_
      exact lc_35 hA hI (by omega) (by omega) hN (by omega) (by omega) nx
    by_cases hs36 : y = 36
    · subst hs36
      refine v_table (pc := 44) (tgt := 1658) (off := 1614) (by decide) (by decide) (by decide) rfl dL_law_44 (by decide) ?_
      exact lc_36 hA hI (by omega) (by omega) hN (by omega) (by omega) nx
    by_cases hs37 : y = 37
    · subst hs37
      refine v_table (pc := 44) (tgt := 1738) (off := 1694) (by decide) (by decide) (by decide) rfl dL_law_44 (by decide) ?_
      exact lc_37 hA hI (by omega) (by omega) hN (by omega) (by omega) nx
    by_cases hs38 : y = 38
    · subst hs38
      refine v_table (pc := 44) (tgt := 1751) (off := 1707) (by decide) (by decide) (by decide) rfl dL_law_44 (by decide) ?_
      exact lc_38 hA hI (by omega) (by omega) hN (by omega) (by omega) nx
    by_cases hs39 : y = 39
    · subst hs39
      refine v_table (pc := 44) (tgt := 1807) (off := 1763) (by decide) (by decide) (by decide) rfl dL_law_44 (by decide) ?_
      exact lc_39 hA hI (by omega) (by omega) hN (by omega) (by omega) nx
    by_cases hs40 : y = 40
    · subst hs40
      refine v_table (pc := 44) (tgt := 1820) (off := 1776) (by decide) (by decide) (by decide) rfl dL_law_44 (by decide) ?_
      exact lc_40 hA hI (by omega) (by omega) hN (by omega) (by omega) nx
    by_cases hs41 : y = 41
    · subst hs41
      refine v_table (pc := 44) (tgt := 1876) (off := 1832) (by decide) (by decide) (by decide) rfl dL_law_44 (by decide) ?_
      exact lc_41 hA hI (by omega) (by omega) hN (by omega) (by omega) nx
    by_cases hs42 : y = 42
    · subst hs42
      refine v_table (pc := 44) (tgt := 1934) (off := 1890) (by decide) (by decide) (by decide) rfl dL_law_44 (by decide) ?_
      exact lc_42 hA hI (by omega) (by omega) hN (by omega) (by omega) nx
    by_cases hs43 : y = 43
    · subst hs43
      refine v_table (pc := 44) (tgt := 1978) (off := 1934) (by decide) (by decide) (by decide) rfl dL_law_44 (by decide) ?_
      exact lc_43 hA hI (by omega) (by omega) hN (by omega) (by omega) nx
    by_cases hs44 : y = 44
    · subst hs44
      refine v_table (pc := 44) (tgt := 2022) (off := 1978) (by decide) (by decide) (by decide) rfl dL_law_44 (by decide) ?_
      exact lc_44 hA hI (by omega) (by omega) hN (by omega) (by omega) nx
    by_cases hs45 : y = 45
    · subst hs45
      refine v_table (pc := 44) (tgt := 2066) (off := 2022) (by decide) (by decide) (by decide) rfl dL_law_44 (by decide) ?_
      exact lc_45 hA hI (by omega) (by omega) hN (by omega) (by omega) nx
    by_cases hs46 : y = 46
    · subst hs46
      refine v_table (pc := 44) (tgt := 2110) (off := 2066) (by decide) (by decide) (by decide) rfl dL_law_44 (by decide) ?_
      exact lc_46 hA hI (by omega) (by omega) hN (by omega) (by omega) nx
    by_cases hs47 : y = 47
    · subst hs47
      refine v_table (pc := 44) (tgt := 2123) (off := 2079) (by decide) (by decide) (by decide) rfl dL_law_44 (by decide) ?_
      exact lc_47 hA hI (by omega) (by omega) hN (by omega) (by omega) nx
    refine v_tabled (pc := 44) (tgt := 2167) (by omega) (by omega) dL_law_44 (by decide) ?_
    exact nx G k n (LawI_up hI (by omega) (by omega)) (by omega) (by omega)
