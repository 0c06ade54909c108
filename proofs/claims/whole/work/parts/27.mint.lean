-- LeafMint: what its questions read (the state is at the place 4)
theorem isS4 : isS 4 := isS_mk (k := 0) (by decide)
theorem isS12 : isS 12 := isS_mk (k := 1) (by decide)
theorem isS20 : isS 20 := isS_mk (k := 2) (by decide)
theorem S4_d {G : Mem} (hI : StI G 4) {i : Int} (h0 : 0 ≤ i) (h1 : i < G 4 0) : (1 ≤ G 5 i ∧ G 5 i ≤ 50) ∧ (1 ≤ G 6 i ∧ G 6 i ≤ 9) ∧ 0 ≤ G 7 i ∧ G 7 i ≤ 30 := StI_d hI h0 h1
theorem S4_r {G : Mem} (hI : StI G 4) {r : Int} (h0 : 0 ≤ r) (h1 : r < G 4 0) : 0 ≤ G 8 r ∧ G 8 r < G 4 0 := StI_r hI h0 h1
theorem S4_k {G : Mem} (hI : StI G 4) {k : Int} (h0 : 0 ≤ k) (h1 : k < G 4 5) : (0 ≤ G 9 k ∧ G 9 k < G 4 0) ∧ (0 ≤ G 10 k ∧ G 10 k ≤ G 4 10) ∧ 0 ≤ G 11 k ∧ G 11 k ≤ 2 := StI_k hI h0 h1

set_option maxHeartbeats 4000000 in
set_option maxRecDepth 100000 in
theorem c_X3_dieCount {g : GT} {G : Mem} : Ctr g yX3_dieCount cX3_dieCount 1 (some FieldType.int) (rmL 0 0 0) [vR g 0] G (RM (G 4 0) G) NoX := by
  refine ctr_of [some (vR g 0)] (by decide) (Nat.le_of_ble_eq_true rfl) rfl (fun γ E => ?_)
  show V γ g cX3_dieCount 1 RX3 (rmL 0 0 0) G 0 0 0 [some (vR g 0)] []
  refine v_aload_n (pc := 0) rfl dX3_dieCount_0 ?_
  refine v_getR (pc := 1) (j := 4) fd_X3_10 (rfl) (by decide) rfl dX3_dieCount_1 ?_
  refine v_get (pc := 4) 0 fd_X3_58 (rfl) (by decide) rfl rfl dX3_dieCount_4 ?_
  exact v_iret (pc := 7) E (⟨rfl, rfl⟩) (Nat.le_of_ble_eq_true rfl) (Nat.le_of_ble_eq_true rfl) dX3_dieCount_7
set_option maxHeartbeats 4000000 in
set_option maxRecDepth 100000 in
theorem c_X3_leaves {g : GT} {G : Mem} : Ctr g yX3_leaves cX3_leaves 1 (some FieldType.int) (rmL 0 0 0) [vR g 0] G (RM (G 4 9) G) NoX := by
  refine ctr_of [some (vR g 0)] (by decide) (Nat.le_of_ble_eq_true rfl) rfl (fun γ E => ?_)
  show V γ g cX3_leaves 1 RX3 (rmL 0 0 0) G 0 0 0 [some (vR g 0)] []
  refine v_aload_n (pc := 0) rfl dX3_leaves_0 ?_
  refine v_getR (pc := 1) (j := 4) fd_X3_10 (rfl) (by decide) rfl dX3_leaves_1 ?_
  refine v_get (pc := 4) 9 fd_X3_94 (rfl) (by decide) rfl rfl dX3_leaves_4 ?_
  exact v_iret (pc := 7) E (⟨rfl, rfl⟩) (Nat.le_of_ble_eq_true rfl) (Nat.le_of_ble_eq_true rfl) dX3_leaves_7
set_option maxHeartbeats 4000000 in
set_option maxRecDepth 100000 in
theorem c_X3_year {g : GT} {G : Mem} : Ctr g yX3_year cX3_year 1 (some FieldType.int) (rmL 0 0 0) [vR g 0] G (RM (G 4 10) G) NoX := by
  refine ctr_of [some (vR g 0)] (by decide) (Nat.le_of_ble_eq_true rfl) rfl (fun γ E => ?_)
  show V γ g cX3_year 1 RX3 (rmL 0 0 0) G 0 0 0 [some (vR g 0)] []
  refine v_aload_n (pc := 0) rfl dX3_year_0 ?_
  refine v_getR (pc := 1) (j := 4) fd_X3_10 (rfl) (by decide) rfl dX3_year_1 ?_
  refine v_get (pc := 4) 10 fd_X3_97 (rfl) (by decide) rfl rfl dX3_year_4 ?_
  exact v_iret (pc := 7) E (⟨rfl, rfl⟩) (Nat.le_of_ble_eq_true rfl) (Nat.le_of_ble_eq_true rfl) dX3_year_7
set_option maxHeartbeats 4000000 in
set_option maxRecDepth 100000 in
theorem c_X3_vaultCoins {g : GT} {G : Mem} : Ctr g yX3_vaultCoins cX3_vaultCoins 1 (some FieldType.int) (rmL 0 0 0) [vR g 0] G (RM (G 4 5) G) NoX := by
  refine ctr_of [some (vR g 0)] (by decide) (Nat.le_of_ble_eq_true rfl) rfl (fun γ E => ?_)
  show V γ g cX3_vaultCoins 1 RX3 (rmL 0 0 0) G 0 0 0 [some (vR g 0)] []
  refine v_aload_n (pc := 0) rfl dX3_vaultCoins_0 ?_
  refine v_getR (pc := 1) (j := 4) fd_X3_10 (rfl) (by decide) rfl dX3_vaultCoins_1 ?_
  refine v_get (pc := 4) 5 fd_X3_100 (rfl) (by decide) rfl rfl dX3_vaultCoins_4 ?_
  exact v_iret (pc := 7) E (⟨rfl, rfl⟩) (Nat.le_of_ble_eq_true rfl) (Nat.le_of_ble_eq_true rfl) dX3_vaultCoins_7
set_option maxHeartbeats 4000000 in
set_option maxRecDepth 100000 in
theorem c_X3_struckTotal {g : GT} {G : Mem} : Ctr g yX3_struckTotal cX3_struckTotal 1 (some FieldType.int) (rmL 0 0 0) [vR g 0] G (RM (G 4 11) G) NoX := by
  refine ctr_of [some (vR g 0)] (by decide) (Nat.le_of_ble_eq_true rfl) rfl (fun γ E => ?_)
  show V γ g cX3_struckTotal 1 RX3 (rmL 0 0 0) G 0 0 0 [some (vR g 0)] []
  refine v_aload_n (pc := 0) rfl dX3_struckTotal_0 ?_
  refine v_getR (pc := 1) (j := 4) fd_X3_10 (rfl) (by decide) rfl dX3_struckTotal_1 ?_
  refine v_get (pc := 4) 11 fd_X3_168 (rfl) (by decide) rfl rfl dX3_struckTotal_4 ?_
  exact v_iret (pc := 7) E (⟨rfl, rfl⟩) (Nat.le_of_ble_eq_true rfl) (Nat.le_of_ble_eq_true rfl) dX3_struckTotal_7
set_option maxHeartbeats 4000000 in
set_option maxRecDepth 100000 in
theorem c_X3_paidTotal {g : GT} {G : Mem} : Ctr g yX3_paidTotal cX3_paidTotal 1 (some FieldType.int) (rmL 0 0 0) [vR g 0] G (RM (G 4 12) G) NoX := by
  refine ctr_of [some (vR g 0)] (by decide) (Nat.le_of_ble_eq_true rfl) rfl (fun γ E => ?_)
  show V γ g cX3_paidTotal 1 RX3 (rmL 0 0 0) G 0 0 0 [some (vR g 0)] []
  refine v_aload_n (pc := 0) rfl dX3_paidTotal_0 ?_
  refine v_getR (pc := 1) (j := 4) fd_X3_10 (rfl) (by decide) rfl dX3_paidTotal_1 ?_
  refine v_get (pc := 4) 12 fd_X3_171 (rfl) (by decide) rfl rfl dX3_paidTotal_4 ?_
  exact v_iret (pc := 7) E (⟨rfl, rfl⟩) (Nat.le_of_ble_eq_true rfl) (Nat.le_of_ble_eq_true rfl) dX3_paidTotal_7
set_option maxHeartbeats 4000000 in
set_option maxRecDepth 100000 in
theorem c_X3_paidWeight {g : GT} {G : Mem} : Ctr g yX3_paidWeight cX3_paidWeight 1 (some FieldType.int) (rmL 0 0 0) [vR g 0] G (RM (G 4 13) G) NoX := by
  refine ctr_of [some (vR g 0)] (by decide) (Nat.le_of_ble_eq_true rfl) rfl (fun γ E => ?_)
  show V γ g cX3_paidWeight 1 RX3 (rmL 0 0 0) G 0 0 0 [some (vR g 0)] []
  refine v_aload_n (pc := 0) rfl dX3_paidWeight_0 ?_
  refine v_getR (pc := 1) (j := 4) fd_X3_10 (rfl) (by decide) rfl dX3_paidWeight_1 ?_
  refine v_get (pc := 4) 13 fd_X3_174 (rfl) (by decide) rfl rfl dX3_paidWeight_4 ?_
  exact v_iret (pc := 7) E (⟨rfl, rfl⟩) (Nat.le_of_ble_eq_true rfl) (Nat.le_of_ble_eq_true rfl) dX3_paidWeight_7
set_option maxHeartbeats 4000000 in
set_option maxRecDepth 100000 in
theorem c_X3_lostWeight {g : GT} {G : Mem} : Ctr g yX3_lostWeight cX3_lostWeight 1 (some FieldType.int) (rmL 0 0 0) [vR g 0] G (RM (G 4 14) G) NoX := by
  refine ctr_of [some (vR g 0)] (by decide) (Nat.le_of_ble_eq_true rfl) rfl (fun γ E => ?_)
  show V γ g cX3_lostWeight 1 RX3 (rmL 0 0 0) G 0 0 0 [some (vR g 0)] []
  refine v_aload_n (pc := 0) rfl dX3_lostWeight_0 ?_
  refine v_getR (pc := 1) (j := 4) fd_X3_10 (rfl) (by decide) rfl dX3_lostWeight_1 ?_
  refine v_get (pc := 4) 14 fd_X3_177 (rfl) (by decide) rfl rfl dX3_lostWeight_4 ?_
  exact v_iret (pc := 7) E (⟨rfl, rfl⟩) (Nat.le_of_ble_eq_true rfl) (Nat.le_of_ble_eq_true rfl) dX3_lostWeight_7
set_option maxHeartbeats 4000000 in
set_option maxRecDepth 100000 in
theorem c_X3_addedWeight {g : GT} {G : Mem} : Ctr g yX3_addedWeight cX3_addedWeight 1 (some FieldType.int) (rmL 0 0 0) [vR g 0] G (RM (G 4 15) G) NoX := by
  refine ctr_of [some (vR g 0)] (by decide) (Nat.le_of_ble_eq_true rfl) rfl (fun γ E => ?_)
  show V γ g cX3_addedWeight 1 RX3 (rmL 0 0 0) G 0 0 0 [some (vR g 0)] []
  refine v_aload_n (pc := 0) rfl dX3_addedWeight_0 ?_
  refine v_getR (pc := 1) (j := 4) fd_X3_10 (rfl) (by decide) rfl dX3_addedWeight_1 ?_
  refine v_get (pc := 4) 15 fd_X3_180 (rfl) (by decide) rfl rfl dX3_addedWeight_4 ?_
  exact v_iret (pc := 7) E (⟨rfl, rfl⟩) (Nat.le_of_ble_eq_true rfl) (Nat.le_of_ble_eq_true rfl) dX3_addedWeight_7
set_option maxHeartbeats 4000000 in
set_option maxRecDepth 100000 in
theorem c_X3_vaultValue {g : GT} {G : Mem} (hI : StI G 4) : Ctr g yX3_vaultValue cX3_vaultValue 3 (some FieldType.int) (rmL 0 0 0) [vR g 0] G (RM (sz (G 4 5) (fun k => G 5 (G 9 k))) G) NoX := by
  refine ctr_of [some (vR g 0), none, none] (by decide) (Nat.le_of_ble_eq_true rfl) rfl (fun γ E => ?_)
  show V γ g cX3_vaultValue 3 RX3 (rmL 0 0 0) G 0 0 0 [some (vR g 0), none, none] []
  have hn := StI_n hI
  have hc := StI_c hI
  have hy := StI_y hI
  refine v_iconst (pc := 0) (z := 0) dX3_vaultValue_0 ?_
  refine v_istore_n (pc := 1) (by decide) rfl dX3_vaultValue_1 ?_
  refine v_iconst (pc := 2) (z := 0) dX3_vaultValue_2 ?_
  refine v_istore_n (pc := 3) (by decide) rfl dX3_vaultValue_3 ?_
  have lp4 : ∀ (m4 : Nat) (i : Int) (s : Int), (0 ≤ i ∧ i ≤ G 4 5) → (s = sz i (fun k => G 5 (G 9 k))) → ((G 4 5 - i).toNat) < m4 → V γ g cX3_vaultValue 3 RX3 (rmL 0 0 0) G 0 0 4 [some (vR g 0), some (vI s), some (vI i)] [] := by
    intro m4
    induction m4 with
    | zero => intro i s; intros; omega
    | succ m4 ih4 =>
      intro i s h0 hs hm4
      refine v_iload_n (pc := 4) rfl dX3_vaultValue_4 ?_
      refine v_aload_n (pc := 5) rfl dX3_vaultValue_5 ?_
      refine v_getR (pc := 6) (j := 4) fd_X3_10 (rfl) (by decide) rfl dX3_vaultValue_6 ?_
      refine v_get (pc := 9) 5 fd_X3_100 (rfl) (by decide) rfl rfl dX3_vaultValue_9 ?_
      refine v_icmp_ge (pc := 12) (tgt := 41) (by omega) dX3_vaultValue_12 (by decide) (fun h1 => ?_) (fun h1 => ?_)
      · skip
        refine v_iload_n (pc := 41) rfl dX3_vaultValue_41 ?_
        exact v_iret (pc := 42) E (⟨by rw [hs, show i = G 4 5 by omega], rfl⟩) (Nat.le_of_ble_eq_true rfl) (Nat.le_of_ble_eq_true rfl) dX3_vaultValue_42
      · skip
        refine v_iload_n (pc := 15) rfl dX3_vaultValue_15 ?_
        refine v_aload_n (pc := 16) rfl dX3_vaultValue_16 ?_
        refine v_getR (pc := 17) (j := 4) fd_X3_10 (rfl) (by decide) rfl dX3_vaultValue_17 ?_
        refine v_getR (pc := 20) (j := 5) fd_X3_65 (rfl) (by decide) rfl dX3_vaultValue_20 ?_
        refine v_aload_n (pc := 23) rfl dX3_vaultValue_23 ?_
        refine v_getR (pc := 24) (j := 4) fd_X3_10 (rfl) (by decide) rfl dX3_vaultValue_24 ?_
        refine v_getR (pc := 27) (j := 9) fd_X3_103 (rfl) (by decide) rfl dX3_vaultValue_27 ?_
        refine v_iload_n (pc := 30) rfl dX3_vaultValue_30 ?_
        refine v_iald (pc := 31) (N := 40) rfl rfl (by decide) (by omega) (by decide) dX3_vaultValue_31 ?_
        have r2 := S4_k hI (k := i) (by omega) (by omega)
        refine v_iald (pc := 32) (N := 5) rfl rfl (by decide) (by omega) (by decide) dX3_vaultValue_32 ?_
        have r3 := S4_d hI (i := (G 9 i)) (by omega) (by omega)
        refine v_iadd (pc := 33) dX3_vaultValue_33 ?_
        refine v_istore_n (pc := 34) (by decide) rfl dX3_vaultValue_34 ?_
        refine v_iinc (pc := 35) (y := 1) rfl (by decide) rfl dX3_vaultValue_35 ?_
        refine v_goto (pc := 38) (tgt := 4) dX3_vaultValue_38 (by decide) ?_
        exact ih4 (i + 1) (s + (G 5 (G 9 i))) (by omega) (by rw [sz_s (by omega), hs]) (by omega)
  refine v_loc (L' := [some (vR g 0), some (vI 0), some (vI 0)]) (⟨rfl, rfl, rfl, trivial⟩) ?_
  exact lp4 _ 0 0 (by omega) rfl (Nat.lt_succ_self _)
set_option maxHeartbeats 4000000 in
set_option maxRecDepth 100000 in
theorem c_X3_vaultValueByDies {g : GT} {G : Mem} (hI : StI G 4) : Ctr g yX3_vaultValueByDies cX3_vaultValueByDies 3 (some FieldType.int) (rmL 1 0 0) [vR g 0] G (RM (sz (G 4 0) (fun i => G 5 i * cntE (G 4 5) (G 9) i)) G) NoX := by
  refine ctr_of [some (vR g 0), none, none] (by decide) (Nat.le_of_ble_eq_true rfl) rfl (fun γ E => ?_)
  show V γ g cX3_vaultValueByDies 3 RX3 (rmL 1 0 0) G 0 0 0 [some (vR g 0), none, none] []
  have hn := StI_n hI
  have hc := StI_c hI
  have hy := StI_y hI
  refine v_iconst (pc := 0) (z := 0) dX3_vaultValueByDies_0 ?_
  refine v_istore_n (pc := 1) (by decide) rfl dX3_vaultValueByDies_1 ?_
  refine v_iconst (pc := 2) (z := 0) dX3_vaultValueByDies_2 ?_
  refine v_istore_n (pc := 3) (by decide) rfl dX3_vaultValueByDies_3 ?_
  have lp4 : ∀ (m4 : Nat) (i : Int) (s : Int), (0 ≤ i ∧ i ≤ G 4 0) → (s = sz i (fun i => G 5 i * cntE (G 4 5) (G 9) i)) → ((G 4 0 - i).toNat) < m4 → V γ g cX3_vaultValueByDies 3 RX3 (rmL 1 0 0) G 0 0 4 [some (vR g 0), some (vI s), some (vI i)] [] := by
    intro m4
    induction m4 with
    | zero => intro i s; intros; omega
    | succ m4 ih4 =>
      intro i s h0 hs hm4
      refine v_iload_n (pc := 4) rfl dX3_vaultValueByDies_4 ?_
      refine v_aload_n (pc := 5) rfl dX3_vaultValueByDies_5 ?_
      refine v_getR (pc := 6) (j := 4) fd_X3_10 (rfl) (by decide) rfl dX3_vaultValueByDies_6 ?_
      refine v_get (pc := 9) 0 fd_X3_58 (rfl) (by decide) rfl rfl dX3_vaultValueByDies_9 ?_
      refine v_icmp_ge (pc := 12) (tgt := 42) (by omega) dX3_vaultValueByDies_12 (by decide) (fun h1 => ?_) (fun h1 => ?_)
      · skip
        refine v_iload_n (pc := 42) rfl dX3_vaultValueByDies_42 ?_
        exact v_iret (pc := 43) E (⟨by rw [hs, show i = G 4 0 by omega], rfl⟩) (Nat.le_of_ble_eq_true rfl) (Nat.le_of_ble_eq_true rfl) dX3_vaultValueByDies_43
      · skip
        refine v_iload_n (pc := 15) rfl dX3_vaultValueByDies_15 ?_
        refine v_aload_n (pc := 16) rfl dX3_vaultValueByDies_16 ?_
        refine v_getR (pc := 17) (j := 4) fd_X3_10 (rfl) (by decide) rfl dX3_vaultValueByDies_17 ?_
        refine v_getR (pc := 20) (j := 5) fd_X3_65 (rfl) (by decide) rfl dX3_vaultValueByDies_20 ?_
        refine v_iload_n (pc := 23) rfl dX3_vaultValueByDies_23 ?_
        refine v_iald (pc := 24) (N := 5) rfl rfl (by decide) (by omega) (by decide) dX3_vaultValueByDies_24 ?_
        have r2 := S4_d hI (i := i) (by omega) (by omega)
        refine v_aload_n (pc := 25) rfl dX3_vaultValueByDies_25 ?_
        refine v_getR (pc := 26) (j := 4) fd_X3_10 (rfl) (by decide) rfl dX3_vaultValueByDies_26 ?_
        refine v_iload_n (pc := 29) rfl dX3_vaultValueByDies_29 ?_
        refine v_callVN (pc := 30) (rest := [vI (G 5 i), vI s]) (c_X2_coinsFrom isS4 hI (d := i) (by omega)) iok_X2_coinsFrom wM_X3_106 (rfl) (by decide) (by decide) rfl (rmOk (by decide) (by decide)) ⟨Nat.le_of_ble_eq_true rfl, Nat.le_of_ble_eq_true rfl⟩ (Nat.le_of_ble_eq_true rfl) rfl dX3_vaultValueByDies_30 (fun v G' hq => ?_) (fun _ _ h => h.elim)
        obtain ⟨rfl, hG9⟩ := hq
        rw [hG9]
        refine v_stk (st' := [vI (cntE (G 4 5) (G 9) i), vI (G 5 i), vI s]) rfl ?_
        refine v_imul (pc := 33) dX3_vaultValueByDies_33 ?_
        refine v_iadd (pc := 34) dX3_vaultValueByDies_34 ?_
        refine v_istore_n (pc := 35) (by decide) rfl dX3_vaultValueByDies_35 ?_
        refine v_iinc (pc := 36) (y := 1) rfl (by decide) rfl dX3_vaultValueByDies_36 ?_
        refine v_goto (pc := 39) (tgt := 4) dX3_vaultValueByDies_39 (by decide) ?_
        exact ih4 (i + 1) (s + ((G 5 i) * (cntE (G 4 5) (G 9) i))) (by omega) (by rw [sz_s (by omega), hs]) (by omega)
  refine v_loc (L' := [some (vR g 0), some (vI 0), some (vI 0)]) (⟨rfl, rfl, rfl, trivial⟩) ?_
  exact lp4 _ 0 0 (by omega) rfl (Nat.lt_succ_self _)
set_option maxHeartbeats 4000000 in
set_option maxRecDepth 100000 in
theorem c_X3_vaultWeight {g : GT} {G : Mem} (hI : StI G 4) : Ctr g yX3_vaultWeight cX3_vaultWeight 1 (some FieldType.int) (rmL 1 0 0) [vR g 0] G (RM (wgt (G 4 5) (G 9) (G 6)) G) NoX := by
  refine ctr_of [some (vR g 0)] (by decide) (Nat.le_of_ble_eq_true rfl) rfl (fun γ E => ?_)
  show V γ g cX3_vaultWeight 1 RX3 (rmL 1 0 0) G 0 0 0 [some (vR g 0)] []
  have hn := StI_n hI
  have hc := StI_c hI
  have hy := StI_y hI
  refine v_aload_n (pc := 0) rfl dX3_vaultWeight_0 ?_
  refine v_getR (pc := 1) (j := 4) fd_X3_10 (rfl) (by decide) rfl dX3_vaultWeight_1 ?_
  refine v_callVN (pc := 4) (rest := []) (c_X2_weightOfCoins isS4 hI) iok_X2_weightOfCoins wM_X3_109 (rfl) (by decide) (by decide) rfl (rmOk (by decide) (by decide)) ⟨Nat.le_of_ble_eq_true rfl, Nat.le_of_ble_eq_true rfl⟩ (Nat.le_of_ble_eq_true rfl) rfl dX3_vaultWeight_4 (fun v G' hq => ?_) (fun _ _ h => h.elim)
  obtain ⟨rfl, hG9⟩ := hq
  rw [hG9]
  refine v_stk (st' := [vI (wgt (G 4 5) (G 9) (G 6))]) rfl ?_
  exact v_iret (pc := 7) E (⟨rfl, rfl⟩) (Nat.le_of_ble_eq_true rfl) (Nat.le_of_ble_eq_true rfl) dX3_vaultWeight_7
set_option maxHeartbeats 4000000 in
set_option maxRecDepth 100000 in
theorem c_X3_coinsOfYear {g : GT} {G : Mem} (hI : StI G 4) {y : Int} (h_y : -2147483648 ≤ y ∧ y < 2147483648) : Ctr g yX3_coinsOfYear cX3_coinsOfYear 2 (some FieldType.int) (rmL 1 0 0) [vR g 0, vI y] G (RM (cntE (G 4 5) (G 10) y) G) NoX := by
  refine ctr_of [some (vR g 0), some (vI y)] (by decide) (Nat.le_of_ble_eq_true rfl) rfl (fun γ E => ?_)
  show V γ g cX3_coinsOfYear 2 RX3 (rmL 1 0 0) G 0 0 0 [some (vR g 0), some (vI y)] []
  have hn := StI_n hI
  have hc := StI_c hI
  have hy := StI_y hI
  refine v_aload_n (pc := 0) rfl dX3_coinsOfYear_0 ?_
  refine v_getR (pc := 1) (j := 4) fd_X3_10 (rfl) (by decide) rfl dX3_coinsOfYear_1 ?_
  refine v_iload_n (pc := 4) rfl dX3_coinsOfYear_4 ?_
  refine v_callVN (pc := 5) (rest := []) (c_X2_coinsStruckIn isS4 hI h_y) iok_X2_coinsStruckIn wM_X3_116 (rfl) (by decide) (by decide) rfl (rmOk (by decide) (by decide)) ⟨Nat.le_of_ble_eq_true rfl, Nat.le_of_ble_eq_true rfl⟩ (Nat.le_of_ble_eq_true rfl) rfl dX3_coinsOfYear_5 (fun v G' hq => ?_) (fun _ _ h => h.elim)
  obtain ⟨rfl, hG9⟩ := hq
  rw [hG9]
  refine v_stk (st' := [vI (cntE (G 4 5) (G 10) y)]) rfl ?_
  exact v_iret (pc := 8) E (⟨rfl, rfl⟩) (Nat.le_of_ble_eq_true rfl) (Nat.le_of_ble_eq_true rfl) dX3_coinsOfYear_8
set_option maxHeartbeats 4000000 in
set_option maxRecDepth 100000 in
theorem c_X3_recallGrams {g : GT} {G : Mem} (hI : StI G 4) {y : Int} (h_y : -2147483648 ≤ y ∧ y < 2147483648) : Ctr g yX3_recallGrams cX3_recallGrams 2 (some FieldType.int) (rmL 1 0 0) [vR g 0, vI y] G (RM (mlt (G 4 5) (G 9) (G 6) (G 10) (G 11) y) G) NoX := by
  refine ctr_of [some (vR g 0), some (vI y)] (by decide) (Nat.le_of_ble_eq_true rfl) rfl (fun γ E => ?_)
  show V γ g cX3_recallGrams 2 RX3 (rmL 1 0 0) G 0 0 0 [some (vR g 0), some (vI y)] []
  have hn := StI_n hI
  have hc := StI_c hI
  have hy := StI_y hI
  refine v_aload_n (pc := 0) rfl dX3_recallGrams_0 ?_
  refine v_getR (pc := 1) (j := 4) fd_X3_10 (rfl) (by decide) rfl dX3_recallGrams_1 ?_
  refine v_iload_n (pc := 4) rfl dX3_recallGrams_4 ?_
  refine v_callVN (pc := 5) (rest := []) (c_X2_gramsFromMelting isS4 hI h_y) iok_X2_gramsFromMelting wM_X3_165 (rfl) (by decide) (by decide) rfl (rmOk (by decide) (by decide)) ⟨Nat.le_of_ble_eq_true rfl, Nat.le_of_ble_eq_true rfl⟩ (Nat.le_of_ble_eq_true rfl) rfl dX3_recallGrams_5 (fun v G' hq => ?_) (fun _ _ h => h.elim)
  obtain ⟨rfl, hG9⟩ := hq
  rw [hG9]
  refine v_stk (st' := [vI (mlt (G 4 5) (G 9) (G 6) (G 10) (G 11) y)]) rfl ?_
  exact v_iret (pc := 8) E (⟨rfl, rfl⟩) (Nat.le_of_ble_eq_true rfl) (Nat.le_of_ble_eq_true rfl) dX3_recallGrams_8
set_option maxHeartbeats 4000000 in
set_option maxRecDepth 100000 in
theorem c_X3_kinds {g : GT} {G : Mem} (hI : StI G 4) : Ctr g yX3_kinds cX3_kinds 3 (some FieldType.int) (rmL 1 0 0) [vR g 0] G (RM (sz (G 4 5) (fun k => bI (isFirst (G 9) (G 10) (G 11) k))) G) NoX := by
  refine ctr_of [some (vR g 0), none, none] (by decide) (Nat.le_of_ble_eq_true rfl) rfl (fun γ E => ?_)
  show V γ g cX3_kinds 3 RX3 (rmL 1 0 0) G 0 0 0 [some (vR g 0), none, none] []
  have hn := StI_n hI
  have hc := StI_c hI
  have hy := StI_y hI
  refine v_iconst (pc := 0) (z := 0) dX3_kinds_0 ?_
  refine v_istore_n (pc := 1) (by decide) rfl dX3_kinds_1 ?_
  refine v_iconst (pc := 2) (z := 0) dX3_kinds_2 ?_
  refine v_istore_n (pc := 3) (by decide) rfl dX3_kinds_3 ?_
  have lp4 : ∀ (m4 : Nat) (i : Int) (s : Int), (0 ≤ i ∧ i ≤ G 4 5) → (s = sz i (fun k => bI (isFirst (G 9) (G 10) (G 11) k))) → ((G 4 5 - i).toNat) < m4 → V γ g cX3_kinds 3 RX3 (rmL 1 0 0) G 0 0 4 [some (vR g 0), some (vI s), some (vI i)] [] := by
    intro m4
    induction m4 with
    | zero => intro i s; intros; omega
    | succ m4 ih4 =>
      intro i s h0 hs hm4
      refine v_iload_n (pc := 4) rfl dX3_kinds_4 ?_
      refine v_aload_n (pc := 5) rfl dX3_kinds_5 ?_
      refine v_getR (pc := 6) (j := 4) fd_X3_10 (rfl) (by decide) rfl dX3_kinds_6 ?_
      refine v_get (pc := 9) 5 fd_X3_100 (rfl) (by decide) rfl rfl dX3_kinds_9 ?_
      refine v_icmp_ge (pc := 12) (tgt := 35) (by omega) dX3_kinds_12 (by decide) (fun h1 => ?_) (fun h1 => ?_)
      · skip
        refine v_iload_n (pc := 35) rfl dX3_kinds_35 ?_
        exact v_iret (pc := 36) E (⟨by rw [hs, show i = G 4 5 by omega], rfl⟩) (Nat.le_of_ble_eq_true rfl) (Nat.le_of_ble_eq_true rfl) dX3_kinds_36
      · skip
        refine v_aload_n (pc := 15) rfl dX3_kinds_15 ?_
        refine v_getR (pc := 16) (j := 4) fd_X3_10 (rfl) (by decide) rfl dX3_kinds_16 ?_
        refine v_iload_n (pc := 19) rfl dX3_kinds_19 ?_
        refine v_callVN (pc := 20) (rest := []) (c_X2_isFirstOfItsKind isS4 hI (d := i) (by omega)) iok_X2_isFirstOfItsKind wM_X3_126 (rfl) (by decide) (by decide) rfl (rmOk (by decide) (by decide)) ⟨Nat.le_of_ble_eq_true rfl, Nat.le_of_ble_eq_true rfl⟩ (Nat.le_of_ble_eq_true rfl) rfl dX3_kinds_20 (fun v G' hq => ?_) (fun _ _ h => h.elim)
        obtain ⟨rfl, hG9⟩ := hq
        rw [hG9]
        refine v_stk (st' := [vI (bI (isFirst (G 9) (G 10) (G 11) i))]) rfl ?_
        refine v_if_eq (pc := 23) (tgt := 29) (bI_r _) dX3_kinds_23 (by decide) (fun h2 => ?_) (fun h2 => ?_)
        · skip
          have h2 := bI_eq0.mp h2
          refine v_iinc (pc := 29) (y := 1) rfl (by decide) rfl dX3_kinds_29 ?_
          refine v_goto (pc := 32) (tgt := 4) dX3_kinds_32 (by decide) ?_
          exact ih4 (i + 1) s (by omega) (by rw [sz_s (by omega), hs]; first | rw [bI_t (by assumption)] | rw [bI_f (by assumption), Int.add_zero]) (by omega)
        · skip
          have h2 := bI_n0 h2
          refine v_iinc (pc := 26) (y := 1) rfl (by decide) rfl dX3_kinds_26 ?_
          refine v_iinc (pc := 29) (y := 1) rfl (by decide) rfl dX3_kinds_29 ?_
          refine v_goto (pc := 32) (tgt := 4) dX3_kinds_32 (by decide) ?_
          exact ih4 (i + 1) (s + 1) (by omega) (by rw [sz_s (by omega), hs]; first | rw [bI_t (by assumption)] | rw [bI_f (by assumption), Int.add_zero]) (by omega)
  refine v_loc (L' := [some (vR g 0), some (vI 0), some (vI 0)]) (⟨rfl, rfl, rfl, trivial⟩) ?_
  exact lp4 _ 0 0 (by omega) rfl (Nat.lt_succ_self _)
set_option maxHeartbeats 4000000 in
set_option maxRecDepth 100000 in
theorem c_X3_isAmount {g : GT} {G : Mem} {a : Int} (h_a : -2147483648 ≤ a ∧ a < 2147483648) : Ctr g yX3_isAmount cX3_isAmount 1 (some FieldType.boolean) (rmL 0 0 0) [vI a] G (RM (bI (1 ≤ a ∧ a ≤ 99)) G) NoX := by
  refine ctr_of [some (vI a)] (by decide) (Nat.le_of_ble_eq_true rfl) rfl (fun γ E => ?_)
  show V γ g cX3_isAmount 1 RX3 (rmL 0 0 0) G 0 0 0 [some (vI a)] []
  refine v_iload_n (pc := 0) rfl dX3_isAmount_0 ?_
  refine v_iconst (pc := 1) (z := 1) dX3_isAmount_1 ?_
  refine v_icmp_lt (pc := 2) (tgt := 15) (by omega) dX3_isAmount_2 (by decide) (fun h1 => ?_) (fun h1 => ?_)
  · skip
    refine v_iconst (pc := 15) (z := 0) dX3_isAmount_15 ?_
    exact v_bret (pc := 16) E (by decide) (⟨by rw [bI_f (by omega)], rfl⟩) (Nat.le_of_ble_eq_true rfl) (Nat.le_of_ble_eq_true rfl) dX3_isAmount_16
  · skip
    refine v_iload_n (pc := 5) rfl dX3_isAmount_5 ?_
    refine v_bipush (pc := 6) (z := 99) rfl dX3_isAmount_6 ?_
    refine v_icmp_gt (pc := 8) (tgt := 15) (by omega) dX3_isAmount_8 (by decide) (fun h2 => ?_) (fun h2 => ?_)
    · skip
      refine v_iconst (pc := 15) (z := 0) dX3_isAmount_15 ?_
      exact v_bret (pc := 16) E (by decide) (⟨by rw [bI_f (by omega)], rfl⟩) (Nat.le_of_ble_eq_true rfl) (Nat.le_of_ble_eq_true rfl) dX3_isAmount_16
    · skip
      refine v_iconst (pc := 11) (z := 1) dX3_isAmount_11 ?_
      refine v_goto (pc := 12) (tgt := 16) dX3_isAmount_12 (by decide) ?_
      exact v_bret (pc := 16) E (by decide) (⟨by rw [bI_t (by omega)], rfl⟩) (Nat.le_of_ble_eq_true rfl) (Nat.le_of_ble_eq_true rfl) dX3_isAmount_16
set_option maxHeartbeats 4000000 in
set_option maxRecDepth 100000 in
theorem c_X3_payableAmounts {g : GT} {G : Mem} (hI : StI G 4) : Ctr g yX3_payableAmounts cX3_payableAmounts 3 (some FieldType.int) (rmL 2 0 0) [vR g 0] G (RP (fun r G' => r = sz 99 (fun i => bI (Tab (vsR G 4) (cnR G 4) (G 4 0).toNat (i + 1) ≠ 1000)) ∧ ∀ i z, ¬ (94 ≤ i ∧ i ≤ 99) → ¬ (i = 1 ∧ z = 4) → G' i z = G i z)) NoX := by
  refine ctr_of [some (vR g 0), none, none] (by decide) (Nat.le_of_ble_eq_true rfl) rfl (fun γ E => ?_)
  show V γ g cX3_payableAmounts 3 RX3 (rmL 2 0 0) G 0 0 0 [some (vR g 0), none, none] []
  have hn := StI_n hI
  have hc := StI_c hI
  have hy := StI_y hI
  refine v_aload_n (pc := 0) rfl dX3_payableAmounts_0 ?_
  refine v_getR (pc := 1) (j := 1) fd_X3_29 (rfl) (by decide) rfl dX3_payableAmounts_1 ?_
  refine v_aload_n (pc := 4) rfl dX3_payableAmounts_4 ?_
  refine v_getR (pc := 5) (j := 4) fd_X3_10 (rfl) (by decide) rfl dX3_payableAmounts_5 ?_
  refine v_callVN (pc := 8) (rest := []) (c_X0_tabulate isS4 hI) iok_X0_tabulate wM_X3_133 (rfl) (by decide) (by decide) rfl (rmOk (by decide) (by decide)) ⟨Nat.le_of_ble_eq_true rfl, Nat.le_of_ble_eq_true rfl⟩ (Nat.le_of_ble_eq_true rfl) rfl dX3_payableAmounts_8 (fun v G1 hq => ?_) (fun _ _ h => h.elim)
  obtain ⟨rfl, hq⟩ := hq
  refine v_stk (st' := []) rfl ?_
  obtain ⟨e4, hT, hF⟩ := hq
  refine v_iconst (pc := 11) (z := 0) dX3_payableAmounts_11 ?_
  refine v_istore_n (pc := 12) (by decide) rfl dX3_payableAmounts_12 ?_
  refine v_iconst (pc := 13) (z := 1) dX3_payableAmounts_13 ?_
  refine v_istore_n (pc := 14) (by decide) rfl dX3_payableAmounts_14 ?_
  have lp15 : ∀ (m15 : Nat) (i : Int) (s : Int), (1 ≤ i ∧ i ≤ 100) → (s = sz (i - 1) (fun i => bI (Tab (vsR G 4) (cnR G 4) (G 4 0).toNat (i + 1) ≠ 1000))) → ((100 - i).toNat) < m15 → V γ g cX3_payableAmounts 3 RX3 (rmL 2 0 0) G1 0 0 15 [some (vR g 0), some (vI s), some (vI i)] [] := by
    intro m15
    induction m15 with
    | zero => intro i s; intros; omega
    | succ m15 ih15 =>
      intro i s h0 hs hm15
      refine v_iload_n (pc := 15) rfl dX3_payableAmounts_15 ?_
      refine v_bipush (pc := 16) (z := 99) rfl dX3_payableAmounts_16 ?_
      refine v_icmp_gt (pc := 18) (tgt := 44) (by omega) dX3_payableAmounts_18 (by decide) (fun h1 => ?_) (fun h1 => ?_)
      · skip
        refine v_iload_n (pc := 44) rfl dX3_payableAmounts_44 ?_
        exact v_iret (pc := 45) E (⟨_, rfl, by rw [hs, show i - 1 = 99 by omega], hF⟩) (Nat.le_of_ble_eq_true rfl) (Nat.le_of_ble_eq_true rfl) dX3_payableAmounts_45
      · skip
        have hTn : G1 (94 + (G1 1 4).toNat) i = Tab (vsR G 4) (cnR G 4) (G 4 0).toNat i := by rw [e4]; exact hT (G 4 0).toNat (by omega) i (by omega) (by omega)
        have hTr := TabR hI (r := (G 4 0).toNat) (by omega) i
        refine v_aload_n (pc := 21) rfl dX3_payableAmounts_21 ?_
        refine v_getR (pc := 22) (j := 1) fd_X3_29 (rfl) (by decide) rfl dX3_payableAmounts_22 ?_
        refine v_iload_n (pc := 25) rfl dX3_payableAmounts_25 ?_
        refine v_callVN (pc := 26) (rest := []) (c_X0_tableAnswer (G := G1) (a := i) (by omega) (by omega)) iok_X0_tableAnswer wM_X3_137 (rfl) (by decide) (by decide) rfl (rmOk (by decide) (by decide)) ⟨Nat.le_of_ble_eq_true rfl, Nat.le_of_ble_eq_true rfl⟩ (Nat.le_of_ble_eq_true rfl) rfl dX3_payableAmounts_26 (fun v G' hq => ?_) (fun _ _ h => h.elim)
        obtain ⟨rfl, hG9⟩ := hq
        rw [hG9]
        refine v_stk (st' := [vI (G1 (94 + (G1 1 4).toNat) i)]) rfl ?_
        rw [hTn]
        refine v_sipush (pc := 29) (z := 1000) rfl dX3_payableAmounts_29 ?_
        refine v_icmp_eq (pc := 32) (tgt := 38) (by omega) dX3_payableAmounts_32 (by decide) (fun h2 => ?_) (fun h2 => ?_)
        · skip
          skip
          refine v_iinc (pc := 38) (y := 1) rfl (by decide) rfl dX3_payableAmounts_38 ?_
          refine v_goto (pc := 41) (tgt := 15) dX3_payableAmounts_41 (by decide) ?_
          exact ih15 (i + 1) s (by omega) (by rw [show i + 1 - 1 = (i - 1) + 1 by omega, sz_s (by omega), hs, show i - 1 + 1 = i by omega]; first | rw [bI_t (by assumption)] | rw [bI_f (fun q => q (by assumption)), Int.add_zero]) (by omega)
        · skip
          refine v_iinc (pc := 35) (y := 1) rfl (by decide) rfl dX3_payableAmounts_35 ?_
          skip
          refine v_iinc (pc := 38) (y := 1) rfl (by decide) rfl dX3_payableAmounts_38 ?_
          refine v_goto (pc := 41) (tgt := 15) dX3_payableAmounts_41 (by decide) ?_
          exact ih15 (i + 1) (s + 1) (by omega) (by rw [show i + 1 - 1 = (i - 1) + 1 by omega, sz_s (by omega), hs, show i - 1 + 1 = i by omega]; first | rw [bI_t (by assumption)] | rw [bI_f (fun q => q (by assumption)), Int.add_zero]) (by omega)
  refine v_loc (L' := [some (vR g 0), some (vI 0), some (vI 1)]) (⟨rfl, rfl, rfl, trivial⟩) ?_
  exact lp15 _ 1 0 (by omega) rfl (Nat.lt_succ_self _)
