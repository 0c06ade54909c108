set_option maxHeartbeats 4000000 in
set_option maxRecDepth 100000 in
theorem c_X3_coinsOfValue {g : GT} {G : Mem} (hI : StI G 4) {x : Int} (h_x : -2147483648 ≤ x ∧ x < 2147483648) : Ctr g yX3_coinsOfValue cX3_coinsOfValue 2 (some FieldType.int) (rmL 2 1 6) [vR g 0, vI x] G (fun v G' => ∃ d, v = some (vI (cntE (G 4 5) (G 9) d)) ∧ G' = G ∧ (0 ≤ d ∧ d < G 4 0) ∧ G 5 d = x) (fun e G' => e = eNE ∧ G' = G ∧ ∀ i, 0 ≤ i → i < G 4 0 → G 5 i ≠ x) := by
  refine ctr_of [some (vR g 0), some (vI x)] (by decide) (Nat.le_of_ble_eq_true rfl) rfl (fun γ E => ?_)
  show V γ g cX3_coinsOfValue 2 RX3 (rmL 2 1 6) G 0 0 0 [some (vR g 0), some (vI x)] []
  have hn := StI_n hI
  have hc := StI_c hI
  have hy := StI_y hI
  refine v_aload_n (pc := 0) rfl dX3_coinsOfValue_0 ?_
  refine v_getR (pc := 1) (j := 4) fd_X3_10 (rfl) (by decide) rfl dX3_coinsOfValue_1 ?_
  refine v_aload_n (pc := 4) rfl dX3_coinsOfValue_4 ?_
  refine v_iload_n (pc := 5) rfl dX3_coinsOfValue_5 ?_
  refine v_callV (pc := 6) (rest := [vR g 4]) (c_X3_requireValue hI h_x) iok_X3_requireValue wM_X3_113 (rfl) (by decide) (by decide) rfl (rmOk (by decide) (by decide)) ⟨Nat.le_of_ble_eq_true rfl, Nat.le_of_ble_eq_true rfl⟩ (Nat.le_of_ble_eq_true rfl) rfl dX3_coinsOfValue_6 (fun v G' hq => ?_) (fun e G' hx => vx_pass E hx (Nat.le_of_ble_eq_true rfl) (Nat.le_of_ble_eq_true rfl))
  obtain ⟨d, rfl, hG9, hd1, hd2⟩ := hq
  rw [hG9]
  refine v_stk (st' := [vI d, vR g 4]) rfl ?_
  refine v_callVN (pc := 9) (rest := []) (c_X2_coinsFrom isS4 hI (d := d) (by omega)) iok_X2_coinsFrom wM_X3_106 (rfl) (by decide) (by decide) rfl (rmOk (by decide) (by decide)) ⟨Nat.le_of_ble_eq_true rfl, Nat.le_of_ble_eq_true rfl⟩ (Nat.le_of_ble_eq_true rfl) rfl dX3_coinsOfValue_9 (fun v G' hq => ?_) (fun _ _ h => h.elim)
  obtain ⟨rfl, hG9⟩ := hq
  rw [hG9]
  refine v_stk (st' := [vI (cntE (G 4 5) (G 9) d)]) rfl ?_
  exact v_iret (pc := 12) E (⟨d, rfl, rfl, hd1, hd2⟩) (Nat.le_of_ble_eq_true rfl) (Nat.le_of_ble_eq_true rfl) dX3_coinsOfValue_12
set_option maxHeartbeats 4000000 in
set_option maxRecDepth 100000 in
theorem c_X3_canPay {g : GT} {G : Mem} (hI : StI G 4) {a : Int} (h_a : -2147483648 ≤ a ∧ a < 2147483648) : Ctr g yX3_canPay cX3_canPay 2 (some FieldType.boolean) (rmL 2 1 6) [vR g 0, vI a] G (fun v G' => v = some (vI (bI ((Tab (vsR G 4) (cnR G 4) (G 4 0).toNat a) ≠ 1000))) ∧ (∀ i z, ¬ (94 ≤ i ∧ i ≤ 99) → ¬ (i = 1 ∧ z = 4) → G' i z = G i z) ∧ (1 ≤ a ∧ a ≤ 99)) (fun e G' => e = eIA ∧ G' = G ∧ ¬ (1 ≤ a ∧ a ≤ 99)) := by
  refine ctr_of [some (vR g 0), some (vI a)] (by decide) (Nat.le_of_ble_eq_true rfl) rfl (fun γ E => ?_)
  show V γ g cX3_canPay 2 RX3 (rmL 2 1 6) G 0 0 0 [some (vR g 0), some (vI a)] []
  have hn := StI_n hI
  have hc := StI_c hI
  have hy := StI_y hI
  refine v_iload_n (pc := 0) rfl dX3_canPay_0 ?_
  refine v_callS (pc := 1) (rest := []) (c_X3_requireAmount h_a) sok_X3_requireAmount wM_X3_130 (rmOk (by decide) (by decide)) ⟨Nat.le_of_ble_eq_true rfl, Nat.le_of_ble_eq_true rfl⟩ (Nat.le_of_ble_eq_true rfl) rfl dX3_canPay_1 (fun v G' hq => ?_) (fun e G' hx => vx_pass E hx (Nat.le_of_ble_eq_true rfl) (Nat.le_of_ble_eq_true rfl))
  obtain ⟨rfl, hG9, hd⟩ := hq
  rw [hG9]
  refine v_stk (st' := []) rfl ?_
  refine v_aload_n (pc := 4) rfl dX3_canPay_4 ?_
  refine v_getR (pc := 5) (j := 1) fd_X3_29 (rfl) (by decide) rfl dX3_canPay_5 ?_
  refine v_aload_n (pc := 8) rfl dX3_canPay_8 ?_
  refine v_getR (pc := 9) (j := 4) fd_X3_10 (rfl) (by decide) rfl dX3_canPay_9 ?_
  refine v_callVN (pc := 12) (rest := []) (c_X0_tabulate isS4 hI) iok_X0_tabulate wM_X3_133 (rfl) (by decide) (by decide) rfl (rmOk (by decide) (by decide)) ⟨Nat.le_of_ble_eq_true rfl, Nat.le_of_ble_eq_true rfl⟩ (Nat.le_of_ble_eq_true rfl) rfl dX3_canPay_12 (fun v G1 hq => ?_) (fun _ _ h => h.elim)
  obtain ⟨rfl, hq⟩ := hq
  refine v_stk (st' := []) rfl ?_
  obtain ⟨e4, hT, hF⟩ := hq
  have hTn : G1 (94 + (G1 1 4).toNat) a = (Tab (vsR G 4) (cnR G 4) (G 4 0).toNat a) := by rw [e4]; exact hT (G 4 0).toNat (by omega) a (by omega) (by omega)
  have hTr := TabR hI (r := (G 4 0).toNat) (by omega) a
  refine v_aload_n (pc := 15) rfl dX3_canPay_15 ?_
  refine v_getR (pc := 16) (j := 1) fd_X3_29 (rfl) (by decide) rfl dX3_canPay_16 ?_
  refine v_iload_n (pc := 19) rfl dX3_canPay_19 ?_
  refine v_callVN (pc := 20) (rest := []) (c_X0_tableAnswer (G := G1) (a := a) (by omega) (by omega)) iok_X0_tableAnswer wM_X3_137 (rfl) (by decide) (by decide) rfl (rmOk (by decide) (by decide)) ⟨Nat.le_of_ble_eq_true rfl, Nat.le_of_ble_eq_true rfl⟩ (Nat.le_of_ble_eq_true rfl) rfl dX3_canPay_20 (fun v G' hq => ?_) (fun _ _ h => h.elim)
  obtain ⟨rfl, hG9⟩ := hq
  rw [hG9]
  refine v_stk (st' := [vI (G1 (94 + (G1 1 4).toNat) a)]) rfl ?_
  rw [hTn]
  refine v_sipush (pc := 23) (z := 1000) rfl dX3_canPay_23 ?_
  refine v_icmp_eq (pc := 26) (tgt := 33) (by omega) dX3_canPay_26 (by decide) (fun h1 => ?_) (fun h1 => ?_)
  · skip
    refine v_iconst (pc := 33) (z := 0) dX3_canPay_33 ?_
    exact v_bret (pc := 34) E (by decide) (⟨by rw [bI_f (fun q => q (by assumption))], hF, hd⟩) (Nat.le_of_ble_eq_true rfl) (Nat.le_of_ble_eq_true rfl) dX3_canPay_34
  · skip
    refine v_iconst (pc := 29) (z := 1) dX3_canPay_29 ?_
    refine v_goto (pc := 30) (tgt := 34) dX3_canPay_30 (by decide) ?_
    exact v_bret (pc := 34) E (by decide) (⟨by rw [bI_t (by assumption)], hF, hd⟩) (Nat.le_of_ble_eq_true rfl) (Nat.le_of_ble_eq_true rfl) dX3_canPay_34
set_option maxHeartbeats 4000000 in
set_option maxRecDepth 100000 in
theorem c_X3_fewestCoins {g : GT} {G : Mem} (hI : StI G 4) {a : Int} (h_a : -2147483648 ≤ a ∧ a < 2147483648) : Ctr g yX3_fewestCoins cX3_fewestCoins 2 (some FieldType.int) (rmL 2 2 12) [vR g 0, vI a] G (fun v G' => v = some (vI (Tab (vsR G 4) (cnR G 4) (G 4 0).toNat a)) ∧ (∀ i z, ¬ (94 ≤ i ∧ i ≤ 99) → ¬ (i = 1 ∧ z = 4) → G' i z = G i z) ∧ (1 ≤ a ∧ a ≤ 99) ∧ (Tab (vsR G 4) (cnR G 4) (G 4 0).toNat a) ≠ 1000) (fun e G' => (e = eIA ∧ G' = G ∧ ¬ (1 ≤ a ∧ a ≤ 99)) ∨ (e = eNE ∧ (∀ i z, ¬ (94 ≤ i ∧ i ≤ 99) → ¬ (i = 1 ∧ z = 4) → G' i z = G i z) ∧ (1 ≤ a ∧ a ≤ 99) ∧ (Tab (vsR G 4) (cnR G 4) (G 4 0).toNat a) = 1000)) := by
  refine ctr_of [some (vR g 0), some (vI a)] (by decide) (Nat.le_of_ble_eq_true rfl) rfl (fun γ E => ?_)
  show V γ g cX3_fewestCoins 2 RX3 (rmL 2 2 12) G 0 0 0 [some (vR g 0), some (vI a)] []
  have hn := StI_n hI
  have hc := StI_c hI
  have hy := StI_y hI
  refine v_iload_n (pc := 0) rfl dX3_fewestCoins_0 ?_
  refine v_callS (pc := 1) (rest := []) (c_X3_requireAmount h_a) sok_X3_requireAmount wM_X3_130 (rmOk (by decide) (by decide)) ⟨Nat.le_of_ble_eq_true rfl, Nat.le_of_ble_eq_true rfl⟩ (Nat.le_of_ble_eq_true rfl) rfl dX3_fewestCoins_1 (fun v G' hq => ?_) (fun e G' hx => vx_pass E (show _ ∨ _ from Or.inl hx) (Nat.le_of_ble_eq_true rfl) (Nat.le_of_ble_eq_true rfl))
  obtain ⟨rfl, hG9, hd⟩ := hq
  rw [hG9]
  refine v_stk (st' := []) rfl ?_
  have hd0 := hd
  refine v_aload_n (pc := 4) rfl dX3_fewestCoins_4 ?_
  refine v_getR (pc := 5) (j := 1) fd_X3_29 (rfl) (by decide) rfl dX3_fewestCoins_5 ?_
  refine v_aload_n (pc := 8) rfl dX3_fewestCoins_8 ?_
  refine v_getR (pc := 9) (j := 4) fd_X3_10 (rfl) (by decide) rfl dX3_fewestCoins_9 ?_
  refine v_callVN (pc := 12) (rest := []) (c_X0_tabulate isS4 hI) iok_X0_tabulate wM_X3_133 (rfl) (by decide) (by decide) rfl (rmOk (by decide) (by decide)) ⟨Nat.le_of_ble_eq_true rfl, Nat.le_of_ble_eq_true rfl⟩ (Nat.le_of_ble_eq_true rfl) rfl dX3_fewestCoins_12 (fun v G1 hq => ?_) (fun _ _ h => h.elim)
  obtain ⟨rfl, hq⟩ := hq
  refine v_stk (st' := []) rfl ?_
  obtain ⟨e4, hT, hF⟩ := hq
  have hTn : G1 (94 + (G1 1 4).toNat) a = (Tab (vsR G 4) (cnR G 4) (G 4 0).toNat a) := by rw [e4]; exact hT (G 4 0).toNat (by omega) a (by omega) (by omega)
  have hTr := TabR hI (r := (G 4 0).toNat) (by omega) a
  refine v_aload_n (pc := 15) rfl dX3_fewestCoins_15 ?_
  refine v_getR (pc := 16) (j := 1) fd_X3_29 (rfl) (by decide) rfl dX3_fewestCoins_16 ?_
  refine v_iload_n (pc := 19) rfl dX3_fewestCoins_19 ?_
  refine v_callVN (pc := 20) (rest := []) (c_X0_tableAnswer (G := G1) (a := a) (by omega) (by omega)) iok_X0_tableAnswer wM_X3_137 (rfl) (by decide) (by decide) rfl (rmOk (by decide) (by decide)) ⟨Nat.le_of_ble_eq_true rfl, Nat.le_of_ble_eq_true rfl⟩ (Nat.le_of_ble_eq_true rfl) rfl dX3_fewestCoins_20 (fun v G' hq => ?_) (fun _ _ h => h.elim)
  obtain ⟨rfl, hG9⟩ := hq
  rw [hG9]
  refine v_stk (st' := [vI (G1 (94 + (G1 1 4).toNat) a)]) rfl ?_
  rw [hTn]
  refine v_callS (pc := 23) (rest := []) (c_X3_requirePayable (G := G1) (r := (Tab (vsR G 4) (cnR G 4) (G 4 0).toNat a)) (by omega)) sok_X3_requirePayable wM_X3_140 (rmOk (by decide) (by decide)) ⟨Nat.le_of_ble_eq_true rfl, Nat.le_of_ble_eq_true rfl⟩ (Nat.le_of_ble_eq_true rfl) rfl dX3_fewestCoins_23 (fun v G' hq => ?_) (fun e G' hx => vx_pass E (show _ ∨ _ from Or.inr ⟨hx.1, by rw [hx.2.1]; exact hF, hd0, hx.2.2⟩) (Nat.le_of_ble_eq_true rfl) (Nat.le_of_ble_eq_true rfl))
  obtain ⟨rfl, hG9, hd⟩ := hq
  rw [hG9]
  refine v_stk (st' := [vI (Tab (vsR G 4) (cnR G 4) (G 4 0).toNat a)]) rfl ?_
  exact v_iret (pc := 26) E (⟨rfl, hF, hd0, hd⟩) (Nat.le_of_ble_eq_true rfl) (Nat.le_of_ble_eq_true rfl) dX3_fewestCoins_26
set_option maxHeartbeats 4000000 in
set_option maxRecDepth 100000 in
theorem c_X3_fewestCoinsBySets {g : GT} {G : Mem} (hI : StI G 4) {a : Int} (h_a : -2147483648 ≤ a ∧ a < 2147483648) : Ctr g yX3_fewestCoinsBySets cX3_fewestCoinsBySets 2 (some FieldType.int) (rmL 2 2 12) [vR g 0, vI a] G (fun v G' => ∃ r, v = some (vI r) ∧ (∀ i z, i ≠ 100 ∧ i ≠ 101 → ¬ (i = 1 ∧ z = 5) → G' i z = G i z) ∧ (1 ≤ a ∧ a ≤ 99) ∧ r ≠ 1000 ∧ SetR (fun k => PS (fun k => G 5 (G 9 k)) (G 4 5).toNat k a) (G 4 5) r) (fun e G' => (e = eIA ∧ G' = G ∧ ¬ (1 ≤ a ∧ a ≤ 99)) ∨ (e = eNE ∧ (∀ i z, i ≠ 100 ∧ i ≠ 101 → ¬ (i = 1 ∧ z = 5) → G' i z = G i z) ∧ (1 ≤ a ∧ a ≤ 99) ∧ SetR (fun k => PS (fun k => G 5 (G 9 k)) (G 4 5).toNat k a) (G 4 5) 1000)) := by
  refine ctr_of [some (vR g 0), some (vI a)] (by decide) (Nat.le_of_ble_eq_true rfl) rfl (fun γ E => ?_)
  show V γ g cX3_fewestCoinsBySets 2 RX3 (rmL 2 2 12) G 0 0 0 [some (vR g 0), some (vI a)] []
  have hn := StI_n hI
  have hc := StI_c hI
  have hy := StI_y hI
  refine v_iload_n (pc := 0) rfl dX3_fewestCoinsBySets_0 ?_
  refine v_callS (pc := 1) (rest := []) (c_X3_requireAmount h_a) sok_X3_requireAmount wM_X3_130 (rmOk (by decide) (by decide)) ⟨Nat.le_of_ble_eq_true rfl, Nat.le_of_ble_eq_true rfl⟩ (Nat.le_of_ble_eq_true rfl) rfl dX3_fewestCoinsBySets_1 (fun v G' hq => ?_) (fun e G' hx => vx_pass E (show _ ∨ _ from Or.inl hx) (Nat.le_of_ble_eq_true rfl) (Nat.le_of_ble_eq_true rfl))
  obtain ⟨rfl, hG9, hd⟩ := hq
  rw [hG9]
  refine v_stk (st' := []) rfl ?_
  have hd0 := hd
  refine v_aload_n (pc := 4) rfl dX3_fewestCoinsBySets_4 ?_
  refine v_getR (pc := 5) (j := 1) fd_X3_29 (rfl) (by decide) rfl dX3_fewestCoinsBySets_5 ?_
  refine v_aload_n (pc := 8) rfl dX3_fewestCoinsBySets_8 ?_
  refine v_getR (pc := 9) (j := 4) fd_X3_10 (rfl) (by decide) rfl dX3_fewestCoinsBySets_9 ?_
  refine v_callVN (pc := 12) (rest := []) (c_X0_collectSets isS4 hI) iok_X0_collectSets wM_X3_143 (rfl) (by decide) (by decide) rfl (rmOk (by decide) (by decide)) ⟨Nat.le_of_ble_eq_true rfl, Nat.le_of_ble_eq_true rfl⟩ (Nat.le_of_ble_eq_true rfl) rfl dX3_fewestCoinsBySets_12 (fun v G1 hq => ?_) (fun _ _ h => h.elim)
  obtain ⟨rfl, hq⟩ := hq
  refine v_stk (st' := []) rfl ?_
  obtain ⟨e5, hB, hF⟩ := hq
  refine v_aload_n (pc := 15) rfl dX3_fewestCoinsBySets_15 ?_
  refine v_getR (pc := 16) (j := 1) fd_X3_29 (rfl) (by decide) rfl dX3_fewestCoinsBySets_16 ?_
  refine v_iload_n (pc := 19) rfl dX3_fewestCoinsBySets_19 ?_
  refine v_callVN (pc := 20) (rest := []) (c_X0_setsAnswer (G := G1) (a := a) (by omega) (by omega)) iok_X0_setsAnswer wM_X3_146 (rfl) (by decide) (by decide) rfl (rmOk (by decide) (by decide)) ⟨Nat.le_of_ble_eq_true rfl, Nat.le_of_ble_eq_true rfl⟩ (Nat.le_of_ble_eq_true rfl) rfl dX3_fewestCoinsBySets_20 (fun v G' hq => ?_) (fun _ _ h => h.elim)
  obtain ⟨r, rfl, hq⟩ := hq
  refine v_stk (st' := [vI r]) rfl ?_
  obtain ⟨hG9, hr⟩ := hq
  rw [hG9]
  have hr2 : SetR (fun k => PS (fun k => G 5 (G 9 k)) (G 4 5).toNat k a) (G 4 5) r := by
    rw [e5] at hr
    have eq : ∀ k, 0 ≤ k → k ≤ G 4 5 → BB G1 k a.toNat = PS (fun k => G 5 (G 9 k)) (G 4 5).toNat k a := fun k k0 k1 => by
      rw [hB k a.toNat k0 (by omega) (by omega), show ((a.toNat : Nat) : Int) = a by omega]
    rcases hr with ⟨q1, q2, q3⟩ | ⟨q1, q2⟩
    · exact Or.inl ⟨q1, (eq r (by omega) (by omega)).symm.trans q2, fun k k0 k1 => (eq k k0 (by omega)).symm.trans (q3 k k0 k1)⟩
    · exact Or.inr ⟨q1, fun k k0 k1 => (eq k k0 k1).symm.trans (q2 k k0 k1)⟩
  have hrr : 0 ≤ r ∧ r ≤ 1000 := by rcases hr2 with q | q <;> omega
  refine v_callS (pc := 23) (rest := []) (c_X3_requirePayable (G := G1) (r := r) (by omega)) sok_X3_requirePayable wM_X3_140 (rmOk (by decide) (by decide)) ⟨Nat.le_of_ble_eq_true rfl, Nat.le_of_ble_eq_true rfl⟩ (Nat.le_of_ble_eq_true rfl) rfl dX3_fewestCoinsBySets_23 (fun v G' hq => ?_) (fun e G' hx => vx_pass E (show _ ∨ _ from Or.inr ⟨hx.1, by rw [hx.2.1]; exact hF, hd0, by have q := hr2; rw [hx.2.2] at q; exact q⟩) (Nat.le_of_ble_eq_true rfl) (Nat.le_of_ble_eq_true rfl))
  obtain ⟨rfl, hG9, hd⟩ := hq
  rw [hG9]
  refine v_stk (st' := [vI r]) rfl ?_
  exact v_iret (pc := 26) E (⟨r, rfl, hF, hd0, hd, hr2⟩) (Nat.le_of_ble_eq_true rfl) (Nat.le_of_ble_eq_true rfl) dX3_fewestCoinsBySets_26
set_option maxHeartbeats 4000000 in
set_option maxRecDepth 100000 in
theorem c_X3_coinsUsed {g : GT} {G : Mem} (hI : StI G 4) {a : Int} (h_a : -2147483648 ≤ a ∧ a < 2147483648) {x : Int} (h_x : -2147483648 ≤ x ∧ x < 2147483648) : Ctr g yX3_coinsUsed cX3_coinsUsed 4 (some FieldType.int) (rmL 3 3 18) [vR g 0, vI a, vI x] G (fun v G' => ∃ d, v = some (vI (G' 92 d)) ∧ (1 ≤ a ∧ a ≤ 99) ∧ (0 ≤ d ∧ d < G 4 0) ∧ G 5 d = x ∧ (Tab (vsR G 4) (cnR G 4) (G 4 0).toNat a) ≠ 1000 ∧ FrP G G' ∧ ∀ s, 0 ≤ s → s < G 4 0 → G' 92 (G 8 s) = usF (vsR G 4) (cnR G 4) (G 4 0) a s) (fun e G' => (e = eIA ∧ G' = G ∧ ¬ (1 ≤ a ∧ a ≤ 99)) ∨ (e = eNE ∧ G' = G ∧ (1 ≤ a ∧ a ≤ 99) ∧ ∀ i, 0 ≤ i → i < G 4 0 → G 5 i ≠ x) ∨ (e = eUO ∧ FrP G G' ∧ (1 ≤ a ∧ a ≤ 99) ∧ (∃ d, (0 ≤ d ∧ d < G 4 0) ∧ G 5 d = x) ∧ (Tab (vsR G 4) (cnR G 4) (G 4 0).toNat a) = 1000)) := by
  refine ctr_of [some (vR g 0), some (vI a), some (vI x), none] (by decide) (Nat.le_of_ble_eq_true rfl) rfl (fun γ E => ?_)
  show V γ g cX3_coinsUsed 4 RX3 (rmL 3 3 18) G 0 0 0 [some (vR g 0), some (vI a), some (vI x), none] []
  have hn := StI_n hI
  have hc := StI_c hI
  have hy := StI_y hI
  refine v_iload_n (pc := 0) rfl dX3_coinsUsed_0 ?_
  refine v_callS (pc := 1) (rest := []) (c_X3_requireAmount h_a) sok_X3_requireAmount wM_X3_130 (rmOk (by decide) (by decide)) ⟨Nat.le_of_ble_eq_true rfl, Nat.le_of_ble_eq_true rfl⟩ (Nat.le_of_ble_eq_true rfl) rfl dX3_coinsUsed_1 (fun v G' hq => ?_) (fun e G' hx => vx_pass E (show _ ∨ _ from Or.inl hx) (Nat.le_of_ble_eq_true rfl) (Nat.le_of_ble_eq_true rfl))
  obtain ⟨rfl, hG9, hd⟩ := hq
  rw [hG9]
  refine v_stk (st' := []) rfl ?_
  have hd0 := hd
  refine v_aload_n (pc := 4) rfl dX3_coinsUsed_4 ?_
  refine v_iload_n (pc := 5) rfl dX3_coinsUsed_5 ?_
  refine v_callV (pc := 6) (rest := []) (c_X3_requireValue hI h_x) iok_X3_requireValue wM_X3_113 (rfl) (by decide) (by decide) rfl (rmOk (by decide) (by decide)) ⟨Nat.le_of_ble_eq_true rfl, Nat.le_of_ble_eq_true rfl⟩ (Nat.le_of_ble_eq_true rfl) rfl dX3_coinsUsed_6 (fun v G' hq => ?_) (fun e G' hx => vx_pass E (show _ ∨ _ from Or.inr (Or.inl ⟨hx.1, hx.2.1, hd0, hx.2.2⟩)) (Nat.le_of_ble_eq_true rfl) (Nat.le_of_ble_eq_true rfl))
  obtain ⟨d, rfl, hG9, hd1, hd2⟩ := hq
  rw [hG9]
  refine v_stk (st' := [vI d]) rfl ?_
  refine v_istore_n (pc := 9) (by decide) rfl dX3_coinsUsed_9 ?_
  refine v_aload_n (pc := 10) rfl dX3_coinsUsed_10 ?_
  refine v_getR (pc := 11) (j := 1) fd_X3_29 (rfl) (by decide) rfl dX3_coinsUsed_11 ?_
  refine v_aload_n (pc := 14) rfl dX3_coinsUsed_14 ?_
  refine v_getR (pc := 15) (j := 4) fd_X3_10 (rfl) (by decide) rfl dX3_coinsUsed_15 ?_
  refine v_iload_n (pc := 18) rfl dX3_coinsUsed_18 ?_
  refine v_callVN (pc := 19) (rest := []) (c_X0_plan isS4 hI hd0) iok_X0_plan wM_X3_153 (rfl) (by decide) (by decide) rfl (rmOk (by decide) (by decide)) ⟨Nat.le_of_ble_eq_true rfl, Nat.le_of_ble_eq_true rfl⟩ (Nat.le_of_ble_eq_true rfl) rfl dX3_coinsUsed_19 (fun v G1 hq => ?_) (fun _ _ h => h.elim)
  obtain ⟨rp, rfl, hq⟩ := hq
  refine v_stk (st' := [vI rp]) rfl ?_
  obtain ⟨hr, e4, hT, hu, hF⟩ := hq
  have hrr := bI_r ((Tab (vsR G 4) (cnR G 4) (G 4 0).toNat a) ≠ 1000)
  rw [← hr] at hrr
  refine v_if_ne (pc := 22) (tgt := 35) (by omega) dX3_coinsUsed_22 (by decide) (fun h1 => ?_) (fun h1 => ?_)
  · skip
    refine v_aload_n (pc := 35) rfl dX3_coinsUsed_35 ?_
    refine v_getR (pc := 36) (j := 1) fd_X3_29 (rfl) (by decide) rfl dX3_coinsUsed_36 ?_
    refine v_getR (pc := 39) (j := 92) fd_X3_162 (rfl) (by decide) rfl dX3_coinsUsed_39 ?_
    refine v_iload_n (pc := 42) rfl dX3_coinsUsed_42 ?_
    refine v_iald (pc := 43) (N := 5) rfl rfl (by decide) (by omega) (by decide) dX3_coinsUsed_43 ?_
    exact v_iret (pc := 44) E (⟨d, rfl, hd0, hd1, hd2, bI_n0 (by rw [← hr]; assumption), hF, hu (bI_n0 (by rw [← hr]; assumption))⟩) (Nat.le_of_ble_eq_true rfl) (Nat.le_of_ble_eq_true rfl) dX3_coinsUsed_44
  · skip
    exact v_throw (pc := 25) (text := "the amount cannot be paid") xok_UO (by decide) E (Or.inr (Or.inr ⟨rfl, hF, hd0, ⟨d, hd1, hd2⟩, Classical.not_not.mp (bI_eq0.mp (by rw [← hr]; assumption))⟩)) dX3_coinsUsed_25 dX3_coinsUsed_28 dX3_coinsUsed_29 dX3_coinsUsed_31 dX3_coinsUsed_34 (Nat.le_of_ble_eq_true rfl) (Nat.le_of_ble_eq_true rfl) (Nat.le_of_ble_eq_true rfl) (Nat.le_of_ble_eq_true rfl) (Nat.le_of_ble_eq_true rfl)
