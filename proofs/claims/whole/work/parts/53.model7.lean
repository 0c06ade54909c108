-- the model's questions on payments
def FrW (G G' : Mem) : Prop := ∀ j z, j ≠ 112 → j ≠ 113 → ¬ (j = 106 ∧ z = 8) → G' j z = G j z
theorem FrW_8 (G : Mem) (k : Int) : FrW G (upd2 G 106 8 k) := fun _ _ _ _ c => if_neg c
theorem WkI_u {G G1 : Mem} (h : WkI (upd2 G 106 8 0) G1) : SrtM (G 107) (G1 112) ∧ (∀ h, 0 ≤ h → h ≤ G 107 0 → ∀ a, 0 ≤ a → a < 100 → G1 113 (100 * h + a) = Tab (vsB (G 107) (G1 112)) (cnB (G 107) (G1 112)) (G 107 0 - h).toNat a) ∧ FrW G G1 ∧ G1 106 8 = 0 ∧ G1 107 = G 107 := by
  obtain ⟨h1, h2, h3⟩ := h
  rw [u107] at h1 h2
  exact ⟨h1, h2, fun j z a b c => (h3 j z a b).trans (if_neg c), (h3 106 8 (by decide) (by decide)).trans (upd2_s _ _ _ _), funext fun z => (h3 107 z (by decide) (by decide)).trans (upd2_i (by decide))⟩

set_option maxHeartbeats 4000000 in
set_option maxRecDepth 100000 in
theorem c_X4_canPay {g : GT} {G : Mem} (hM : MoI (G 107)) {a : Int} (h_a : -2147483648 ≤ a ∧ a < 2147483648) : Ctr g yX4_canPay cX4_canPay 2 (some FieldType.boolean) (rmL 4 0 0) [vR g 106, vI a] G (RP (fun r G' => (¬ (1 ≤ a ∧ a ≤ 99) ∧ G' = upd2 G 106 8 1) ∨ ((1 ≤ a ∧ a ≤ 99) ∧ G' 106 8 = 0 ∧ FrW G G' ∧ ∃ β, SrtM (G 107) β ∧ r = bI (Tab (vsB (G 107) β) (cnB (G 107) β) (G 107 0).toNat a ≠ 1000)))) NoX := by
  refine ctr_of [some (vR g 106), some (vI a)] (by decide) (Nat.le_of_ble_eq_true rfl) rfl (fun γ E => ?_)
  show V γ g cX4_canPay 2 RX4 (rmL 4 0 0) G 0 0 0 [some (vR g 106), some (vI a)] []
  have hn := MoI_n hM
  have hc := MoI_c hM
  have hy := MoI_y hM
  refine v_aload_n (pc := 0) rfl dX4_canPay_0 ?_
  refine v_iconst (pc := 1) (z := 0) dX4_canPay_1 ?_
  refine v_put (pc := 2) 8 pd_X4_54 (rfl) (by decide) rfl rfl dX4_canPay_2 ?_
  refine v_iload_n (pc := 5) rfl dX4_canPay_5 ?_
  refine v_i2l (pc := 6) (by omega) dX4_canPay_6 ?_
  refine v_lconst (pc := 7) (z := 1) rfl dX4_canPay_7 ?_
  refine v_ldc2 (pc := 8) (z := 99) wG_X4_103 (by decide) dX4_canPay_8 ?_
  refine v_callS (pc := 11) (rest := []) (c_X4_in (by omega) (by omega) (by omega)) sok_X4_in wM_X4_60 (rmOk (by decide) (by decide)) ⟨Nat.le_of_ble_eq_true rfl, Nat.le_of_ble_eq_true rfl⟩ (Nat.le_of_ble_eq_true rfl) rfl dX4_canPay_11 (fun v G' hq => ?_) (fun _ _ h => h.elim)
  obtain ⟨rfl, hG9⟩ := hq
  rw [hG9]
  refine v_stk (st' := [vI (bI (1 ≤ a ∧ a ≤ 99))]) rfl ?_
  refine v_if_ne (pc := 14) (tgt := 25) (bI_r _) dX4_canPay_14 (by decide) (fun bq1 => ?_) (fun bq1 => ?_)
  · skip
    have bq1 := bI_n0 bq1
    have ha5 : 1 ≤ a ∧ a ≤ 99 := by assumption
    refine v_aload_n (pc := 25) rfl dX4_canPay_25 ?_
    refine v_iload_n (pc := 26) rfl dX4_canPay_26 ?_
    refine v_callV (pc := 27) (rest := []) (c_X4_fewestFor (G := upd2 G 106 8 0) hM (a := a) (by omega)) iok_X4_fewestFor wM_X4_150 (rfl) (by decide) (by decide) rfl (rmOk (by decide) (by decide)) ⟨Nat.le_of_ble_eq_true rfl, Nat.le_of_ble_eq_true rfl⟩ (Nat.le_of_ble_eq_true rfl) rfl dX4_canPay_27 (fun v G1 hq => ?_) (fun _ _ h => h.elim)
    obtain ⟨w, rfl, hq⟩ := hq
    refine v_stk (st' := [vI w]) rfl ?_
    obtain ⟨hw, hwr, hW⟩ := hq
    obtain ⟨hS, hT, hFw, h68, e7⟩ := WkI_u hW
    rw [u107] at hw
    refine v_sipush (pc := 30) (z := 1000) rfl dX4_canPay_30 ?_
    refine v_icmp_ge (pc := 33) (tgt := 40) (by omega) dX4_canPay_33 (by decide) (fun bq2 => ?_) (fun bq2 => ?_)
    · skip
      refine v_iconst (pc := 40) (z := 0) dX4_canPay_40 ?_
      exact v_bret (pc := 41) E (by decide) (⟨_, rfl, Or.inr ⟨ha5, h68, hFw, G1 112, hS, by rw [← hw]; exact (bI_f (by omega)).symm⟩⟩) (Nat.le_of_ble_eq_true rfl) (Nat.le_of_ble_eq_true rfl) dX4_canPay_41
    · skip
      refine v_iconst (pc := 36) (z := 1) dX4_canPay_36 ?_
      refine v_goto (pc := 37) (tgt := 41) dX4_canPay_37 (by decide) ?_
      exact v_bret (pc := 41) E (by decide) (⟨_, rfl, Or.inr ⟨ha5, h68, hFw, G1 112, hS, by rw [← hw]; exact (bI_t (by omega)).symm⟩⟩) (Nat.le_of_ble_eq_true rfl) (Nat.le_of_ble_eq_true rfl) dX4_canPay_41
  · skip
    have bq1 := bI_eq0.mp bq1
    refine v_aload_n (pc := 17) rfl dX4_canPay_17 ?_
    refine v_iconst (pc := 18) (z := 1) dX4_canPay_18 ?_
    refine v_callV (pc := 19) (rest := []) (c_X4_throwing) iok_X4_throwing wM_X4_81 (rfl) (by decide) (by decide) rfl (rmOk (by decide) (by decide)) ⟨Nat.le_of_ble_eq_true rfl, Nat.le_of_ble_eq_true rfl⟩ (Nat.le_of_ble_eq_true rfl) rfl dX4_canPay_19 (fun v G' hq => ?_) (fun _ _ h => h.elim)
    obtain ⟨rfl, hG9⟩ := hq
    rw [hG9]
    refine v_stk (st' := [vI (-1)]) rfl ?_
    refine v_pop (pc := 22) rfl dX4_canPay_22 ?_
    refine v_iconst (pc := 23) (z := 0) dX4_canPay_23 ?_
    exact v_bret (pc := 24) E (by decide) (⟨_, rfl, Or.inl ⟨by assumption, upd2_u G 106 8 0 1⟩⟩) (Nat.le_of_ble_eq_true rfl) (Nat.le_of_ble_eq_true rfl) dX4_canPay_24
set_option maxHeartbeats 4000000 in
set_option maxRecDepth 100000 in
theorem c_X4_fewestCoins {g : GT} {G : Mem} (hM : MoI (G 107)) {a : Int} (h_a : -2147483648 ≤ a ∧ a < 2147483648) : Ctr g yX4_fewestCoins cX4_fewestCoins 3 (some FieldType.int) (rmL 4 0 0) [vR g 106, vI a] G (RP (fun r G' => (¬ (1 ≤ a ∧ a ≤ 99) ∧ G' = upd2 G 106 8 1) ∨ ((1 ≤ a ∧ a ≤ 99) ∧ FrW G G' ∧ ∃ β, SrtM (G 107) β ∧ ((Tab (vsB (G 107) β) (cnB (G 107) β) (G 107 0).toNat a ≠ 1000 ∧ G' 106 8 = 0 ∧ r = Tab (vsB (G 107) β) (cnB (G 107) β) (G 107 0).toNat a) ∨ (Tab (vsB (G 107) β) (cnB (G 107) β) (G 107 0).toNat a = 1000 ∧ G' 106 8 = 2))))) NoX := by
  refine ctr_of [some (vR g 106), some (vI a), none] (by decide) (Nat.le_of_ble_eq_true rfl) rfl (fun γ E => ?_)
  show V γ g cX4_fewestCoins 3 RX4 (rmL 4 0 0) G 0 0 0 [some (vR g 106), some (vI a), none] []
  have hn := MoI_n hM
  have hc := MoI_c hM
  have hy := MoI_y hM
  refine v_aload_n (pc := 0) rfl dX4_fewestCoins_0 ?_
  refine v_iconst (pc := 1) (z := 0) dX4_fewestCoins_1 ?_
  refine v_put (pc := 2) 8 pd_X4_54 (rfl) (by decide) rfl rfl dX4_fewestCoins_2 ?_
  refine v_iload_n (pc := 5) rfl dX4_fewestCoins_5 ?_
  refine v_i2l (pc := 6) (by omega) dX4_fewestCoins_6 ?_
  refine v_lconst (pc := 7) (z := 1) rfl dX4_fewestCoins_7 ?_
  refine v_ldc2 (pc := 8) (z := 99) wG_X4_103 (by decide) dX4_fewestCoins_8 ?_
  refine v_callS (pc := 11) (rest := []) (c_X4_in (by omega) (by omega) (by omega)) sok_X4_in wM_X4_60 (rmOk (by decide) (by decide)) ⟨Nat.le_of_ble_eq_true rfl, Nat.le_of_ble_eq_true rfl⟩ (Nat.le_of_ble_eq_true rfl) rfl dX4_fewestCoins_11 (fun v G' hq => ?_) (fun _ _ h => h.elim)
  obtain ⟨rfl, hG9⟩ := hq
  rw [hG9]
  refine v_stk (st' := [vI (bI (1 ≤ a ∧ a ≤ 99))]) rfl ?_
  refine v_if_ne (pc := 14) (tgt := 23) (bI_r _) dX4_fewestCoins_14 (by decide) (fun bq1 => ?_) (fun bq1 => ?_)
  · skip
    have bq1 := bI_n0 bq1
    have ha5 : 1 ≤ a ∧ a ≤ 99 := by assumption
    refine v_aload_n (pc := 23) rfl dX4_fewestCoins_23 ?_
    refine v_iload_n (pc := 24) rfl dX4_fewestCoins_24 ?_
    refine v_callV (pc := 25) (rest := []) (c_X4_fewestFor (G := upd2 G 106 8 0) hM (a := a) (by omega)) iok_X4_fewestFor wM_X4_150 (rfl) (by decide) (by decide) rfl (rmOk (by decide) (by decide)) ⟨Nat.le_of_ble_eq_true rfl, Nat.le_of_ble_eq_true rfl⟩ (Nat.le_of_ble_eq_true rfl) rfl dX4_fewestCoins_25 (fun v G1 hq => ?_) (fun _ _ h => h.elim)
    obtain ⟨w, rfl, hq⟩ := hq
    refine v_stk (st' := [vI w]) rfl ?_
    obtain ⟨hw, hwr, hW⟩ := hq
    obtain ⟨hS, hT, hFw, h68, e7⟩ := WkI_u hW
    rw [u107] at hw
    refine v_istore_n (pc := 28) (by decide) rfl dX4_fewestCoins_28 ?_
    refine v_iload_n (pc := 29) rfl dX4_fewestCoins_29 ?_
    refine v_sipush (pc := 30) (z := 1000) rfl dX4_fewestCoins_30 ?_
    refine v_icmp_ne (pc := 33) (tgt := 44) (by omega) dX4_fewestCoins_33 (by decide) (fun bq2 => ?_) (fun bq2 => ?_)
    · skip
      refine v_iload_n (pc := 44) rfl dX4_fewestCoins_44 ?_
      exact v_iret (pc := 45) E (⟨_, rfl, Or.inr ⟨ha5, hFw, G1 112, hS, Or.inl ⟨by omega, h68, hw⟩⟩⟩) (Nat.le_of_ble_eq_true rfl) (Nat.le_of_ble_eq_true rfl) dX4_fewestCoins_45
    · skip
      refine v_aload_n (pc := 36) rfl dX4_fewestCoins_36 ?_
      refine v_iconst (pc := 37) (z := 2) dX4_fewestCoins_37 ?_
      refine v_callV (pc := 38) (rest := []) (c_X4_throwing) iok_X4_throwing wM_X4_81 (rfl) (by decide) (by decide) rfl (rmOk (by decide) (by decide)) ⟨Nat.le_of_ble_eq_true rfl, Nat.le_of_ble_eq_true rfl⟩ (Nat.le_of_ble_eq_true rfl) rfl dX4_fewestCoins_38 (fun v G' hq => ?_) (fun _ _ h => h.elim)
      obtain ⟨rfl, hG9⟩ := hq
      rw [hG9]
      refine v_stk (st' := [vI (-1)]) rfl ?_
      refine v_goto (pc := 41) (tgt := 45) dX4_fewestCoins_41 (by decide) ?_
      exact v_iret (pc := 45) E (⟨_, rfl, Or.inr ⟨ha5, fun j z p q s => (if_neg s).trans (hFw j z p q s), G1 112, hS, Or.inr ⟨by omega, upd2_s _ _ _ _⟩⟩⟩) (Nat.le_of_ble_eq_true rfl) (Nat.le_of_ble_eq_true rfl) dX4_fewestCoins_45
  · skip
    have bq1 := bI_eq0.mp bq1
    refine v_aload_n (pc := 17) rfl dX4_fewestCoins_17 ?_
    refine v_iconst (pc := 18) (z := 1) dX4_fewestCoins_18 ?_
    refine v_callV (pc := 19) (rest := []) (c_X4_throwing) iok_X4_throwing wM_X4_81 (rfl) (by decide) (by decide) rfl (rmOk (by decide) (by decide)) ⟨Nat.le_of_ble_eq_true rfl, Nat.le_of_ble_eq_true rfl⟩ (Nat.le_of_ble_eq_true rfl) rfl dX4_fewestCoins_19 (fun v G' hq => ?_) (fun _ _ h => h.elim)
    obtain ⟨rfl, hG9⟩ := hq
    rw [hG9]
    refine v_stk (st' := [vI (-1)]) rfl ?_
    exact v_iret (pc := 22) E (⟨_, rfl, Or.inl ⟨by assumption, upd2_u G 106 8 0 1⟩⟩) (Nat.le_of_ble_eq_true rfl) (Nat.le_of_ble_eq_true rfl) dX4_fewestCoins_22
set_option maxHeartbeats 4000000 in
set_option maxRecDepth 100000 in
theorem c_X4_fewestCoinsBySets {g : GT} {G : Mem} (hM : MoI (G 107)) {a : Int} (h_a : -2147483648 ≤ a ∧ a < 2147483648) : Ctr g yX4_fewestCoinsBySets cX4_fewestCoinsBySets 2 (some FieldType.int) (rmL 5 0 0) [vR g 106, vI a] G (RP (fun r G' => (¬ (1 ≤ a ∧ a ≤ 99) ∧ G' = upd2 G 106 8 1) ∨ ((1 ≤ a ∧ a ≤ 99) ∧ FrW G G' ∧ ∃ β, SrtM (G 107) β ∧ ((Tab (vsB (G 107) β) (cnB (G 107) β) (G 107 0).toNat a ≠ 1000 ∧ G' 106 8 = 0 ∧ r = Tab (vsB (G 107) β) (cnB (G 107) β) (G 107 0).toNat a) ∨ (Tab (vsB (G 107) β) (cnB (G 107) β) (G 107 0).toNat a = 1000 ∧ G' 106 8 = 2))))) NoX := by
  refine ctr_of [some (vR g 106), some (vI a)] (by decide) (Nat.le_of_ble_eq_true rfl) rfl (fun γ E => ?_)
  show V γ g cX4_fewestCoinsBySets 2 RX4 (rmL 5 0 0) G 0 0 0 [some (vR g 106), some (vI a)] []
  have hn := MoI_n hM
  have hc := MoI_c hM
  have hy := MoI_y hM
  refine v_aload_n (pc := 0) rfl dX4_fewestCoinsBySets_0 ?_
  refine v_iload_n (pc := 1) rfl dX4_fewestCoinsBySets_1 ?_
  refine v_callV (pc := 2) (rest := []) (c_X4_fewestCoins hM h_a) iok_X4_fewestCoins wM_X4_182 (rfl) (by decide) (by decide) rfl (rmOk (by decide) (by decide)) ⟨Nat.le_of_ble_eq_true rfl, Nat.le_of_ble_eq_true rfl⟩ (Nat.le_of_ble_eq_true rfl) rfl dX4_fewestCoinsBySets_2 (fun v G1 hq => ?_) (fun _ _ h => h.elim)
  obtain ⟨r, rfl, hq⟩ := hq
  refine v_stk (st' := [vI r]) rfl ?_
  exact v_iret (pc := 5) E (⟨_, rfl, hq⟩) (Nat.le_of_ble_eq_true rfl) (Nat.le_of_ble_eq_true rfl) dX4_fewestCoinsBySets_5
set_option maxHeartbeats 4000000 in
set_option maxRecDepth 100000 in
theorem c_X4_payableAmounts {g : GT} {G : Mem} (hM : MoI (G 107)) : Ctr g yX4_payableAmounts cX4_payableAmounts 3 (some FieldType.int) (rmL 3 0 0) [vR g 106] G (RP (fun r G' => G' 106 8 = 0 ∧ FrW G G' ∧ ∃ β, SrtM (G 107) β ∧ r = sz 99 (fun i => bI (Tab (vsB (G 107) β) (cnB (G 107) β) (G 107 0).toNat (i + 1) ≠ 1000)))) NoX := by
  refine ctr_of [some (vR g 106), none, none] (by decide) (Nat.le_of_ble_eq_true rfl) rfl (fun γ E => ?_)
  show V γ g cX4_payableAmounts 3 RX4 (rmL 3 0 0) G 0 0 0 [some (vR g 106), none, none] []
  have hn := MoI_n hM
  have hc := MoI_c hM
  have hy := MoI_y hM
  refine v_aload_n (pc := 0) rfl dX4_payableAmounts_0 ?_
  refine v_iconst (pc := 1) (z := 0) dX4_payableAmounts_1 ?_
  refine v_put (pc := 2) 8 pd_X4_54 (rfl) (by decide) rfl rfl dX4_payableAmounts_2 ?_
  refine v_aload_n (pc := 5) rfl dX4_payableAmounts_5 ?_
  refine v_callV (pc := 6) (rest := []) (c_X4_works (G := upd2 G 106 8 0) hM) iok_X4_works wM_X4_147 (rfl) (by decide) (by decide) rfl (rmOk (by decide) (by decide)) ⟨Nat.le_of_ble_eq_true rfl, Nat.le_of_ble_eq_true rfl⟩ (Nat.le_of_ble_eq_true rfl) rfl dX4_payableAmounts_6 (fun v G1 hq => ?_) (fun _ _ h => h.elim)
  obtain ⟨rfl, hW⟩ := hq
  refine v_stk (st' := []) rfl ?_
  obtain ⟨hS, hT, hFw, h68, e7⟩ := WkI_u hW
  refine v_iconst (pc := 9) (z := 0) dX4_payableAmounts_9 ?_
  refine v_istore_n (pc := 10) (by decide) rfl dX4_payableAmounts_10 ?_
  refine v_iconst (pc := 11) (z := 1) dX4_payableAmounts_11 ?_
  refine v_istore_n (pc := 12) (by decide) rfl dX4_payableAmounts_12 ?_
  have lp13 : ∀ (m13 : Nat) (i : Int) (s : Int), (1 ≤ i ∧ i ≤ 100) → (s = sz (i - 1) (fun i => bI (Tab (vsB (G 107) (G1 112)) (cnB (G 107) (G1 112)) (G 107 0).toNat (i + 1) ≠ 1000))) → ((100 - i).toNat) < m13 → V γ g cX4_payableAmounts 3 RX4 (rmL 3 0 0) G1 0 0 13 [some (vR g 106), some (vI s), some (vI i)] [] := by
    intro m13
    induction m13 with
    | zero => intro i s; intros; omega
    | succ m13 ih13 =>
      intro i s h0 hs hm13
      refine v_iload_n (pc := 13) rfl dX4_payableAmounts_13 ?_
      refine v_bipush (pc := 14) (z := 99) rfl dX4_payableAmounts_14 ?_
      refine v_icmp_gt (pc := 16) (tgt := 49) (by omega) dX4_payableAmounts_16 (by decide) (fun bq1 => ?_) (fun bq1 => ?_)
      · skip
        refine v_iload_n (pc := 49) rfl dX4_payableAmounts_49 ?_
        exact v_iret (pc := 50) E (⟨_, rfl, h68, hFw, G1 112, hS, by rw [hs, show i - 1 = 99 by omega]⟩) (Nat.le_of_ble_eq_true rfl) (Nat.le_of_ble_eq_true rfl) dX4_payableAmounts_50
      · skip
        have hTn : G1 113 (100 * 0 + i) = Tab (vsB (G 107) (G1 112)) (cnB (G 107) (G1 112)) (G 107 0).toNat i := by
          have := hT 0 (by omega) hn.1 i (by omega) (by omega)
          rw [show G 107 0 - 0 = G 107 0 by omega] at this
          exact this
        have hTr := TabB hM hS (r := (G 107 0).toNat) (by omega) i
        refine v_iload_n (pc := 19) rfl dX4_payableAmounts_19 ?_
        refine v_aload_n (pc := 20) rfl dX4_payableAmounts_20 ?_
        refine v_getR (pc := 21) (j := 113) fd_X4_35 (rfl) (by decide) rfl dX4_payableAmounts_21 ?_
        refine v_iconst (pc := 24) (z := 0) dX4_payableAmounts_24 ?_
        refine v_iload_n (pc := 25) rfl dX4_payableAmounts_25 ?_
        refine v_callS (pc := 26) (rest := [vR g 113, vI s]) (c_X4_cell) sok_X4_cell wM_X4_141 (rmOk (by decide) (by decide)) ⟨Nat.le_of_ble_eq_true rfl, Nat.le_of_ble_eq_true rfl⟩ (Nat.le_of_ble_eq_true rfl) rfl dX4_payableAmounts_26 (fun v G' hq => ?_) (fun _ _ h => h.elim)
        obtain ⟨rfl, hG9⟩ := hq
        rw [hG9]
        refine v_stk (st' := [vI (100 * 0 + i), vR g 113, vI s]) rfl ?_
        refine v_iald (pc := 29) (N := 600) rfl rfl (by decide) (by omega) (by decide) dX4_payableAmounts_29 ?_
        refine v_sipush (pc := 30) (z := 1000) rfl dX4_payableAmounts_30 ?_
        refine v_icmp_ge (pc := 33) (tgt := 40) (by omega) dX4_payableAmounts_33 (by decide) (fun bq2 => ?_) (fun bq2 => ?_)
        · skip
          refine v_iconst (pc := 40) (z := 0) dX4_payableAmounts_40 ?_
          refine v_iadd (pc := 41) dX4_payableAmounts_41 ?_
          refine v_istore_n (pc := 42) (by decide) rfl dX4_payableAmounts_42 ?_
          refine v_iinc (pc := 43) (y := 1) rfl (by decide) rfl dX4_payableAmounts_43 ?_
          refine v_goto (pc := 46) (tgt := 13) dX4_payableAmounts_46 (by decide) ?_
          exact ih13 (i + 1) (s + 0) (by omega) (by rw [show i + 1 - 1 = (i - 1) + 1 by omega, sz_s (by omega), hs, show i - 1 + 1 = i by omega]; first | rw [bI_t (by omega)] | (rw [bI_f (by omega)])) (by omega)
        · skip
          refine v_iconst (pc := 36) (z := 1) dX4_payableAmounts_36 ?_
          refine v_goto (pc := 37) (tgt := 41) dX4_payableAmounts_37 (by decide) ?_
          refine v_iadd (pc := 41) dX4_payableAmounts_41 ?_
          refine v_istore_n (pc := 42) (by decide) rfl dX4_payableAmounts_42 ?_
          refine v_iinc (pc := 43) (y := 1) rfl (by decide) rfl dX4_payableAmounts_43 ?_
          refine v_goto (pc := 46) (tgt := 13) dX4_payableAmounts_46 (by decide) ?_
          exact ih13 (i + 1) (s + 1) (by omega) (by rw [show i + 1 - 1 = (i - 1) + 1 by omega, sz_s (by omega), hs, show i - 1 + 1 = i by omega]; first | rw [bI_t (by omega)] | (rw [bI_f (by omega)])) (by omega)
  refine v_loc (L' := [some (vR g 106), some (vI 0), some (vI 1)]) (⟨rfl, rfl, rfl, trivial⟩) ?_
  exact lp13 _ 1 0 (by omega) rfl (Nat.lt_succ_self _)
set_option maxHeartbeats 4000000 in
set_option maxRecDepth 100000 in
theorem c_X4_greedyCoins {g : GT} {G : Mem} (hM : MoI (G 107)) {a : Int} (h_a : -2147483648 ≤ a ∧ a < 2147483648) : Ctr g yX4_greedyCoins cX4_greedyCoins 7 (some FieldType.int) (rmL 3 0 0) [vR g 106, vI a] G (RP (fun r G' => (¬ (1 ≤ a ∧ a ≤ 99) ∧ G' = upd2 G 106 8 1) ∨ ((1 ≤ a ∧ a ≤ 99) ∧ FrW G G' ∧ ∃ β, SrtM (G 107) β ∧ ((grR (vsB (G 107) β) (cnB (G 107) β) (G 107 0) a (G 107 0).toNat = 0 ∧ G' 106 8 = 0 ∧ r = sz (G 107 0) (grU (vsB (G 107) β) (cnB (G 107) β) (G 107 0) a)) ∨ (grR (vsB (G 107) β) (cnB (G 107) β) (G 107 0) a (G 107 0).toNat ≠ 0 ∧ G' 106 8 = 2))))) NoX := by
  refine ctr_of [some (vR g 106), some (vI a), none, none, none, none, none] (by decide) (Nat.le_of_ble_eq_true rfl) rfl (fun γ E => ?_)
  show V γ g cX4_greedyCoins 7 RX4 (rmL 3 0 0) G 0 0 0 [some (vR g 106), some (vI a), none, none, none, none, none] []
  have hn := MoI_n hM
  have hc := MoI_c hM
  have hy := MoI_y hM
  refine v_aload_n (pc := 0) rfl dX4_greedyCoins_0 ?_
  refine v_iconst (pc := 1) (z := 0) dX4_greedyCoins_1 ?_
  refine v_put (pc := 2) 8 pd_X4_54 (rfl) (by decide) rfl rfl dX4_greedyCoins_2 ?_
  refine v_iload_n (pc := 5) rfl dX4_greedyCoins_5 ?_
  refine v_i2l (pc := 6) (by omega) dX4_greedyCoins_6 ?_
  refine v_lconst (pc := 7) (z := 1) rfl dX4_greedyCoins_7 ?_
  refine v_ldc2 (pc := 8) (z := 99) wG_X4_103 (by decide) dX4_greedyCoins_8 ?_
  refine v_callS (pc := 11) (rest := []) (c_X4_in (by omega) (by omega) (by omega)) sok_X4_in wM_X4_60 (rmOk (by decide) (by decide)) ⟨Nat.le_of_ble_eq_true rfl, Nat.le_of_ble_eq_true rfl⟩ (Nat.le_of_ble_eq_true rfl) rfl dX4_greedyCoins_11 (fun v G' hq => ?_) (fun _ _ h => h.elim)
  obtain ⟨rfl, hG9⟩ := hq
  rw [hG9]
  refine v_stk (st' := [vI (bI (1 ≤ a ∧ a ≤ 99))]) rfl ?_
  refine v_if_ne (pc := 14) (tgt := 23) (bI_r _) dX4_greedyCoins_14 (by decide) (fun bq1 => ?_) (fun bq1 => ?_)
  · skip
    have bq1 := bI_n0 bq1
    have ha5 : 1 ≤ a ∧ a ≤ 99 := by assumption
    refine v_aload_n (pc := 23) rfl dX4_greedyCoins_23 ?_
    refine v_callV (pc := 24) (rest := []) (c_X4_sortsDies (G := upd2 G 106 8 0) hM) iok_X4_sortsDies wM_X4_138 (rfl) (by decide) (by decide) rfl (rmOk (by decide) (by decide)) ⟨Nat.le_of_ble_eq_true rfl, Nat.le_of_ble_eq_true rfl⟩ (Nat.le_of_ble_eq_true rfl) rfl dX4_greedyCoins_24 (fun v G1 hq => ?_) (fun _ _ h => h.elim)
    obtain ⟨rfl, hq⟩ := hq
    refine v_stk (st' := []) rfl ?_
    obtain ⟨hS, hF1⟩ := hq
    rw [u107] at hS
    have hFw : FrW G G1 := fun j z p q s => (hF1 j z p).trans (if_neg s)
    have h68 : G1 106 8 = 0 := (hF1 106 8 (by decide)).trans (upd2_s _ _ _ _)
    have m7 : ∀ z, G1 107 z = G 107 z := fun z => (hF1 107 z (by decide)).trans (upd2_i (by decide))
    have e7 : G1 107 = G 107 := funext m7
    have m0 := m7 0
    refine v_iload_n (pc := 27) rfl dX4_greedyCoins_27 ?_
    refine v_istore_n (pc := 28) (by decide) rfl dX4_greedyCoins_28 ?_
    refine v_iconst (pc := 29) (z := 0) dX4_greedyCoins_29 ?_
    refine v_istore_n (pc := 30) (by decide) rfl dX4_greedyCoins_30 ?_
    refine v_iconst (pc := 31) (z := 0) dX4_greedyCoins_31 ?_
    refine v_istore (pc := 32) (by decide) rfl dX4_greedyCoins_32 ?_
    have lp34 : ∀ (m34 : Nat) (h : Int) (x : Int) (c : Int), (0 ≤ h ∧ h ≤ G 107 0) → (x = grR (vsB (G 107) (G1 112)) (cnB (G 107) (G1 112)) (G 107 0) a h.toNat) → (c = sz h (grU (vsB (G 107) (G1 112)) (cnB (G 107) (G1 112)) (G 107 0) a)) → ((G 107 0 - h).toNat) < m34 → V γ g cX4_greedyCoins 7 RX4 (rmL 3 0 0) G1 0 0 34 [some (vR g 106), some (vI a), some (vI x), some (vI c), some (vI h), none, none] [] := by
      intro m34
      induction m34 with
      | zero => intro h x c; intros; omega
      | succ m34 ih34 =>
        intro h x c h0 hx hs hm34
        have hxr := grR_r (vs := (vsB (G 107) (G1 112))) (cn := (cnB (G 107) (G1 112))) (n := G 107 0) (a := a) (by omega) (fun r r0 r1 => (vsB_r hM hS r0 r1).1) (fun r _ _ => (cnB_r (G1 112) hM r).1) h.toNat (by omega)
        rw [← hx] at hxr
        refine v_iload (pc := 34) rfl dX4_greedyCoins_34 ?_
        refine v_aload_n (pc := 36) rfl dX4_greedyCoins_36 ?_
        refine v_getR (pc := 37) (j := 107) fd_X4_9 (rfl) (by decide) rfl dX4_greedyCoins_37 ?_
        refine v_iconst (pc := 40) (z := 0) dX4_greedyCoins_40 ?_
        refine v_iald (pc := 41) (N := 144) rfl rfl (by decide) (by omega) (by decide) dX4_greedyCoins_41 ?_
        refine v_icmp_ge (pc := 42) (tgt := 101) (by omega) dX4_greedyCoins_42 (by decide) (fun bq2 => ?_) (fun bq2 => ?_)
        · skip
          refine v_iload_n (pc := 101) rfl dX4_greedyCoins_101 ?_
          refine v_if_le (pc := 102) (tgt := 113) (by omega) dX4_greedyCoins_102 (by decide) (fun bq3 => ?_) (fun bq3 => ?_)
          · skip
            refine v_iload_n (pc := 113) rfl dX4_greedyCoins_113 ?_
            exact v_iret (pc := 114) E (⟨_, rfl, Or.inr ⟨ha5, hFw, G1 112, hS, Or.inl ⟨by rw [show (G 107 0).toNat = h.toNat by omega, ← hx]; omega, h68, by rw [hs, show h = G 107 0 by omega]⟩⟩⟩) (Nat.le_of_ble_eq_true rfl) (Nat.le_of_ble_eq_true rfl) dX4_greedyCoins_114
          · skip
            refine v_aload_n (pc := 105) rfl dX4_greedyCoins_105 ?_
            refine v_iconst (pc := 106) (z := 2) dX4_greedyCoins_106 ?_
            refine v_callV (pc := 107) (rest := []) (c_X4_throwing) iok_X4_throwing wM_X4_81 (rfl) (by decide) (by decide) rfl (rmOk (by decide) (by decide)) ⟨Nat.le_of_ble_eq_true rfl, Nat.le_of_ble_eq_true rfl⟩ (Nat.le_of_ble_eq_true rfl) rfl dX4_greedyCoins_107 (fun v G' hq => ?_) (fun _ _ h => h.elim)
            obtain ⟨rfl, hG9⟩ := hq
            rw [hG9]
            refine v_stk (st' := [vI (-1)]) rfl ?_
            refine v_goto (pc := 110) (tgt := 114) dX4_greedyCoins_110 (by decide) ?_
            exact v_iret (pc := 114) E (⟨_, rfl, Or.inr ⟨ha5, fun j z p q s => (if_neg s).trans (hFw j z p q s), G1 112, hS, Or.inr ⟨by rw [show (G 107 0).toNat = h.toNat by omega, ← hx]; omega, upd2_s _ _ _ _⟩⟩⟩) (Nat.le_of_ble_eq_true rfl) (Nat.le_of_ble_eq_true rfl) dX4_greedyCoins_114
        · skip
          have hβ := hS.2 h (by omega) (by omega)
          have hvv := vsB_r hM hS (r := G 107 0 - 1 - h) (by omega) (by omega)
          have hcc := cnB_r (G1 112) hM (G 107 0 - 1 - h)
          refine v_aload_n (pc := 45) rfl dX4_greedyCoins_45 ?_
          refine v_getR (pc := 46) (j := 107) fd_X4_9 (rfl) (by decide) rfl dX4_greedyCoins_46 ?_
          refine v_aload_n (pc := 49) rfl dX4_greedyCoins_49 ?_
          refine v_getR (pc := 50) (j := 112) fd_X4_32 (rfl) (by decide) rfl dX4_greedyCoins_50 ?_
          refine v_iload (pc := 53) rfl dX4_greedyCoins_53 ?_
          refine v_iald (pc := 55) (N := 5) rfl rfl (by decide) (by omega) (by decide) dX4_greedyCoins_55 ?_
          refine v_callS (pc := 56) (rest := [vR g 107]) (c_X4_dieAt) sok_X4_dieAt wM_X4_64 (rmOk (by decide) (by decide)) ⟨Nat.le_of_ble_eq_true rfl, Nat.le_of_ble_eq_true rfl⟩ (Nat.le_of_ble_eq_true rfl) rfl dX4_greedyCoins_56 (fun v G' hq => ?_) (fun _ _ h => h.elim)
          obtain ⟨rfl, hG9⟩ := hq
          rw [hG9]
          refine v_stk (st' := [vI (9 + 3 * (G1 112 h)), vR g 107]) rfl ?_
          refine v_iald (pc := 59) (N := 144) rfl rfl (by decide) (by omega) (by decide) dX4_greedyCoins_59 ?_
          obtain ⟨v, h_v⟩ : ∃ w9, w9 = (G1 107 (9 + 3 * (G1 112 h))) := ⟨_, rfl⟩
          refine v_stk (st' := [vI v]) (by rw [h_v]) ?_
          have hv1 : v = vsB (G 107) (G1 112) (G 107 0 - 1 - h) := by
            rw [h_v, e7]
            show _ = G 107 (9 + 3 * G1 112 (G 107 0 - 1 - (G 107 0 - 1 - h)))
            rw [show G 107 0 - 1 - (G 107 0 - 1 - h) = h by omega]
          rw [← hv1] at hvv
          refine v_istore (pc := 60) (by decide) rfl dX4_greedyCoins_60 ?_
          refine v_aload_n (pc := 62) rfl dX4_greedyCoins_62 ?_
          refine v_aload_n (pc := 63) rfl dX4_greedyCoins_63 ?_
          refine v_getR (pc := 64) (j := 112) fd_X4_32 (rfl) (by decide) rfl dX4_greedyCoins_64 ?_
          refine v_iload (pc := 67) rfl dX4_greedyCoins_67 ?_
          refine v_iald (pc := 69) (N := 5) rfl rfl (by decide) (by omega) (by decide) dX4_greedyCoins_69 ?_
          refine v_callV (pc := 70) (rest := []) (c_X4_many (G := G1) (by rw [e7]; exact hM) (d := G1 112 h) (by omega)) iok_X4_many wM_X4_144 (rfl) (by decide) (by decide) rfl (rmOk (by decide) (by decide)) ⟨Nat.le_of_ble_eq_true rfl, Nat.le_of_ble_eq_true rfl⟩ (Nat.le_of_ble_eq_true rfl) rfl dX4_greedyCoins_70 (fun v G' hq => ?_) (fun _ _ h => h.elim)
          obtain ⟨rfl, hG9⟩ := hq
          rw [hG9]
          obtain ⟨cn, h_cn⟩ : ∃ w9, w9 = (cntE (G1 107 3) (fun k => G1 107 (24 + 3 * k)) (G1 112 h)) := ⟨_, rfl⟩
          refine v_stk (st' := [vI cn]) (by rw [h_cn]; rfl) ?_
          have hc1 : cn = cnB (G 107) (G1 112) (G 107 0 - 1 - h) := by
            rw [h_cn, e7]
            show _ = cntE _ _ (G1 112 (G 107 0 - 1 - (G 107 0 - 1 - h)))
            rw [show G 107 0 - 1 - (G 107 0 - 1 - h) = h by omega]
          rw [← hc1] at hcc
          have hdv : 0 ≤ x / v ∧ x / v ≤ x := ⟨Int.ediv_nonneg hxr.1 (by omega), Int.ediv_le_self _ hxr.1⟩
          refine v_iload_n (pc := 73) rfl dX4_greedyCoins_73 ?_
          refine v_iload (pc := 74) rfl dX4_greedyCoins_74 ?_
          refine v_idiv (pc := 76) (by omega) (by omega) dX4_greedyCoins_76 ?_
          refine v_mmin (pc := 77) (by omega) wM_X4_71 (Nat.le_of_ble_eq_true rfl) (Nat.le_of_ble_eq_true rfl) (Nat.le_of_ble_eq_true rfl) (Nat.le_of_ble_eq_true rfl) (Nat.le_of_ble_eq_true rfl) dX4_greedyCoins_77 ?_
          obtain ⟨u, h_u⟩ : ∃ w9, w9 = (mnI cn (x / v)) := ⟨_, rfl⟩
          refine v_stk (st' := [vI u]) (by rw [h_u]) ?_
          have hx3 : x - u * v = grR (vsB (G 107) (G1 112)) (cnB (G 107) (G1 112)) (G 107 0) a (h + 1).toNat := by
            rw [show h + 1 = G 107 0 - (G 107 0 - 1 - h) by omega, grR_s (by omega), show G 107 0 - 1 - (G 107 0 - 1 - h) = h by omega, ← hx, h_u, hv1, hc1]
          have hs3 : c + u = sz (h + 1) (grU (vsB (G 107) (G1 112)) (cnB (G 107) (G1 112)) (G 107 0) a) := by
            rw [sz_s h0.1, hs, h_u, hv1, hc1]
            unfold grU
            rw [← hx]
          refine v_istore (pc := 80) (by decide) rfl dX4_greedyCoins_80 ?_
          refine v_iload_n (pc := 82) rfl dX4_greedyCoins_82 ?_
          refine v_iload (pc := 83) rfl dX4_greedyCoins_83 ?_
          refine v_iload (pc := 85) rfl dX4_greedyCoins_85 ?_
          refine v_imul (pc := 87) dX4_greedyCoins_87 ?_
          refine v_isub (pc := 88) dX4_greedyCoins_88 ?_
          refine v_istore_n (pc := 89) (by decide) rfl dX4_greedyCoins_89 ?_
          refine v_iload_n (pc := 90) rfl dX4_greedyCoins_90 ?_
          refine v_iload (pc := 91) rfl dX4_greedyCoins_91 ?_
          refine v_iadd (pc := 93) dX4_greedyCoins_93 ?_
          refine v_istore_n (pc := 94) (by decide) rfl dX4_greedyCoins_94 ?_
          refine v_iinc (pc := 95) (y := 1) rfl (by decide) rfl dX4_greedyCoins_95 ?_
          refine v_goto (pc := 98) (tgt := 34) dX4_greedyCoins_98 (by decide) ?_
          refine v_loc (L' := [some (vR g 106), some (vI a), some (vI (x - (u * v))), some (vI (c + u)), some (vI (h + 1)), none, none]) (⟨rfl, rfl, rfl, rfl, rfl, trivial⟩) ?_
          exact ih34 (h + 1) (x - (u * v)) (c + u) (by omega) hx3 hs3 (by omega)
    refine v_loc (L' := [some (vR g 106), some (vI a), some (vI a), some (vI 0), some (vI 0), none, none]) (⟨rfl, rfl, rfl, rfl, rfl, trivial⟩) ?_
    exact lp34 _ 0 a 0 (by omega) rfl rfl (Nat.lt_succ_self _)
  · skip
    have bq1 := bI_eq0.mp bq1
    refine v_aload_n (pc := 17) rfl dX4_greedyCoins_17 ?_
    refine v_iconst (pc := 18) (z := 1) dX4_greedyCoins_18 ?_
    refine v_callV (pc := 19) (rest := []) (c_X4_throwing) iok_X4_throwing wM_X4_81 (rfl) (by decide) (by decide) rfl (rmOk (by decide) (by decide)) ⟨Nat.le_of_ble_eq_true rfl, Nat.le_of_ble_eq_true rfl⟩ (Nat.le_of_ble_eq_true rfl) rfl dX4_greedyCoins_19 (fun v G' hq => ?_) (fun _ _ h => h.elim)
    obtain ⟨rfl, hG9⟩ := hq
    rw [hG9]
    refine v_stk (st' := [vI (-1)]) rfl ?_
    exact v_iret (pc := 22) E (⟨_, rfl, Or.inl ⟨by assumption, upd2_u G 106 8 0 1⟩⟩) (Nat.le_of_ble_eq_true rfl) (Nat.le_of_ble_eq_true rfl) dX4_greedyCoins_22
set_option maxHeartbeats 4000000 in
set_option maxRecDepth 100000 in
theorem c_X4_coinsUsed {g : GT} {G : Mem} (hM : MoI (G 107)) {a : Int} (h_a : -2147483648 ≤ a ∧ a < 2147483648) {y : Int} (h_y : -2147483648 ≤ y ∧ y < 2147483648) : Ctr g yX4_coinsUsed cX4_coinsUsed 7 (some FieldType.int) (rmL 5 0 0) [vR g 106, vI a, vI y] G (RP (fun r G' => (¬ (1 ≤ a ∧ a ≤ 99) ∧ G' = upd2 G 106 8 1) ∨ ((1 ≤ a ∧ a ≤ 99) ∧ (∀ i, 0 ≤ i → i < G 107 0 → G 107 (9 + 3 * i) ≠ y) ∧ G' = upd2 G 106 8 2) ∨ ((1 ≤ a ∧ a ≤ 99) ∧ FrW G G' ∧ (∃ i, (0 ≤ i ∧ i < G 107 0) ∧ G 107 (9 + 3 * i) = y) ∧ ∃ β, SrtM (G 107) β ∧ ((Tab (vsB (G 107) β) (cnB (G 107) β) (G 107 0).toNat a ≠ 1000 ∧ G' 106 8 = 0 ∧ ∃ h, (0 ≤ h ∧ h < G 107 0) ∧ G 107 (9 + 3 * β h) = y ∧ r = usB (G 107) β a h) ∨ (Tab (vsB (G 107) β) (cnB (G 107) β) (G 107 0).toNat a = 1000 ∧ G' 106 8 = 3))))) NoX := by
  refine ctr_of [some (vR g 106), some (vI a), some (vI y), none, none, none, none] (by decide) (Nat.le_of_ble_eq_true rfl) rfl (fun γ E => ?_)
  show V γ g cX4_coinsUsed 7 RX4 (rmL 5 0 0) G 0 0 0 [some (vR g 106), some (vI a), some (vI y), none, none, none, none] []
  have hn := MoI_n hM
  have hc := MoI_c hM
  have hy := MoI_y hM
  refine v_aload_n (pc := 0) rfl dX4_coinsUsed_0 ?_
  refine v_iconst (pc := 1) (z := 0) dX4_coinsUsed_1 ?_
  refine v_put (pc := 2) 8 pd_X4_54 (rfl) (by decide) rfl rfl dX4_coinsUsed_2 ?_
  refine v_iload_n (pc := 5) rfl dX4_coinsUsed_5 ?_
  refine v_i2l (pc := 6) (by omega) dX4_coinsUsed_6 ?_
  refine v_lconst (pc := 7) (z := 1) rfl dX4_coinsUsed_7 ?_
  refine v_ldc2 (pc := 8) (z := 99) wG_X4_103 (by decide) dX4_coinsUsed_8 ?_
  refine v_callS (pc := 11) (rest := []) (c_X4_in (by omega) (by omega) (by omega)) sok_X4_in wM_X4_60 (rmOk (by decide) (by decide)) ⟨Nat.le_of_ble_eq_true rfl, Nat.le_of_ble_eq_true rfl⟩ (Nat.le_of_ble_eq_true rfl) rfl dX4_coinsUsed_11 (fun v G' hq => ?_) (fun _ _ h => h.elim)
  obtain ⟨rfl, hG9⟩ := hq
  rw [hG9]
  refine v_stk (st' := [vI (bI (1 ≤ a ∧ a ≤ 99))]) rfl ?_
  refine v_if_ne (pc := 14) (tgt := 23) (bI_r _) dX4_coinsUsed_14 (by decide) (fun bq1 => ?_) (fun bq1 => ?_)
  · skip
    have bq1 := bI_n0 bq1
    have ha5 : 1 ≤ a ∧ a ≤ 99 := by assumption
    refine v_aload_n (pc := 23) rfl dX4_coinsUsed_23 ?_
    refine v_iload_n (pc := 24) rfl dX4_coinsUsed_24 ?_
    refine v_callV (pc := 25) (rest := []) (c_X4_dieOf (G := upd2 G 106 8 0) hM h_y) iok_X4_dieOf wM_X4_84 (rfl) (by decide) (by decide) rfl (rmOk (by decide) (by decide)) ⟨Nat.le_of_ble_eq_true rfl, Nat.le_of_ble_eq_true rfl⟩ (Nat.le_of_ble_eq_true rfl) rfl dX4_coinsUsed_25 (fun v G' hq => ?_) (fun _ _ h => h.elim)
    obtain ⟨d, rfl, hq⟩ := hq
    refine v_stk (st' := [vI d]) rfl ?_
    obtain ⟨hG9, hd⟩ := hq
    rw [hG9]
    rw [u107] at hd
    have hdr : -1 ≤ d ∧ d < 5 := by rcases hd with q | q <;> (try have q0 := q.2.1) <;> omega
    refine v_iconst (pc := 28) (z := (-1)) dX4_coinsUsed_28 ?_
    refine v_icmp_ne (pc := 29) (tgt := 38) (by omega) dX4_coinsUsed_29 (by decide) (fun bq2 => ?_) (fun bq2 => ?_)
    · skip
      have hd2 : (0 ≤ d ∧ d < G 107 0) ∧ G 107 (9 + 3 * d) = y := by
        rcases hd with q | q
        · exact absurd q.1 (by assumption)
        · exact ⟨⟨q.1, q.2.1⟩, q.2.2.1⟩
      refine v_aload_n (pc := 38) rfl dX4_coinsUsed_38 ?_
      refine v_iload_n (pc := 39) rfl dX4_coinsUsed_39 ?_
      refine v_callV (pc := 40) (rest := []) (c_X4_fewestFor (G := upd2 G 106 8 0) hM (a := a) (by omega)) iok_X4_fewestFor wM_X4_150 (rfl) (by decide) (by decide) rfl (rmOk (by decide) (by decide)) ⟨Nat.le_of_ble_eq_true rfl, Nat.le_of_ble_eq_true rfl⟩ (Nat.le_of_ble_eq_true rfl) rfl dX4_coinsUsed_40 (fun v G1 hq => ?_) (fun _ _ h => h.elim)
      obtain ⟨w, rfl, hq⟩ := hq
      refine v_stk (st' := [vI w]) rfl ?_
      obtain ⟨hw, hwr, hW⟩ := hq
      obtain ⟨hS, hT, hFw, h68, e7⟩ := WkI_u hW
      rw [u107] at hw
      refine v_sipush (pc := 43) (z := 1000) rfl dX4_coinsUsed_43 ?_
      refine v_icmp_ne (pc := 46) (tgt := 55) (by omega) dX4_coinsUsed_46 (by decide) (fun bq3 => ?_) (fun bq3 => ?_)
      · skip
        have m7 : ∀ z, G1 107 z = G 107 z := fun z => congrFun e7 z
        have m0 := m7 0
        refine v_iload_n (pc := 55) rfl dX4_coinsUsed_55 ?_
        refine v_istore_n (pc := 56) (by decide) rfl dX4_coinsUsed_56 ?_
        refine v_iconst (pc := 57) (z := 0) dX4_coinsUsed_57 ?_
        refine v_istore (pc := 58) (by decide) rfl dX4_coinsUsed_58 ?_
        refine v_iconst (pc := 60) (z := 0) dX4_coinsUsed_60 ?_
        refine v_istore (pc := 61) (by decide) rfl dX4_coinsUsed_61 ?_
        have lp63 : ∀ (m63 : Nat) (h : Int) (x : Int) (told : Int), (0 ≤ h ∧ h ≤ G 107 0) → (x = rsF (vsB (G 107) (G1 112)) (cnB (G 107) (G1 112)) (G 107 0) a h.toNat) → ((told = 0 ∧ ∀ e, 0 ≤ e → e < h → G 107 (9 + 3 * G1 112 e) ≠ y) ∨ ∃ e, (0 ≤ e ∧ e < h) ∧ G 107 (9 + 3 * G1 112 e) = y ∧ told = usB (G 107) (G1 112) a e) → ((G 107 0 - h).toNat) < m63 → V γ g cX4_coinsUsed 7 RX4 (rmL 5 0 0) G1 0 0 63 [some (vR g 106), some (vI a), some (vI y), some (vI x), some (vI told), some (vI h), none] [] := by
          intro m63
          induction m63 with
          | zero => intro h x told; intros; omega
          | succ m63 ih63 =>
            intro h x told h0 hx hinv hm63
            have hxr := rsF_r (vs := (vsB (G 107) (G1 112))) (cn := (cnB (G 107) (G1 112))) (n := G 107 0) (a := a) (by omega) (fun r r0 r1 => by have := vsB_r hM hS r0 r1; omega) h.toNat (by omega)
            rw [← hx] at hxr
            refine v_iload (pc := 63) rfl dX4_coinsUsed_63 ?_
            refine v_aload_n (pc := 65) rfl dX4_coinsUsed_65 ?_
            refine v_getR (pc := 66) (j := 107) fd_X4_9 (rfl) (by decide) rfl dX4_coinsUsed_66 ?_
            refine v_iconst (pc := 69) (z := 0) dX4_coinsUsed_69 ?_
            refine v_iald (pc := 70) (N := 144) rfl rfl (by decide) (by omega) (by decide) dX4_coinsUsed_70 ?_
            refine v_icmp_ge (pc := 71) (tgt := 138) (by omega) dX4_coinsUsed_71 (by decide) (fun bq4 => ?_) (fun bq4 => ?_)
            · skip
              refine v_iload (pc := 138) rfl dX4_coinsUsed_138 ?_
              exact v_iret (pc := 140) E (⟨_, rfl, Or.inr (Or.inr ⟨ha5, hFw, ⟨d, hd2⟩, G1 112, hS, Or.inl ⟨by omega, h68, by
                rcases hinv with q | ⟨e, q1, q2, q3⟩
                · exfalso
                  have hr := rkM_r hM hd2.1
                  refine q.2 (rkM (G 107) d) hr.1 (by omega) ?_
                  rw [hS.1 d hd2.1.1 hd2.1.2]
                  exact hd2.2
                · exact ⟨e, by omega, q2, q3⟩⟩⟩)⟩) (Nat.le_of_ble_eq_true rfl) (Nat.le_of_ble_eq_true rfl) dX4_coinsUsed_140
            · skip
              have hβ := hS.2 h (by omega) (by omega)
              have hvv := vsB_r hM hS (r := G 107 0 - 1 - h) (by omega) (by omega)
              have hur := usB_r (β := G1 112) hM a (h := h) (by omega)
              have kT : ∀ e y, (e = h ∨ e = h + 1) → 0 ≤ y → y ≤ 99 → G1 113 (100 * e + y) = Tab (vsB (G 107) (G1 112)) (cnB (G 107) (G1 112)) (G 107 0 - e).toNat y := fun e y he y0 y1 => hT e (by omega) (by omega) y y0 (by omega)
              have e1 : vsB (G 107) (G1 112) (G 107 0 - 1 - h) = G 107 (9 + 3 * G1 112 h) := by
                show G 107 (9 + 3 * G1 112 (G 107 0 - 1 - (G 107 0 - 1 - h))) = _
                rw [show G 107 0 - 1 - (G 107 0 - 1 - h) = h by omega]
              have hvh : G1 107 (9 + 3 * G1 112 h) = G 107 (9 + 3 * G1 112 h) := m7 _
              refine v_aload_n (pc := 74) rfl dX4_coinsUsed_74 ?_
              refine v_iload (pc := 75) rfl dX4_coinsUsed_75 ?_
              refine v_iload_n (pc := 77) rfl dX4_coinsUsed_77 ?_
              refine v_callV (pc := 78) (rest := []) (c_X4_used (G := G1) (by rw [e7]; exact hM) (f := h) (x := x) (by omega) (by omega) (by rw [m0]; exact hβ.1) (fun e y he y0 y1 => by rw [kT e y he y0 y1]; exact TabB hM hS (by omega) y)) iok_X4_used wM_X4_153 (rfl) (by decide) (by decide) rfl (rmOk (by decide) (by decide)) ⟨Nat.le_of_ble_eq_true rfl, Nat.le_of_ble_eq_true rfl⟩ (Nat.le_of_ble_eq_true rfl) rfl dX4_coinsUsed_78 (fun v G' hq => ?_) (fun _ _ h => h.elim)
              obtain ⟨rfl, hG9⟩ := hq
              rw [hG9]
              obtain ⟨u, h_u⟩ : ∃ w9, w9 = (mst (fun y => G1 113 (100 * (h + 1) + y)) (G1 113 (100 * h + x)) (G1 107 (9 + 3 * G1 112 h)) x (cntE (G1 107 3) (fun k => G1 107 (24 + 3 * k)) (G1 112 h)).toNat) := ⟨_, rfl⟩
              refine v_stk (st' := [vI u]) (by rw [h_u]; rfl) ?_
              have huu : u = usB (G 107) (G1 112) a h := by
                show u = usF _ _ _ _ _
                unfold usF
                rw [show G 107 0 - 1 - (G 107 0 - 1 - h) = h by omega, ← hx, h_u, e7, kT h x (Or.inl rfl) (by omega) (by omega), show (G 107 0 - 1 - h).toNat + 1 = (G 107 0 - h).toNat by omega]
                have e2 : cnB (G 107) (G1 112) (G 107 0 - 1 - h) = cntE (G 107 3) (fun k => G 107 (24 + 3 * k)) (G1 112 h) := by
                  show cntE _ _ (G1 112 (G 107 0 - 1 - (G 107 0 - 1 - h))) = _
                  rw [show G 107 0 - 1 - (G 107 0 - 1 - h) = h by omega]
                rw [e1, e2]
                rw [e1] at hvv
                refine mst_congr (by omega) (fun y y0 y1 => ?_) _
                rw [kT (h + 1) y (Or.inr rfl) y0 (by omega), show (G 107 0 - (h + 1)).toNat = (G 107 0 - 1 - h).toNat by omega]
              have hx3 : x - u * G1 107 (9 + 3 * G1 112 h) = rsF (vsB (G 107) (G1 112)) (cnB (G 107) (G1 112)) (G 107 0) a (h + 1).toNat := by
                have := rsF_s (vs := (vsB (G 107) (G1 112))) (cn := (cnB (G 107) (G1 112))) (n := G 107 0) (a := a) (r := G 107 0 - 1 - h) (by omega)
                rw [show G 107 0 - (G 107 0 - 1 - h) = h + 1 by omega, show G 107 0 - 1 - (G 107 0 - 1 - h) = h by omega, ← hx, e1] at this
                rw [this, hvh, huu]
              rw [e1] at hvv
              refine v_istore (pc := 81) (by decide) rfl dX4_coinsUsed_81 ?_
              refine v_aload_n (pc := 83) rfl dX4_coinsUsed_83 ?_
              refine v_getR (pc := 84) (j := 107) fd_X4_9 (rfl) (by decide) rfl dX4_coinsUsed_84 ?_
              refine v_aload_n (pc := 87) rfl dX4_coinsUsed_87 ?_
              refine v_getR (pc := 88) (j := 112) fd_X4_32 (rfl) (by decide) rfl dX4_coinsUsed_88 ?_
              refine v_iload (pc := 91) rfl dX4_coinsUsed_91 ?_
              refine v_iald (pc := 93) (N := 5) rfl rfl (by decide) (by omega) (by decide) dX4_coinsUsed_93 ?_
              refine v_callS (pc := 94) (rest := [vR g 107]) (c_X4_dieAt) sok_X4_dieAt wM_X4_64 (rmOk (by decide) (by decide)) ⟨Nat.le_of_ble_eq_true rfl, Nat.le_of_ble_eq_true rfl⟩ (Nat.le_of_ble_eq_true rfl) rfl dX4_coinsUsed_94 (fun v G' hq => ?_) (fun _ _ h => h.elim)
              obtain ⟨rfl, hG9⟩ := hq
              rw [hG9]
              refine v_stk (st' := [vI (9 + 3 * (G1 112 h)), vR g 107]) rfl ?_
              refine v_iald (pc := 97) (N := 144) rfl rfl (by decide) (by omega) (by decide) dX4_coinsUsed_97 ?_
              refine v_iload_n (pc := 98) rfl dX4_coinsUsed_98 ?_
              refine v_icmp_ne (pc := 99) (tgt := 107) (by omega) dX4_coinsUsed_99 (by decide) (fun bq5 => ?_) (fun bq5 => ?_)
              · skip
                refine v_iload (pc := 107) rfl dX4_coinsUsed_107 ?_
                refine v_istore (pc := 109) (by decide) rfl dX4_coinsUsed_109 ?_
                refine v_iload_n (pc := 111) rfl dX4_coinsUsed_111 ?_
                refine v_iload (pc := 112) rfl dX4_coinsUsed_112 ?_
                refine v_aload_n (pc := 114) rfl dX4_coinsUsed_114 ?_
                refine v_getR (pc := 115) (j := 107) fd_X4_9 (rfl) (by decide) rfl dX4_coinsUsed_115 ?_
                refine v_aload_n (pc := 118) rfl dX4_coinsUsed_118 ?_
                refine v_getR (pc := 119) (j := 112) fd_X4_32 (rfl) (by decide) rfl dX4_coinsUsed_119 ?_
                refine v_iload (pc := 122) rfl dX4_coinsUsed_122 ?_
                refine v_iald (pc := 124) (N := 5) rfl rfl (by decide) (by omega) (by decide) dX4_coinsUsed_124 ?_
                refine v_callS (pc := 125) (rest := [vR g 107, vI u, vI x]) (c_X4_dieAt) sok_X4_dieAt wM_X4_64 (rmOk (by decide) (by decide)) ⟨Nat.le_of_ble_eq_true rfl, Nat.le_of_ble_eq_true rfl⟩ (Nat.le_of_ble_eq_true rfl) rfl dX4_coinsUsed_125 (fun v G' hq => ?_) (fun _ _ h => h.elim)
                obtain ⟨rfl, hG9⟩ := hq
                rw [hG9]
                refine v_stk (st' := [vI (9 + 3 * (G1 112 h)), vR g 107, vI u, vI x]) rfl ?_
                refine v_iald (pc := 128) (N := 144) rfl rfl (by decide) (by omega) (by decide) dX4_coinsUsed_128 ?_
                refine v_imul (pc := 129) dX4_coinsUsed_129 ?_
                refine v_isub (pc := 130) dX4_coinsUsed_130 ?_
                refine v_istore_n (pc := 131) (by decide) rfl dX4_coinsUsed_131 ?_
                refine v_iinc (pc := 132) (y := 1) rfl (by decide) rfl dX4_coinsUsed_132 ?_
                refine v_goto (pc := 135) (tgt := 63) dX4_coinsUsed_135 (by decide) ?_
                refine v_loc (L' := [some (vR g 106), some (vI a), some (vI y), some (vI (x - (u * (G1 107 (9 + 3 * (G1 112 h)))))), some (vI told), some (vI (h + 1)), none]) (⟨rfl, rfl, rfl, rfl, rfl, rfl, trivial⟩) ?_
                exact ih63 (h + 1) (x - (u * (G1 107 (9 + 3 * (G1 112 h))))) told (by omega) hx3 (by
                          rcases hinv with q | ⟨e, q1, q2, q3⟩
                          · exact Or.inl ⟨q.1, fun e e0 e1 => (Classical.em (e = h)).elim (fun z => by rw [z, ← hvh]; assumption) (fun z => q.2 e e0 (by omega))⟩
                          · exact Or.inr ⟨e, by omega, q2, q3⟩) (by omega)
              · skip
                refine v_iload (pc := 102) rfl dX4_coinsUsed_102 ?_
                refine v_goto (pc := 104) (tgt := 109) dX4_coinsUsed_104 (by decide) ?_
                refine v_istore (pc := 109) (by decide) rfl dX4_coinsUsed_109 ?_
                refine v_iload_n (pc := 111) rfl dX4_coinsUsed_111 ?_
                refine v_iload (pc := 112) rfl dX4_coinsUsed_112 ?_
                refine v_aload_n (pc := 114) rfl dX4_coinsUsed_114 ?_
                refine v_getR (pc := 115) (j := 107) fd_X4_9 (rfl) (by decide) rfl dX4_coinsUsed_115 ?_
                refine v_aload_n (pc := 118) rfl dX4_coinsUsed_118 ?_
                refine v_getR (pc := 119) (j := 112) fd_X4_32 (rfl) (by decide) rfl dX4_coinsUsed_119 ?_
                refine v_iload (pc := 122) rfl dX4_coinsUsed_122 ?_
                refine v_iald (pc := 124) (N := 5) rfl rfl (by decide) (by omega) (by decide) dX4_coinsUsed_124 ?_
                refine v_callS (pc := 125) (rest := [vR g 107, vI u, vI x]) (c_X4_dieAt) sok_X4_dieAt wM_X4_64 (rmOk (by decide) (by decide)) ⟨Nat.le_of_ble_eq_true rfl, Nat.le_of_ble_eq_true rfl⟩ (Nat.le_of_ble_eq_true rfl) rfl dX4_coinsUsed_125 (fun v G' hq => ?_) (fun _ _ h => h.elim)
                obtain ⟨rfl, hG9⟩ := hq
                rw [hG9]
                refine v_stk (st' := [vI (9 + 3 * (G1 112 h)), vR g 107, vI u, vI x]) rfl ?_
                refine v_iald (pc := 128) (N := 144) rfl rfl (by decide) (by omega) (by decide) dX4_coinsUsed_128 ?_
                refine v_imul (pc := 129) dX4_coinsUsed_129 ?_
                refine v_isub (pc := 130) dX4_coinsUsed_130 ?_
                refine v_istore_n (pc := 131) (by decide) rfl dX4_coinsUsed_131 ?_
                refine v_iinc (pc := 132) (y := 1) rfl (by decide) rfl dX4_coinsUsed_132 ?_
                refine v_goto (pc := 135) (tgt := 63) dX4_coinsUsed_135 (by decide) ?_
                refine v_loc (L' := [some (vR g 106), some (vI a), some (vI y), some (vI (x - (u * (G1 107 (9 + 3 * (G1 112 h)))))), some (vI u), some (vI (h + 1)), none]) (⟨rfl, rfl, rfl, rfl, rfl, rfl, trivial⟩) ?_
                exact ih63 (h + 1) (x - (u * (G1 107 (9 + 3 * (G1 112 h))))) u (by omega) hx3 (Or.inr ⟨h, by omega, by rw [← hvh]; assumption, huu⟩) (by omega)
        refine v_loc (L' := [some (vR g 106), some (vI a), some (vI y), some (vI a), some (vI 0), some (vI 0), none]) (⟨rfl, rfl, rfl, rfl, rfl, rfl, trivial⟩) ?_
        exact lp63 _ 0 a 0 (by omega) rfl (Or.inl ⟨rfl, fun e p q => absurd q (by omega)⟩) (Nat.lt_succ_self _)
      · skip
        refine v_aload_n (pc := 49) rfl dX4_coinsUsed_49 ?_
        refine v_iconst (pc := 50) (z := 3) dX4_coinsUsed_50 ?_
        refine v_callV (pc := 51) (rest := []) (c_X4_throwing) iok_X4_throwing wM_X4_81 (rfl) (by decide) (by decide) rfl (rmOk (by decide) (by decide)) ⟨Nat.le_of_ble_eq_true rfl, Nat.le_of_ble_eq_true rfl⟩ (Nat.le_of_ble_eq_true rfl) rfl dX4_coinsUsed_51 (fun v G' hq => ?_) (fun _ _ h => h.elim)
        obtain ⟨rfl, hG9⟩ := hq
        rw [hG9]
        refine v_stk (st' := [vI (-1)]) rfl ?_
        exact v_iret (pc := 54) E (⟨_, rfl, Or.inr (Or.inr ⟨ha5, fun j z p q s => (if_neg s).trans (hFw j z p q s), ⟨d, hd2⟩, G1 112, hS, Or.inr ⟨by omega, upd2_s _ _ _ _⟩⟩)⟩) (Nat.le_of_ble_eq_true rfl) (Nat.le_of_ble_eq_true rfl) dX4_coinsUsed_54
    · skip
      refine v_aload_n (pc := 32) rfl dX4_coinsUsed_32 ?_
      refine v_iconst (pc := 33) (z := 2) dX4_coinsUsed_33 ?_
      refine v_callV (pc := 34) (rest := []) (c_X4_throwing) iok_X4_throwing wM_X4_81 (rfl) (by decide) (by decide) rfl (rmOk (by decide) (by decide)) ⟨Nat.le_of_ble_eq_true rfl, Nat.le_of_ble_eq_true rfl⟩ (Nat.le_of_ble_eq_true rfl) rfl dX4_coinsUsed_34 (fun v G' hq => ?_) (fun _ _ h => h.elim)
      obtain ⟨rfl, hG9⟩ := hq
      rw [hG9]
      refine v_stk (st' := [vI (-1)]) rfl ?_
      exact v_iret (pc := 37) E (⟨_, rfl, Or.inr (Or.inl ⟨ha5, by rcases hd with q | q <;> first | exact q.2 | exact absurd q.1 (by omega), upd2_u G 106 8 0 2⟩)⟩) (Nat.le_of_ble_eq_true rfl) (Nat.le_of_ble_eq_true rfl) dX4_coinsUsed_37
  · skip
    have bq1 := bI_eq0.mp bq1
    refine v_aload_n (pc := 17) rfl dX4_coinsUsed_17 ?_
    refine v_iconst (pc := 18) (z := 1) dX4_coinsUsed_18 ?_
    refine v_callV (pc := 19) (rest := []) (c_X4_throwing) iok_X4_throwing wM_X4_81 (rfl) (by decide) (by decide) rfl (rmOk (by decide) (by decide)) ⟨Nat.le_of_ble_eq_true rfl, Nat.le_of_ble_eq_true rfl⟩ (Nat.le_of_ble_eq_true rfl) rfl dX4_coinsUsed_19 (fun v G' hq => ?_) (fun _ _ h => h.elim)
    obtain ⟨rfl, hG9⟩ := hq
    rw [hG9]
    refine v_stk (st' := [vI (-1)]) rfl ?_
    exact v_iret (pc := 22) E (⟨_, rfl, Or.inl ⟨by assumption, upd2_u G 106 8 0 1⟩⟩) (Nat.le_of_ble_eq_true rfl) (Nat.le_of_ble_eq_true rfl) dX4_coinsUsed_22
