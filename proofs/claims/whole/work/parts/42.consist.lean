set_option maxHeartbeats 4000000 in
set_option maxRecDepth 100000 in
theorem c_X3_bothWaysAgree {g : GT} {G : Mem} (hI : StI G 4) (hag : ∀ a, 1 ≤ a → a ≤ 99 → ∀ r, SetR (fun k => PS (fun k => G 5 (G 9 k)) (G 4 5).toNat k a) (G 4 5) r → r = Tab (vsR G 4) (cnR G 4) (G 4 0).toNat a) : Ctr g yX3_bothWaysAgree cX3_bothWaysAgree 2 (some FieldType.boolean) (rmL 2 0 0) [vR g 0] G (fun v G' => v = some (vI 1) ∧ ∀ i z, ¬ (94 ≤ i ∧ i ≤ 101) → ¬ (i = 1 ∧ (z = 4 ∨ z = 5)) → G' i z = G i z) NoX := by
  refine ctr_of [some (vR g 0), none] (by decide) (Nat.le_of_ble_eq_true rfl) rfl (fun γ E => ?_)
  show V γ g cX3_bothWaysAgree 2 RX3 (rmL 2 0 0) G 0 0 0 [some (vR g 0), none] []
  have hn := StI_n hI
  have hc := StI_c hI
  have hy := StI_y hI
  refine v_aload_n (pc := 0) rfl dX3_bothWaysAgree_0 ?_
  refine v_getR (pc := 1) (j := 1) fd_X3_29 (rfl) (by decide) rfl dX3_bothWaysAgree_1 ?_
  refine v_aload_n (pc := 4) rfl dX3_bothWaysAgree_4 ?_
  refine v_getR (pc := 5) (j := 4) fd_X3_10 (rfl) (by decide) rfl dX3_bothWaysAgree_5 ?_
  refine v_callVN (pc := 8) (rest := []) (c_X0_tabulate isS4 hI) iok_X0_tabulate wM_X3_133 (rfl) (by decide) (by decide) rfl (rmOk (by decide) (by decide)) ⟨Nat.le_of_ble_eq_true rfl, Nat.le_of_ble_eq_true rfl⟩ (Nat.le_of_ble_eq_true rfl) rfl dX3_bothWaysAgree_8 (fun v G1 hq => ?_) (fun _ _ h => h.elim)
  obtain ⟨rfl, hq⟩ := hq
  refine v_stk (st' := []) rfl ?_
  obtain ⟨e4, hT, hF⟩ := hq
  have hE1 : ∀ j : Nat, j ≤ 7 → ∀ w, G1 (4 + j) w = G (4 + j) w := fun j hj w => hF (4 + j) w (by omega) (by omega)
  have hI1 : StI G1 4 := StI_sameB hI hE1
  have x5 : G1 4 5 = G 4 5 := hE1 0 (by omega) 5
  have x1 : G1 5 = G 5 := funext fun w => hE1 1 (by omega) w
  have x9 : G1 9 = G 9 := funext fun w => hE1 5 (by omega) w
  refine v_aload_n (pc := 11) rfl dX3_bothWaysAgree_11 ?_
  refine v_getR (pc := 12) (j := 1) fd_X3_29 (rfl) (by decide) rfl dX3_bothWaysAgree_12 ?_
  refine v_aload_n (pc := 15) rfl dX3_bothWaysAgree_15 ?_
  refine v_getR (pc := 16) (j := 4) fd_X3_10 (rfl) (by decide) rfl dX3_bothWaysAgree_16 ?_
  refine v_callVN (pc := 19) (rest := []) (c_X0_collectSets isS4 hI1) iok_X0_collectSets wM_X3_143 (rfl) (by decide) (by decide) rfl (rmOk (by decide) (by decide)) ⟨Nat.le_of_ble_eq_true rfl, Nat.le_of_ble_eq_true rfl⟩ (Nat.le_of_ble_eq_true rfl) rfl dX3_bothWaysAgree_19 (fun v G2 hq => ?_) (fun _ _ h => h.elim)
  obtain ⟨rfl, hq2⟩ := hq
  refine v_stk (st' := []) rfl ?_
  obtain ⟨e5, hB, hF2⟩ := hq2
  rw [x5] at e5
  have hB2 : ∀ k (a : Nat), 0 ≤ k → k ≤ 40 → a < 128 → BB G2 k a = PS (fun k => G 5 (G 9 k)) (G 4 5).toNat k a := fun k a k0 k1 k2 => by
    have q : BB G2 k a = PS (fun k => G1 5 (G1 9 k)) (G1 4 5).toNat k a := hB k a k0 k1 k2
    rw [q, x1, x9, x5]
  have e4b : G2 1 4 = G 4 0 := (hF2 1 4 (by omega) (by omega)).trans e4
  refine v_iconst (pc := 22) (z := 1) dX3_bothWaysAgree_22 ?_
  refine v_istore_n (pc := 23) (by decide) rfl dX3_bothWaysAgree_23 ?_
  have lp24 : ∀ (m24 : Nat) (a : Int), (1 ≤ a ∧ a ≤ 100) → ((100 - a).toNat) < m24 → V γ g cX3_bothWaysAgree 2 RX3 (rmL 2 0 0) G2 0 0 24 [some (vR g 0), some (vI a)] [] := by
    intro m24
    induction m24 with
    | zero => intro a; intros; omega
    | succ m24 ih24 =>
      intro a h0 hm24
      refine v_iload_n (pc := 24) rfl dX3_bothWaysAgree_24 ?_
      refine v_bipush (pc := 25) (z := 99) rfl dX3_bothWaysAgree_25 ?_
      refine v_icmp_gt (pc := 27) (tgt := 57) (by omega) dX3_bothWaysAgree_27 (by decide) (fun h1 => ?_) (fun h1 => ?_)
      · skip
        refine v_iconst (pc := 57) (z := 1) dX3_bothWaysAgree_57 ?_
        exact v_bret (pc := 58) E (by decide) (⟨rfl, fun i z a b => (hF2 i z (by omega) (by omega)).trans (hF i z (by omega) (by omega))⟩) (Nat.le_of_ble_eq_true rfl) (Nat.le_of_ble_eq_true rfl) dX3_bothWaysAgree_58
      · skip
        refine v_aload_n (pc := 30) rfl dX3_bothWaysAgree_30 ?_
        refine v_getR (pc := 31) (j := 1) fd_X3_29 (rfl) (by decide) rfl dX3_bothWaysAgree_31 ?_
        refine v_iload_n (pc := 34) rfl dX3_bothWaysAgree_34 ?_
        refine v_callVN (pc := 35) (rest := []) (c_X0_tableAnswer (G := G2) (a := a) (by omega) (by omega)) iok_X0_tableAnswer wM_X3_137 (rfl) (by decide) (by decide) rfl (rmOk (by decide) (by decide)) ⟨Nat.le_of_ble_eq_true rfl, Nat.le_of_ble_eq_true rfl⟩ (Nat.le_of_ble_eq_true rfl) rfl dX3_bothWaysAgree_35 (fun v G' hq => ?_) (fun _ _ h => h.elim)
        obtain ⟨rfl, hG9⟩ := hq
        rw [hG9]
        obtain ⟨ta, h_ta⟩ : ∃ w9, w9 = (G2 (94 + (G2 1 4).toNat) a) := ⟨_, rfl⟩
        refine v_stk (st' := [vI ta]) (by rw [h_ta]; rfl) ?_
        have hta : ta = Tab (vsR G 4) (cnR G 4) (G 4 0).toNat a := by
          rw [h_ta, e4b, hF2 (94 + (G 4 0).toNat) a (by omega) (by omega)]
          exact hT (G 4 0).toNat (by omega) a (by omega) (by omega)
        have htr := TabR hI (r := (G 4 0).toNat) (by omega) a
        rw [← hta] at htr
        refine v_aload_n (pc := 38) rfl dX3_bothWaysAgree_38 ?_
        refine v_getR (pc := 39) (j := 1) fd_X3_29 (rfl) (by decide) rfl dX3_bothWaysAgree_39 ?_
        refine v_iload_n (pc := 42) rfl dX3_bothWaysAgree_42 ?_
        refine v_callVN (pc := 43) (rest := [vI ta]) (c_X0_setsAnswer (G := G2) (a := a) (by omega) (by omega)) iok_X0_setsAnswer wM_X3_146 (rfl) (by decide) (by decide) rfl (rmOk (by decide) (by decide)) ⟨Nat.le_of_ble_eq_true rfl, Nat.le_of_ble_eq_true rfl⟩ (Nat.le_of_ble_eq_true rfl) rfl dX3_bothWaysAgree_43 (fun v G' hq => ?_) (fun _ _ h => h.elim)
        obtain ⟨r, rfl, hq3⟩ := hq
        refine v_stk (st' := [vI r, vI ta]) rfl ?_
        obtain ⟨hG9, hr⟩ := hq3
        rw [hG9]
        have hr2 : SetR (fun k => PS (fun k => G 5 (G 9 k)) (G 4 5).toNat k a) (G 4 5) r := by
          rw [e5] at hr
          have eq : ∀ k, 0 ≤ k → k ≤ G 4 5 → BB G2 k a.toNat = PS (fun k => G 5 (G 9 k)) (G 4 5).toNat k a := fun k k0 k1 => by
            rw [hB2 k a.toNat k0 (by omega) (by omega), show ((a.toNat : Nat) : Int) = a by omega]
          rcases hr with ⟨q1, q2, q3⟩ | ⟨q1, q2⟩
          · exact Or.inl ⟨q1, (eq r (by omega) (by omega)).symm.trans q2, fun k k0 k1 => (eq k k0 (by omega)).symm.trans (q3 k k0 k1)⟩
          · exact Or.inr ⟨q1, fun k k0 k1 => (eq k k0 k1).symm.trans (q2 k k0 k1)⟩
        have hra : r = ta := (hag a (by omega) (by omega) r hr2).trans hta.symm
        refine v_icmp_eq (pc := 46) (tgt := 51) (by omega) dX3_bothWaysAgree_46 (by decide) (fun h2 => ?_) (fun h2 => ?_)
        · skip
          refine v_iinc (pc := 51) (y := 1) rfl (by decide) rfl dX3_bothWaysAgree_51 ?_
          refine v_goto (pc := 54) (tgt := 24) dX3_bothWaysAgree_54 (by decide) ?_
          exact ih24 (a + 1) (by omega) (by omega)
        · skip
          exfalso; omega
  refine v_loc (L' := [some (vR g 0), some (vI 1)]) (⟨rfl, rfl, trivial⟩) ?_
  exact lp24 _ 1 (by omega) (Nat.lt_succ_self _)
set_option maxHeartbeats 4000000 in
set_option maxRecDepth 100000 in
theorem c_X3_isConsistent {g : GT} {G : Mem} (hI : StI G 4) (hag : ∀ a, 1 ≤ a → a ≤ 99 → ∀ r, SetR (fun k => PS (fun k => G 5 (G 9 k)) (G 4 5).toNat k a) (G 4 5) r → r = Tab (vsR G 4) (cnR G 4) (G 4 0).toNat a) (hvv : sz (G 4 5) (fun k => G 5 (G 9 k)) = sz (G 4 0) (fun i => G 5 i * cntE (G 4 5) (G 9) i)) (hww : G 4 15 = G 4 9 + wgt (G 4 5) (G 9) (G 6) + G 4 13 + G 4 14) (h15 : 0 ≤ G 4 15 ∧ G 4 15 < 2147483648) : Ctr g yX3_isConsistent cX3_isConsistent 2 (some FieldType.boolean) (rmL 3 0 0) [vR g 0] G (fun v G' => v = some (vI 1) ∧ ∀ i z, ¬ (94 ≤ i ∧ i ≤ 101) → ¬ (i = 1 ∧ (z = 4 ∨ z = 5)) → G' i z = G i z) NoX := by
  refine ctr_of [some (vR g 0), none] (by decide) (Nat.le_of_ble_eq_true rfl) rfl (fun γ E => ?_)
  show V γ g cX3_isConsistent 2 RX3 (rmL 3 0 0) G 0 0 0 [some (vR g 0), none] []
  have hn := StI_n hI
  have hc := StI_c hI
  have hy := StI_y hI
  refine v_aload_n (pc := 0) rfl dX3_isConsistent_0 ?_
  refine v_getR (pc := 1) (j := 4) fd_X3_10 (rfl) (by decide) rfl dX3_isConsistent_1 ?_
  refine v_get (pc := 4) 9 fd_X3_94 (rfl) (by decide) rfl rfl dX3_isConsistent_4 ?_
  refine v_aload_n (pc := 7) rfl dX3_isConsistent_7 ?_
  refine v_getR (pc := 8) (j := 4) fd_X3_10 (rfl) (by decide) rfl dX3_isConsistent_8 ?_
  refine v_callVN (pc := 11) (rest := [vI (G 4 9)]) (c_X2_weightOfCoins isS4 hI) iok_X2_weightOfCoins wM_X3_109 (rfl) (by decide) (by decide) rfl (rmOk (by decide) (by decide)) ⟨Nat.le_of_ble_eq_true rfl, Nat.le_of_ble_eq_true rfl⟩ (Nat.le_of_ble_eq_true rfl) rfl dX3_isConsistent_11 (fun v G' hq => ?_) (fun _ _ h => h.elim)
  obtain ⟨rfl, hG9⟩ := hq
  rw [hG9]
  refine v_stk (st' := [vI (wgt (G 4 5) (G 9) (G 6)), vI (G 4 9)]) rfl ?_
  refine v_iadd (pc := 14) dX3_isConsistent_14 ?_
  refine v_aload_n (pc := 15) rfl dX3_isConsistent_15 ?_
  refine v_getR (pc := 16) (j := 4) fd_X3_10 (rfl) (by decide) rfl dX3_isConsistent_16 ?_
  refine v_get (pc := 19) 13 fd_X3_174 (rfl) (by decide) rfl rfl dX3_isConsistent_19 ?_
  refine v_iadd (pc := 22) dX3_isConsistent_22 ?_
  refine v_aload_n (pc := 23) rfl dX3_isConsistent_23 ?_
  refine v_getR (pc := 24) (j := 4) fd_X3_10 (rfl) (by decide) rfl dX3_isConsistent_24 ?_
  refine v_get (pc := 27) 14 fd_X3_177 (rfl) (by decide) rfl rfl dX3_isConsistent_27 ?_
  refine v_iadd (pc := 30) dX3_isConsistent_30 ?_
  refine v_istore_n (pc := 31) (by decide) rfl dX3_isConsistent_31 ?_
  refine v_aload_n (pc := 32) rfl dX3_isConsistent_32 ?_
  refine v_callV (pc := 33) (rest := []) (c_X3_bothWaysAgree hI hag) iok_X3_bothWaysAgree wM_X3_190 (rfl) (by decide) (by decide) rfl (rmOk (by decide) (by decide)) ⟨Nat.le_of_ble_eq_true rfl, Nat.le_of_ble_eq_true rfl⟩ (Nat.le_of_ble_eq_true rfl) rfl dX3_isConsistent_33 (fun v G' hq => ?_) (fun _ _ h => h.elim)
  obtain ⟨rfl, hF⟩ := hq
  obtain ⟨G1, hG1⟩ : ∃ x, x = G' := ⟨_, rfl⟩
  rw [← hG1] at hF
  rw [← hG1]
  refine v_stk (st' := [vI 1]) rfl ?_
  refine v_if_eq (pc := 36) (tgt := 65) (by omega) dX3_isConsistent_36 (by decide) (fun h1 => absurd h1 (by decide)) (fun _ => ?_)
  have hE1 : ∀ j : Nat, j ≤ 7 → ∀ w, G1 (4 + j) w = G (4 + j) w := fun j hj w => hF (4 + j) w (by omega) (by omega)
  have hI1 : StI G1 4 := StI_sameB hI hE1
  have x5 : G1 4 5 = G 4 5 := hE1 0 (by omega) 5
  have x0 : G1 4 0 = G 4 0 := hE1 0 (by omega) 0
  have x1 : G1 5 = G 5 := funext fun w => hE1 1 (by omega) w
  have x9 : G1 9 = G 9 := funext fun w => hE1 5 (by omega) w
  have x15 : G1 4 15 = G 4 15 := hE1 0 (by omega) 15
  have hvr : 0 ≤ sz (G 4 5) (fun k => G 5 (G 9 k)) ∧ sz (G 4 5) (fun k => G 5 (G 9 k)) ≤ 2000 := by
    have q := sz_rng (n := G 4 5) (a := 0) (c := 50) (f := fun k => G 5 (G 9 k)) (by omega) (fun k k0 k1 => by have := S4_k hI k0 k1; have := S4_d hI this.1.1 this.1.2; omega)
    omega
  refine v_aload_n (pc := 39) rfl dX3_isConsistent_39 ?_
  refine v_callV (pc := 40) (rest := []) (c_X3_vaultValue hI1) iok_X3_vaultValue wM_X3_194 (rfl) (by decide) (by decide) rfl (rmOk (by decide) (by decide)) ⟨Nat.le_of_ble_eq_true rfl, Nat.le_of_ble_eq_true rfl⟩ (Nat.le_of_ble_eq_true rfl) rfl dX3_isConsistent_40 (fun v G' hq => ?_) (fun _ _ h => h.elim)
  obtain ⟨rfl, hG9⟩ := hq
  rw [hG9]
  obtain ⟨va, h_va⟩ : ∃ w9, w9 = (sz (G1 4 5) (fun k => G1 5 (G1 9 k))) := ⟨_, rfl⟩
  refine v_stk (st' := [vI va]) (by rw [h_va]; rfl) ?_
  have hva : va = (sz (G 4 5) (fun k => G 5 (G 9 k))) := by rw [h_va, x5, x1, x9]
  refine v_aload_n (pc := 43) rfl dX3_isConsistent_43 ?_
  refine v_callV (pc := 44) (rest := [vI va]) (c_X3_vaultValueByDies hI1) iok_X3_vaultValueByDies wM_X3_197 (rfl) (by decide) (by decide) rfl (rmOk (by decide) (by decide)) ⟨Nat.le_of_ble_eq_true rfl, Nat.le_of_ble_eq_true rfl⟩ (Nat.le_of_ble_eq_true rfl) rfl dX3_isConsistent_44 (fun v G' hq => ?_) (fun _ _ h => h.elim)
  obtain ⟨rfl, hG9⟩ := hq
  rw [hG9]
  obtain ⟨vb2, h_vb2⟩ : ∃ w9, w9 = (sz (G1 4 0) (fun i => G1 5 i * cntE (G1 4 5) (G1 9) i)) := ⟨_, rfl⟩
  refine v_stk (st' := [vI vb2, vI va]) (by rw [h_vb2]; rfl) ?_
  have hvb : vb2 = (sz (G 4 5) (fun k => G 5 (G 9 k))) := by rw [h_vb2, x5, x0, x1, x9]; exact hvv.symm
  refine v_icmp_ne (pc := 47) (tgt := 65) (by omega) dX3_isConsistent_47 (by decide) (fun h2 => ?_) (fun h2 => ?_)
  · skip
    exfalso; omega
  · skip
    refine v_aload_n (pc := 50) rfl dX3_isConsistent_50 ?_
    refine v_getR (pc := 51) (j := 4) fd_X3_10 (rfl) (by decide) rfl dX3_isConsistent_51 ?_
    refine v_get (pc := 54) 15 fd_X3_180 (rfl) (by decide) rfl rfl dX3_isConsistent_54 ?_
    refine v_iload_n (pc := 57) rfl dX3_isConsistent_57 ?_
    refine v_icmp_ne (pc := 58) (tgt := 65) (by omega) dX3_isConsistent_58 (by decide) (fun h3 => ?_) (fun h3 => ?_)
    · skip
      exfalso; omega
    · skip
      refine v_iconst (pc := 61) (z := 1) dX3_isConsistent_61 ?_
      refine v_goto (pc := 62) (tgt := 66) dX3_isConsistent_62 (by decide) ?_
      exact v_bret (pc := 66) E (by decide) (⟨rfl, hF⟩) (Nat.le_of_ble_eq_true rfl) (Nat.le_of_ble_eq_true rfl) dX3_isConsistent_66
