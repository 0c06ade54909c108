theorem grB {G : Mem} (hI : StI G 4) {a : Int} (h : 1 ≤ a ∧ a ≤ 99) : 0 ≤ (if grR (vsR G 4) (cnR G 4) (G 4 0) a (G 4 0).toNat = 0 then sz (G 4 0) (grU (vsR G 4) (cnR G 4) (G 4 0) a) else 1000) ∧ (if grR (vsR G 4) (cnR G 4) (G 4 0) a (G 4 0).toNat = 0 then sz (G 4 0) (grU (vsR G 4) (cnR G 4) (G 4 0) a) else 1000) ≤ 100000 := by
  have hn := StI_n hI
  have hu : ∀ k, 0 ≤ k → k < G 4 0 → 0 ≤ grU (vsR G 4) (cnR G 4) (G 4 0) a k ∧ grU (vsR G 4) (cnR G 4) (G 4 0) a k ≤ 40 := fun k k0 k1 => by
    have hc := cnR_r hI (G 4 0 - 1 - k)
    have hv := vsR_r hI (r := G 4 0 - 1 - k) (by omega) (by omega)
    have hg := grR_r (vs := vsR G 4) (cn := cnR G 4) (n := G 4 0) (a := a) (by omega) (fun r r0 r1 => (vsR_r hI r0 r1).1) (fun r _ _ => (cnR_r hI r).1) k.toNat (by omega)
    have hq : 0 ≤ grR (vsR G 4) (cnR G 4) (G 4 0) a k.toNat / vsR G 4 (G 4 0 - 1 - k) := Int.ediv_nonneg hg.1 (by omega)
    unfold grU
    unfold mnI
    split <;> omega
  have hs := sz_rng (n := G 4 0) (a := 0) (c := 40) (f := grU (vsR G 4) (cnR G 4) (G 4 0) a) (by omega) hu
  split <;> omega

set_option maxHeartbeats 4000000 in
set_option maxRecDepth 100000 in
theorem c_X3_greedyCoins {g : GT} {G : Mem} (hI : StI G 4) {a : Int} (h_a : -2147483648 ≤ a ∧ a < 2147483648) : Ctr g yX3_greedyCoins cX3_greedyCoins 2 (some FieldType.int) (rmL 3 2 12) [vR g 0, vI a] G (fun v G' => ∃ r, v = some (vI r) ∧ r = (if grR (vsR G 4) (cnR G 4) (G 4 0) a (G 4 0).toNat = 0 then sz (G 4 0) (grU (vsR G 4) (cnR G 4) (G 4 0) a) else 1000) ∧ G' = G ∧ (1 ≤ a ∧ a ≤ 99) ∧ r ≠ 1000) (fun e G' => (e = eIA ∧ G' = G ∧ ¬ (1 ≤ a ∧ a ≤ 99)) ∨ (e = eNE ∧ G' = G ∧ (1 ≤ a ∧ a ≤ 99) ∧ (if grR (vsR G 4) (cnR G 4) (G 4 0) a (G 4 0).toNat = 0 then sz (G 4 0) (grU (vsR G 4) (cnR G 4) (G 4 0) a) else 1000) = 1000)) := by
  refine ctr_of [some (vR g 0), some (vI a)] (by decide) (Nat.le_of_ble_eq_true rfl) rfl (fun γ E => ?_)
  show V γ g cX3_greedyCoins 2 RX3 (rmL 3 2 12) G 0 0 0 [some (vR g 0), some (vI a)] []
  have hn := StI_n hI
  have hc := StI_c hI
  have hy := StI_y hI
  have hgr := grB hI (a := a)
  refine v_iload_n (pc := 0) rfl dX3_greedyCoins_0 ?_
  refine v_callS (pc := 1) (rest := []) (c_X3_requireAmount h_a) sok_X3_requireAmount wM_X3_130 (rmOk (by decide) (by decide)) ⟨Nat.le_of_ble_eq_true rfl, Nat.le_of_ble_eq_true rfl⟩ (Nat.le_of_ble_eq_true rfl) rfl dX3_greedyCoins_1 (fun v G' hq => ?_) (fun e G' hx => vx_pass E (show _ ∨ _ from Or.inl hx) (Nat.le_of_ble_eq_true rfl) (Nat.le_of_ble_eq_true rfl))
  obtain ⟨rfl, hG9, hd⟩ := hq
  rw [hG9]
  refine v_stk (st' := []) rfl ?_
  have hd0 := hd
  replace hgr := hgr hd0
  refine v_aload_n (pc := 4) rfl dX3_greedyCoins_4 ?_
  refine v_getR (pc := 5) (j := 1) fd_X3_29 (rfl) (by decide) rfl dX3_greedyCoins_5 ?_
  refine v_aload_n (pc := 8) rfl dX3_greedyCoins_8 ?_
  refine v_getR (pc := 9) (j := 4) fd_X3_10 (rfl) (by decide) rfl dX3_greedyCoins_9 ?_
  refine v_iload_n (pc := 12) rfl dX3_greedyCoins_12 ?_
  refine v_callVN (pc := 13) (rest := []) (c_X0_payGreedily isS4 hI hd0) iok_X0_payGreedily wM_X3_149 (rfl) (by decide) (by decide) rfl (rmOk (by decide) (by decide)) ⟨Nat.le_of_ble_eq_true rfl, Nat.le_of_ble_eq_true rfl⟩ (Nat.le_of_ble_eq_true rfl) rfl dX3_greedyCoins_13 (fun v G' hq => ?_) (fun _ _ h => h.elim)
  obtain ⟨rfl, hG9⟩ := hq
  rw [hG9]
  obtain ⟨r, h_r⟩ : ∃ w9, w9 = (if grR (vsR G 4) (cnR G 4) (G 4 0) a (G 4 0).toNat = 0 then sz (G 4 0) (grU (vsR G 4) (cnR G 4) (G 4 0) a) else 1000) := ⟨_, rfl⟩
  refine v_stk (st' := [vI r]) (by rw [h_r]; rfl) ?_
  rw [← h_r] at hgr
  refine v_callS (pc := 16) (rest := []) (c_X3_requirePayable (G := G) (r := r) (by omega)) sok_X3_requirePayable wM_X3_140 (rmOk (by decide) (by decide)) ⟨Nat.le_of_ble_eq_true rfl, Nat.le_of_ble_eq_true rfl⟩ (Nat.le_of_ble_eq_true rfl) rfl dX3_greedyCoins_16 (fun v G' hq => ?_) (fun e G' hx => vx_pass E (show _ ∨ _ from Or.inr ⟨hx.1, hx.2.1, hd0, h_r.symm.trans hx.2.2⟩) (Nat.le_of_ble_eq_true rfl) (Nat.le_of_ble_eq_true rfl))
  obtain ⟨rfl, hG9, hd⟩ := hq
  rw [hG9]
  refine v_stk (st' := [vI r]) rfl ?_
  exact v_iret (pc := 19) E (⟨r, rfl, h_r, rfl, hd0, hd⟩) (Nat.le_of_ble_eq_true rfl) (Nat.le_of_ble_eq_true rfl) dX3_greedyCoins_19
