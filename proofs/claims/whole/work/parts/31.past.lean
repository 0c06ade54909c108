-- what lies behind: the past states, the snapshot
def PastI (G : Mem) : Prop := (0 ≤ G 0 8 ∧ G 0 8 ≤ 8) ∧ (∀ i, 0 ≤ i → i < 8 → 28 ≤ G 3 i ∧ isS (G 3 i).toNat) ∧ ∀ i j, 0 ≤ i → i < j → j < 8 → G 3 i ≠ G 3 j
/-- the oldest change is dropped: its place is the next to be used -/
def DropR (G G' : Mem) : Prop := (∀ j, 0 ≤ j → j < 7 → G' 3 j = G 3 (j + 1)) ∧ G' 3 7 = G 3 0 ∧ G' 0 8 = 7 ∧ ∀ i z, ¬ (i = 3 ∧ 0 ≤ z ∧ z < 8) → ¬ (i = 0 ∧ z = 8) → G' i z = G i z
theorem DropR_past {G G' : Mem} (h : DropR G G') (hp : PastI G) : PastI G' := by
  obtain ⟨h1, h2, h3, h4⟩ := h
  have e : ∀ i, 0 ≤ i → i < 8 → G' 3 i = G 3 (if i = 7 then 0 else i + 1) := fun i i0 i1 => by
    split
    · rename_i q; rw [q]; exact h2
    · exact h1 i i0 (by omega)
  refine ⟨by omega, fun i i0 i1 => ?_, fun i j i0 ij j1 => ?_⟩
  · rw [e i i0 i1]
    exact hp.2.1 _ (by split <;> omega) (by split <;> omega)
  · rw [e i i0 (by omega), e j (by omega) j1, if_neg (by omega)]
    split
    · exact (hp.2.2 0 (i + 1) (by omega) (by omega) (by omega)).symm
    · exact hp.2.2 (i + 1) (j + 1) (by omega) (by omega) (by omega)

set_option maxHeartbeats 4000000 in
set_option maxRecDepth 100000 in
theorem c_X3_dropOldestChange {g : GT} {G : Mem} (hp : PastI G) : Ctr g yX3_dropOldestChange cX3_dropOldestChange 3 (none : Option FieldType) (rmL 0 0 0) [vR g 0] G (VP (fun G' => DropR G G')) NoX := by
  refine ctr_of [some (vR g 0), none, none] (by decide) (Nat.le_of_ble_eq_true rfl) rfl (fun γ E => ?_)
  show V γ g cX3_dropOldestChange 3 RX3 (rmL 0 0 0) G 0 0 0 [some (vR g 0), none, none] []
  have hs0 := (hp.2.1 0 (by omega) (by omega)).2
  have hr0 := (hp.2.1 0 (by omega) (by omega)).1
  refine v_aload_n (pc := 0) rfl dX3_dropOldestChange_0 ?_
  refine v_getR (pc := 1) (j := 3) fd_X3_22 (rfl) (by decide) rfl dX3_dropOldestChange_1 ?_
  refine v_iconst (pc := 4) (z := 0) dX3_dropOldestChange_4 ?_
  refine v_aldq (pc := 5) (N := 8) rfl rfl (by decide) (by omega) (by decide) dX3_dropOldestChange_5 ?_
  refine v_astore_n (pc := 6) (by decide) rfl dX3_dropOldestChange_6 ?_
  refine v_iconst (pc := 7) (z := 1) dX3_dropOldestChange_7 ?_
  refine v_istore_n (pc := 8) (by decide) rfl dX3_dropOldestChange_8 ?_
  have lp9 : ∀ (m9 : Nat) (i : Int) (G1 : Mem), (1 ≤ i ∧ i ≤ 8) → (∀ j, 0 ≤ j → j < i - 1 → G1 3 j = G 3 (j + 1)) → (∀ j, i - 1 ≤ j → j < 8 → G1 3 j = G 3 j) → (∀ j z, ¬ (j = 3 ∧ 0 ≤ z ∧ z < 8) → G1 j z = G j z) → ((8 - i).toNat) < m9 → V γ g cX3_dropOldestChange 3 RX3 (rmL 0 0 0) G1 0 0 9 [some (vR g 0), some (vR g (G 3 0).toNat), some (vI i)] [] := by
    intro m9
    induction m9 with
    | zero => intro i G1; intros; omega
    | succ m9 ih9 =>
      intro i G1 h0 hA1 hA2 hG hm9
      refine v_iload_n (pc := 9) rfl dX3_dropOldestChange_9 ?_
      refine v_bipush (pc := 10) (z := 8) rfl dX3_dropOldestChange_10 ?_
      refine v_icmp_ge (pc := 12) (tgt := 35) (by omega) dX3_dropOldestChange_12 (by decide) (fun h1 => ?_) (fun h1 => ?_)
      · skip
        refine v_aload_n (pc := 35) rfl dX3_dropOldestChange_35 ?_
        refine v_getR (pc := 36) (j := 3) fd_X3_22 (rfl) (by decide) rfl dX3_dropOldestChange_36 ?_
        refine v_bipush (pc := 39) (z := 7) rfl dX3_dropOldestChange_39 ?_
        refine v_aload_n (pc := 41) rfl dX3_dropOldestChange_41 ?_
        refine v_astq (pc := 42) (N := 8) rfl rfl (by decide) (by omega) (by decide) hs0 dX3_dropOldestChange_42 ?_
        refine v_aload_n (pc := 43) rfl dX3_dropOldestChange_43 ?_
        refine v_bipush (pc := 44) (z := 7) rfl dX3_dropOldestChange_44 ?_
        refine v_put (pc := 46) 8 pd_X3_276 (rfl) (by decide) rfl rfl dX3_dropOldestChange_46 ?_
        exact v_vret (pc := 49) E (⟨rfl, fun j a b => by
          rw [upd2_i (by decide), upd2_z (by omega)]; exact hA1 j a (by omega), by
          rw [upd2_i (by decide), upd2_s]; omega, upd2_s _ _ _ _, fun j z a b => (upd2_n b).trans ((upd2_n (by omega)).trans (hG j z a))⟩) (Nat.le_of_ble_eq_true rfl) (Nat.le_of_ble_eq_true rfl) dX3_dropOldestChange_49
      · skip
        have hpi := hp.2.1 i (by omega) (by omega)
        have ei : G1 3 i = G 3 i := hA2 i (by omega) (by omega)
        have hs1 : isS (G1 3 i).toNat := by rw [ei]; exact hpi.2
        refine v_aload_n (pc := 15) rfl dX3_dropOldestChange_15 ?_
        refine v_getR (pc := 16) (j := 3) fd_X3_22 (rfl) (by decide) rfl dX3_dropOldestChange_16 ?_
        refine v_iload_n (pc := 19) rfl dX3_dropOldestChange_19 ?_
        refine v_iconst (pc := 20) (z := 1) dX3_dropOldestChange_20 ?_
        refine v_isub (pc := 21) dX3_dropOldestChange_21 ?_
        refine v_aload_n (pc := 22) rfl dX3_dropOldestChange_22 ?_
        refine v_getR (pc := 23) (j := 3) fd_X3_22 (rfl) (by decide) rfl dX3_dropOldestChange_23 ?_
        refine v_iload_n (pc := 26) rfl dX3_dropOldestChange_26 ?_
        refine v_aldq (pc := 27) (N := 8) rfl rfl (by decide) (by omega) (by decide) dX3_dropOldestChange_27 ?_
        refine v_astq (pc := 28) (N := 8) rfl rfl (by decide) (by omega) (by decide) hs1 dX3_dropOldestChange_28 ?_
        refine v_iinc (pc := 29) (y := 1) rfl (by decide) rfl dX3_dropOldestChange_29 ?_
        refine v_goto (pc := 32) (tgt := 9) dX3_dropOldestChange_32 (by decide) ?_
        exact ih9 (i + 1) (upd2 G1 3 (i - 1) ((G1 3 i).toNat : Int)) (by omega) (fun j a b => by
          by_cases q : j = i - 1
          · rw [q, upd2_s, show i - 1 + 1 = i by omega, ei]; omega
          · rw [upd2_z q]; exact hA1 j a (by omega)) (fun j a b => (upd2_z (by omega)).trans (hA2 j (by omega) b)) (fun j z a => (upd2_n (by omega)).trans (hG j z a)) (by omega)
  refine v_loc (L' := [some (vR g 0), some (vR g (G 3 0).toNat), some (vI 1)]) (⟨rfl, rfl, rfl, trivial⟩) ?_
  exact lp9 _ 1 G (by omega) (fun j a b => absurd b (by omega)) (fun _ _ _ => rfl) (fun _ _ _ => rfl) (Nat.lt_succ_self _)
set_option maxHeartbeats 4000000 in
set_option maxRecDepth 100000 in
theorem c_X3_remember {g : GT} {G : Mem} (hp : PastI G) : Ctr g yX3_remember cX3_remember 1 (none : Option FieldType) (rmL 1 0 0) [vR g 0] G (VP (fun G' => ∃ G1, ((G 0 8 < 8 ∧ G1 = G) ∨ (G 0 8 = 8 ∧ DropR G G1)) ∧ ∃ G2, CpS G1 G2 (G1 3 (G1 0 8)).toNat 4 ∧ G' = upd2 G2 0 8 (G1 0 8 + 1))) NoX := by
  refine ctr_of [some (vR g 0)] (by decide) (Nat.le_of_ble_eq_true rfl) rfl (fun γ E => ?_)
  show V γ g cX3_remember 1 RX3 (rmL 1 0 0) G 0 0 0 [some (vR g 0)] []
  have hpc := hp.1
  refine v_aload_n (pc := 0) rfl dX3_remember_0 ?_
  refine v_get (pc := 1) 8 fd_X3_276 (rfl) (by decide) rfl rfl dX3_remember_1 ?_
  refine v_bipush (pc := 4) (z := 8) rfl dX3_remember_4 ?_
  refine v_icmp_ne (pc := 6) (tgt := 13) (by omega) dX3_remember_6 (by decide) (fun h1 => ?_) (fun h1 => ?_)
  · skip
    have hsp := (hp.2.1 (G 0 8) (by omega) (by omega)).2
    have hpr := (hp.2.1 (G 0 8) (by omega) (by omega)).1
    have hlt := isS_lt hsp
    refine v_aload_n (pc := 13) rfl dX3_remember_13 ?_
    refine v_getR (pc := 14) (j := 3) fd_X3_22 (rfl) (by decide) rfl dX3_remember_14 ?_
    refine v_aload_n (pc := 17) rfl dX3_remember_17 ?_
    refine v_get (pc := 18) 8 fd_X3_276 (rfl) (by decide) rfl rfl dX3_remember_18 ?_
    refine v_aldq (pc := 21) (N := 8) rfl rfl (by decide) (by omega) (by decide) dX3_remember_21 ?_
    refine v_aload_n (pc := 22) rfl dX3_remember_22 ?_
    refine v_getR (pc := 23) (j := 4) fd_X3_10 (rfl) (by decide) rfl dX3_remember_23 ?_
    refine v_callVN (pc := 26) (rest := []) (c_X2_copyFrom (G := G) hsp isS4 (by omega)) iok_X2_copyFrom wM_X3_245 (kdS hsp) (by decide) (ltS hsp 0 (by decide)) rfl (rmOk (by decide) (by decide)) ⟨Nat.le_of_ble_eq_true rfl, Nat.le_of_ble_eq_true rfl⟩ (Nat.le_of_ble_eq_true rfl) rfl dX3_remember_26 (fun v G2 hq => ?_) (fun _ _ h => h.elim)
    obtain ⟨rfl, hq2⟩ := hq
    refine v_stk (st' := []) rfl ?_
    have hpc2 : G2 0 8 = G 0 8 := hq2.2.2.2 0 8 (by omega)
    refine v_aload_n (pc := 29) rfl dX3_remember_29 ?_
    refine v_dup (pc := 30) rfl dX3_remember_30 ?_
    refine v_get (pc := 31) 8 fd_X3_276 (rfl) (by decide) rfl rfl dX3_remember_31 ?_
    refine v_iconst (pc := 34) (z := 1) dX3_remember_34 ?_
    refine v_iadd (pc := 35) dX3_remember_35 ?_
    refine v_put (pc := 36) 8 pd_X3_276 (rfl) (by decide) rfl rfl dX3_remember_36 ?_
    exact v_vret (pc := 39) E (⟨rfl, G, Or.inl ⟨by omega, rfl⟩, G2, hq2, by rw [hpc2]⟩) (Nat.le_of_ble_eq_true rfl) (Nat.le_of_ble_eq_true rfl) dX3_remember_39
  · skip
    refine v_aload_n (pc := 9) rfl dX3_remember_9 ?_
    refine v_callV (pc := 10) (rest := []) (c_X3_dropOldestChange hp) iok_X3_dropOldestChange wM_X3_344 (rfl) (by decide) (by decide) rfl (rmOk (by decide) (by decide)) ⟨Nat.le_of_ble_eq_true rfl, Nat.le_of_ble_eq_true rfl⟩ (Nat.le_of_ble_eq_true rfl) rfl dX3_remember_10 (fun v G1 hq => ?_) (fun _ _ h => h.elim)
    obtain ⟨rfl, hq⟩ := hq
    refine v_stk (st' := []) rfl ?_
    have hp1 := DropR_past hq hp
    have h78 : G1 0 8 = 7 := hq.2.2.1
    have hsp := (hp1.2.1 (G1 0 8) (by omega) (by omega)).2
    have hpr := (hp1.2.1 (G1 0 8) (by omega) (by omega)).1
    have hlt := isS_lt hsp
    refine v_aload_n (pc := 13) rfl dX3_remember_13 ?_
    refine v_getR (pc := 14) (j := 3) fd_X3_22 (rfl) (by decide) rfl dX3_remember_14 ?_
    refine v_aload_n (pc := 17) rfl dX3_remember_17 ?_
    refine v_get (pc := 18) 8 fd_X3_276 (rfl) (by decide) rfl rfl dX3_remember_18 ?_
    refine v_aldq (pc := 21) (N := 8) rfl rfl (by decide) (by omega) (by decide) dX3_remember_21 ?_
    refine v_aload_n (pc := 22) rfl dX3_remember_22 ?_
    refine v_getR (pc := 23) (j := 4) fd_X3_10 (rfl) (by decide) rfl dX3_remember_23 ?_
    refine v_callVN (pc := 26) (rest := []) (c_X2_copyFrom (G := G1) hsp isS4 (by omega)) iok_X2_copyFrom wM_X3_245 (kdS hsp) (by decide) (ltS hsp 0 (by decide)) rfl (rmOk (by decide) (by decide)) ⟨Nat.le_of_ble_eq_true rfl, Nat.le_of_ble_eq_true rfl⟩ (Nat.le_of_ble_eq_true rfl) rfl dX3_remember_26 (fun v G2 hq => ?_) (fun _ _ h => h.elim)
    obtain ⟨rfl, hq2⟩ := hq
    refine v_stk (st' := []) rfl ?_
    have hpc2 : G2 0 8 = G1 0 8 := hq2.2.2.2 0 8 (by omega)
    refine v_aload_n (pc := 29) rfl dX3_remember_29 ?_
    refine v_dup (pc := 30) rfl dX3_remember_30 ?_
    refine v_get (pc := 31) 8 fd_X3_276 (rfl) (by decide) rfl rfl dX3_remember_31 ?_
    refine v_iconst (pc := 34) (z := 1) dX3_remember_34 ?_
    refine v_iadd (pc := 35) dX3_remember_35 ?_
    refine v_put (pc := 36) 8 pd_X3_276 (rfl) (by decide) rfl rfl dX3_remember_36 ?_
    exact v_vret (pc := 39) E (⟨rfl, G1, Or.inr ⟨by omega, hq⟩, G2, hq2, by rw [hpc2]⟩) (Nat.le_of_ble_eq_true rfl) (Nat.le_of_ble_eq_true rfl) dX3_remember_39
