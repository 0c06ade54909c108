set_option maxHeartbeats 4000000 in
set_option maxRecDepth 100000 in
theorem c_X3_save {g : GT} {G : Mem} : Ctr g yX3_save cX3_save 1 (some FieldType.int) (rmL 1 0 0) [vR g 0] G (fun v G' => v = some (vI (G 4 5)) ∧ ∃ G2, CpS G G2 20 4 ∧ G' = upd2 G2 0 7 1) NoX := by
  refine ctr_of [some (vR g 0)] (by decide) (Nat.le_of_ble_eq_true rfl) rfl (fun γ E => ?_)
  show V γ g cX3_save 1 RX3 (rmL 1 0 0) G 0 0 0 [some (vR g 0)] []
  refine v_aload_n (pc := 0) rfl dX3_save_0 ?_
  refine v_getR (pc := 1) (j := 20) fd_X3_19 (rfl) (by decide) rfl dX3_save_1 ?_
  refine v_aload_n (pc := 4) rfl dX3_save_4 ?_
  refine v_getR (pc := 5) (j := 4) fd_X3_10 (rfl) (by decide) rfl dX3_save_5 ?_
  refine v_callVN (pc := 8) (rest := []) (c_X2_copyFrom (G := G) isS20 isS4 (by decide)) iok_X2_copyFrom wM_X3_245 (rfl) (by decide) (by decide) rfl (rmOk (by decide) (by decide)) ⟨Nat.le_of_ble_eq_true rfl, Nat.le_of_ble_eq_true rfl⟩ (Nat.le_of_ble_eq_true rfl) rfl dX3_save_8 (fun v G2 hq => ?_) (fun _ _ h => h.elim)
  obtain ⟨rfl, hq2⟩ := hq
  refine v_stk (st' := []) rfl ?_
  have e5 : G2 4 5 = G 4 5 := hq2.2.2.2 4 5 (by omega)
  refine v_aload_n (pc := 11) rfl dX3_save_11 ?_
  refine v_iconst (pc := 12) (z := 1) dX3_save_12 ?_
  refine v_putZ (pc := 13) 7 (by decide) pd_X3_281 (rfl) (by decide) rfl rfl dX3_save_13 ?_
  refine v_aload_n (pc := 16) rfl dX3_save_16 ?_
  refine v_getR (pc := 17) (j := 4) fd_X3_10 (rfl) (by decide) rfl dX3_save_17 ?_
  refine v_get (pc := 20) 5 fd_X3_100 (rfl) (by decide) rfl rfl dX3_save_20 ?_
  refine v_top (b := G2 4 5) (upd2_i (by decide)) ?_
  exact v_iret (pc := 23) E (⟨by rw [e5], G2, hq2, rfl⟩) (Nat.le_of_ble_eq_true rfl) (Nat.le_of_ble_eq_true rfl) dX3_save_23
set_option maxHeartbeats 4000000 in
set_option maxRecDepth 100000 in
theorem c_X3_restore {g : GT} {G : Mem} (h7 : 0 ≤ G 0 7 ∧ G 0 7 ≤ 1) : Ctr g yX3_restore cX3_restore 1 (some FieldType.int) (rmL 1 1 6) [vR g 0] G (fun v G' => v = some (vI (G 20 5)) ∧ G 0 7 ≠ 0 ∧ ∃ G2, CpS G G2 4 20 ∧ G' = upd2 G2 0 8 0) (fun e G' => e = eIS ∧ G' = G ∧ G 0 7 = 0) := by
  refine ctr_of [some (vR g 0)] (by decide) (Nat.le_of_ble_eq_true rfl) rfl (fun γ E => ?_)
  show V γ g cX3_restore 1 RX3 (rmL 1 1 6) G 0 0 0 [some (vR g 0)] []
  refine v_aload_n (pc := 0) rfl dX3_restore_0 ?_
  refine v_get (pc := 1) 7 fd_X3_281 (rfl) (by decide) rfl rfl dX3_restore_1 ?_
  refine v_if_ne (pc := 4) (tgt := 18) (by omega) dX3_restore_4 (by decide) (fun h1 => ?_) (fun h1 => ?_)
  · skip
    refine v_aload_n (pc := 18) rfl dX3_restore_18 ?_
    refine v_getR (pc := 19) (j := 4) fd_X3_10 (rfl) (by decide) rfl dX3_restore_19 ?_
    refine v_aload_n (pc := 22) rfl dX3_restore_22 ?_
    refine v_getR (pc := 23) (j := 20) fd_X3_19 (rfl) (by decide) rfl dX3_restore_23 ?_
    refine v_callVN (pc := 26) (rest := []) (c_X2_copyFrom (G := G) isS4 isS20 (by decide)) iok_X2_copyFrom wM_X3_245 (rfl) (by decide) (by decide) rfl (rmOk (by decide) (by decide)) ⟨Nat.le_of_ble_eq_true rfl, Nat.le_of_ble_eq_true rfl⟩ (Nat.le_of_ble_eq_true rfl) rfl dX3_restore_26 (fun v G2 hq => ?_) (fun _ _ h => h.elim)
    obtain ⟨rfl, hq2⟩ := hq
    refine v_stk (st' := []) rfl ?_
    have e5 : G2 4 5 = G 20 5 := hq2.1.2.1
    refine v_aload_n (pc := 29) rfl dX3_restore_29 ?_
    refine v_iconst (pc := 30) (z := 0) dX3_restore_30 ?_
    refine v_put (pc := 31) 8 pd_X3_276 (rfl) (by decide) rfl rfl dX3_restore_31 ?_
    refine v_aload_n (pc := 34) rfl dX3_restore_34 ?_
    refine v_getR (pc := 35) (j := 4) fd_X3_10 (rfl) (by decide) rfl dX3_restore_35 ?_
    refine v_get (pc := 38) 5 fd_X3_100 (rfl) (by decide) rfl rfl dX3_restore_38 ?_
    refine v_top (b := G2 4 5) (upd2_i (by decide)) ?_
    exact v_iret (pc := 41) E (⟨by rw [e5], by assumption, G2, hq2, rfl⟩) (Nat.le_of_ble_eq_true rfl) (Nat.le_of_ble_eq_true rfl) dX3_restore_41
  · skip
    exact v_throwW (pc := 7) (text := "there is no snapshot") xok_IS (by decide) E (⟨rfl, rfl, by assumption⟩) dX3_restore_7 dX3_restore_10 dX3_restore_11 dX3_restore_14 dX3_restore_17 (Nat.le_of_ble_eq_true rfl) (Nat.le_of_ble_eq_true rfl) (Nat.le_of_ble_eq_true rfl) (Nat.le_of_ble_eq_true rfl) (Nat.le_of_ble_eq_true rfl)
set_option maxHeartbeats 4000000 in
set_option maxRecDepth 100000 in
theorem c_X3_undo {g : GT} {G : Mem} (hp : PastI G) : Ctr g yX3_undo cX3_undo 1 (some FieldType.int) (rmL 1 1 6) [vR g 0] G (fun v G' => v = some (vI (G 0 8 - 1)) ∧ G 0 8 ≠ 0 ∧ CpS (upd2 G 0 8 (G 0 8 - 1)) G' 4 (G 3 (G 0 8 - 1)).toNat) (fun e G' => e = eIS ∧ G' = G ∧ G 0 8 = 0) := by
  refine ctr_of [some (vR g 0)] (by decide) (Nat.le_of_ble_eq_true rfl) rfl (fun γ E => ?_)
  show V γ g cX3_undo 1 RX3 (rmL 1 1 6) G 0 0 0 [some (vR g 0)] []
  have hpc := hp.1
  refine v_aload_n (pc := 0) rfl dX3_undo_0 ?_
  refine v_get (pc := 1) 8 fd_X3_276 (rfl) (by decide) rfl rfl dX3_undo_1 ?_
  refine v_if_ne (pc := 4) (tgt := 18) (by omega) dX3_undo_4 (by decide) (fun h1 => ?_) (fun h1 => ?_)
  · skip
    have hsp := (hp.2.1 (G 0 8 - 1) (by omega) (by omega)).2
    have hpr := (hp.2.1 (G 0 8 - 1) (by omega) (by omega)).1
    have hlt := isS_lt hsp
    refine v_aload_n (pc := 18) rfl dX3_undo_18 ?_
    refine v_dup (pc := 19) rfl dX3_undo_19 ?_
    refine v_get (pc := 20) 8 fd_X3_276 (rfl) (by decide) rfl rfl dX3_undo_20 ?_
    refine v_iconst (pc := 23) (z := 1) dX3_undo_23 ?_
    refine v_isub (pc := 24) dX3_undo_24 ?_
    refine v_put (pc := 25) 8 pd_X3_276 (rfl) (by decide) rfl rfl dX3_undo_25 ?_
    refine v_aload_n (pc := 28) rfl dX3_undo_28 ?_
    refine v_getR (pc := 29) (j := 4) fd_X3_10 (rfl) (by decide) rfl dX3_undo_29 ?_
    refine v_aload_n (pc := 32) rfl dX3_undo_32 ?_
    refine v_getR (pc := 33) (j := 3) fd_X3_22 (rfl) (by decide) rfl dX3_undo_33 ?_
    refine v_aload_n (pc := 36) rfl dX3_undo_36 ?_
    refine v_get (pc := 37) 8 fd_X3_276 (rfl) (by decide) rfl rfl dX3_undo_37 ?_
    refine v_top (b := (G 0 8) - 1) (upd2_s _ _ _ _) ?_
    refine v_aldq (pc := 40) (N := 8) rfl rfl (by decide) (by omega) (by decide) dX3_undo_40 ?_
    refine v_stk (st' := [vR g ((G 3 ((G 0 8) - 1)).toNat), vR g 4]) (by rw [show _ = _ from upd2_i (by decide)]) ?_
    refine v_callVN (pc := 41) (rest := []) (c_X2_copyFrom (G := upd2 G 0 8 (G 0 8 - 1)) isS4 hsp (by omega)) iok_X2_copyFrom wM_X3_245 (rfl) (by decide) (by decide) rfl (rmOk (by decide) (by decide)) ⟨Nat.le_of_ble_eq_true rfl, Nat.le_of_ble_eq_true rfl⟩ (Nat.le_of_ble_eq_true rfl) rfl dX3_undo_41 (fun v G2 hq => ?_) (fun _ _ h => h.elim)
    obtain ⟨rfl, hq2⟩ := hq
    refine v_stk (st' := []) rfl ?_
    have e8 : G2 0 8 = G 0 8 - 1 := (hq2.2.2.2 0 8 (by omega)).trans (upd2_s _ _ _ _)
    refine v_aload_n (pc := 44) rfl dX3_undo_44 ?_
    refine v_get (pc := 45) 8 fd_X3_276 (rfl) (by decide) rfl rfl dX3_undo_45 ?_
    exact v_iret (pc := 48) E (⟨by rw [e8], by assumption, hq2⟩) (Nat.le_of_ble_eq_true rfl) (Nat.le_of_ble_eq_true rfl) dX3_undo_48
  · skip
    exact v_throwW (pc := 7) (text := "there is nothing to undo") xok_IS (by decide) E (⟨rfl, rfl, by assumption⟩) dX3_undo_7 dX3_undo_10 dX3_undo_11 dX3_undo_14 dX3_undo_17 (Nat.le_of_ble_eq_true rfl) (Nat.le_of_ble_eq_true rfl) (Nat.le_of_ble_eq_true rfl) (Nat.le_of_ble_eq_true rfl) (Nat.le_of_ble_eq_true rfl)
set_option maxHeartbeats 4000000 in
set_option maxRecDepth 100000 in
theorem c_X3_type {g : GT} {G : Mem} {c : Int} (h_c : 0 ≤ c ∧ c < 65536) (hn : 0 ≤ G 2 1 ∧ G 2 1 ≤ 60) : Ctr g yX3_type cX3_type 2 (some FieldType.int) (rmL 1 1 6) [vR g 0, vI c] G (fun v G' => v = some (vI (G 2 1 + 1)) ∧ (32 ≤ c ∧ c ≤ 126) ∧ G 2 1 < 60 ∧ G' = upd2 (upd2 G 102 (G 2 1) c) 2 1 (G 2 1 + 1)) (fun e G' => G' = G ∧ ((e = eIA ∧ ¬ (32 ≤ c ∧ c ≤ 126)) ∨ (e = eIS ∧ (32 ≤ c ∧ c ≤ 126) ∧ 60 ≤ G 2 1))) := by
  refine ctr_of [some (vR g 0), some (vI c)] (by decide) (Nat.le_of_ble_eq_true rfl) rfl (fun γ E => ?_)
  show V γ g cX3_type 2 RX3 (rmL 1 1 6) G 0 0 0 [some (vR g 0), some (vI c)] []
  refine v_iload_n (pc := 0) rfl dX3_type_0 ?_
  refine v_bipush (pc := 1) (z := 32) rfl dX3_type_1 ?_
  refine v_icmp_lt (pc := 3) (tgt := 12) (by omega) dX3_type_3 (by decide) (fun h1 => ?_) (fun h1 => ?_)
  · skip
    exact v_throw (pc := 12) (text := "the character cannot be typed") xok_IA (by decide) E (⟨rfl, Or.inl ⟨rfl, by omega⟩⟩) dX3_type_12 dX3_type_15 dX3_type_16 dX3_type_18 dX3_type_21 (Nat.le_of_ble_eq_true rfl) (Nat.le_of_ble_eq_true rfl) (Nat.le_of_ble_eq_true rfl) (Nat.le_of_ble_eq_true rfl) (Nat.le_of_ble_eq_true rfl)
  · skip
    refine v_iload_n (pc := 6) rfl dX3_type_6 ?_
    refine v_bipush (pc := 7) (z := 126) rfl dX3_type_7 ?_
    refine v_icmp_le (pc := 9) (tgt := 22) (by omega) dX3_type_9 (by decide) (fun h2 => ?_) (fun h2 => ?_)
    · skip
      refine v_aload_n (pc := 22) rfl dX3_type_22 ?_
      refine v_getR (pc := 23) (j := 2) fd_X3_36 (rfl) (by decide) rfl dX3_type_23 ?_
      refine v_get (pc := 26) 1 fd_X3_230 (rfl) (by decide) rfl rfl dX3_type_26 ?_
      refine v_bipush (pc := 29) (z := 60) rfl dX3_type_29 ?_
      refine v_icmp_lt (pc := 31) (tgt := 44) (by omega) dX3_type_31 (by decide) (fun h3 => ?_) (fun h3 => ?_)
      · skip
        refine v_aload_n (pc := 44) rfl dX3_type_44 ?_
        refine v_getR (pc := 45) (j := 2) fd_X3_36 (rfl) (by decide) rfl dX3_type_45 ?_
        refine v_iload_n (pc := 48) rfl dX3_type_48 ?_
        refine v_callVN (pc := 49) (rest := []) (c_X1_append h_c (by omega)) iok_X1_append wM_X3_234 (rfl) (by decide) (by decide) rfl (rmOk (by decide) (by decide)) ⟨Nat.le_of_ble_eq_true rfl, Nat.le_of_ble_eq_true rfl⟩ (Nat.le_of_ble_eq_true rfl) rfl dX3_type_49 (fun v G' hq => ?_) (fun _ _ h => h.elim)
        obtain ⟨rfl, hG9⟩ := hq
        rw [hG9]
        refine v_stk (st' := []) rfl ?_
        refine v_aload_n (pc := 52) rfl dX3_type_52 ?_
        refine v_getR (pc := 53) (j := 2) fd_X3_36 (rfl) (by decide) rfl dX3_type_53 ?_
        refine v_get (pc := 56) 1 fd_X3_230 (rfl) (by decide) rfl rfl dX3_type_56 ?_
        refine v_top (b := G 2 1 + 1) (upd2_s _ _ _ _) ?_
        exact v_iret (pc := 59) E (⟨rfl, by omega, by omega, rfl⟩) (Nat.le_of_ble_eq_true rfl) (Nat.le_of_ble_eq_true rfl) dX3_type_59
      · skip
        exact v_throw (pc := 34) (text := "the script buffer is full") xok_IS (by decide) E (⟨rfl, Or.inr ⟨rfl, by omega, by omega⟩⟩) dX3_type_34 dX3_type_37 dX3_type_38 dX3_type_40 dX3_type_43 (Nat.le_of_ble_eq_true rfl) (Nat.le_of_ble_eq_true rfl) (Nat.le_of_ble_eq_true rfl) (Nat.le_of_ble_eq_true rfl) (Nat.le_of_ble_eq_true rfl)
    · skip
      exact v_throw (pc := 12) (text := "the character cannot be typed") xok_IA (by decide) E (⟨rfl, Or.inl ⟨rfl, by omega⟩⟩) dX3_type_12 dX3_type_15 dX3_type_16 dX3_type_18 dX3_type_21 (Nat.le_of_ble_eq_true rfl) (Nat.le_of_ble_eq_true rfl) (Nat.le_of_ble_eq_true rfl) (Nat.le_of_ble_eq_true rfl) (Nat.le_of_ble_eq_true rfl)
