set_option maxHeartbeats 4000000 in
set_option maxRecDepth 100000 in
theorem c_X3_requireDie {g : GT} {G : Mem} (hI : StI G 4) {d : Int} (h_d : -2147483648 ≤ d ∧ d < 2147483648) : Ctr g yX3_requireDie cX3_requireDie 2 (none : Option FieldType) (rmL 1 1 6) [vR g 0, vI d] G (fun v G' => v = none ∧ G' = G ∧ 0 ≤ d ∧ d < G 4 0) (fun e G' => e = eIB ∧ G' = G ∧ ¬ (0 ≤ d ∧ d < G 4 0)) := by
  refine ctr_of [some (vR g 0), some (vI d)] (by decide) (Nat.le_of_ble_eq_true rfl) rfl (fun γ E => ?_)
  show V γ g cX3_requireDie 2 RX3 (rmL 1 1 6) G 0 0 0 [some (vR g 0), some (vI d)] []
  have hn := StI_n hI
  have hc := StI_c hI
  have hy := StI_y hI
  refine v_aload_n (pc := 0) rfl dX3_requireDie_0 ?_
  refine v_getR (pc := 1) (j := 4) fd_X3_10 (rfl) (by decide) rfl dX3_requireDie_1 ?_
  refine v_iload_n (pc := 4) rfl dX3_requireDie_4 ?_
  refine v_callVN (pc := 5) (rest := []) (c_X2_hasDie isS4 hI h_d) iok_X2_hasDie wM_X3_347 (rfl) (by decide) (by decide) rfl (rmOk (by decide) (by decide)) ⟨Nat.le_of_ble_eq_true rfl, Nat.le_of_ble_eq_true rfl⟩ (Nat.le_of_ble_eq_true rfl) rfl dX3_requireDie_5 (fun v G' hq => ?_) (fun _ _ h => h.elim)
  obtain ⟨rfl, hG9⟩ := hq
  rw [hG9]
  refine v_stk (st' := [vI (bI (0 ≤ d ∧ d < G 4 0))]) rfl ?_
  refine v_if_ne (pc := 8) (tgt := 22) (bI_r _) dX3_requireDie_8 (by decide) (fun h1 => ?_) (fun h1 => ?_)
  · skip
    have h1 := bI_n0 h1
    exact v_vret (pc := 22) E (⟨rfl, rfl, by omega⟩) (Nat.le_of_ble_eq_true rfl) (Nat.le_of_ble_eq_true rfl) dX3_requireDie_22
  · skip
    have h1 := bI_eq0.mp h1
    exact v_throwW (pc := 11) (text := "no such die") xok_IB (by decide) E (⟨rfl, rfl, by omega⟩) dX3_requireDie_11 dX3_requireDie_14 dX3_requireDie_15 dX3_requireDie_18 dX3_requireDie_21 (Nat.le_of_ble_eq_true rfl) (Nat.le_of_ble_eq_true rfl) (Nat.le_of_ble_eq_true rfl) (Nat.le_of_ble_eq_true rfl) (Nat.le_of_ble_eq_true rfl)
set_option maxHeartbeats 4000000 in
set_option maxRecDepth 100000 in
theorem c_X3_dieValue {g : GT} {G : Mem} (hI : StI G 4) {d : Int} (h_d : -2147483648 ≤ d ∧ d < 2147483648) : Ctr g yX3_dieValue cX3_dieValue 2 (some FieldType.int) (rmL 2 1 6) [vR g 0, vI d] G (fun v G' => v = some (vI (G 5 d)) ∧ G' = G ∧ 0 ≤ d ∧ d < G 4 0) (fun e G' => e = eIB ∧ G' = G ∧ ¬ (0 ≤ d ∧ d < G 4 0)) := by
  refine ctr_of [some (vR g 0), some (vI d)] (by decide) (Nat.le_of_ble_eq_true rfl) rfl (fun γ E => ?_)
  show V γ g cX3_dieValue 2 RX3 (rmL 2 1 6) G 0 0 0 [some (vR g 0), some (vI d)] []
  have hn := StI_n hI
  have hc := StI_c hI
  have hy := StI_y hI
  refine v_aload_n (pc := 0) rfl dX3_dieValue_0 ?_
  refine v_iload_n (pc := 1) rfl dX3_dieValue_1 ?_
  refine v_callV (pc := 2) (rest := []) (c_X3_requireDie hI h_d) iok_X3_requireDie wM_X3_61 (rfl) (by decide) (by decide) rfl (rmOk (by decide) (by decide)) ⟨Nat.le_of_ble_eq_true rfl, Nat.le_of_ble_eq_true rfl⟩ (Nat.le_of_ble_eq_true rfl) rfl dX3_dieValue_2 (fun v G' hq => ?_) (fun e G' hx => vx_pass E hx (Nat.le_of_ble_eq_true rfl) (Nat.le_of_ble_eq_true rfl))
  obtain ⟨rfl, hG9, hd⟩ := hq
  rw [hG9]
  refine v_stk (st' := []) rfl ?_
  refine v_aload_n (pc := 5) rfl dX3_dieValue_5 ?_
  refine v_getR (pc := 6) (j := 4) fd_X3_10 (rfl) (by decide) rfl dX3_dieValue_6 ?_
  refine v_getR (pc := 9) (j := 5) fd_X3_65 (rfl) (by decide) rfl dX3_dieValue_9 ?_
  refine v_iload_n (pc := 12) rfl dX3_dieValue_12 ?_
  refine v_iald (pc := 13) (N := 5) rfl rfl (by decide) (by omega) (by decide) dX3_dieValue_13 ?_
  have r1 := S4_d hI (i := d) (by omega) (by omega)
  exact v_iret (pc := 14) E (⟨rfl, rfl, hd⟩) (Nat.le_of_ble_eq_true rfl) (Nat.le_of_ble_eq_true rfl) dX3_dieValue_14
set_option maxHeartbeats 4000000 in
set_option maxRecDepth 100000 in
theorem c_X3_coinWeight {g : GT} {G : Mem} (hI : StI G 4) {d : Int} (h_d : -2147483648 ≤ d ∧ d < 2147483648) : Ctr g yX3_coinWeight cX3_coinWeight 2 (some FieldType.int) (rmL 2 1 6) [vR g 0, vI d] G (fun v G' => v = some (vI (G 6 d)) ∧ G' = G ∧ 0 ≤ d ∧ d < G 4 0) (fun e G' => e = eIB ∧ G' = G ∧ ¬ (0 ≤ d ∧ d < G 4 0)) := by
  refine ctr_of [some (vR g 0), some (vI d)] (by decide) (Nat.le_of_ble_eq_true rfl) rfl (fun γ E => ?_)
  show V γ g cX3_coinWeight 2 RX3 (rmL 2 1 6) G 0 0 0 [some (vR g 0), some (vI d)] []
  have hn := StI_n hI
  have hc := StI_c hI
  have hy := StI_y hI
  refine v_aload_n (pc := 0) rfl dX3_coinWeight_0 ?_
  refine v_iload_n (pc := 1) rfl dX3_coinWeight_1 ?_
  refine v_callV (pc := 2) (rest := []) (c_X3_requireDie hI h_d) iok_X3_requireDie wM_X3_61 (rfl) (by decide) (by decide) rfl (rmOk (by decide) (by decide)) ⟨Nat.le_of_ble_eq_true rfl, Nat.le_of_ble_eq_true rfl⟩ (Nat.le_of_ble_eq_true rfl) rfl dX3_coinWeight_2 (fun v G' hq => ?_) (fun e G' hx => vx_pass E hx (Nat.le_of_ble_eq_true rfl) (Nat.le_of_ble_eq_true rfl))
  obtain ⟨rfl, hG9, hd⟩ := hq
  rw [hG9]
  refine v_stk (st' := []) rfl ?_
  refine v_aload_n (pc := 5) rfl dX3_coinWeight_5 ?_
  refine v_getR (pc := 6) (j := 4) fd_X3_10 (rfl) (by decide) rfl dX3_coinWeight_6 ?_
  refine v_getR (pc := 9) (j := 6) fd_X3_69 (rfl) (by decide) rfl dX3_coinWeight_9 ?_
  refine v_iload_n (pc := 12) rfl dX3_coinWeight_12 ?_
  refine v_iald (pc := 13) (N := 5) rfl rfl (by decide) (by omega) (by decide) dX3_coinWeight_13 ?_
  have r1 := S4_d hI (i := d) (by omega) (by omega)
  exact v_iret (pc := 14) E (⟨rfl, rfl, hd⟩) (Nat.le_of_ble_eq_true rfl) (Nat.le_of_ble_eq_true rfl) dX3_coinWeight_14
set_option maxHeartbeats 4000000 in
set_option maxRecDepth 100000 in
theorem c_X3_wear {g : GT} {G : Mem} (hI : StI G 4) {d : Int} (h_d : -2147483648 ≤ d ∧ d < 2147483648) : Ctr g yX3_wear cX3_wear 2 (some FieldType.int) (rmL 2 1 6) [vR g 0, vI d] G (fun v G' => v = some (vI (G 7 d)) ∧ G' = G ∧ 0 ≤ d ∧ d < G 4 0) (fun e G' => e = eIB ∧ G' = G ∧ ¬ (0 ≤ d ∧ d < G 4 0)) := by
  refine ctr_of [some (vR g 0), some (vI d)] (by decide) (Nat.le_of_ble_eq_true rfl) rfl (fun γ E => ?_)
  show V γ g cX3_wear 2 RX3 (rmL 2 1 6) G 0 0 0 [some (vR g 0), some (vI d)] []
  have hn := StI_n hI
  have hc := StI_c hI
  have hy := StI_y hI
  refine v_aload_n (pc := 0) rfl dX3_wear_0 ?_
  refine v_iload_n (pc := 1) rfl dX3_wear_1 ?_
  refine v_callV (pc := 2) (rest := []) (c_X3_requireDie hI h_d) iok_X3_requireDie wM_X3_61 (rfl) (by decide) (by decide) rfl (rmOk (by decide) (by decide)) ⟨Nat.le_of_ble_eq_true rfl, Nat.le_of_ble_eq_true rfl⟩ (Nat.le_of_ble_eq_true rfl) rfl dX3_wear_2 (fun v G' hq => ?_) (fun e G' hx => vx_pass E hx (Nat.le_of_ble_eq_true rfl) (Nat.le_of_ble_eq_true rfl))
  obtain ⟨rfl, hG9, hd⟩ := hq
  rw [hG9]
  refine v_stk (st' := []) rfl ?_
  refine v_aload_n (pc := 5) rfl dX3_wear_5 ?_
  refine v_getR (pc := 6) (j := 4) fd_X3_10 (rfl) (by decide) rfl dX3_wear_6 ?_
  refine v_getR (pc := 9) (j := 7) fd_X3_72 (rfl) (by decide) rfl dX3_wear_9 ?_
  refine v_iload_n (pc := 12) rfl dX3_wear_12 ?_
  refine v_iald (pc := 13) (N := 5) rfl rfl (by decide) (by omega) (by decide) dX3_wear_13 ?_
  have r1 := S4_d hI (i := d) (by omega) (by omega)
  exact v_iret (pc := 14) E (⟨rfl, rfl, hd⟩) (Nat.le_of_ble_eq_true rfl) (Nat.le_of_ble_eq_true rfl) dX3_wear_14
set_option maxHeartbeats 4000000 in
set_option maxRecDepth 100000 in
theorem c_X3_nextGrade {g : GT} {G : Mem} (hI : StI G 4) {d : Int} (h_d : -2147483648 ≤ d ∧ d < 2147483648) : Ctr g yX3_nextGrade cX3_nextGrade 2 (some FieldType.char) (rmL 2 2 12) [vR g 0, vI d] G (fun v G' => v = some (vI (65 + gow (G 7 d))) ∧ G' = G ∧ (0 ≤ d ∧ d < G 4 0) ∧ G 7 d < 30) (fun e G' => G' = G ∧ ((e = eIB ∧ ¬ (0 ≤ d ∧ d < G 4 0)) ∨ (e = eIS ∧ (0 ≤ d ∧ d < G 4 0) ∧ 30 ≤ G 7 d))) := by
  refine ctr_of [some (vR g 0), some (vI d)] (by decide) (Nat.le_of_ble_eq_true rfl) rfl (fun γ E => ?_)
  show V γ g cX3_nextGrade 2 RX3 (rmL 2 2 12) G 0 0 0 [some (vR g 0), some (vI d)] []
  have hn := StI_n hI
  have hc := StI_c hI
  have hy := StI_y hI
  refine v_aload_n (pc := 0) rfl dX3_nextGrade_0 ?_
  refine v_iload_n (pc := 1) rfl dX3_nextGrade_1 ?_
  refine v_callV (pc := 2) (rest := []) (c_X3_requireDie hI h_d) iok_X3_requireDie wM_X3_61 (rfl) (by decide) (by decide) rfl (rmOk (by decide) (by decide)) ⟨Nat.le_of_ble_eq_true rfl, Nat.le_of_ble_eq_true rfl⟩ (Nat.le_of_ble_eq_true rfl) rfl dX3_nextGrade_2 (fun v G' hq => ?_) (fun e G' hx => vx_pass E (show _ ∧ _ from ⟨hx.2.1, Or.inl ⟨hx.1, hx.2.2⟩⟩) (Nat.le_of_ble_eq_true rfl) (Nat.le_of_ble_eq_true rfl))
  obtain ⟨rfl, hG9, hd⟩ := hq
  rw [hG9]
  refine v_stk (st' := []) rfl ?_
  refine v_aload_n (pc := 5) rfl dX3_nextGrade_5 ?_
  refine v_getR (pc := 6) (j := 4) fd_X3_10 (rfl) (by decide) rfl dX3_nextGrade_6 ?_
  refine v_getR (pc := 9) (j := 7) fd_X3_72 (rfl) (by decide) rfl dX3_nextGrade_9 ?_
  refine v_iload_n (pc := 12) rfl dX3_nextGrade_12 ?_
  refine v_iald (pc := 13) (N := 5) rfl rfl (by decide) (by omega) (by decide) dX3_nextGrade_13 ?_
  have r1 := S4_d hI (i := d) (by omega) (by omega)
  refine v_bipush (pc := 14) (z := 30) rfl dX3_nextGrade_14 ?_
  refine v_icmp_lt (pc := 16) (tgt := 29) (by omega) dX3_nextGrade_16 (by decide) (fun h2 => ?_) (fun h2 => ?_)
  · skip
    refine v_bipush (pc := 29) (z := 65) rfl dX3_nextGrade_29 ?_
    refine v_aload_n (pc := 31) rfl dX3_nextGrade_31 ?_
    refine v_getR (pc := 32) (j := 4) fd_X3_10 (rfl) (by decide) rfl dX3_nextGrade_32 ?_
    refine v_getR (pc := 35) (j := 7) fd_X3_72 (rfl) (by decide) rfl dX3_nextGrade_35 ?_
    refine v_iload_n (pc := 38) rfl dX3_nextGrade_38 ?_
    refine v_iald (pc := 39) (N := 5) rfl rfl (by decide) (by omega) (by decide) dX3_nextGrade_39 ?_
    have r3 := S4_d hI (i := d) (by omega) (by omega)
    refine v_callS (pc := 40) (rest := [vI 65]) (c_X3_gradeOfWear (G := G) (w := G 7 d) (by omega)) sok_X3_gradeOfWear wM_X3_82 (rmOk (by decide) (by decide)) ⟨Nat.le_of_ble_eq_true rfl, Nat.le_of_ble_eq_true rfl⟩ (Nat.le_of_ble_eq_true rfl) rfl dX3_nextGrade_40 (fun v G' hq => ?_) (fun _ _ h => h.elim)
    obtain ⟨rfl, hG9⟩ := hq
    rw [hG9]
    refine v_stk (st' := [vI (gow (G 7 d)), vI 65]) rfl ?_
    have hgo := gow_r (G 7 d)
    refine v_iadd (pc := 43) dX3_nextGrade_43 ?_
    refine v_i2c (pc := 44) dX3_nextGrade_44 ?_
    refine v_top (b := 65 + (gow (G 7 d))) (by omega) ?_
    exact v_cret (pc := 45) E (by omega) (⟨rfl, rfl, hd, by omega⟩) (Nat.le_of_ble_eq_true rfl) (Nat.le_of_ble_eq_true rfl) dX3_nextGrade_45
  · skip
    exact v_throw (pc := 19) (text := "the die is worn out") xok_IS (by decide) E (⟨rfl, Or.inr ⟨rfl, hd, by omega⟩⟩) dX3_nextGrade_19 dX3_nextGrade_22 dX3_nextGrade_23 dX3_nextGrade_25 dX3_nextGrade_28 (Nat.le_of_ble_eq_true rfl) (Nat.le_of_ble_eq_true rfl) (Nat.le_of_ble_eq_true rfl) (Nat.le_of_ble_eq_true rfl) (Nat.le_of_ble_eq_true rfl)
set_option maxHeartbeats 4000000 in
set_option maxRecDepth 100000 in
theorem c_X3_requireGrade {g : GT} {G : Mem} {c : Int} (h_c : 0 ≤ c ∧ c < 65536) : Ctr g yX3_requireGrade cX3_requireGrade 1 (some FieldType.int) (rmL 0 1 6) [vI c] G (fun v G' => v = some (vI (c - 65)) ∧ G' = G ∧ 65 ≤ c ∧ c ≤ 67) (fun e G' => e = eIA ∧ G' = G ∧ ¬ (65 ≤ c ∧ c ≤ 67)) := by
  refine ctr_of [some (vI c)] (by decide) (Nat.le_of_ble_eq_true rfl) rfl (fun γ E => ?_)
  show V γ g cX3_requireGrade 1 RX3 (rmL 0 1 6) G 0 0 0 [some (vI c)] []
  refine v_iload_n (pc := 0) rfl dX3_requireGrade_0 ?_
  refine v_bipush (pc := 1) (z := 65) rfl dX3_requireGrade_1 ?_
  refine v_icmp_lt (pc := 3) (tgt := 12) (by omega) dX3_requireGrade_3 (by decide) (fun h1 => ?_) (fun h1 => ?_)
  · skip
    exact v_throwW (pc := 12) (text := "no such grade") xok_IA (by decide) E (⟨rfl, rfl, by omega⟩) dX3_requireGrade_12 dX3_requireGrade_15 dX3_requireGrade_16 dX3_requireGrade_19 dX3_requireGrade_22 (Nat.le_of_ble_eq_true rfl) (Nat.le_of_ble_eq_true rfl) (Nat.le_of_ble_eq_true rfl) (Nat.le_of_ble_eq_true rfl) (Nat.le_of_ble_eq_true rfl)
  · skip
    refine v_iload_n (pc := 6) rfl dX3_requireGrade_6 ?_
    refine v_bipush (pc := 7) (z := 67) rfl dX3_requireGrade_7 ?_
    refine v_icmp_le (pc := 9) (tgt := 23) (by omega) dX3_requireGrade_9 (by decide) (fun h2 => ?_) (fun h2 => ?_)
    · skip
      refine v_iload_n (pc := 23) rfl dX3_requireGrade_23 ?_
      refine v_bipush (pc := 24) (z := 65) rfl dX3_requireGrade_24 ?_
      refine v_isub (pc := 26) dX3_requireGrade_26 ?_
      exact v_iret (pc := 27) E (⟨rfl, rfl, by omega⟩) (Nat.le_of_ble_eq_true rfl) (Nat.le_of_ble_eq_true rfl) dX3_requireGrade_27
    · skip
      exact v_throwW (pc := 12) (text := "no such grade") xok_IA (by decide) E (⟨rfl, rfl, by omega⟩) dX3_requireGrade_12 dX3_requireGrade_15 dX3_requireGrade_16 dX3_requireGrade_19 dX3_requireGrade_22 (Nat.le_of_ble_eq_true rfl) (Nat.le_of_ble_eq_true rfl) (Nat.le_of_ble_eq_true rfl) (Nat.le_of_ble_eq_true rfl) (Nat.le_of_ble_eq_true rfl)
set_option maxHeartbeats 4000000 in
set_option maxRecDepth 100000 in
theorem c_X3_coinsOfGrade {g : GT} {G : Mem} (hI : StI G 4) {c : Int} (h_c : 0 ≤ c ∧ c < 65536) : Ctr g yX3_coinsOfGrade cX3_coinsOfGrade 2 (some FieldType.int) (rmL 1 1 6) [vR g 0, vI c] G (fun v G' => v = some (vI (cntE (G 4 5) (G 11) (c - 65))) ∧ G' = G ∧ 65 ≤ c ∧ c ≤ 67) (fun e G' => e = eIA ∧ G' = G ∧ ¬ (65 ≤ c ∧ c ≤ 67)) := by
  refine ctr_of [some (vR g 0), some (vI c)] (by decide) (Nat.le_of_ble_eq_true rfl) rfl (fun γ E => ?_)
  show V γ g cX3_coinsOfGrade 2 RX3 (rmL 1 1 6) G 0 0 0 [some (vR g 0), some (vI c)] []
  have hn := StI_n hI
  have hc := StI_c hI
  have hy := StI_y hI
  refine v_aload_n (pc := 0) rfl dX3_coinsOfGrade_0 ?_
  refine v_getR (pc := 1) (j := 4) fd_X3_10 (rfl) (by decide) rfl dX3_coinsOfGrade_1 ?_
  refine v_iload_n (pc := 4) rfl dX3_coinsOfGrade_4 ?_
  refine v_callS (pc := 5) (rest := [vR g 4]) (c_X3_requireGrade h_c) sok_X3_requireGrade wM_X3_119 (rmOk (by decide) (by decide)) ⟨Nat.le_of_ble_eq_true rfl, Nat.le_of_ble_eq_true rfl⟩ (Nat.le_of_ble_eq_true rfl) rfl dX3_coinsOfGrade_5 (fun v G' hq => ?_) (fun e G' hx => vx_pass E hx (Nat.le_of_ble_eq_true rfl) (Nat.le_of_ble_eq_true rfl))
  obtain ⟨rfl, hG9, hd⟩ := hq
  rw [hG9]
  refine v_stk (st' := [vI (c - 65), vR g 4]) rfl ?_
  refine v_callVN (pc := 8) (rest := []) (c_X2_coinsGraded isS4 hI (d := c - 65) (by omega)) iok_X2_coinsGraded wM_X3_123 (rfl) (by decide) (by decide) rfl (rmOk (by decide) (by decide)) ⟨Nat.le_of_ble_eq_true rfl, Nat.le_of_ble_eq_true rfl⟩ (Nat.le_of_ble_eq_true rfl) rfl dX3_coinsOfGrade_8 (fun v G' hq => ?_) (fun _ _ h => h.elim)
  obtain ⟨rfl, hG9⟩ := hq
  rw [hG9]
  refine v_stk (st' := [vI (cntE (G 4 5) (G 11) (c - 65))]) rfl ?_
  exact v_iret (pc := 11) E (⟨rfl, rfl, hd⟩) (Nat.le_of_ble_eq_true rfl) (Nat.le_of_ble_eq_true rfl) dX3_coinsOfGrade_11
set_option maxHeartbeats 4000000 in
set_option maxRecDepth 100000 in
theorem c_X3_requireAmount {g : GT} {G : Mem} {a : Int} (h_a : -2147483648 ≤ a ∧ a < 2147483648) : Ctr g yX3_requireAmount cX3_requireAmount 1 (none : Option FieldType) (rmL 1 1 6) [vI a] G (fun v G' => v = none ∧ G' = G ∧ 1 ≤ a ∧ a ≤ 99) (fun e G' => e = eIA ∧ G' = G ∧ ¬ (1 ≤ a ∧ a ≤ 99)) := by
  refine ctr_of [some (vI a)] (by decide) (Nat.le_of_ble_eq_true rfl) rfl (fun γ E => ?_)
  show V γ g cX3_requireAmount 1 RX3 (rmL 1 1 6) G 0 0 0 [some (vI a)] []
  refine v_iload_n (pc := 0) rfl dX3_requireAmount_0 ?_
  refine v_callS (pc := 1) (rest := []) (c_X3_isAmount h_a) sok_X3_isAmount wM_X3_309 (rmOk (by decide) (by decide)) ⟨Nat.le_of_ble_eq_true rfl, Nat.le_of_ble_eq_true rfl⟩ (Nat.le_of_ble_eq_true rfl) rfl dX3_requireAmount_1 (fun v G' hq => ?_) (fun _ _ h => h.elim)
  obtain ⟨rfl, hG9⟩ := hq
  rw [hG9]
  refine v_stk (st' := [vI (bI (1 ≤ a ∧ a ≤ 99))]) rfl ?_
  refine v_if_ne (pc := 4) (tgt := 18) (bI_r _) dX3_requireAmount_4 (by decide) (fun h1 => ?_) (fun h1 => ?_)
  · skip
    have h1 := bI_n0 h1
    exact v_vret (pc := 18) E (⟨rfl, rfl, by omega⟩) (Nat.le_of_ble_eq_true rfl) (Nat.le_of_ble_eq_true rfl) dX3_requireAmount_18
  · skip
    have h1 := bI_eq0.mp h1
    exact v_throwW (pc := 7) (text := "the amount is out of its range") xok_IA (by decide) E (⟨rfl, rfl, by omega⟩) dX3_requireAmount_7 dX3_requireAmount_10 dX3_requireAmount_11 dX3_requireAmount_14 dX3_requireAmount_17 (Nat.le_of_ble_eq_true rfl) (Nat.le_of_ble_eq_true rfl) (Nat.le_of_ble_eq_true rfl) (Nat.le_of_ble_eq_true rfl) (Nat.le_of_ble_eq_true rfl)
