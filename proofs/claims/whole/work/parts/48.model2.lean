set_option maxHeartbeats 4000000 in
set_option maxRecDepth 100000 in
theorem c_X4_nextGrade {g : GT} {G : Mem} (hM : MoI (G 107)) {d : Int} (h_d : -2147483648 ≤ d ∧ d < 2147483648) : Ctr g yX4_nextGrade cX4_nextGrade 3 (some FieldType.char) (rmL 2 0 0) [vR g 106, vI d] G (QR G (fun k r => (k = 0 ∧ (0 ≤ d ∧ d < G 107 0) ∧ G 107 (9 + 3 * d + 2) ≠ 30 ∧ r = 65 + gow (G 107 (9 + 3 * d + 2))) ∨ (k = 1 ∧ ¬ (0 ≤ d ∧ d < G 107 0)) ∨ (k = 2 ∧ (0 ≤ d ∧ d < G 107 0) ∧ G 107 (9 + 3 * d + 2) = 30))) NoX := by
  refine ctr_of [some (vR g 106), some (vI d), none] (by decide) (Nat.le_of_ble_eq_true rfl) rfl (fun γ E => ?_)
  show V γ g cX4_nextGrade 3 RX4 (rmL 2 0 0) G 0 0 0 [some (vR g 106), some (vI d), none] []
  have hn := MoI_n hM
  have hc := MoI_c hM
  have hy := MoI_y hM
  refine v_aload_n (pc := 0) rfl dX4_nextGrade_0 ?_
  refine v_iconst (pc := 1) (z := 0) dX4_nextGrade_1 ?_
  refine v_put (pc := 2) 8 pd_X4_54 (rfl) (by decide) rfl rfl dX4_nextGrade_2 ?_
  refine v_aload_n (pc := 5) rfl dX4_nextGrade_5 ?_
  refine v_iload_n (pc := 6) rfl dX4_nextGrade_6 ?_
  refine v_callV (pc := 7) (rest := []) (c_X4_isDie (G := upd2 G 106 8 0) hM h_d) iok_X4_isDie wM_X4_96 (rfl) (by decide) (by decide) rfl (rmOk (by decide) (by decide)) ⟨Nat.le_of_ble_eq_true rfl, Nat.le_of_ble_eq_true rfl⟩ (Nat.le_of_ble_eq_true rfl) rfl dX4_nextGrade_7 (fun v G' hq => ?_) (fun _ _ h => h.elim)
  obtain ⟨rfl, hG9⟩ := hq
  rw [hG9]
  refine v_stk (st' := [vI (bI (0 ≤ d ∧ d < G 107 0))]) rfl ?_
  refine v_if_ne (pc := 10) (tgt := 20) (bI_r _) dX4_nextGrade_10 (by decide) (fun bq1 => ?_) (fun bq1 => ?_)
  · skip
    have bq1 := bI_n0 bq1
    refine v_aload_n (pc := 20) rfl dX4_nextGrade_20 ?_
    refine v_getR (pc := 21) (j := 107) fd_X4_9 (rfl) (by decide) rfl dX4_nextGrade_21 ?_
    have hdd : 0 ≤ d ∧ d < G 107 0 := by assumption
    have rr := MoI_d hM hdd.1 hdd.2
    refine v_iload_n (pc := 24) rfl dX4_nextGrade_24 ?_
    refine v_callS (pc := 25) (rest := [vR g 107]) (c_X4_dieAt) sok_X4_dieAt wM_X4_64 (rmOk (by decide) (by decide)) ⟨Nat.le_of_ble_eq_true rfl, Nat.le_of_ble_eq_true rfl⟩ (Nat.le_of_ble_eq_true rfl) rfl dX4_nextGrade_25 (fun v G' hq => ?_) (fun _ _ h => h.elim)
    obtain ⟨rfl, hG9⟩ := hq
    rw [hG9]
    refine v_stk (st' := [vI (9 + 3 * d), vR g 107]) rfl ?_
    refine v_iconst (pc := 28) (z := 2) dX4_nextGrade_28 ?_
    refine v_iadd (pc := 29) dX4_nextGrade_29 ?_
    refine v_iald (pc := 30) (N := 144) rfl rfl (by decide) (by omega) (by decide) dX4_nextGrade_30 ?_
    refine v_top (b := G 107 ((9 + 3 * d) + 2)) (upd2_i (by decide)) ?_
    have r2 := MoI_d hM (i := d) (by omega) (by omega)
    refine v_istore_n (pc := 31) (by decide) rfl dX4_nextGrade_31 ?_
    refine v_iload_n (pc := 32) rfl dX4_nextGrade_32 ?_
    refine v_bipush (pc := 33) (z := 30) rfl dX4_nextGrade_33 ?_
    refine v_icmp_ne (pc := 35) (tgt := 47) (by omega) dX4_nextGrade_35 (by decide) (fun bq3 => ?_) (fun bq3 => ?_)
    · skip
      refine v_bipush (pc := 47) (z := 65) rfl dX4_nextGrade_47 ?_
      refine v_iload_n (pc := 49) rfl dX4_nextGrade_49 ?_
      refine v_callS (pc := 50) (rest := [vI 65]) (c_X4_gradeBy (by omega)) sok_X4_gradeBy wM_X4_108 (rmOk (by decide) (by decide)) ⟨Nat.le_of_ble_eq_true rfl, Nat.le_of_ble_eq_true rfl⟩ (Nat.le_of_ble_eq_true rfl) rfl dX4_nextGrade_50 (fun v G' hq => ?_) (fun _ _ h => h.elim)
      obtain ⟨rfl, hG9⟩ := hq
      rw [hG9]
      refine v_stk (st' := [vI (gow (G 107 ((9 + 3 * d) + 2))), vI 65]) rfl ?_
      have hgo := gow_r (G 107 (9 + 3 * d + 2))
      refine v_iadd (pc := 53) dX4_nextGrade_53 ?_
      refine v_i2c (pc := 54) dX4_nextGrade_54 ?_
      refine v_top (b := 65 + (gow (G 107 ((9 + 3 * d) + 2)))) (by omega) ?_
      exact v_cret (pc := 55) E (by omega) (⟨_, 0, rfl, Or.inl ⟨rfl, hdd, by assumption, rfl⟩, by decide, rfl⟩) (Nat.le_of_ble_eq_true rfl) (Nat.le_of_ble_eq_true rfl) dX4_nextGrade_55
    · skip
      refine v_aload_n (pc := 38) rfl dX4_nextGrade_38 ?_
      refine v_iconst (pc := 39) (z := 2) dX4_nextGrade_39 ?_
      refine v_callV (pc := 40) (rest := []) (c_X4_throwing) iok_X4_throwing wM_X4_81 (rfl) (by decide) (by decide) rfl (rmOk (by decide) (by decide)) ⟨Nat.le_of_ble_eq_true rfl, Nat.le_of_ble_eq_true rfl⟩ (Nat.le_of_ble_eq_true rfl) rfl dX4_nextGrade_40 (fun v G' hq => ?_) (fun _ _ h => h.elim)
      obtain ⟨rfl, hG9⟩ := hq
      rw [hG9]
      refine v_stk (st' := [vI (-1)]) rfl ?_
      refine v_i2c (pc := 43) dX4_nextGrade_43 ?_
      refine v_goto (pc := 44) (tgt := 55) dX4_nextGrade_44 (by decide) ?_
      exact v_cret (pc := 55) E (by omega) (⟨_, 2, rfl, Or.inr (Or.inr ⟨rfl, hdd, by assumption⟩), by decide, upd2_u G 106 8 0 2⟩) (Nat.le_of_ble_eq_true rfl) (Nat.le_of_ble_eq_true rfl) dX4_nextGrade_55
  · skip
    have bq1 := bI_eq0.mp bq1
    refine v_aload_n (pc := 13) rfl dX4_nextGrade_13 ?_
    refine v_iconst (pc := 14) (z := 1) dX4_nextGrade_14 ?_
    refine v_callV (pc := 15) (rest := []) (c_X4_throwing) iok_X4_throwing wM_X4_81 (rfl) (by decide) (by decide) rfl (rmOk (by decide) (by decide)) ⟨Nat.le_of_ble_eq_true rfl, Nat.le_of_ble_eq_true rfl⟩ (Nat.le_of_ble_eq_true rfl) rfl dX4_nextGrade_15 (fun v G' hq => ?_) (fun _ _ h => h.elim)
    obtain ⟨rfl, hG9⟩ := hq
    rw [hG9]
    refine v_stk (st' := [vI (-1)]) rfl ?_
    refine v_i2c (pc := 18) dX4_nextGrade_18 ?_
    exact v_cret (pc := 19) E (by omega) (⟨_, 1, rfl, Or.inr (Or.inl ⟨rfl, by assumption⟩), by decide, upd2_u G 106 8 0 1⟩) (Nat.le_of_ble_eq_true rfl) (Nat.le_of_ble_eq_true rfl) dX4_nextGrade_19
set_option maxHeartbeats 4000000 in
set_option maxRecDepth 100000 in
theorem c_X4_dieByWear {g : GT} {G : Mem} (hM : MoI (G 107)) {x : Int} (h_x : -2147483648 ≤ x ∧ x < 2147483648) : Ctr g yX4_dieByWear cX4_dieByWear 6 (some FieldType.int) (rmL 2 0 0) [vR g 106, vI x] G (QR G (fun k r => (k = 0 ∧ (0 ≤ r ∧ r < G 107 0) ∧ ahd (G 107 0) (fun i => G 107 (9 + 3 * i + 2)) (fun i => G 107 (9 + 3 * i))  r = x ∧ ∀ e, 0 ≤ e → e < r → ahd (G 107 0) (fun i => G 107 (9 + 3 * i + 2)) (fun i => G 107 (9 + 3 * i))  e ≠ x) ∨ (k = 1 ∧ ∀ e, 0 ≤ e → e < G 107 0 → ahd (G 107 0) (fun i => G 107 (9 + 3 * i + 2)) (fun i => G 107 (9 + 3 * i))  e ≠ x))) NoX := by
  refine ctr_of [some (vR g 106), some (vI x), none, none, none, none] (by decide) (Nat.le_of_ble_eq_true rfl) rfl (fun γ E => ?_)
  show V γ g cX4_dieByWear 6 RX4 (rmL 2 0 0) G 0 0 0 [some (vR g 106), some (vI x), none, none, none, none] []
  have hn := MoI_n hM
  have hc := MoI_c hM
  have hy := MoI_y hM
  refine v_aload_n (pc := 0) rfl dX4_dieByWear_0 ?_
  refine v_iconst (pc := 1) (z := 0) dX4_dieByWear_1 ?_
  refine v_put (pc := 2) 8 pd_X4_54 (rfl) (by decide) rfl rfl dX4_dieByWear_2 ?_
  refine v_iconst (pc := 5) (z := 0) dX4_dieByWear_5 ?_
  refine v_istore_n (pc := 6) (by decide) rfl dX4_dieByWear_6 ?_
  have lp7 : ∀ (m7 : Nat) (i : Int), (0 ≤ i ∧ i ≤ G 107 0) → (∀ e, 0 ≤ e → e < i → ahd (G 107 0) (fun i => G 107 (9 + 3 * i + 2)) (fun i => G 107 (9 + 3 * i))  e ≠ x) → ((G 107 0 - i).toNat) < m7 → V γ g cX4_dieByWear 6 RX4 (rmL 2 0 0) (upd2 G 106 8 0) 0 0 7 [some (vR g 106), some (vI x), some (vI i), none, none, none] [] := by
    intro m7
    induction m7 with
    | zero => intro i; intros; omega
    | succ m7 ih7 =>
      intro i h0 hf hm7
      refine v_iload_n (pc := 7) rfl dX4_dieByWear_7 ?_
      refine v_aload_n (pc := 8) rfl dX4_dieByWear_8 ?_
      refine v_getR (pc := 9) (j := 107) fd_X4_9 (rfl) (by decide) rfl dX4_dieByWear_9 ?_
      refine v_iconst (pc := 12) (z := 0) dX4_dieByWear_12 ?_
      refine v_iald (pc := 13) (N := 144) rfl rfl (by decide) (by omega) (by decide) dX4_dieByWear_13 ?_
      refine v_top (b := G 107 0) (upd2_i (by decide)) ?_
      refine v_icmp_ge (pc := 14) (tgt := 118) (by omega) dX4_dieByWear_14 (by decide) (fun bq1 => ?_) (fun bq1 => ?_)
      · skip
        refine v_aload_n (pc := 118) rfl dX4_dieByWear_118 ?_
        refine v_iconst (pc := 119) (z := 1) dX4_dieByWear_119 ?_
        refine v_callV (pc := 120) (rest := []) (c_X4_throwing) iok_X4_throwing wM_X4_81 (rfl) (by decide) (by decide) rfl (rmOk (by decide) (by decide)) ⟨Nat.le_of_ble_eq_true rfl, Nat.le_of_ble_eq_true rfl⟩ (Nat.le_of_ble_eq_true rfl) rfl dX4_dieByWear_120 (fun v G' hq => ?_) (fun _ _ h => h.elim)
        obtain ⟨rfl, hG9⟩ := hq
        rw [hG9]
        refine v_stk (st' := [vI (-1)]) rfl ?_
        exact v_iret (pc := 123) E (⟨_, 1, rfl, Or.inr ⟨rfl, fun e a c => hf e a (by omega)⟩, by decide, upd2_u G 106 8 0 1⟩) (Nat.le_of_ble_eq_true rfl) (Nat.le_of_ble_eq_true rfl) dX4_dieByWear_123
      · skip
        refine v_iconst (pc := 17) (z := 0) dX4_dieByWear_17 ?_
        refine v_istore_n (pc := 18) (by decide) rfl dX4_dieByWear_18 ?_
        refine v_iconst (pc := 19) (z := 0) dX4_dieByWear_19 ?_
        refine v_istore (pc := 20) (by decide) rfl dX4_dieByWear_20 ?_
        have lp22 : ∀ (m22 : Nat) (o : Int) (c : Int), (0 ≤ o ∧ o ≤ G 107 0) → (c = sz o (fun o => if G 107 (9 + 3 * i + 2) < G 107 (9 + 3 * o + 2) ∨ (G 107 (9 + 3 * o + 2) = G 107 (9 + 3 * i + 2) ∧ G 107 (9 + 3 * i) < G 107 (9 + 3 * o)) then 1 else 0)) → ((G 107 0 - o).toNat) < m22 → V γ g cX4_dieByWear 6 RX4 (rmL 2 0 0) (upd2 G 106 8 0) 0 0 22 [some (vR g 106), some (vI x), some (vI i), some (vI c), some (vI o), none] [] := by
          intro m22
          induction m22 with
          | zero => intro o c; intros; omega
          | succ m22 ih22 =>
            intro o c g0 hs hm22
            refine v_iload (pc := 22) rfl dX4_dieByWear_22 ?_
            refine v_aload_n (pc := 24) rfl dX4_dieByWear_24 ?_
            refine v_getR (pc := 25) (j := 107) fd_X4_9 (rfl) (by decide) rfl dX4_dieByWear_25 ?_
            refine v_iconst (pc := 28) (z := 0) dX4_dieByWear_28 ?_
            refine v_iald (pc := 29) (N := 144) rfl rfl (by decide) (by omega) (by decide) dX4_dieByWear_29 ?_
            refine v_top (b := G 107 0) (upd2_i (by decide)) ?_
            refine v_icmp_ge (pc := 30) (tgt := 105) (by omega) dX4_dieByWear_30 (by decide) (fun bq2 => ?_) (fun bq2 => ?_)
            · skip
              have hcr := sz_cnt (n := o) (p := fun o => G 107 (9 + 3 * i + 2) < G 107 (9 + 3 * o + 2) ∨ (G 107 (9 + 3 * o + 2) = G 107 (9 + 3 * i + 2) ∧ G 107 (9 + 3 * i) < G 107 (9 + 3 * o))) (fun k => inferInstance) g0.1
              rw [← hs] at hcr
              have hah : ahd (G 107 0) (fun i => G 107 (9 + 3 * i + 2)) (fun i => G 107 (9 + 3 * i))  i = c := by rw [hs, show o = G 107 0 by omega]; rfl
              refine v_iload_n (pc := 105) rfl dX4_dieByWear_105 ?_
              refine v_iload_n (pc := 106) rfl dX4_dieByWear_106 ?_
              refine v_icmp_ne (pc := 107) (tgt := 112) (by omega) dX4_dieByWear_107 (by decide) (fun bq3 => ?_) (fun bq3 => ?_)
              · skip
                refine v_iinc (pc := 112) (y := 1) rfl (by decide) rfl dX4_dieByWear_112 ?_
                refine v_goto (pc := 115) (tgt := 7) dX4_dieByWear_115 (by decide) ?_
                refine v_loc (L' := [some (vR g 106), some (vI x), some (vI (i + 1)), none, none, none]) (⟨rfl, rfl, rfl, trivial⟩) ?_
                exact ih7 (i + 1) (by omega) (fun j a c => (Classical.em (j = i)).elim (fun e => by rw [e, hah]; assumption) (fun e => hf j a (by omega))) (by omega)
              · skip
                refine v_iload_n (pc := 110) rfl dX4_dieByWear_110 ?_
                exact v_iret (pc := 111) E (⟨_, 0, rfl, Or.inl ⟨rfl, by omega, by rw [hah]; assumption, hf⟩, by decide, rfl⟩) (Nat.le_of_ble_eq_true rfl) (Nat.le_of_ble_eq_true rfl) dX4_dieByWear_111
            · skip
              refine v_aload_n (pc := 33) rfl dX4_dieByWear_33 ?_
              refine v_getR (pc := 34) (j := 107) fd_X4_9 (rfl) (by decide) rfl dX4_dieByWear_34 ?_
              refine v_iload (pc := 37) rfl dX4_dieByWear_37 ?_
              refine v_callS (pc := 39) (rest := [vR g 107]) (c_X4_dieAt) sok_X4_dieAt wM_X4_64 (rmOk (by decide) (by decide)) ⟨Nat.le_of_ble_eq_true rfl, Nat.le_of_ble_eq_true rfl⟩ (Nat.le_of_ble_eq_true rfl) rfl dX4_dieByWear_39 (fun v G' hq => ?_) (fun _ _ h => h.elim)
              obtain ⟨rfl, hG9⟩ := hq
              rw [hG9]
              refine v_stk (st' := [vI (9 + 3 * o), vR g 107]) rfl ?_
              refine v_iconst (pc := 42) (z := 2) dX4_dieByWear_42 ?_
              refine v_iadd (pc := 43) dX4_dieByWear_43 ?_
              refine v_iald (pc := 44) (N := 144) rfl rfl (by decide) (by omega) (by decide) dX4_dieByWear_44 ?_
              refine v_top (b := G 107 ((9 + 3 * o) + 2)) (upd2_i (by decide)) ?_
              have r4 := MoI_d hM (i := o) (by omega) (by omega)
              refine v_aload_n (pc := 45) rfl dX4_dieByWear_45 ?_
              refine v_getR (pc := 46) (j := 107) fd_X4_9 (rfl) (by decide) rfl dX4_dieByWear_46 ?_
              refine v_iload_n (pc := 49) rfl dX4_dieByWear_49 ?_
              refine v_callS (pc := 50) (rest := [vR g 107, vI (G 107 ((9 + 3 * o) + 2))]) (c_X4_dieAt) sok_X4_dieAt wM_X4_64 (rmOk (by decide) (by decide)) ⟨Nat.le_of_ble_eq_true rfl, Nat.le_of_ble_eq_true rfl⟩ (Nat.le_of_ble_eq_true rfl) rfl dX4_dieByWear_50 (fun v G' hq => ?_) (fun _ _ h => h.elim)
              obtain ⟨rfl, hG9⟩ := hq
              rw [hG9]
              refine v_stk (st' := [vI (9 + 3 * i), vR g 107, vI (G 107 ((9 + 3 * o) + 2))]) rfl ?_
              refine v_iconst (pc := 53) (z := 2) dX4_dieByWear_53 ?_
              refine v_iadd (pc := 54) dX4_dieByWear_54 ?_
              refine v_iald (pc := 55) (N := 144) rfl rfl (by decide) (by omega) (by decide) dX4_dieByWear_55 ?_
              refine v_top (b := G 107 ((9 + 3 * i) + 2)) (upd2_i (by decide)) ?_
              have r5 := MoI_d hM (i := i) (by omega) (by omega)
              refine v_isub (pc := 56) dX4_dieByWear_56 ?_
              refine v_istore (pc := 57) (by decide) rfl dX4_dieByWear_57 ?_
              refine v_iload_n (pc := 59) rfl dX4_dieByWear_59 ?_
              refine v_iload (pc := 60) rfl dX4_dieByWear_60 ?_
              refine v_if_gt (pc := 62) (tgt := 92) (by omega) dX4_dieByWear_62 (by decide) (fun bq6 => ?_) (fun bq6 => ?_)
              · skip
                refine v_iconst (pc := 92) (z := 1) dX4_dieByWear_92 ?_
                refine v_goto (pc := 93) (tgt := 97) dX4_dieByWear_93 (by decide) ?_
                refine v_iadd (pc := 97) dX4_dieByWear_97 ?_
                refine v_istore_n (pc := 98) (by decide) rfl dX4_dieByWear_98 ?_
                refine v_iinc (pc := 99) (y := 1) rfl (by decide) rfl dX4_dieByWear_99 ?_
                refine v_goto (pc := 102) (tgt := 22) dX4_dieByWear_102 (by decide) ?_
                refine v_loc (L' := [some (vR g 106), some (vI x), some (vI i), some (vI (c + 1)), some (vI (o + 1)), none]) (⟨rfl, rfl, rfl, rfl, rfl, trivial⟩) ?_
                exact ih22 (o + 1) (c + 1) (by omega) (by rw [sz_s (by omega)]; first | (rw [if_pos (by omega)]; omega) | (rw [if_neg (by omega)]; omega) | omega) (by omega)
              · skip
                refine v_iload (pc := 65) rfl dX4_dieByWear_65 ?_
                refine v_if_ne (pc := 67) (tgt := 96) (by omega) dX4_dieByWear_67 (by decide) (fun bq7 => ?_) (fun bq7 => ?_)
                · skip
                  refine v_iconst (pc := 96) (z := 0) dX4_dieByWear_96 ?_
                  refine v_iadd (pc := 97) dX4_dieByWear_97 ?_
                  refine v_istore_n (pc := 98) (by decide) rfl dX4_dieByWear_98 ?_
                  refine v_iinc (pc := 99) (y := 1) rfl (by decide) rfl dX4_dieByWear_99 ?_
                  refine v_goto (pc := 102) (tgt := 22) dX4_dieByWear_102 (by decide) ?_
                  refine v_loc (L' := [some (vR g 106), some (vI x), some (vI i), some (vI (c + 0)), some (vI (o + 1)), none]) (⟨rfl, rfl, rfl, rfl, rfl, trivial⟩) ?_
                  exact ih22 (o + 1) (c + 0) (by omega) (by rw [sz_s (by omega)]; first | (rw [if_pos (by omega)]; omega) | (rw [if_neg (by omega)]; omega) | omega) (by omega)
                · skip
                  refine v_aload_n (pc := 70) rfl dX4_dieByWear_70 ?_
                  refine v_getR (pc := 71) (j := 107) fd_X4_9 (rfl) (by decide) rfl dX4_dieByWear_71 ?_
                  refine v_iload (pc := 74) rfl dX4_dieByWear_74 ?_
                  refine v_callS (pc := 76) (rest := [vR g 107, vI c]) (c_X4_dieAt) sok_X4_dieAt wM_X4_64 (rmOk (by decide) (by decide)) ⟨Nat.le_of_ble_eq_true rfl, Nat.le_of_ble_eq_true rfl⟩ (Nat.le_of_ble_eq_true rfl) rfl dX4_dieByWear_76 (fun v G' hq => ?_) (fun _ _ h => h.elim)
                  obtain ⟨rfl, hG9⟩ := hq
                  rw [hG9]
                  refine v_stk (st' := [vI (9 + 3 * o), vR g 107, vI c]) rfl ?_
                  refine v_iald (pc := 79) (N := 144) rfl rfl (by decide) (by omega) (by decide) dX4_dieByWear_79 ?_
                  refine v_top (b := G 107 (9 + 3 * o)) (upd2_i (by decide)) ?_
                  have r8 := MoI_d hM (i := o) (by omega) (by omega)
                  refine v_aload_n (pc := 80) rfl dX4_dieByWear_80 ?_
                  refine v_getR (pc := 81) (j := 107) fd_X4_9 (rfl) (by decide) rfl dX4_dieByWear_81 ?_
                  refine v_iload_n (pc := 84) rfl dX4_dieByWear_84 ?_
                  refine v_callS (pc := 85) (rest := [vR g 107, vI (G 107 (9 + 3 * o)), vI c]) (c_X4_dieAt) sok_X4_dieAt wM_X4_64 (rmOk (by decide) (by decide)) ⟨Nat.le_of_ble_eq_true rfl, Nat.le_of_ble_eq_true rfl⟩ (Nat.le_of_ble_eq_true rfl) rfl dX4_dieByWear_85 (fun v G' hq => ?_) (fun _ _ h => h.elim)
                  obtain ⟨rfl, hG9⟩ := hq
                  rw [hG9]
                  refine v_stk (st' := [vI (9 + 3 * i), vR g 107, vI (G 107 (9 + 3 * o)), vI c]) rfl ?_
                  refine v_iald (pc := 88) (N := 144) rfl rfl (by decide) (by omega) (by decide) dX4_dieByWear_88 ?_
                  refine v_top (b := G 107 (9 + 3 * i)) (upd2_i (by decide)) ?_
                  have r9 := MoI_d hM (i := i) (by omega) (by omega)
                  refine v_icmp_le (pc := 89) (tgt := 96) (by omega) dX4_dieByWear_89 (by decide) (fun bq10 => ?_) (fun bq10 => ?_)
                  · skip
                    refine v_iconst (pc := 96) (z := 0) dX4_dieByWear_96 ?_
                    refine v_iadd (pc := 97) dX4_dieByWear_97 ?_
                    refine v_istore_n (pc := 98) (by decide) rfl dX4_dieByWear_98 ?_
                    refine v_iinc (pc := 99) (y := 1) rfl (by decide) rfl dX4_dieByWear_99 ?_
                    refine v_goto (pc := 102) (tgt := 22) dX4_dieByWear_102 (by decide) ?_
                    refine v_loc (L' := [some (vR g 106), some (vI x), some (vI i), some (vI (c + 0)), some (vI (o + 1)), none]) (⟨rfl, rfl, rfl, rfl, rfl, trivial⟩) ?_
                    exact ih22 (o + 1) (c + 0) (by omega) (by rw [sz_s (by omega)]; first | (rw [if_pos (by omega)]; omega) | (rw [if_neg (by omega)]; omega) | omega) (by omega)
                  · skip
                    refine v_iconst (pc := 92) (z := 1) dX4_dieByWear_92 ?_
                    refine v_goto (pc := 93) (tgt := 97) dX4_dieByWear_93 (by decide) ?_
                    refine v_iadd (pc := 97) dX4_dieByWear_97 ?_
                    refine v_istore_n (pc := 98) (by decide) rfl dX4_dieByWear_98 ?_
                    refine v_iinc (pc := 99) (y := 1) rfl (by decide) rfl dX4_dieByWear_99 ?_
                    refine v_goto (pc := 102) (tgt := 22) dX4_dieByWear_102 (by decide) ?_
                    refine v_loc (L' := [some (vR g 106), some (vI x), some (vI i), some (vI (c + 1)), some (vI (o + 1)), none]) (⟨rfl, rfl, rfl, rfl, rfl, trivial⟩) ?_
                    exact ih22 (o + 1) (c + 1) (by omega) (by rw [sz_s (by omega)]; first | (rw [if_pos (by omega)]; omega) | (rw [if_neg (by omega)]; omega) | omega) (by omega)
        refine v_loc (L' := [some (vR g 106), some (vI x), some (vI i), some (vI 0), some (vI 0), none]) (⟨rfl, rfl, rfl, rfl, rfl, trivial⟩) ?_
        exact lp22 _ 0 0 (by omega) rfl (Nat.lt_succ_self _)
  refine v_loc (L' := [some (vR g 106), some (vI x), some (vI 0), none, none, none]) (⟨rfl, rfl, rfl, trivial⟩) ?_
  exact lp7 _ 0 (by omega) (fun j a c => absurd c (by omega)) (Nat.lt_succ_self _)
set_option maxHeartbeats 4000000 in
set_option maxRecDepth 100000 in
theorem c_X4_coinsOfValue {g : GT} {G : Mem} (hM : MoI (G 107)) {x : Int} (h_x : -2147483648 ≤ x ∧ x < 2147483648) : Ctr g yX4_coinsOfValue cX4_coinsOfValue 3 (some FieldType.int) (rmL 3 0 0) [vR g 106, vI x] G (QR G (fun k r => (k = 0 ∧ ∃ d, (0 ≤ d ∧ d < G 107 0) ∧ G 107 (9 + 3 * d) = x ∧ r = cntE (G 107 3) (fun k => G 107 (24 + 3 * k)) d) ∨ (k = 1 ∧ ∀ i, 0 ≤ i → i < G 107 0 → G 107 (9 + 3 * i) ≠ x))) NoX := by
  refine ctr_of [some (vR g 106), some (vI x), none] (by decide) (Nat.le_of_ble_eq_true rfl) rfl (fun γ E => ?_)
  show V γ g cX4_coinsOfValue 3 RX4 (rmL 3 0 0) G 0 0 0 [some (vR g 106), some (vI x), none] []
  have hn := MoI_n hM
  have hc := MoI_c hM
  have hy := MoI_y hM
  refine v_aload_n (pc := 0) rfl dX4_coinsOfValue_0 ?_
  refine v_iconst (pc := 1) (z := 0) dX4_coinsOfValue_1 ?_
  refine v_put (pc := 2) 8 pd_X4_54 (rfl) (by decide) rfl rfl dX4_coinsOfValue_2 ?_
  refine v_aload_n (pc := 5) rfl dX4_coinsOfValue_5 ?_
  refine v_iload_n (pc := 6) rfl dX4_coinsOfValue_6 ?_
  refine v_callV (pc := 7) (rest := []) (c_X4_dieOf (G := upd2 G 106 8 0) hM h_x) iok_X4_dieOf wM_X4_84 (rfl) (by decide) (by decide) rfl (rmOk (by decide) (by decide)) ⟨Nat.le_of_ble_eq_true rfl, Nat.le_of_ble_eq_true rfl⟩ (Nat.le_of_ble_eq_true rfl) rfl dX4_coinsOfValue_7 (fun v G' hq => ?_) (fun _ _ h => h.elim)
  obtain ⟨d, rfl, hq⟩ := hq
  refine v_stk (st' := [vI d]) rfl ?_
  obtain ⟨hG9, hd⟩ := hq
  rw [hG9]
  rw [u107] at hd
  have hdr : -1 ≤ d ∧ d < 5 := by rcases hd with q | q <;> (try have q0 := q.2.1) <;> omega
  refine v_istore_n (pc := 10) (by decide) rfl dX4_coinsOfValue_10 ?_
  refine v_iload_n (pc := 11) rfl dX4_coinsOfValue_11 ?_
  refine v_iconst (pc := 12) (z := (-1)) dX4_coinsOfValue_12 ?_
  refine v_icmp_ne (pc := 13) (tgt := 24) (by omega) dX4_coinsOfValue_13 (by decide) (fun bq1 => ?_) (fun bq1 => ?_)
  · skip
    have hd2 : (0 ≤ d ∧ d < G 107 0) ∧ G 107 (9 + 3 * d) = x := by
      rcases hd with q | q
      · exact absurd q.1 (by assumption)
      · exact ⟨⟨q.1, q.2.1⟩, q.2.2.1⟩
    refine v_aload_n (pc := 24) rfl dX4_coinsOfValue_24 ?_
    refine v_iload_n (pc := 25) rfl dX4_coinsOfValue_25 ?_
    refine v_callV (pc := 26) (rest := []) (c_X4_many (G := upd2 G 106 8 0) hM (d := d) (by omega)) iok_X4_many wM_X4_144 (rfl) (by decide) (by decide) rfl (rmOk (by decide) (by decide)) ⟨Nat.le_of_ble_eq_true rfl, Nat.le_of_ble_eq_true rfl⟩ (Nat.le_of_ble_eq_true rfl) rfl dX4_coinsOfValue_26 (fun v G' hq => ?_) (fun _ _ h => h.elim)
    obtain ⟨rfl, hG9⟩ := hq
    rw [hG9]
    refine v_stk (st' := [vI (cntE (G 107 3) (fun k => G 107 (24 + 3 * k)) d)]) rfl ?_
    exact v_iret (pc := 29) E (⟨_, 0, rfl, Or.inl ⟨rfl, d, hd2.1, hd2.2, rfl⟩, by decide, rfl⟩) (Nat.le_of_ble_eq_true rfl) (Nat.le_of_ble_eq_true rfl) dX4_coinsOfValue_29
  · skip
    refine v_aload_n (pc := 16) rfl dX4_coinsOfValue_16 ?_
    refine v_iconst (pc := 17) (z := 1) dX4_coinsOfValue_17 ?_
    refine v_callV (pc := 18) (rest := []) (c_X4_throwing) iok_X4_throwing wM_X4_81 (rfl) (by decide) (by decide) rfl (rmOk (by decide) (by decide)) ⟨Nat.le_of_ble_eq_true rfl, Nat.le_of_ble_eq_true rfl⟩ (Nat.le_of_ble_eq_true rfl) rfl dX4_coinsOfValue_18 (fun v G' hq => ?_) (fun _ _ h => h.elim)
    obtain ⟨rfl, hG9⟩ := hq
    rw [hG9]
    refine v_stk (st' := [vI (-1)]) rfl ?_
    refine v_goto (pc := 21) (tgt := 29) dX4_coinsOfValue_21 (by decide) ?_
    exact v_iret (pc := 29) E (⟨_, 1, rfl, Or.inr ⟨rfl, by rcases hd with q | q <;> first | exact q.2 | exact absurd q.1 (by omega)⟩, by decide, upd2_u G 106 8 0 1⟩) (Nat.le_of_ble_eq_true rfl) (Nat.le_of_ble_eq_true rfl) dX4_coinsOfValue_29
set_option maxHeartbeats 4000000 in
set_option maxRecDepth 100000 in
theorem c_X4_coinsOfGrade {g : GT} {G : Mem} (hM : MoI (G 107)) {c : Int} (h_c : 0 ≤ c ∧ c < 65536) : Ctr g yX4_coinsOfGrade cX4_coinsOfGrade 2 (some FieldType.int) (rmL 3 0 0) [vR g 106, vI c] G (QR G (fun k r => (k = 0 ∧ (65 ≤ c ∧ c ≤ 67) ∧ r = cntE (G 107 3) (fun k => G 107 (24 + 3 * k + 2)) (c - 65)) ∨ (k = 1 ∧ ¬ (65 ≤ c ∧ c ≤ 67)))) NoX := by
  refine ctr_of [some (vR g 106), some (vI c)] (by decide) (Nat.le_of_ble_eq_true rfl) rfl (fun γ E => ?_)
  show V γ g cX4_coinsOfGrade 2 RX4 (rmL 3 0 0) G 0 0 0 [some (vR g 106), some (vI c)] []
  have hn := MoI_n hM
  have hc := MoI_c hM
  have hy := MoI_y hM
  refine v_aload_n (pc := 0) rfl dX4_coinsOfGrade_0 ?_
  refine v_iconst (pc := 1) (z := 0) dX4_coinsOfGrade_1 ?_
  refine v_put (pc := 2) 8 pd_X4_54 (rfl) (by decide) rfl rfl dX4_coinsOfGrade_2 ?_
  refine v_iload_n (pc := 5) rfl dX4_coinsOfGrade_5 ?_
  refine v_i2l (pc := 6) (by omega) dX4_coinsOfGrade_6 ?_
  refine v_ldc2 (pc := 7) (z := 65) wG_X4_175 (by decide) dX4_coinsOfGrade_7 ?_
  refine v_ldc2 (pc := 10) (z := 67) wG_X4_177 (by decide) dX4_coinsOfGrade_10 ?_
  refine v_callS (pc := 13) (rest := []) (c_X4_in (by omega) (by omega) (by omega)) sok_X4_in wM_X4_60 (rmOk (by decide) (by decide)) ⟨Nat.le_of_ble_eq_true rfl, Nat.le_of_ble_eq_true rfl⟩ (Nat.le_of_ble_eq_true rfl) rfl dX4_coinsOfGrade_13 (fun v G' hq => ?_) (fun _ _ h => h.elim)
  obtain ⟨rfl, hG9⟩ := hq
  rw [hG9]
  refine v_stk (st' := [vI (bI (65 ≤ c ∧ c ≤ 67))]) rfl ?_
  refine v_if_eq (pc := 16) (tgt := 27) (bI_r _) dX4_coinsOfGrade_16 (by decide) (fun bq1 => ?_) (fun bq1 => ?_)
  · skip
    have bq1 := bI_eq0.mp bq1
    refine v_aload_n (pc := 27) rfl dX4_coinsOfGrade_27 ?_
    refine v_iconst (pc := 28) (z := 1) dX4_coinsOfGrade_28 ?_
    refine v_callV (pc := 29) (rest := []) (c_X4_throwing) iok_X4_throwing wM_X4_81 (rfl) (by decide) (by decide) rfl (rmOk (by decide) (by decide)) ⟨Nat.le_of_ble_eq_true rfl, Nat.le_of_ble_eq_true rfl⟩ (Nat.le_of_ble_eq_true rfl) rfl dX4_coinsOfGrade_29 (fun v G' hq => ?_) (fun _ _ h => h.elim)
    obtain ⟨rfl, hG9⟩ := hq
    rw [hG9]
    refine v_stk (st' := [vI (-1)]) rfl ?_
    exact v_iret (pc := 32) E (⟨_, 1, rfl, Or.inr ⟨rfl, by assumption⟩, by decide, upd2_u G 106 8 0 1⟩) (Nat.le_of_ble_eq_true rfl) (Nat.le_of_ble_eq_true rfl) dX4_coinsOfGrade_32
  · skip
    have bq1 := bI_n0 bq1
    refine v_aload_n (pc := 19) rfl dX4_coinsOfGrade_19 ?_
    refine v_iload_n (pc := 20) rfl dX4_coinsOfGrade_20 ?_
    refine v_callV (pc := 21) (rest := []) (c_X4_manyOfGrade (G := upd2 G 106 8 0) hM h_c) iok_X4_manyOfGrade wM_X4_179 (rfl) (by decide) (by decide) rfl (rmOk (by decide) (by decide)) ⟨Nat.le_of_ble_eq_true rfl, Nat.le_of_ble_eq_true rfl⟩ (Nat.le_of_ble_eq_true rfl) rfl dX4_coinsOfGrade_21 (fun v G' hq => ?_) (fun _ _ h => h.elim)
    obtain ⟨rfl, hG9⟩ := hq
    rw [hG9]
    refine v_stk (st' := [vI (cntE (G 107 3) (fun k => G 107 (24 + 3 * k + 2)) (c - 65))]) rfl ?_
    refine v_goto (pc := 24) (tgt := 32) dX4_coinsOfGrade_24 (by decide) ?_
    exact v_iret (pc := 32) E (⟨_, 0, rfl, Or.inl ⟨rfl, by assumption, rfl⟩, by decide, rfl⟩) (Nat.le_of_ble_eq_true rfl) (Nat.le_of_ble_eq_true rfl) dX4_coinsOfGrade_32
/-- none of the first i is of the kind of k -/
def isF (f y gr : Int → Int) (k i : Int) : Prop := ∀ e, 0 ≤ e → e < i → ¬ (f e = f k ∧ y e = y k ∧ gr e = gr k)

set_option maxHeartbeats 4000000 in
set_option maxRecDepth 100000 in
theorem c_X4_kinds {g : GT} {G : Mem} (hM : MoI (G 107)) : Ctr g yX4_kinds cX4_kinds 7 (some FieldType.int) (rmL 2 0 0) [vR g 106] G (RM (sz (G 107 3) (fun k => bI (isFirst (fun k => G 107 (24 + 3 * k)) (fun k => G 107 (24 + 3 * k + 1)) (fun k => G 107 (24 + 3 * k + 2)) k))) (upd2 G 106 8 0)) NoX := by
  refine ctr_of [some (vR g 106), none, none, none, none, none, none] (by decide) (Nat.le_of_ble_eq_true rfl) rfl (fun γ E => ?_)
  show V γ g cX4_kinds 7 RX4 (rmL 2 0 0) G 0 0 0 [some (vR g 106), none, none, none, none, none, none] []
  have hn := MoI_n hM
  have hc := MoI_c hM
  have hy := MoI_y hM
  refine v_aload_n (pc := 0) rfl dX4_kinds_0 ?_
  refine v_iconst (pc := 1) (z := 0) dX4_kinds_1 ?_
  refine v_put (pc := 2) 8 pd_X4_54 (rfl) (by decide) rfl rfl dX4_kinds_2 ?_
  refine v_iconst (pc := 5) (z := 0) dX4_kinds_5 ?_
  refine v_istore_n (pc := 6) (by decide) rfl dX4_kinds_6 ?_
  refine v_iconst (pc := 7) (z := 0) dX4_kinds_7 ?_
  refine v_istore_n (pc := 8) (by decide) rfl dX4_kinds_8 ?_
  have lp9 : ∀ (m9 : Nat) (i : Int) (s : Int), (0 ≤ i ∧ i ≤ G 107 3) → (s = sz i (fun k => bI (isFirst (fun k => G 107 (24 + 3 * k)) (fun k => G 107 (24 + 3 * k + 1)) (fun k => G 107 (24 + 3 * k + 2)) k))) → ((G 107 3 - i).toNat) < m9 → V γ g cX4_kinds 7 RX4 (rmL 2 0 0) (upd2 G 106 8 0) 0 0 9 [some (vR g 106), some (vI s), some (vI i), none, none, none, none] [] := by
    intro m9
    induction m9 with
    | zero => intro i s; intros; omega
    | succ m9 ih9 =>
      intro i s h0 hs hm9
      refine v_iload_n (pc := 9) rfl dX4_kinds_9 ?_
      refine v_aload_n (pc := 10) rfl dX4_kinds_10 ?_
      refine v_getR (pc := 11) (j := 107) fd_X4_9 (rfl) (by decide) rfl dX4_kinds_11 ?_
      refine v_iconst (pc := 14) (z := 3) dX4_kinds_14 ?_
      refine v_iald (pc := 15) (N := 144) rfl rfl (by decide) (by omega) (by decide) dX4_kinds_15 ?_
      refine v_top (b := G 107 3) (upd2_i (by decide)) ?_
      refine v_icmp_ge (pc := 16) (tgt := 136) (by omega) dX4_kinds_16 (by decide) (fun bq1 => ?_) (fun bq1 => ?_)
      · skip
        refine v_iload_n (pc := 136) rfl dX4_kinds_136 ?_
        exact v_iret (pc := 137) E (⟨by rw [hs, show i = G 107 3 by omega], rfl⟩) (Nat.le_of_ble_eq_true rfl) (Nat.le_of_ble_eq_true rfl) dX4_kinds_137
      · skip
        refine v_iconst (pc := 19) (z := 1) dX4_kinds_19 ?_
        refine v_istore_n (pc := 20) (by decide) rfl dX4_kinds_20 ?_
        refine v_iconst (pc := 21) (z := 0) dX4_kinds_21 ?_
        refine v_istore (pc := 22) (by decide) rfl dX4_kinds_22 ?_
        skip
        have lp24 : ∀ (m24 : Nat) (j : Int) (w : Int), (0 ≤ j ∧ j ≤ i) → (w = bI (isF (fun k => G 107 (24 + 3 * k)) (fun k => G 107 (24 + 3 * k + 1)) (fun k => G 107 (24 + 3 * k + 2)) i j)) → ((i - j).toNat) < m24 → V γ g cX4_kinds 7 RX4 (rmL 2 0 0) (upd2 G 106 8 0) 0 0 24 [some (vR g 106), some (vI s), some (vI i), some (vI w), some (vI j), none, none] [] := by
          intro m24
          induction m24 with
          | zero => intro j w; intros; omega
          | succ m24 ih24 =>
            intro j w g0 hw hm24
            skip
            refine v_iload (pc := 24) rfl dX4_kinds_24 ?_
            refine v_iload_n (pc := 26) rfl dX4_kinds_26 ?_
            refine v_icmp_ge (pc := 27) (tgt := 118) (by omega) dX4_kinds_27 (by decide) (fun bq2 => ?_) (fun bq2 => ?_)
            · skip
              have hwr := bI_rng (isF (fun k => G 107 (24 + 3 * k)) (fun k => G 107 (24 + 3 * k + 1)) (fun k => G 107 (24 + 3 * k + 2)) i j)
              rw [← hw] at hwr
              refine v_iload_n (pc := 118) rfl dX4_kinds_118 ?_
              refine v_iload_n (pc := 119) rfl dX4_kinds_119 ?_
              refine v_if_eq (pc := 120) (tgt := 127) (by omega) dX4_kinds_120 (by decide) (fun bq3 => ?_) (fun bq3 => ?_)
              · skip
                refine v_iconst (pc := 127) (z := 0) dX4_kinds_127 ?_
                refine v_iadd (pc := 128) dX4_kinds_128 ?_
                refine v_istore_n (pc := 129) (by decide) rfl dX4_kinds_129 ?_
                refine v_iinc (pc := 130) (y := 1) rfl (by decide) rfl dX4_kinds_130 ?_
                refine v_goto (pc := 133) (tgt := 9) dX4_kinds_133 (by decide) ?_
                refine v_loc (L' := [some (vR g 106), some (vI (s + 0)), some (vI (i + 1)), none, none, none, none]) (⟨rfl, rfl, rfl, trivial⟩) ?_
                exact ih9 (i + 1) (s + 0) (by omega) (by rw [sz_s (by omega), hs]; show _ = _ + bI (isF (fun k => G 107 (24 + 3 * k)) (fun k => G 107 (24 + 3 * k + 1)) (fun k => G 107 (24 + 3 * k + 2)) i i); have ej : j = i := (by omega); rw [ej] at hw; omega) (by omega)
              · skip
                refine v_iconst (pc := 123) (z := 1) dX4_kinds_123 ?_
                refine v_goto (pc := 124) (tgt := 128) dX4_kinds_124 (by decide) ?_
                refine v_iadd (pc := 128) dX4_kinds_128 ?_
                refine v_istore_n (pc := 129) (by decide) rfl dX4_kinds_129 ?_
                refine v_iinc (pc := 130) (y := 1) rfl (by decide) rfl dX4_kinds_130 ?_
                refine v_goto (pc := 133) (tgt := 9) dX4_kinds_133 (by decide) ?_
                refine v_loc (L' := [some (vR g 106), some (vI (s + 1)), some (vI (i + 1)), none, none, none, none]) (⟨rfl, rfl, rfl, trivial⟩) ?_
                exact ih9 (i + 1) (s + 1) (by omega) (by rw [sz_s (by omega), hs]; show _ = _ + bI (isF (fun k => G 107 (24 + 3 * k)) (fun k => G 107 (24 + 3 * k + 1)) (fun k => G 107 (24 + 3 * k + 2)) i i); have ej : j = i := (by omega); rw [ej] at hw; omega) (by omega)
            · skip
              have hwr := bI_rng (isF (fun k => G 107 (24 + 3 * k)) (fun k => G 107 (24 + 3 * k + 1)) (fun k => G 107 (24 + 3 * k + 2)) i j)
              rw [← hw] at hwr
              refine v_iload (pc := 30) rfl dX4_kinds_30 ?_
              refine v_callS (pc := 32) (rest := []) (c_X4_coinAt) sok_X4_coinAt wM_X4_68 (rmOk (by decide) (by decide)) ⟨Nat.le_of_ble_eq_true rfl, Nat.le_of_ble_eq_true rfl⟩ (Nat.le_of_ble_eq_true rfl) rfl dX4_kinds_32 (fun v G' hq => ?_) (fun _ _ h => h.elim)
              obtain ⟨rfl, hG9⟩ := hq
              rw [hG9]
              refine v_stk (st' := [vI (24 + 3 * j)]) rfl ?_
              refine v_istore (pc := 35) (by decide) rfl dX4_kinds_35 ?_
              refine v_iload_n (pc := 37) rfl dX4_kinds_37 ?_
              refine v_callS (pc := 38) (rest := []) (c_X4_coinAt) sok_X4_coinAt wM_X4_68 (rmOk (by decide) (by decide)) ⟨Nat.le_of_ble_eq_true rfl, Nat.le_of_ble_eq_true rfl⟩ (Nat.le_of_ble_eq_true rfl) rfl dX4_kinds_38 (fun v G' hq => ?_) (fun _ _ h => h.elim)
              obtain ⟨rfl, hG9⟩ := hq
              rw [hG9]
              refine v_stk (st' := [vI (24 + 3 * i)]) rfl ?_
              refine v_istore (pc := 41) (by decide) rfl dX4_kinds_41 ?_
              refine v_iload_n (pc := 43) rfl dX4_kinds_43 ?_
              refine v_if_eq (pc := 44) (tgt := 110) (by omega) dX4_kinds_44 (by decide) (fun bq4 => ?_) (fun bq4 => ?_)
              · skip
                refine v_iconst (pc := 110) (z := 0) dX4_kinds_110 ?_
                refine v_istore_n (pc := 111) (by decide) rfl dX4_kinds_111 ?_
                refine v_iinc (pc := 112) (y := 1) rfl (by decide) rfl dX4_kinds_112 ?_
                refine v_goto (pc := 115) (tgt := 24) dX4_kinds_115 (by decide) ?_
                skip
                refine v_loc (L' := [some (vR g 106), some (vI s), some (vI i), some (vI 0), some (vI (j + 1)), none, none]) (⟨rfl, rfl, rfl, rfl, rfl, trivial⟩) ?_
                exact ih24 (j + 1) 0 (by omega) ((bI_f (fun q => by first | (have := bI_eq0.mp (hw.symm.trans (show w = 0 by omega)); exact this (fun e a c => q e a (by omega))) | exact q j (by omega) (by omega) ⟨by omega, by omega, by omega⟩)).symm) (by omega)
              · skip
                refine v_aload_n (pc := 47) rfl dX4_kinds_47 ?_
                refine v_getR (pc := 48) (j := 107) fd_X4_9 (rfl) (by decide) rfl dX4_kinds_48 ?_
                refine v_iload (pc := 51) rfl dX4_kinds_51 ?_
                refine v_iald (pc := 53) (N := 144) rfl rfl (by decide) (by omega) (by decide) dX4_kinds_53 ?_
                refine v_top (b := G 107 (24 + 3 * j)) (upd2_i (by decide)) ?_
                have r5 := MoI_k hM (k := j) (by omega) (by omega)
                refine v_aload_n (pc := 54) rfl dX4_kinds_54 ?_
                refine v_getR (pc := 55) (j := 107) fd_X4_9 (rfl) (by decide) rfl dX4_kinds_55 ?_
                refine v_iload (pc := 58) rfl dX4_kinds_58 ?_
                refine v_iald (pc := 60) (N := 144) rfl rfl (by decide) (by omega) (by decide) dX4_kinds_60 ?_
                refine v_top (b := G 107 (24 + 3 * i)) (upd2_i (by decide)) ?_
                have r6 := MoI_k hM (k := i) (by omega) (by omega)
                refine v_icmp_ne (pc := 61) (tgt := 106) (by omega) dX4_kinds_61 (by decide) (fun bq7 => ?_) (fun bq7 => ?_)
                · skip
                  refine v_iconst (pc := 106) (z := 1) dX4_kinds_106 ?_
                  refine v_goto (pc := 107) (tgt := 111) dX4_kinds_107 (by decide) ?_
                  refine v_istore_n (pc := 111) (by decide) rfl dX4_kinds_111 ?_
                  refine v_iinc (pc := 112) (y := 1) rfl (by decide) rfl dX4_kinds_112 ?_
                  refine v_goto (pc := 115) (tgt := 24) dX4_kinds_115 (by decide) ?_
                  skip
                  refine v_loc (L' := [some (vR g 106), some (vI s), some (vI i), some (vI 1), some (vI (j + 1)), none, none]) (⟨rfl, rfl, rfl, rfl, rfl, trivial⟩) ?_
                  exact ih24 (j + 1) 1 (by omega) ((bI_t (fun e a c => (Classical.em (e = j)).elim (fun q => by rw [q]; intro z; obtain ⟨z1, z2, z3⟩ := z; change G 107 (24 + 3 * j) = G 107 (24 + 3 * i) at z1; change G 107 (24 + 3 * j + 1) = G 107 (24 + 3 * i + 1) at z2; change G 107 (24 + 3 * j + 2) = G 107 (24 + 3 * i + 2) at z3; omega) (fun q => bI_eq1.mp (hw.symm.trans (show w = 1 by omega)) e a (by omega)))).symm) (by omega)
                · skip
                  refine v_aload_n (pc := 64) rfl dX4_kinds_64 ?_
                  refine v_getR (pc := 65) (j := 107) fd_X4_9 (rfl) (by decide) rfl dX4_kinds_65 ?_
                  refine v_iload (pc := 68) rfl dX4_kinds_68 ?_
                  refine v_iconst (pc := 70) (z := 1) dX4_kinds_70 ?_
                  refine v_iadd (pc := 71) dX4_kinds_71 ?_
                  refine v_iald (pc := 72) (N := 144) rfl rfl (by decide) (by omega) (by decide) dX4_kinds_72 ?_
                  refine v_top (b := G 107 ((24 + 3 * j) + 1)) (upd2_i (by decide)) ?_
                  have r8 := MoI_k hM (k := j) (by omega) (by omega)
                  refine v_aload_n (pc := 73) rfl dX4_kinds_73 ?_
                  refine v_getR (pc := 74) (j := 107) fd_X4_9 (rfl) (by decide) rfl dX4_kinds_74 ?_
                  refine v_iload (pc := 77) rfl dX4_kinds_77 ?_
                  refine v_iconst (pc := 79) (z := 1) dX4_kinds_79 ?_
                  refine v_iadd (pc := 80) dX4_kinds_80 ?_
                  refine v_iald (pc := 81) (N := 144) rfl rfl (by decide) (by omega) (by decide) dX4_kinds_81 ?_
                  refine v_top (b := G 107 ((24 + 3 * i) + 1)) (upd2_i (by decide)) ?_
                  have r9 := MoI_k hM (k := i) (by omega) (by omega)
                  refine v_icmp_ne (pc := 82) (tgt := 106) (by omega) dX4_kinds_82 (by decide) (fun bq10 => ?_) (fun bq10 => ?_)
                  · skip
                    refine v_iconst (pc := 106) (z := 1) dX4_kinds_106 ?_
                    refine v_goto (pc := 107) (tgt := 111) dX4_kinds_107 (by decide) ?_
                    refine v_istore_n (pc := 111) (by decide) rfl dX4_kinds_111 ?_
                    refine v_iinc (pc := 112) (y := 1) rfl (by decide) rfl dX4_kinds_112 ?_
                    refine v_goto (pc := 115) (tgt := 24) dX4_kinds_115 (by decide) ?_
                    skip
                    refine v_loc (L' := [some (vR g 106), some (vI s), some (vI i), some (vI 1), some (vI (j + 1)), none, none]) (⟨rfl, rfl, rfl, rfl, rfl, trivial⟩) ?_
                    exact ih24 (j + 1) 1 (by omega) ((bI_t (fun e a c => (Classical.em (e = j)).elim (fun q => by rw [q]; intro z; obtain ⟨z1, z2, z3⟩ := z; change G 107 (24 + 3 * j) = G 107 (24 + 3 * i) at z1; change G 107 (24 + 3 * j + 1) = G 107 (24 + 3 * i + 1) at z2; change G 107 (24 + 3 * j + 2) = G 107 (24 + 3 * i + 2) at z3; omega) (fun q => bI_eq1.mp (hw.symm.trans (show w = 1 by omega)) e a (by omega)))).symm) (by omega)
                  · skip
                    refine v_aload_n (pc := 85) rfl dX4_kinds_85 ?_
                    refine v_getR (pc := 86) (j := 107) fd_X4_9 (rfl) (by decide) rfl dX4_kinds_86 ?_
                    refine v_iload (pc := 89) rfl dX4_kinds_89 ?_
                    refine v_iconst (pc := 91) (z := 2) dX4_kinds_91 ?_
                    refine v_iadd (pc := 92) dX4_kinds_92 ?_
                    refine v_iald (pc := 93) (N := 144) rfl rfl (by decide) (by omega) (by decide) dX4_kinds_93 ?_
                    refine v_top (b := G 107 ((24 + 3 * j) + 2)) (upd2_i (by decide)) ?_
                    have r11 := MoI_k hM (k := j) (by omega) (by omega)
                    refine v_aload_n (pc := 94) rfl dX4_kinds_94 ?_
                    refine v_getR (pc := 95) (j := 107) fd_X4_9 (rfl) (by decide) rfl dX4_kinds_95 ?_
                    refine v_iload (pc := 98) rfl dX4_kinds_98 ?_
                    refine v_iconst (pc := 100) (z := 2) dX4_kinds_100 ?_
                    refine v_iadd (pc := 101) dX4_kinds_101 ?_
                    refine v_iald (pc := 102) (N := 144) rfl rfl (by decide) (by omega) (by decide) dX4_kinds_102 ?_
                    refine v_top (b := G 107 ((24 + 3 * i) + 2)) (upd2_i (by decide)) ?_
                    have r12 := MoI_k hM (k := i) (by omega) (by omega)
                    refine v_icmp_eq (pc := 103) (tgt := 110) (by omega) dX4_kinds_103 (by decide) (fun bq13 => ?_) (fun bq13 => ?_)
                    · skip
                      refine v_iconst (pc := 110) (z := 0) dX4_kinds_110 ?_
                      refine v_istore_n (pc := 111) (by decide) rfl dX4_kinds_111 ?_
                      refine v_iinc (pc := 112) (y := 1) rfl (by decide) rfl dX4_kinds_112 ?_
                      refine v_goto (pc := 115) (tgt := 24) dX4_kinds_115 (by decide) ?_
                      skip
                      refine v_loc (L' := [some (vR g 106), some (vI s), some (vI i), some (vI 0), some (vI (j + 1)), none, none]) (⟨rfl, rfl, rfl, rfl, rfl, trivial⟩) ?_
                      exact ih24 (j + 1) 0 (by omega) ((bI_f (fun q => by first | (have := bI_eq0.mp (hw.symm.trans (show w = 0 by omega)); exact this (fun e a c => q e a (by omega))) | exact q j (by omega) (by omega) ⟨by omega, by omega, by omega⟩)).symm) (by omega)
                    · skip
                      refine v_iconst (pc := 106) (z := 1) dX4_kinds_106 ?_
                      refine v_goto (pc := 107) (tgt := 111) dX4_kinds_107 (by decide) ?_
                      refine v_istore_n (pc := 111) (by decide) rfl dX4_kinds_111 ?_
                      refine v_iinc (pc := 112) (y := 1) rfl (by decide) rfl dX4_kinds_112 ?_
                      refine v_goto (pc := 115) (tgt := 24) dX4_kinds_115 (by decide) ?_
                      skip
                      refine v_loc (L' := [some (vR g 106), some (vI s), some (vI i), some (vI 1), some (vI (j + 1)), none, none]) (⟨rfl, rfl, rfl, rfl, rfl, trivial⟩) ?_
                      exact ih24 (j + 1) 1 (by omega) ((bI_t (fun e a c => (Classical.em (e = j)).elim (fun q => by rw [q]; intro z; obtain ⟨z1, z2, z3⟩ := z; change G 107 (24 + 3 * j) = G 107 (24 + 3 * i) at z1; change G 107 (24 + 3 * j + 1) = G 107 (24 + 3 * i + 1) at z2; change G 107 (24 + 3 * j + 2) = G 107 (24 + 3 * i + 2) at z3; omega) (fun q => bI_eq1.mp (hw.symm.trans (show w = 1 by omega)) e a (by omega)))).symm) (by omega)
        refine v_loc (L' := [some (vR g 106), some (vI s), some (vI i), some (vI 1), some (vI 0), none, none]) (⟨rfl, rfl, rfl, rfl, rfl, trivial⟩) ?_
        exact lp24 _ 0 1 (by omega) ((bI_t (fun e a c => absurd c (by omega))).symm) (Nat.lt_succ_self _)
  refine v_loc (L' := [some (vR g 106), some (vI 0), some (vI 0), none, none, none, none]) (⟨rfl, rfl, rfl, trivial⟩) ?_
  exact lp9 _ 0 0 (by omega) rfl (Nat.lt_succ_self _)
set_option maxHeartbeats 4000000 in
set_option maxRecDepth 100000 in
theorem c_X4_recallGrams {g : GT} {G : Mem} (hM : MoI (G 107)) {d : Int} (h_d : -2147483648 ≤ d ∧ d < 2147483648) : Ctr g yX4_recallGrams cX4_recallGrams 4 (some FieldType.int) (rmL 3 0 0) [vR g 106, vI d] G (RM (mlt (G 107 3) (fun k => G 107 (24 + 3 * k)) (fun i => G 107 (9 + 3 * i + 1)) (fun k => G 107 (24 + 3 * k + 1)) (fun k => G 107 (24 + 3 * k + 2)) d) (upd2 G 106 8 0)) NoX := by
  refine ctr_of [some (vR g 106), some (vI d), none, none] (by decide) (Nat.le_of_ble_eq_true rfl) rfl (fun γ E => ?_)
  show V γ g cX4_recallGrams 4 RX4 (rmL 3 0 0) G 0 0 0 [some (vR g 106), some (vI d), none, none] []
  have hn := MoI_n hM
  have hc := MoI_c hM
  have hy := MoI_y hM
  refine v_aload_n (pc := 0) rfl dX4_recallGrams_0 ?_
  refine v_iconst (pc := 1) (z := 0) dX4_recallGrams_1 ?_
  refine v_put (pc := 2) 8 pd_X4_54 (rfl) (by decide) rfl rfl dX4_recallGrams_2 ?_
  refine v_iconst (pc := 5) (z := 0) dX4_recallGrams_5 ?_
  refine v_istore_n (pc := 6) (by decide) rfl dX4_recallGrams_6 ?_
  refine v_iconst (pc := 7) (z := 0) dX4_recallGrams_7 ?_
  refine v_istore_n (pc := 8) (by decide) rfl dX4_recallGrams_8 ?_
  have lp9 : ∀ (m9 : Nat) (i : Int) (s : Int), (0 ≤ i ∧ i ≤ G 107 3) → (s = sz i (fun k => if G 107 (24 + 3 * k + 1) = d then mxI 0 (G 107 (9 + 3 * G 107 (24 + 3 * k) + 1) - G 107 (24 + 3 * k + 2)) else 0)) → ((G 107 3 - i).toNat) < m9 → V γ g cX4_recallGrams 4 RX4 (rmL 3 0 0) (upd2 G 106 8 0) 0 0 9 [some (vR g 106), some (vI d), some (vI s), some (vI i)] [] := by
    intro m9
    induction m9 with
    | zero => intro i s; intros; omega
    | succ m9 ih9 =>
      intro i s h0 hs hm9
      refine v_iload_n (pc := 9) rfl dX4_recallGrams_9 ?_
      refine v_aload_n (pc := 10) rfl dX4_recallGrams_10 ?_
      refine v_getR (pc := 11) (j := 107) fd_X4_9 (rfl) (by decide) rfl dX4_recallGrams_11 ?_
      refine v_iconst (pc := 14) (z := 3) dX4_recallGrams_14 ?_
      refine v_iald (pc := 15) (N := 144) rfl rfl (by decide) (by omega) (by decide) dX4_recallGrams_15 ?_
      refine v_top (b := G 107 3) (upd2_i (by decide)) ?_
      refine v_icmp_ge (pc := 16) (tgt := 52) (by omega) dX4_recallGrams_16 (by decide) (fun bq1 => ?_) (fun bq1 => ?_)
      · skip
        refine v_iload_n (pc := 52) rfl dX4_recallGrams_52 ?_
        exact v_iret (pc := 53) E (⟨by rw [hs, show i = G 107 3 by omega]; rfl, rfl⟩) (Nat.le_of_ble_eq_true rfl) (Nat.le_of_ble_eq_true rfl) dX4_recallGrams_53
      · skip
        refine v_iload_n (pc := 19) rfl dX4_recallGrams_19 ?_
        refine v_aload_n (pc := 20) rfl dX4_recallGrams_20 ?_
        refine v_getR (pc := 21) (j := 107) fd_X4_9 (rfl) (by decide) rfl dX4_recallGrams_21 ?_
        refine v_iload_n (pc := 24) rfl dX4_recallGrams_24 ?_
        refine v_callS (pc := 25) (rest := [vR g 107, vI s]) (c_X4_coinAt) sok_X4_coinAt wM_X4_68 (rmOk (by decide) (by decide)) ⟨Nat.le_of_ble_eq_true rfl, Nat.le_of_ble_eq_true rfl⟩ (Nat.le_of_ble_eq_true rfl) rfl dX4_recallGrams_25 (fun v G' hq => ?_) (fun _ _ h => h.elim)
        obtain ⟨rfl, hG9⟩ := hq
        rw [hG9]
        refine v_stk (st' := [vI (24 + 3 * i), vR g 107, vI s]) rfl ?_
        refine v_iconst (pc := 28) (z := 1) dX4_recallGrams_28 ?_
        refine v_iadd (pc := 29) dX4_recallGrams_29 ?_
        refine v_iald (pc := 30) (N := 144) rfl rfl (by decide) (by omega) (by decide) dX4_recallGrams_30 ?_
        refine v_top (b := G 107 ((24 + 3 * i) + 1)) (upd2_i (by decide)) ?_
        have r2 := MoI_k hM (k := i) (by omega) (by omega)
        refine v_iload_n (pc := 31) rfl dX4_recallGrams_31 ?_
        refine v_icmp_ne (pc := 32) (tgt := 43) (by omega) dX4_recallGrams_32 (by decide) (fun bq3 => ?_) (fun bq3 => ?_)
        · skip
          refine v_iconst (pc := 43) (z := 0) dX4_recallGrams_43 ?_
          refine v_iadd (pc := 44) dX4_recallGrams_44 ?_
          refine v_istore_n (pc := 45) (by decide) rfl dX4_recallGrams_45 ?_
          refine v_iinc (pc := 46) (y := 1) rfl (by decide) rfl dX4_recallGrams_46 ?_
          refine v_goto (pc := 49) (tgt := 9) dX4_recallGrams_49 (by decide) ?_
          exact ih9 (i + 1) (s + 0) (by omega) (by rw [sz_s (by omega)]; first | (rw [if_pos (by omega)]; omega) | (rw [if_neg (by omega)]; omega) | omega) (by omega)
        · skip
          refine v_aload_n (pc := 35) rfl dX4_recallGrams_35 ?_
          refine v_iload_n (pc := 36) rfl dX4_recallGrams_36 ?_
          refine v_callV (pc := 37) (rest := [vI s]) (c_X4_grams (G := upd2 G 106 8 0) hM (k := i) (by show 0 ≤ i ∧ i < G 107 3; omega)) iok_X4_grams wM_X4_128 (rfl) (by decide) (by decide) rfl (rmOk (by decide) (by decide)) ⟨Nat.le_of_ble_eq_true rfl, Nat.le_of_ble_eq_true rfl⟩ (Nat.le_of_ble_eq_true rfl) rfl dX4_recallGrams_37 (fun v G' hq => ?_) (fun _ _ h => h.elim)
          obtain ⟨rfl, hG9⟩ := hq
          rw [hG9]
          refine v_stk (st' := [vI (mxI 0 (G 107 (9 + 3 * G 107 (24 + 3 * i) + 1) - G 107 (24 + 3 * i + 2))), vI s]) rfl ?_
          refine v_goto (pc := 40) (tgt := 44) dX4_recallGrams_40 (by decide) ?_
          refine v_iadd (pc := 44) dX4_recallGrams_44 ?_
          refine v_istore_n (pc := 45) (by decide) rfl dX4_recallGrams_45 ?_
          refine v_iinc (pc := 46) (y := 1) rfl (by decide) rfl dX4_recallGrams_46 ?_
          refine v_goto (pc := 49) (tgt := 9) dX4_recallGrams_49 (by decide) ?_
          exact ih9 (i + 1) (s + (mxI 0 (G 107 (9 + 3 * G 107 (24 + 3 * i) + 1) - G 107 (24 + 3 * i + 2)))) (by omega) (by rw [sz_s (by omega)]; first | (rw [if_pos (by omega)]; omega) | (rw [if_neg (by omega)]; omega) | omega) (by omega)
  refine v_loc (L' := [some (vR g 106), some (vI d), some (vI 0), some (vI 0)]) (⟨rfl, rfl, rfl, rfl, trivial⟩) ?_
  exact lp9 _ 0 0 (by omega) rfl (Nat.lt_succ_self _)
set_option maxHeartbeats 4000000 in
set_option maxRecDepth 100000 in
theorem c_X4_errorPosition {g : GT} {G : Mem} (hr : -1 ≤ G 106 6 ∧ G 106 6 ≤ 1000) : Ctr g yX4_errorPosition cX4_errorPosition 1 (some FieldType.int) (rmL 1 0 0) [vR g 106] G (QR G (fun k r => (k = 0 ∧ G 106 6 ≠ -1 ∧ r = G 106 6) ∨ (k = 1 ∧ G 106 6 = -1))) NoX := by
  refine ctr_of [some (vR g 106)] (by decide) (Nat.le_of_ble_eq_true rfl) rfl (fun γ E => ?_)
  show V γ g cX4_errorPosition 1 RX4 (rmL 1 0 0) G 0 0 0 [some (vR g 106)] []
  refine v_aload_n (pc := 0) rfl dX4_errorPosition_0 ?_
  refine v_iconst (pc := 1) (z := 0) dX4_errorPosition_1 ?_
  refine v_put (pc := 2) 8 pd_X4_54 (rfl) (by decide) rfl rfl dX4_errorPosition_2 ?_
  refine v_aload_n (pc := 5) rfl dX4_errorPosition_5 ?_
  refine v_get (pc := 6) 6 fd_X4_22 (rfl) (by decide) rfl rfl dX4_errorPosition_6 ?_
  refine v_top (b := G 106 6) (upd2_z (by decide)) ?_
  refine v_iconst (pc := 9) (z := (-1)) dX4_errorPosition_9 ?_
  refine v_icmp_ne (pc := 10) (tgt := 21) (by omega) dX4_errorPosition_10 (by decide) (fun bq1 => ?_) (fun bq1 => ?_)
  · skip
    refine v_aload_n (pc := 21) rfl dX4_errorPosition_21 ?_
    refine v_get (pc := 22) 6 fd_X4_22 (rfl) (by decide) rfl rfl dX4_errorPosition_22 ?_
    refine v_top (b := G 106 6) (upd2_z (by decide)) ?_
    exact v_iret (pc := 25) E (⟨_, 0, rfl, Or.inl ⟨rfl, by assumption, rfl⟩, by decide, rfl⟩) (Nat.le_of_ble_eq_true rfl) (Nat.le_of_ble_eq_true rfl) dX4_errorPosition_25
  · skip
    refine v_aload_n (pc := 13) rfl dX4_errorPosition_13 ?_
    refine v_iconst (pc := 14) (z := 1) dX4_errorPosition_14 ?_
    refine v_callV (pc := 15) (rest := []) (c_X4_throwing) iok_X4_throwing wM_X4_81 (rfl) (by decide) (by decide) rfl (rmOk (by decide) (by decide)) ⟨Nat.le_of_ble_eq_true rfl, Nat.le_of_ble_eq_true rfl⟩ (Nat.le_of_ble_eq_true rfl) rfl dX4_errorPosition_15 (fun v G' hq => ?_) (fun _ _ h => h.elim)
    obtain ⟨rfl, hG9⟩ := hq
    rw [hG9]
    refine v_stk (st' := [vI (-1)]) rfl ?_
    refine v_goto (pc := 18) (tgt := 25) dX4_errorPosition_18 (by decide) ?_
    exact v_iret (pc := 25) E (⟨_, 1, rfl, Or.inr ⟨rfl, by assumption⟩, by decide, upd2_u G 106 8 0 1⟩) (Nat.le_of_ble_eq_true rfl) (Nat.le_of_ble_eq_true rfl) dX4_errorPosition_25
set_option maxHeartbeats 4000000 in
set_option maxRecDepth 100000 in
theorem c_X4_failedCommand {g : GT} {G : Mem} (hr : -1 ≤ G 106 7 ∧ G 106 7 ≤ 1000) : Ctr g yX4_failedCommand cX4_failedCommand 1 (some FieldType.int) (rmL 1 0 0) [vR g 106] G (QR G (fun k r => (k = 0 ∧ G 106 7 ≠ -1 ∧ r = G 106 7) ∨ (k = 1 ∧ G 106 7 = -1))) NoX := by
  refine ctr_of [some (vR g 106)] (by decide) (Nat.le_of_ble_eq_true rfl) rfl (fun γ E => ?_)
  show V γ g cX4_failedCommand 1 RX4 (rmL 1 0 0) G 0 0 0 [some (vR g 106)] []
  refine v_aload_n (pc := 0) rfl dX4_failedCommand_0 ?_
  refine v_iconst (pc := 1) (z := 0) dX4_failedCommand_1 ?_
  refine v_put (pc := 2) 8 pd_X4_54 (rfl) (by decide) rfl rfl dX4_failedCommand_2 ?_
  refine v_aload_n (pc := 5) rfl dX4_failedCommand_5 ?_
  refine v_get (pc := 6) 7 fd_X4_26 (rfl) (by decide) rfl rfl dX4_failedCommand_6 ?_
  refine v_top (b := G 106 7) (upd2_z (by decide)) ?_
  refine v_iconst (pc := 9) (z := (-1)) dX4_failedCommand_9 ?_
  refine v_icmp_ne (pc := 10) (tgt := 21) (by omega) dX4_failedCommand_10 (by decide) (fun bq1 => ?_) (fun bq1 => ?_)
  · skip
    refine v_aload_n (pc := 21) rfl dX4_failedCommand_21 ?_
    refine v_get (pc := 22) 7 fd_X4_26 (rfl) (by decide) rfl rfl dX4_failedCommand_22 ?_
    refine v_top (b := G 106 7) (upd2_z (by decide)) ?_
    exact v_iret (pc := 25) E (⟨_, 0, rfl, Or.inl ⟨rfl, by assumption, rfl⟩, by decide, rfl⟩) (Nat.le_of_ble_eq_true rfl) (Nat.le_of_ble_eq_true rfl) dX4_failedCommand_25
  · skip
    refine v_aload_n (pc := 13) rfl dX4_failedCommand_13 ?_
    refine v_iconst (pc := 14) (z := 1) dX4_failedCommand_14 ?_
    refine v_callV (pc := 15) (rest := []) (c_X4_throwing) iok_X4_throwing wM_X4_81 (rfl) (by decide) (by decide) rfl (rmOk (by decide) (by decide)) ⟨Nat.le_of_ble_eq_true rfl, Nat.le_of_ble_eq_true rfl⟩ (Nat.le_of_ble_eq_true rfl) rfl dX4_failedCommand_15 (fun v G' hq => ?_) (fun _ _ h => h.elim)
    obtain ⟨rfl, hG9⟩ := hq
    rw [hG9]
    refine v_stk (st' := [vI (-1)]) rfl ?_
    refine v_goto (pc := 18) (tgt := 25) dX4_failedCommand_18 (by decide) ?_
    exact v_iret (pc := 25) E (⟨_, 1, rfl, Or.inr ⟨rfl, by assumption⟩, by decide, upd2_u G 106 8 0 1⟩) (Nat.le_of_ble_eq_true rfl) (Nat.le_of_ble_eq_true rfl) dX4_failedCommand_25
set_option maxHeartbeats 4000000 in
set_option maxRecDepth 100000 in
theorem c_X4_type {g : GT} {G : Mem} {c : Int} (h_c : 0 ≤ c ∧ c < 65536) (hi : 0 ≤ G 106 10 ∧ G 106 10 ≤ 60) : Ctr g yX4_type cX4_type 2 (some FieldType.int) (rmL 1 0 0) [vR g 106, vI c] G (RP (fun r G' => ((32 ≤ c ∧ c ≤ 126) ∧ G 106 10 < 60 ∧ r = G 106 10 + 1 ∧ G' 106 8 = 0 ∧ G' 106 10 = G 106 10 + 1 ∧ G' 111 (G 106 10) = c ∧ ∀ i z, ¬ (i = 106 ∧ (z = 8 ∨ z = 10)) → ¬ (i = 111 ∧ z = G 106 10) → G' i z = G i z) ∨ (G' = upd2 G 106 8 1 ∧ ¬ (32 ≤ c ∧ c ≤ 126)) ∨ (G' = upd2 G 106 8 2 ∧ (32 ≤ c ∧ c ≤ 126) ∧ G 106 10 = 60))) NoX := by
  refine ctr_of [some (vR g 106), some (vI c)] (by decide) (Nat.le_of_ble_eq_true rfl) rfl (fun γ E => ?_)
  show V γ g cX4_type 2 RX4 (rmL 1 0 0) G 0 0 0 [some (vR g 106), some (vI c)] []
  refine v_aload_n (pc := 0) rfl dX4_type_0 ?_
  refine v_iconst (pc := 1) (z := 0) dX4_type_1 ?_
  refine v_put (pc := 2) 8 pd_X4_54 (rfl) (by decide) rfl rfl dX4_type_2 ?_
  refine v_iload_n (pc := 5) rfl dX4_type_5 ?_
  refine v_i2l (pc := 6) (by omega) dX4_type_6 ?_
  refine v_ldc2 (pc := 7) (z := 32) wG_X4_194 (by decide) dX4_type_7 ?_
  refine v_ldc2 (pc := 10) (z := 126) wG_X4_196 (by decide) dX4_type_10 ?_
  refine v_callS (pc := 13) (rest := []) (c_X4_in (by omega) (by omega) (by omega)) sok_X4_in wM_X4_60 (rmOk (by decide) (by decide)) ⟨Nat.le_of_ble_eq_true rfl, Nat.le_of_ble_eq_true rfl⟩ (Nat.le_of_ble_eq_true rfl) rfl dX4_type_13 (fun v G' hq => ?_) (fun _ _ h => h.elim)
  obtain ⟨rfl, hG9⟩ := hq
  rw [hG9]
  refine v_stk (st' := [vI (bI (32 ≤ c ∧ c ≤ 126))]) rfl ?_
  refine v_if_ne (pc := 16) (tgt := 25) (bI_r _) dX4_type_16 (by decide) (fun bq1 => ?_) (fun bq1 => ?_)
  · skip
    have bq1 := bI_n0 bq1
    have hcc : 32 ≤ c ∧ c ≤ 126 := by assumption
    refine v_aload_n (pc := 25) rfl dX4_type_25 ?_
    refine v_get (pc := 26) 10 fd_X4_198 (rfl) (by decide) rfl rfl dX4_type_26 ?_
    refine v_top (b := G 106 10) (upd2_z (by decide)) ?_
    refine v_bipush (pc := 29) (z := 60) rfl dX4_type_29 ?_
    refine v_icmp_ne (pc := 31) (tgt := 40) (by omega) dX4_type_31 (by decide) (fun bq2 => ?_) (fun bq2 => ?_)
    · skip
      refine v_aload_n (pc := 40) rfl dX4_type_40 ?_
      refine v_getR (pc := 41) (j := 111) fd_X4_29 (rfl) (by decide) rfl dX4_type_41 ?_
      refine v_aload_n (pc := 44) rfl dX4_type_44 ?_
      refine v_get (pc := 45) 10 fd_X4_198 (rfl) (by decide) rfl rfl dX4_type_45 ?_
      refine v_top (b := G 106 10) (upd2_z (by decide)) ?_
      refine v_iload_n (pc := 48) rfl dX4_type_48 ?_
      refine v_iast (pc := 49) (N := 60) rfl rfl (by decide) (by omega) (by decide) dX4_type_49 ?_
      refine v_aload_n (pc := 50) rfl dX4_type_50 ?_
      refine v_dup (pc := 51) rfl dX4_type_51 ?_
      refine v_get (pc := 52) 10 fd_X4_198 (rfl) (by decide) rfl rfl dX4_type_52 ?_
      refine v_top (b := G 106 10) ((upd2_i (by decide)).trans (upd2_z (by decide))) ?_
      refine v_iconst (pc := 55) (z := 1) dX4_type_55 ?_
      refine v_iadd (pc := 56) dX4_type_56 ?_
      refine v_put (pc := 57) 10 pd_X4_198 (rfl) (by decide) rfl rfl dX4_type_57 ?_
      refine v_aload_n (pc := 60) rfl dX4_type_60 ?_
      refine v_get (pc := 61) 10 fd_X4_198 (rfl) (by decide) rfl rfl dX4_type_61 ?_
      refine v_top (b := (G 106 10) + 1) (upd2_s _ _ _ _) ?_
      exact v_iret (pc := 64) E (⟨_, rfl, Or.inl ⟨hcc, by omega, rfl, by rw [upd2_z (by decide), upd2_i (by decide), upd2_s], by rw [upd2_s], by rw [upd2_i (by decide), upd2_s], fun i z a b => by rw [upd2, if_neg (by omega), upd2, if_neg (by omega), upd2, if_neg (by omega)]⟩⟩) (Nat.le_of_ble_eq_true rfl) (Nat.le_of_ble_eq_true rfl) dX4_type_64
    · skip
      refine v_aload_n (pc := 34) rfl dX4_type_34 ?_
      refine v_iconst (pc := 35) (z := 2) dX4_type_35 ?_
      refine v_callV (pc := 36) (rest := []) (c_X4_throwing) iok_X4_throwing wM_X4_81 (rfl) (by decide) (by decide) rfl (rmOk (by decide) (by decide)) ⟨Nat.le_of_ble_eq_true rfl, Nat.le_of_ble_eq_true rfl⟩ (Nat.le_of_ble_eq_true rfl) rfl dX4_type_36 (fun v G' hq => ?_) (fun _ _ h => h.elim)
      obtain ⟨rfl, hG9⟩ := hq
      rw [hG9]
      refine v_stk (st' := [vI (-1)]) rfl ?_
      exact v_iret (pc := 39) E (⟨_, rfl, Or.inr (Or.inr ⟨upd2_u G 106 8 0 2, hcc, by assumption⟩)⟩) (Nat.le_of_ble_eq_true rfl) (Nat.le_of_ble_eq_true rfl) dX4_type_39
  · skip
    have bq1 := bI_eq0.mp bq1
    refine v_aload_n (pc := 19) rfl dX4_type_19 ?_
    refine v_iconst (pc := 20) (z := 1) dX4_type_20 ?_
    refine v_callV (pc := 21) (rest := []) (c_X4_throwing) iok_X4_throwing wM_X4_81 (rfl) (by decide) (by decide) rfl (rmOk (by decide) (by decide)) ⟨Nat.le_of_ble_eq_true rfl, Nat.le_of_ble_eq_true rfl⟩ (Nat.le_of_ble_eq_true rfl) rfl dX4_type_21 (fun v G' hq => ?_) (fun _ _ h => h.elim)
    obtain ⟨rfl, hG9⟩ := hq
    rw [hG9]
    refine v_stk (st' := [vI (-1)]) rfl ?_
    exact v_iret (pc := 24) E (⟨_, rfl, Or.inr (Or.inl ⟨upd2_u G 106 8 0 1, by assumption⟩)⟩) (Nat.le_of_ble_eq_true rfl) (Nat.le_of_ble_eq_true rfl) dX4_type_24
set_option maxHeartbeats 4000000 in
set_option maxRecDepth 100000 in
theorem c_X4_starts {g : GT} {G : Mem} : Ctr g yX4_starts cX4_starts 2 (none : Option FieldType) (rmL 0 0 0) [vR g 106] G (VP (fun G' => G' 106 8 = 0 ∧ (∀ k, 0 ≤ k → k < 144 → G' 108 k = G 107 k) ∧ ∀ i z, i ≠ 108 → ¬ (i = 106 ∧ z = 8) → G' i z = G i z)) NoX := by
  refine ctr_of [some (vR g 106), none] (by decide) (Nat.le_of_ble_eq_true rfl) rfl (fun γ E => ?_)
  show V γ g cX4_starts 2 RX4 (rmL 0 0 0) G 0 0 0 [some (vR g 106), none] []
  refine v_aload_n (pc := 0) rfl dX4_starts_0 ?_
  refine v_iconst (pc := 1) (z := 0) dX4_starts_1 ?_
  refine v_put (pc := 2) 8 pd_X4_54 (rfl) (by decide) rfl rfl dX4_starts_2 ?_
  obtain ⟨Gs, hGs⟩ : ∃ x : Mem, x = (upd2 G 106 8 0) := ⟨_, rfl⟩
  refine v_iconst (pc := 5) (z := 0) dX4_starts_5 ?_
  refine v_istore_n (pc := 6) (by decide) rfl dX4_starts_6 ?_
  have lp7 : ∀ (m7 : Nat) (i : Int) (G1 : Mem), (0 ≤ i ∧ i ≤ 144) → (∀ k, 0 ≤ k → k < i → G1 108 k = Gs 107 k) → (∀ j z, ¬ (j = 108 ∧ ∃ k, 0 ≤ k ∧ k < i ∧ z = k) → G1 j z = Gs j z) → ((144 - i).toNat) < m7 → V γ g cX4_starts 2 RX4 (rmL 0 0 0) G1 0 0 7 [some (vR g 106), some (vI i)] [] := by
    intro m7
    induction m7 with
    | zero => intro i G1; intros; omega
    | succ m7 ih7 =>
      intro i G1 h0 hc hF hm7
      refine v_iload_n (pc := 7) rfl dX4_starts_7 ?_
      refine v_sipush (pc := 8) (z := 144) rfl dX4_starts_8 ?_
      refine v_icmp_ge (pc := 11) (tgt := 32) (by omega) dX4_starts_11 (by decide) (fun bq1 => ?_) (fun bq1 => ?_)
      · skip
        exact v_vret (pc := 32) E (⟨rfl, (hF 106 8 (by rintro ⟨q, -⟩; omega)).trans (by rw [hGs, upd2_s]), fun k a c => (hc k a (by omega)).trans (by rw [hGs, upd2_i (by decide)]), fun j z a b => (hF j z (by rintro ⟨q, -⟩; omega)).trans (by rw [hGs, upd2, if_neg b])⟩) (Nat.le_of_ble_eq_true rfl) (Nat.le_of_ble_eq_true rfl) dX4_starts_32
      · skip
        refine v_aload_n (pc := 14) rfl dX4_starts_14 ?_
        refine v_getR (pc := 15) (j := 108) fd_X4_13 (rfl) (by decide) rfl dX4_starts_15 ?_
        refine v_iload_n (pc := 18) rfl dX4_starts_18 ?_
        refine v_aload_n (pc := 19) rfl dX4_starts_19 ?_
        refine v_getR (pc := 20) (j := 107) fd_X4_9 (rfl) (by decide) rfl dX4_starts_20 ?_
        refine v_iload_n (pc := 23) rfl dX4_starts_23 ?_
        refine v_iald (pc := 24) (N := 144) rfl rfl (by decide) (by omega) (by decide) dX4_starts_24 ?_
        refine v_iast (pc := 25) (N := 144) rfl rfl (by decide) (by omega) (by decide) dX4_starts_25 ?_
        refine v_iinc (pc := 26) (y := 1) rfl (by decide) rfl dX4_starts_26 ?_
        refine v_goto (pc := 29) (tgt := 7) dX4_starts_29 (by decide) ?_
        exact ih7 (i + 1) (upd2 G1 108 i (G1 107 i)) (by omega) (fun k a c => (Classical.em (k = i)).elim (fun e => by rw [e, upd2_s]; exact hF 107 _ (by rintro ⟨q1, k, q2, q3, q4⟩; omega)) (fun e => (upd2_z (by omega)).trans (hc k a (by omega)))) (fun j z a => (Classical.em (j = 108 ∧ z = i)).elim (fun e => absurd ⟨e.1, i, by omega, by omega, e.2⟩ a) (fun e => (if_neg e).trans (hF j z (fun q => a ⟨q.1, by obtain ⟨k, q2, q3, q4⟩ := q.2; exact ⟨k, q2, by omega, q4⟩⟩)))) (by omega)
  refine v_loc (L' := [some (vR g 106), some (vI 0)]) (⟨rfl, rfl, trivial⟩) ?_
  exact lp7 _ 0 (upd2 G 106 8 0) (by omega) (fun k a c => absurd c (by omega)) (fun j z a => congrFun (congrFun hGs.symm j) z) (Nat.lt_succ_self _)
set_option maxHeartbeats 4000000 in
set_option maxRecDepth 100000 in
theorem c_X4_save {g : GT} {G : Mem} : Ctr g yX4_save cX4_save 2 (some FieldType.int) (rmL 0 0 0) [vR g 106] G (RP (fun r G' => r = G 107 3 ∧ G' 106 8 = 0 ∧ G' 106 3 = 1 ∧ (∀ k, 0 ≤ k → k < 144 → G' 109 k = G 107 k) ∧ ∀ i z, i ≠ 109 → ¬ (i = 106 ∧ (z = 3 ∨ z = 8)) → G' i z = G i z)) NoX := by
  refine ctr_of [some (vR g 106), none] (by decide) (Nat.le_of_ble_eq_true rfl) rfl (fun γ E => ?_)
  show V γ g cX4_save 2 RX4 (rmL 0 0 0) G 0 0 0 [some (vR g 106), none] []
  refine v_aload_n (pc := 0) rfl dX4_save_0 ?_
  refine v_iconst (pc := 1) (z := 0) dX4_save_1 ?_
  refine v_put (pc := 2) 8 pd_X4_54 (rfl) (by decide) rfl rfl dX4_save_2 ?_
  obtain ⟨Gs, hGs⟩ : ∃ x : Mem, x = (upd2 G 106 8 0) := ⟨_, rfl⟩
  refine v_iconst (pc := 5) (z := 0) dX4_save_5 ?_
  refine v_istore_n (pc := 6) (by decide) rfl dX4_save_6 ?_
  have lp7 : ∀ (m7 : Nat) (i : Int) (G1 : Mem), (0 ≤ i ∧ i ≤ 144) → (∀ k, 0 ≤ k → k < i → G1 109 k = Gs 107 k) → (∀ j z, ¬ (j = 109 ∧ ∃ k, 0 ≤ k ∧ k < i ∧ z = k) → G1 j z = Gs j z) → ((144 - i).toNat) < m7 → V γ g cX4_save 2 RX4 (rmL 0 0 0) G1 0 0 7 [some (vR g 106), some (vI i)] [] := by
    intro m7
    induction m7 with
    | zero => intro i G1; intros; omega
    | succ m7 ih7 =>
      intro i G1 h0 hc hF hm7
      refine v_iload_n (pc := 7) rfl dX4_save_7 ?_
      refine v_sipush (pc := 8) (z := 144) rfl dX4_save_8 ?_
      refine v_icmp_ge (pc := 11) (tgt := 32) (by omega) dX4_save_11 (by decide) (fun bq1 => ?_) (fun bq1 => ?_)
      · skip
        refine v_aload_n (pc := 32) rfl dX4_save_32 ?_
        refine v_iconst (pc := 33) (z := 1) dX4_save_33 ?_
        refine v_putZ (pc := 34) 3 (by decide) pd_X4_249 (rfl) (by decide) rfl rfl dX4_save_34 ?_
        have e3 : G1 107 3 = G 107 3 := (hF 107 3 (by rintro ⟨q, -⟩; omega)).trans (by rw [hGs, upd2_i (by decide)])
        refine v_aload_n (pc := 37) rfl dX4_save_37 ?_
        refine v_getR (pc := 38) (j := 107) fd_X4_9 (rfl) (by decide) rfl dX4_save_38 ?_
        refine v_iconst (pc := 41) (z := 3) dX4_save_41 ?_
        refine v_iald (pc := 42) (N := 144) rfl rfl (by decide) (by omega) (by decide) dX4_save_42 ?_
        refine v_top (b := G1 107 3) (upd2_i (by decide)) ?_
        exact v_iret (pc := 43) E (⟨_, rfl, e3, (upd2_z (by decide)).trans ((hF 106 8 (by rintro ⟨q, -⟩; omega)).trans (by rw [hGs, upd2_s])), upd2_s _ _ _ _, fun k a c => (upd2_i (by decide)).trans ((hc k a (by omega)).trans (by rw [hGs, upd2_i (by decide)])), fun j z a b => (if_neg (by omega)).trans ((hF j z (by rintro ⟨q, -⟩; omega)).trans (by rw [hGs, upd2, if_neg (by omega)]))⟩) (Nat.le_of_ble_eq_true rfl) (Nat.le_of_ble_eq_true rfl) dX4_save_43
      · skip
        refine v_aload_n (pc := 14) rfl dX4_save_14 ?_
        refine v_getR (pc := 15) (j := 109) fd_X4_16 (rfl) (by decide) rfl dX4_save_15 ?_
        refine v_iload_n (pc := 18) rfl dX4_save_18 ?_
        refine v_aload_n (pc := 19) rfl dX4_save_19 ?_
        refine v_getR (pc := 20) (j := 107) fd_X4_9 (rfl) (by decide) rfl dX4_save_20 ?_
        refine v_iload_n (pc := 23) rfl dX4_save_23 ?_
        refine v_iald (pc := 24) (N := 144) rfl rfl (by decide) (by omega) (by decide) dX4_save_24 ?_
        refine v_iast (pc := 25) (N := 144) rfl rfl (by decide) (by omega) (by decide) dX4_save_25 ?_
        refine v_iinc (pc := 26) (y := 1) rfl (by decide) rfl dX4_save_26 ?_
        refine v_goto (pc := 29) (tgt := 7) dX4_save_29 (by decide) ?_
        exact ih7 (i + 1) (upd2 G1 109 i (G1 107 i)) (by omega) (fun k a c => (Classical.em (k = i)).elim (fun e => by rw [e, upd2_s]; exact hF 107 _ (by rintro ⟨q1, k, q2, q3, q4⟩; omega)) (fun e => (upd2_z (by omega)).trans (hc k a (by omega)))) (fun j z a => (Classical.em (j = 109 ∧ z = i)).elim (fun e => absurd ⟨e.1, i, by omega, by omega, e.2⟩ a) (fun e => (if_neg e).trans (hF j z (fun q => a ⟨q.1, by obtain ⟨k, q2, q3, q4⟩ := q.2; exact ⟨k, q2, by omega, q4⟩⟩)))) (by omega)
  refine v_loc (L' := [some (vR g 106), some (vI 0)]) (⟨rfl, rfl, trivial⟩) ?_
  exact lp7 _ 0 (upd2 G 106 8 0) (by omega) (fun k a c => absurd c (by omega)) (fun j z a => congrFun (congrFun hGs.symm j) z) (Nat.lt_succ_self _)
set_option maxHeartbeats 4000000 in
set_option maxRecDepth 100000 in
theorem c_X4_restore {g : GT} {G : Mem} (h3 : 0 ≤ G 106 3 ∧ G 106 3 ≤ 1) : Ctr g yX4_restore cX4_restore 2 (some FieldType.int) (rmL 1 0 0) [vR g 106] G (RP (fun r G' => (G 106 3 = 0 ∧ G' = upd2 G 106 8 1) ∨ (G 106 3 ≠ 0 ∧ r = G 109 3 ∧ G' 106 8 = 0 ∧ G' 106 5 = 0 ∧ (∀ k, 0 ≤ k → k < 144 → G' 107 k = G 109 k) ∧ ∀ i z, i ≠ 107 → ¬ (i = 106 ∧ (z = 5 ∨ z = 8)) → G' i z = G i z))) NoX := by
  refine ctr_of [some (vR g 106), none] (by decide) (Nat.le_of_ble_eq_true rfl) rfl (fun γ E => ?_)
  show V γ g cX4_restore 2 RX4 (rmL 1 0 0) G 0 0 0 [some (vR g 106), none] []
  refine v_aload_n (pc := 0) rfl dX4_restore_0 ?_
  refine v_iconst (pc := 1) (z := 0) dX4_restore_1 ?_
  refine v_put (pc := 2) 8 pd_X4_54 (rfl) (by decide) rfl rfl dX4_restore_2 ?_
  refine v_aload_n (pc := 5) rfl dX4_restore_5 ?_
  refine v_get (pc := 6) 3 fd_X4_249 (rfl) (by decide) rfl rfl dX4_restore_6 ?_
  refine v_top (b := G 106 3) (upd2_z (by decide)) ?_
  refine v_if_ne (pc := 9) (tgt := 18) (by omega) dX4_restore_9 (by decide) (fun bq1 => ?_) (fun bq1 => ?_)
  · skip
    obtain ⟨Gs, hGs⟩ : ∃ x : Mem, x = (upd2 G 106 8 0) := ⟨_, rfl⟩
    refine v_iconst (pc := 18) (z := 0) dX4_restore_18 ?_
    refine v_istore_n (pc := 19) (by decide) rfl dX4_restore_19 ?_
    have lp20 : ∀ (m20 : Nat) (i : Int) (G1 : Mem), (0 ≤ i ∧ i ≤ 144) → (∀ k, 0 ≤ k → k < i → G1 107 k = Gs 109 k) → (∀ j z, ¬ (j = 107 ∧ ∃ k, 0 ≤ k ∧ k < i ∧ z = k) → G1 j z = Gs j z) → ((144 - i).toNat) < m20 → V γ g cX4_restore 2 RX4 (rmL 1 0 0) G1 0 0 20 [some (vR g 106), some (vI i)] [] := by
      intro m20
      induction m20 with
      | zero => intro i G1; intros; omega
      | succ m20 ih20 =>
        intro i G1 h0 hc hF hm20
        refine v_iload_n (pc := 20) rfl dX4_restore_20 ?_
        refine v_sipush (pc := 21) (z := 144) rfl dX4_restore_21 ?_
        refine v_icmp_ge (pc := 24) (tgt := 45) (by omega) dX4_restore_24 (by decide) (fun bq2 => ?_) (fun bq2 => ?_)
        · skip
          refine v_aload_n (pc := 45) rfl dX4_restore_45 ?_
          refine v_iconst (pc := 46) (z := 0) dX4_restore_46 ?_
          refine v_put (pc := 47) 5 pd_X4_57 (rfl) (by decide) rfl rfl dX4_restore_47 ?_
          refine v_aload_n (pc := 50) rfl dX4_restore_50 ?_
          refine v_getR (pc := 51) (j := 107) fd_X4_9 (rfl) (by decide) rfl dX4_restore_51 ?_
          refine v_iconst (pc := 54) (z := 3) dX4_restore_54 ?_
          refine v_iald (pc := 55) (N := 144) rfl rfl (by decide) (by omega) (by decide) dX4_restore_55 ?_
          refine v_top (b := G1 107 3) (upd2_i (by decide)) ?_
          exact v_iret (pc := 56) E (⟨_, rfl, Or.inr ⟨by omega, (hc 3 (by decide) (by omega)).trans (by rw [hGs, upd2_i (by decide)]), (upd2_z (by decide)).trans ((hF 106 8 (by rintro ⟨q, -⟩; omega)).trans (by rw [hGs, upd2_s])), upd2_s _ _ _ _, fun k a c => (upd2_i (by decide)).trans ((hc k a (by omega)).trans (by rw [hGs, upd2_i (by decide)])), fun j z a b => (if_neg (by omega)).trans ((hF j z (by rintro ⟨q, -⟩; omega)).trans (by rw [hGs, upd2, if_neg (by omega)]))⟩⟩) (Nat.le_of_ble_eq_true rfl) (Nat.le_of_ble_eq_true rfl) dX4_restore_56
        · skip
          refine v_aload_n (pc := 27) rfl dX4_restore_27 ?_
          refine v_getR (pc := 28) (j := 107) fd_X4_9 (rfl) (by decide) rfl dX4_restore_28 ?_
          refine v_iload_n (pc := 31) rfl dX4_restore_31 ?_
          refine v_aload_n (pc := 32) rfl dX4_restore_32 ?_
          refine v_getR (pc := 33) (j := 109) fd_X4_16 (rfl) (by decide) rfl dX4_restore_33 ?_
          refine v_iload_n (pc := 36) rfl dX4_restore_36 ?_
          refine v_iald (pc := 37) (N := 144) rfl rfl (by decide) (by omega) (by decide) dX4_restore_37 ?_
          refine v_iast (pc := 38) (N := 144) rfl rfl (by decide) (by omega) (by decide) dX4_restore_38 ?_
          refine v_iinc (pc := 39) (y := 1) rfl (by decide) rfl dX4_restore_39 ?_
          refine v_goto (pc := 42) (tgt := 20) dX4_restore_42 (by decide) ?_
          exact ih20 (i + 1) (upd2 G1 107 i (G1 109 i)) (by omega) (fun k a c => (Classical.em (k = i)).elim (fun e => by rw [e, upd2_s]; exact hF 109 _ (by rintro ⟨q1, k, q2, q3, q4⟩; omega)) (fun e => (upd2_z (by omega)).trans (hc k a (by omega)))) (fun j z a => (Classical.em (j = 107 ∧ z = i)).elim (fun e => absurd ⟨e.1, i, by omega, by omega, e.2⟩ a) (fun e => (if_neg e).trans (hF j z (fun q => a ⟨q.1, by obtain ⟨k, q2, q3, q4⟩ := q.2; exact ⟨k, q2, by omega, q4⟩⟩)))) (by omega)
    refine v_loc (L' := [some (vR g 106), some (vI 0)]) (⟨rfl, rfl, trivial⟩) ?_
    exact lp20 _ 0 (upd2 G 106 8 0) (by omega) (fun k a c => absurd c (by omega)) (fun j z a => congrFun (congrFun hGs.symm j) z) (Nat.lt_succ_self _)
  · skip
    refine v_aload_n (pc := 12) rfl dX4_restore_12 ?_
    refine v_iconst (pc := 13) (z := 1) dX4_restore_13 ?_
    refine v_callV (pc := 14) (rest := []) (c_X4_throwing) iok_X4_throwing wM_X4_81 (rfl) (by decide) (by decide) rfl (rmOk (by decide) (by decide)) ⟨Nat.le_of_ble_eq_true rfl, Nat.le_of_ble_eq_true rfl⟩ (Nat.le_of_ble_eq_true rfl) rfl dX4_restore_14 (fun v G' hq => ?_) (fun _ _ h => h.elim)
    obtain ⟨rfl, hG9⟩ := hq
    rw [hG9]
    refine v_stk (st' := [vI (-1)]) rfl ?_
    exact v_iret (pc := 17) E (⟨_, rfl, Or.inl ⟨by omega, upd2_u G 106 8 0 1⟩⟩) (Nat.le_of_ble_eq_true rfl) (Nat.le_of_ble_eq_true rfl) dX4_restore_17
set_option maxHeartbeats 4000000 in
set_option maxRecDepth 100000 in
theorem c_X4_undo {g : GT} {G : Mem} (h5 : 0 ≤ G 106 5 ∧ G 106 5 ≤ 8) : Ctr g yX4_undo cX4_undo 2 (some FieldType.int) (rmL 1 0 0) [vR g 106] G (RP (fun r G' => (G 106 5 = 0 ∧ G' = upd2 G 106 8 1) ∨ (G 106 5 ≠ 0 ∧ r = G 106 5 - 1 ∧ G' 106 8 = 0 ∧ G' 106 5 = G 106 5 - 1 ∧ (∀ k, 0 ≤ k → k < 144 → G' 107 k = G 110 (144 * (G 106 5 - 1) + k)) ∧ ∀ i z, i ≠ 107 → ¬ (i = 106 ∧ (z = 5 ∨ z = 8)) → G' i z = G i z))) NoX := by
  refine ctr_of [some (vR g 106), none] (by decide) (Nat.le_of_ble_eq_true rfl) rfl (fun γ E => ?_)
  show V γ g cX4_undo 2 RX4 (rmL 1 0 0) G 0 0 0 [some (vR g 106), none] []
  refine v_aload_n (pc := 0) rfl dX4_undo_0 ?_
  refine v_iconst (pc := 1) (z := 0) dX4_undo_1 ?_
  refine v_put (pc := 2) 8 pd_X4_54 (rfl) (by decide) rfl rfl dX4_undo_2 ?_
  refine v_aload_n (pc := 5) rfl dX4_undo_5 ?_
  refine v_get (pc := 6) 5 fd_X4_57 (rfl) (by decide) rfl rfl dX4_undo_6 ?_
  refine v_top (b := G 106 5) (upd2_z (by decide)) ?_
  refine v_if_ne (pc := 9) (tgt := 18) (by omega) dX4_undo_9 (by decide) (fun bq1 => ?_) (fun bq1 => ?_)
  · skip
    refine v_aload_n (pc := 18) rfl dX4_undo_18 ?_
    refine v_dup (pc := 19) rfl dX4_undo_19 ?_
    refine v_get (pc := 20) 5 fd_X4_57 (rfl) (by decide) rfl rfl dX4_undo_20 ?_
    refine v_top (b := G 106 5) (upd2_z (by decide)) ?_
    refine v_iconst (pc := 23) (z := 1) dX4_undo_23 ?_
    refine v_isub (pc := 24) dX4_undo_24 ?_
    refine v_put (pc := 25) 5 pd_X4_57 (rfl) (by decide) rfl rfl dX4_undo_25 ?_
    obtain ⟨Gs, hGs⟩ : ∃ x : Mem, x = (upd2 (upd2 G 106 8 0) 106 5 ((G 106 5) - 1)) := ⟨_, rfl⟩
    have e5 : Gs 106 5 = G 106 5 - 1 := by rw [hGs, upd2_s]
    refine v_iconst (pc := 28) (z := 0) dX4_undo_28 ?_
    refine v_istore_n (pc := 29) (by decide) rfl dX4_undo_29 ?_
    have lp30 : ∀ (m30 : Nat) (i : Int) (G1 : Mem), (0 ≤ i ∧ i ≤ 144) → (∀ k, 0 ≤ k → k < i → G1 107 k = Gs 110 (144 * (G 106 5 - 1) + k)) → (∀ j z, ¬ (j = 107 ∧ ∃ k, 0 ≤ k ∧ k < i ∧ z = k) → G1 j z = Gs j z) → ((144 - i).toNat) < m30 → V γ g cX4_undo 2 RX4 (rmL 1 0 0) G1 0 0 30 [some (vR g 106), some (vI i)] [] := by
      intro m30
      induction m30 with
      | zero => intro i G1; intros; omega
      | succ m30 ih30 =>
        intro i G1 h0 hc hF hm30
        refine v_iload_n (pc := 30) rfl dX4_undo_30 ?_
        refine v_sipush (pc := 31) (z := 144) rfl dX4_undo_31 ?_
        refine v_icmp_ge (pc := 34) (tgt := 64) (by omega) dX4_undo_34 (by decide) (fun bq2 => ?_) (fun bq2 => ?_)
        · skip
          have f5 : G1 106 5 = G 106 5 - 1 := (hF 106 5 (by rintro ⟨q, -⟩; omega)).trans e5
          refine v_aload_n (pc := 64) rfl dX4_undo_64 ?_
          refine v_get (pc := 65) 5 fd_X4_57 (rfl) (by decide) rfl rfl dX4_undo_65 ?_
          exact v_iret (pc := 68) E (⟨_, rfl, Or.inr ⟨by omega, f5, (hF 106 8 (by rintro ⟨q, -⟩; omega)).trans (by rw [hGs, upd2_z (by decide), upd2_s]), f5, fun k a c => (hc k a (by omega)).trans (by rw [hGs, upd2_i (by decide), upd2_i (by decide)]), fun j z a b => (hF j z (by rintro ⟨q, -⟩; omega)).trans (by rw [hGs, upd2, if_neg (by omega), upd2, if_neg (by omega)])⟩⟩) (Nat.le_of_ble_eq_true rfl) (Nat.le_of_ble_eq_true rfl) dX4_undo_68
        · skip
          have f5 : G1 106 5 = G 106 5 - 1 := (hF 106 5 (by rintro ⟨q, -⟩; omega)).trans e5
          refine v_aload_n (pc := 37) rfl dX4_undo_37 ?_
          refine v_getR (pc := 38) (j := 107) fd_X4_9 (rfl) (by decide) rfl dX4_undo_38 ?_
          refine v_iload_n (pc := 41) rfl dX4_undo_41 ?_
          refine v_aload_n (pc := 42) rfl dX4_undo_42 ?_
          refine v_getR (pc := 43) (j := 110) fd_X4_19 (rfl) (by decide) rfl dX4_undo_43 ?_
          refine v_sipush (pc := 46) (z := 144) rfl dX4_undo_46 ?_
          refine v_aload_n (pc := 49) rfl dX4_undo_49 ?_
          refine v_get (pc := 50) 5 fd_X4_57 (rfl) (by decide) rfl rfl dX4_undo_50 ?_
          rw [f5]
          refine v_imul (pc := 53) dX4_undo_53 ?_
          refine v_iload_n (pc := 54) rfl dX4_undo_54 ?_
          refine v_iadd (pc := 55) dX4_undo_55 ?_
          refine v_iald (pc := 56) (N := 1152) rfl rfl (by decide) (by omega) (by decide) dX4_undo_56 ?_
          refine v_iast (pc := 57) (N := 144) rfl rfl (by decide) (by omega) (by decide) dX4_undo_57 ?_
          refine v_iinc (pc := 58) (y := 1) rfl (by decide) rfl dX4_undo_58 ?_
          refine v_goto (pc := 61) (tgt := 30) dX4_undo_61 (by decide) ?_
          exact ih30 (i + 1) (upd2 G1 107 i (G1 110 ((144 * (G 106 5 - 1)) + i))) (by omega) (fun k a c => (Classical.em (k = i)).elim (fun e => by rw [e, upd2_s]; exact hF 110 _ (by rintro ⟨q1, k, q2, q3, q4⟩; omega)) (fun e => (upd2_z (by omega)).trans (hc k a (by omega)))) (fun j z a => (Classical.em (j = 107 ∧ z = i)).elim (fun e => absurd ⟨e.1, i, by omega, by omega, e.2⟩ a) (fun e => (if_neg e).trans (hF j z (fun q => a ⟨q.1, by obtain ⟨k, q2, q3, q4⟩ := q.2; exact ⟨k, q2, by omega, q4⟩⟩)))) (by omega)
    refine v_loc (L' := [some (vR g 106), some (vI 0)]) (⟨rfl, rfl, trivial⟩) ?_
    exact lp30 _ 0 (upd2 (upd2 G 106 8 0) 106 5 ((G 106 5) - 1)) (by omega) (fun k a c => absurd c (by omega)) (fun j z a => congrFun (congrFun hGs.symm j) z) (Nat.lt_succ_self _)
  · skip
    refine v_aload_n (pc := 12) rfl dX4_undo_12 ?_
    refine v_iconst (pc := 13) (z := 1) dX4_undo_13 ?_
    refine v_callV (pc := 14) (rest := []) (c_X4_throwing) iok_X4_throwing wM_X4_81 (rfl) (by decide) (by decide) rfl (rmOk (by decide) (by decide)) ⟨Nat.le_of_ble_eq_true rfl, Nat.le_of_ble_eq_true rfl⟩ (Nat.le_of_ble_eq_true rfl) rfl dX4_undo_14 (fun v G' hq => ?_) (fun _ _ h => h.elim)
    obtain ⟨rfl, hG9⟩ := hq
    rw [hG9]
    refine v_stk (st' := [vI (-1)]) rfl ?_
    exact v_iret (pc := 17) E (⟨_, rfl, Or.inl ⟨by omega, upd2_u G 106 8 0 1⟩⟩) (Nat.le_of_ble_eq_true rfl) (Nat.le_of_ble_eq_true rfl) dX4_undo_17
/-- the model's past has a new row: the row aside -/
def MRem (G G' : Mem) : Prop := ∃ c sh : Int, ((G 106 5 < 8 ∧ c = G 106 5 ∧ sh = 0) ∨ (G 106 5 = 8 ∧ c = 7 ∧ sh = 144)) ∧ G' 106 5 = c + 1 ∧ (∀ z, 0 ≤ z → z < 144 * c → G' 110 z = G 110 (z + sh)) ∧ (∀ k, 0 ≤ k → k < 144 → G' 110 (144 * c + k) = G 108 k) ∧ ∀ i z, i ≠ 110 → ¬ (i = 106 ∧ z = 5) → G' i z = G i z

set_option maxHeartbeats 4000000 in
set_option maxRecDepth 100000 in
theorem c_X4_changed {g : GT} {G : Mem} {t : Int} (h8 : 0 ≤ G 106 8 ∧ G 106 8 ≤ 5) (h5 : 0 ≤ G 106 5 ∧ G 106 5 ≤ 8) : Ctr g yX4_changed cX4_changed 3 (some FieldType.int) (rmL 0 0 0) [vR g 106, vI t] G (RP (fun r G' => r = t ∧ ((0 < G 106 8 ∧ G' = G) ∨ (G 106 8 = 0 ∧ MRem G G')))) NoX := by
  refine ctr_of [some (vR g 106), some (vI t), none] (by decide) (Nat.le_of_ble_eq_true rfl) rfl (fun γ E => ?_)
  show V γ g cX4_changed 3 RX4 (rmL 0 0 0) G 0 0 0 [some (vR g 106), some (vI t), none] []
  refine v_aload_n (pc := 0) rfl dX4_changed_0 ?_
  refine v_get (pc := 1) 8 fd_X4_54 (rfl) (by decide) rfl rfl dX4_changed_1 ?_
  refine v_if_le (pc := 4) (tgt := 9) (by omega) dX4_changed_4 (by decide) (fun bq1 => ?_) (fun bq1 => ?_)
  · skip
    refine v_aload_n (pc := 9) rfl dX4_changed_9 ?_
    refine v_get (pc := 10) 5 fd_X4_57 (rfl) (by decide) rfl rfl dX4_changed_10 ?_
    refine v_bipush (pc := 13) (z := 8) rfl dX4_changed_13 ?_
    refine v_icmp_ne (pc := 15) (tgt := 59) (by omega) dX4_changed_15 (by decide) (fun bq2 => ?_) (fun bq2 => ?_)
    · skip
      obtain ⟨Gs, c, sh, hGs, hcs, e5, hsh, hfr⟩ : ∃ (Gs : Mem) (c sh : Int), Gs = G ∧ ((G 106 5 < 8 ∧ c = G 106 5 ∧ sh = 0) ∨ (G 106 5 = 8 ∧ c = 7 ∧ sh = 144)) ∧ Gs 106 5 = c ∧ (∀ z, 0 ≤ z → z < 144 * c → Gs 110 z = G 110 (z + sh)) ∧ (∀ j z, j ≠ 110 → ¬ (j = 106 ∧ z = 5) → Gs j z = G j z) := ⟨G, G 106 5, 0, rfl, by omega, rfl, fun z _ _ => by rw [Int.add_zero], fun _ _ _ _ => rfl⟩
      rw [← hGs]
      clear hGs
      refine v_iconst (pc := 59) (z := 0) dX4_changed_59 ?_
      refine v_istore_n (pc := 60) (by decide) rfl dX4_changed_60 ?_
      have lp61 : ∀ (m61 : Nat) (k : Int) (G2 : Mem), (0 ≤ k ∧ k ≤ 144) → (∀ w, 0 ≤ w → w < k → G2 110 (144 * c + w) = G 108 w) → (∀ j z, ¬ (j = 110 ∧ 144 * c ≤ z ∧ z < 144 * c + k) → G2 j z = Gs j z) → ((144 - k).toNat) < m61 → V γ g cX4_changed 3 RX4 (rmL 0 0 0) G2 0 0 61 [some (vR g 106), some (vI t), some (vI k)] [] := by
        intro m61
        induction m61 with
        | zero => intro k G2; intros; omega
        | succ m61 ih61 =>
          intro k G2 p0 pc pF hm61
          have f5 : G2 106 5 = c := (pF 106 5 (by omega)).trans e5
          have hcr : 0 ≤ c ∧ c ≤ 7 := by omega
          refine v_iload_n (pc := 61) rfl dX4_changed_61 ?_
          refine v_sipush (pc := 62) (z := 144) rfl dX4_changed_62 ?_
          refine v_icmp_ge (pc := 65) (tgt := 95) (by omega) dX4_changed_65 (by decide) (fun bq3 => ?_) (fun bq3 => ?_)
          · skip
            have f5 : G2 106 5 = c := (pF 106 5 (by omega)).trans e5
            refine v_aload_n (pc := 95) rfl dX4_changed_95 ?_
            refine v_dup (pc := 96) rfl dX4_changed_96 ?_
            refine v_get (pc := 97) 5 fd_X4_57 (rfl) (by decide) rfl rfl dX4_changed_97 ?_
            refine v_iconst (pc := 100) (z := 1) dX4_changed_100 ?_
            refine v_iadd (pc := 101) dX4_changed_101 ?_
            refine v_put (pc := 102) 5 pd_X4_57 (rfl) (by decide) rfl rfl dX4_changed_102 ?_
            refine v_iload_n (pc := 105) rfl dX4_changed_105 ?_
            exact v_iret (pc := 106) E (⟨_, rfl, rfl, Or.inr ⟨by omega, c, sh, hcs, by rw [upd2_s, f5], fun z a b => (upd2_i (by decide)).trans ((pF 110 z (by omega)).trans (hsh z a b)), fun w a b => (upd2_i (by decide)).trans (pc w a (by omega)), fun j z a b => (if_neg b).trans ((pF j z (by omega)).trans (hfr j z a b))⟩⟩) (Nat.le_of_ble_eq_true rfl) (Nat.le_of_ble_eq_true rfl) dX4_changed_106
          · skip
            refine v_aload_n (pc := 68) rfl dX4_changed_68 ?_
            refine v_getR (pc := 69) (j := 110) fd_X4_19 (rfl) (by decide) rfl dX4_changed_69 ?_
            refine v_sipush (pc := 72) (z := 144) rfl dX4_changed_72 ?_
            refine v_aload_n (pc := 75) rfl dX4_changed_75 ?_
            refine v_get (pc := 76) 5 fd_X4_57 (rfl) (by decide) rfl rfl dX4_changed_76 ?_
            rw [f5]
            refine v_imul (pc := 79) dX4_changed_79 ?_
            refine v_iload_n (pc := 80) rfl dX4_changed_80 ?_
            refine v_iadd (pc := 81) dX4_changed_81 ?_
            refine v_aload_n (pc := 82) rfl dX4_changed_82 ?_
            refine v_getR (pc := 83) (j := 108) fd_X4_13 (rfl) (by decide) rfl dX4_changed_83 ?_
            refine v_iload_n (pc := 86) rfl dX4_changed_86 ?_
            refine v_iald (pc := 87) (N := 144) rfl rfl (by decide) (by omega) (by decide) dX4_changed_87 ?_
            refine v_iast (pc := 88) (N := 1152) rfl rfl (by decide) (by omega) (by decide) dX4_changed_88 ?_
            refine v_iinc (pc := 89) (y := 1) rfl (by decide) rfl dX4_changed_89 ?_
            refine v_goto (pc := 92) (tgt := 61) dX4_changed_92 (by decide) ?_
            exact ih61 (k + 1) (upd2 G2 110 ((144 * c) + k) (G2 108 k)) (by omega) (fun w a b => (Classical.em (w = k)).elim (fun e => by rw [e, upd2_s]; exact (pF 108 _ (by omega)).trans (hfr 108 _ (by omega) (by omega))) (fun e => (upd2_z (by omega)).trans (pc w a (by omega)))) (fun j z a => (if_neg (by omega)).trans (pF j z (by omega))) (by omega)
      refine v_loc (L' := [some (vR g 106), some (vI t), some (vI 0)]) (⟨rfl, rfl, rfl, trivial⟩) ?_
      exact lp61 _ 0 Gs (by omega) (fun k a c => absurd c (by omega)) (fun j z a => rfl) (Nat.lt_succ_self _)
    · skip
      refine v_iconst (pc := 18) (z := 0) dX4_changed_18 ?_
      refine v_istore_n (pc := 19) (by decide) rfl dX4_changed_19 ?_
      have lp20 : ∀ (m20 : Nat) (i : Int) (G1 : Mem), (0 ≤ i ∧ i ≤ 1008) → (∀ z, 0 ≤ z → z < i → G1 110 z = G 110 (z + 144)) → (∀ j z, ¬ (j = 110 ∧ 0 ≤ z ∧ z < i) → G1 j z = G j z) → ((1008 - i).toNat) < m20 → V γ g cX4_changed 3 RX4 (rmL 0 0 0) G1 0 0 20 [some (vR g 106), some (vI t), some (vI i)] [] := by
        intro m20
        induction m20 with
        | zero => intro i G1; intros; omega
        | succ m20 ih20 =>
          intro i G1 h0 hc hF hm20
          refine v_iload_n (pc := 20) rfl dX4_changed_20 ?_
          refine v_sipush (pc := 21) (z := 1008) rfl dX4_changed_21 ?_
          refine v_icmp_ge (pc := 24) (tgt := 49) (by omega) dX4_changed_24 (by decide) (fun bq4 => ?_) (fun bq4 => ?_)
          · skip
            refine v_aload_n (pc := 49) rfl dX4_changed_49 ?_
            refine v_dup (pc := 50) rfl dX4_changed_50 ?_
            refine v_get (pc := 51) 5 fd_X4_57 (rfl) (by decide) rfl rfl dX4_changed_51 ?_
            refine v_iconst (pc := 54) (z := 1) dX4_changed_54 ?_
            refine v_isub (pc := 55) dX4_changed_55 ?_
            refine v_put (pc := 56) 5 pd_X4_57 (rfl) (by decide) rfl rfl dX4_changed_56 ?_
            obtain ⟨Gs, c, sh, hGs, hcs, e5, hsh, hfr⟩ : ∃ (Gs : Mem) (c sh : Int), Gs = (upd2 G1 106 5 ((G1 106 5) - 1)) ∧ ((G 106 5 < 8 ∧ c = G 106 5 ∧ sh = 0) ∨ (G 106 5 = 8 ∧ c = 7 ∧ sh = 144)) ∧ Gs 106 5 = c ∧ (∀ z, 0 ≤ z → z < 144 * c → Gs 110 z = G 110 (z + sh)) ∧ (∀ j z, j ≠ 110 → ¬ (j = 106 ∧ z = 5) → Gs j z = G j z) := ⟨_, 7, 144, rfl, by omega, by rw [upd2_s, hF 106 5 (by omega)]; omega, fun z a c => by rw [upd2_i (by decide)]; exact hc z a (by omega), fun j z a b => by rw [upd2, if_neg b]; exact hF j z (by omega)⟩
            rw [← hGs]
            clear hGs
            refine v_iconst (pc := 59) (z := 0) dX4_changed_59 ?_
            refine v_istore_n (pc := 60) (by decide) rfl dX4_changed_60 ?_
            have lp61 : ∀ (m61 : Nat) (k : Int) (G2 : Mem), (0 ≤ k ∧ k ≤ 144) → (∀ w, 0 ≤ w → w < k → G2 110 (144 * c + w) = G 108 w) → (∀ j z, ¬ (j = 110 ∧ 144 * c ≤ z ∧ z < 144 * c + k) → G2 j z = Gs j z) → ((144 - k).toNat) < m61 → V γ g cX4_changed 3 RX4 (rmL 0 0 0) G2 0 0 61 [some (vR g 106), some (vI t), some (vI k)] [] := by
              intro m61
              induction m61 with
              | zero => intro k G2; intros; omega
              | succ m61 ih61 =>
                intro k G2 p0 pc pF hm61
                have f5 : G2 106 5 = c := (pF 106 5 (by omega)).trans e5
                have hcr : 0 ≤ c ∧ c ≤ 7 := by omega
                refine v_iload_n (pc := 61) rfl dX4_changed_61 ?_
                refine v_sipush (pc := 62) (z := 144) rfl dX4_changed_62 ?_
                refine v_icmp_ge (pc := 65) (tgt := 95) (by omega) dX4_changed_65 (by decide) (fun bq5 => ?_) (fun bq5 => ?_)
                · skip
                  have f5 : G2 106 5 = c := (pF 106 5 (by omega)).trans e5
                  refine v_aload_n (pc := 95) rfl dX4_changed_95 ?_
                  refine v_dup (pc := 96) rfl dX4_changed_96 ?_
                  refine v_get (pc := 97) 5 fd_X4_57 (rfl) (by decide) rfl rfl dX4_changed_97 ?_
                  refine v_iconst (pc := 100) (z := 1) dX4_changed_100 ?_
                  refine v_iadd (pc := 101) dX4_changed_101 ?_
                  refine v_put (pc := 102) 5 pd_X4_57 (rfl) (by decide) rfl rfl dX4_changed_102 ?_
                  refine v_iload_n (pc := 105) rfl dX4_changed_105 ?_
                  exact v_iret (pc := 106) E (⟨_, rfl, rfl, Or.inr ⟨by omega, c, sh, hcs, by rw [upd2_s, f5], fun z a b => (upd2_i (by decide)).trans ((pF 110 z (by omega)).trans (hsh z a b)), fun w a b => (upd2_i (by decide)).trans (pc w a (by omega)), fun j z a b => (if_neg b).trans ((pF j z (by omega)).trans (hfr j z a b))⟩⟩) (Nat.le_of_ble_eq_true rfl) (Nat.le_of_ble_eq_true rfl) dX4_changed_106
                · skip
                  refine v_aload_n (pc := 68) rfl dX4_changed_68 ?_
                  refine v_getR (pc := 69) (j := 110) fd_X4_19 (rfl) (by decide) rfl dX4_changed_69 ?_
                  refine v_sipush (pc := 72) (z := 144) rfl dX4_changed_72 ?_
                  refine v_aload_n (pc := 75) rfl dX4_changed_75 ?_
                  refine v_get (pc := 76) 5 fd_X4_57 (rfl) (by decide) rfl rfl dX4_changed_76 ?_
                  rw [f5]
                  refine v_imul (pc := 79) dX4_changed_79 ?_
                  refine v_iload_n (pc := 80) rfl dX4_changed_80 ?_
                  refine v_iadd (pc := 81) dX4_changed_81 ?_
                  refine v_aload_n (pc := 82) rfl dX4_changed_82 ?_
                  refine v_getR (pc := 83) (j := 108) fd_X4_13 (rfl) (by decide) rfl dX4_changed_83 ?_
                  refine v_iload_n (pc := 86) rfl dX4_changed_86 ?_
                  refine v_iald (pc := 87) (N := 144) rfl rfl (by decide) (by omega) (by decide) dX4_changed_87 ?_
                  refine v_iast (pc := 88) (N := 1152) rfl rfl (by decide) (by omega) (by decide) dX4_changed_88 ?_
                  refine v_iinc (pc := 89) (y := 1) rfl (by decide) rfl dX4_changed_89 ?_
                  refine v_goto (pc := 92) (tgt := 61) dX4_changed_92 (by decide) ?_
                  exact ih61 (k + 1) (upd2 G2 110 ((144 * c) + k) (G2 108 k)) (by omega) (fun w a b => (Classical.em (w = k)).elim (fun e => by rw [e, upd2_s]; exact (pF 108 _ (by omega)).trans (hfr 108 _ (by omega) (by omega))) (fun e => (upd2_z (by omega)).trans (pc w a (by omega)))) (fun j z a => (if_neg (by omega)).trans (pF j z (by omega))) (by omega)
            refine v_loc (L' := [some (vR g 106), some (vI t), some (vI 0)]) (⟨rfl, rfl, rfl, trivial⟩) ?_
            exact lp61 _ 0 Gs (by omega) (fun k a c => absurd c (by omega)) (fun j z a => rfl) (Nat.lt_succ_self _)
          · skip
            refine v_aload_n (pc := 27) rfl dX4_changed_27 ?_
            refine v_getR (pc := 28) (j := 110) fd_X4_19 (rfl) (by decide) rfl dX4_changed_28 ?_
            refine v_iload_n (pc := 31) rfl dX4_changed_31 ?_
            refine v_aload_n (pc := 32) rfl dX4_changed_32 ?_
            refine v_getR (pc := 33) (j := 110) fd_X4_19 (rfl) (by decide) rfl dX4_changed_33 ?_
            refine v_iload_n (pc := 36) rfl dX4_changed_36 ?_
            refine v_sipush (pc := 37) (z := 144) rfl dX4_changed_37 ?_
            refine v_iadd (pc := 40) dX4_changed_40 ?_
            refine v_iald (pc := 41) (N := 1152) rfl rfl (by decide) (by omega) (by decide) dX4_changed_41 ?_
            refine v_iast (pc := 42) (N := 1152) rfl rfl (by decide) (by omega) (by decide) dX4_changed_42 ?_
            refine v_iinc (pc := 43) (y := 1) rfl (by decide) rfl dX4_changed_43 ?_
            refine v_goto (pc := 46) (tgt := 20) dX4_changed_46 (by decide) ?_
            exact ih20 (i + 1) (upd2 G1 110 i (G1 110 (i + 144))) (by omega) (fun z a c => (Classical.em (z = i)).elim (fun e => by rw [e, upd2_s]; exact hF 110 _ (by omega)) (fun e => (upd2_z (by omega)).trans (hc z a (by omega)))) (fun j z a => (if_neg (by omega)).trans (hF j z (by omega))) (by omega)
      refine v_loc (L' := [some (vR g 106), some (vI t), some (vI 0)]) (⟨rfl, rfl, rfl, trivial⟩) ?_
      exact lp20 _ 0 G (by omega) (fun k a c => absurd c (by omega)) (fun j z a => rfl) (Nat.lt_succ_self _)
  · skip
    refine v_iload_n (pc := 7) rfl dX4_changed_7 ?_
    exact v_iret (pc := 8) E (⟨_, rfl, rfl, Or.inl ⟨by omega, rfl⟩⟩) (Nat.le_of_ble_eq_true rfl) (Nat.le_of_ble_eq_true rfl) dX4_changed_8
