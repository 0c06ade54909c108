-- strike, years, recall
def PmSt (M M' : Int → Int) (d z r : Int) : Prop := r = M 3 + z ∧ M' 3 = M 3 + z ∧ M' 4 = M 4 + z ∧ M' 1 = M 1 - z * M (9 + 3 * d + 1) ∧ M' (9 + 3 * d + 2) = M (9 + 3 * d + 2) + z ∧ (∀ k, 0 ≤ k → k < z → M' (24 + 3 * (M 3 + k)) = d ∧ M' (24 + 3 * (M 3 + k) + 1) = M 2 ∧ M' (24 + 3 * (M 3 + k) + 2) = gow (M (9 + 3 * d + 2) + k)) ∧ ∀ w, w ≠ 1 → w ≠ 3 → w ≠ 4 → w ≠ 9 + 3 * d + 2 → ¬ (24 + 3 * M 3 ≤ w ∧ w < 24 + 3 * (M 3 + z)) → M' w = M w
theorem MoI_st {M M' : Int → Int} {d z r : Int} (h : MoI M) (hd : 0 ≤ d ∧ d < M 0) (hz : 0 ≤ z ∧ M 3 + z ≤ 40) (hw : M (9 + 3 * d + 2) + z ≤ 30) (hP : PmSt M M' d z r) : MoI M' := by
  obtain ⟨a1, a2, a3, a4, a5, a6, a7⟩ := h
  obtain ⟨-, p3, p4, p1, pw, pk, po⟩ := hP
  have e0 := po 0 (by omega) (by omega) (by omega) (by omega) (by omega)
  have e2 := po 2 (by omega) (by omega) (by omega) (by omega) (by omega)
  refine ⟨by omega, by omega, by omega, fun k k0 k1 => ?_, fun i i0 i1 => ?_, fun i i0 i1 => ?_, fun i j i0 ij j1 => ?_⟩
  · by_cases q : k < M 3
    · rw [po (24 + 3 * k) (by omega) (by omega) (by omega) (by omega) (by omega), po (24 + 3 * k + 1) (by omega) (by omega) (by omega) (by omega) (by omega), po (24 + 3 * k + 2) (by omega) (by omega) (by omega) (by omega) (by omega), e0, e2]
      exact a4 k k0 q
    · obtain ⟨q1, q2, q3⟩ := pk (k - M 3) (by omega) (by omega)
      rw [show M 3 + (k - M 3) = k by omega] at q1 q2 q3
      have := gow_r (M (9 + 3 * d + 2) + (k - M 3))
      rw [q1, q2, q3, e0, e2]
      omega
  · rw [po (9 + 3 * i) (by omega) (by omega) (by omega) (by omega) (by omega), po (9 + 3 * i + 1) (by omega) (by omega) (by omega) (by omega) (by omega)]
    have q1 := a5 i i0 (by omega)
    refine ⟨q1.1, q1.2.1, ?_⟩
    by_cases q : i = d
    · rw [q, pw]; rw [q] at q1; omega
    · rw [po (9 + 3 * i + 2) (by omega) (by omega) (by omega) (by omega) (by omega)]; exact q1.2.2
  · rw [po (9 + 3 * i + 2) (by omega) (by omega) (by omega) (by omega) (by omega)]
    exact a6 i (by omega) i1
  · rw [po (9 + 3 * i) (by omega) (by omega) (by omega) (by omega) (by omega), po (9 + 3 * j) (by omega) (by omega) (by omega) (by omega) (by omega)]
    exact a7 i j i0 ij (by omega)

set_option maxHeartbeats 4000000 in
set_option maxRecDepth 100000 in
theorem c_X4_strikeIt {g : GT} {G : Mem} (hM : MoI (G 107)) (h8 : G 106 8 = 0) (hlv : 0 ≤ G 107 1 ∧ G 107 1 ≤ 100000) {d : Int} (h_d : -2147483648 ≤ d ∧ d < 2147483648) {s : Int} (h_s : -2147483648 ≤ s ∧ s < 2147483648) : Ctr g yX4_strikeIt cX4_strikeIt 6 (some FieldType.int) (rmL 2 0 0) [vR g 106, vI d, vI s] G (RP (fun r G' => ∃ q, FltSt (G 107 0) (G 107 3) (G 107 1) (fun i => G 107 (9 + 3 * i + 1)) (fun i => G 107 (9 + 3 * i + 2)) d s q ∧ EndM G G' 3 q (MoI (G' 107) ∧ PmSt (G 107) (G' 107) d s r))) NoX := by
  refine ctr_of [some (vR g 106), some (vI d), some (vI s), none, none, none] (by decide) (Nat.le_of_ble_eq_true rfl) rfl (fun γ E => ?_)
  show V γ g cX4_strikeIt 6 RX4 (rmL 2 0 0) G 0 0 0 [some (vR g 106), some (vI d), some (vI s), none, none, none] []
  have hn := MoI_n hM
  have hc := MoI_c hM
  have hy := MoI_y hM
  refine v_aload_n (pc := 0) rfl dX4_strikeIt_0 ?_
  refine v_iload_n (pc := 1) rfl dX4_strikeIt_1 ?_
  refine v_callV (pc := 2) (rest := []) (c_X4_isDie hM h_d) iok_X4_isDie wM_X4_96 (rfl) (by decide) (by decide) rfl (rmOk (by decide) (by decide)) ⟨Nat.le_of_ble_eq_true rfl, Nat.le_of_ble_eq_true rfl⟩ (Nat.le_of_ble_eq_true rfl) rfl dX4_strikeIt_2 (fun v G' hq => ?_) (fun _ _ h => h.elim)
  obtain ⟨rfl, hG9⟩ := hq
  rw [hG9]
  refine v_stk (st' := [vI (bI (0 ≤ d ∧ d < G 107 0))]) rfl ?_
  refine v_if_ne (pc := 5) (tgt := 14) (bI_r _) dX4_strikeIt_5 (by decide) (fun bq1 => ?_) (fun bq1 => ?_)
  · skip
    have bq1 := bI_n0 bq1
    have hdd : 0 ≤ d ∧ d < G 107 0 := by assumption
    refine v_iload_n (pc := 14) rfl dX4_strikeIt_14 ?_
    refine v_i2l (pc := 15) (by omega) dX4_strikeIt_15 ?_
    refine v_lconst (pc := 16) (z := 1) rfl dX4_strikeIt_16 ?_
    refine v_ldc2 (pc := 17) (z := 9) wG_X4_79 (by decide) dX4_strikeIt_17 ?_
    refine v_callS (pc := 20) (rest := []) (c_X4_in (by omega) (by omega) (by omega)) sok_X4_in wM_X4_60 (rmOk (by decide) (by decide)) ⟨Nat.le_of_ble_eq_true rfl, Nat.le_of_ble_eq_true rfl⟩ (Nat.le_of_ble_eq_true rfl) rfl dX4_strikeIt_20 (fun v G' hq => ?_) (fun _ _ h => h.elim)
    obtain ⟨rfl, hG9⟩ := hq
    rw [hG9]
    refine v_stk (st' := [vI (bI (1 ≤ s ∧ s ≤ 9))]) rfl ?_
    refine v_if_ne (pc := 23) (tgt := 32) (bI_r _) dX4_strikeIt_23 (by decide) (fun bq2 => ?_) (fun bq2 => ?_)
    · skip
      have bq2 := bI_n0 bq2
      have hss : 1 ≤ s ∧ s ≤ 9 := by assumption
      have hdi := MoI_d hM hdd.1 hdd.2
      have hmul := mul_rng (a := s) (b := G 107 (9 + 3 * d + 1)) (A := 9) (B := 9) (by omega) (by omega)
      refine v_iload_n (pc := 32) rfl dX4_strikeIt_32 ?_
      refine v_callS (pc := 33) (rest := []) (c_X4_dieAt) sok_X4_dieAt wM_X4_64 (rmOk (by decide) (by decide)) ⟨Nat.le_of_ble_eq_true rfl, Nat.le_of_ble_eq_true rfl⟩ (Nat.le_of_ble_eq_true rfl) rfl dX4_strikeIt_33 (fun v G' hq => ?_) (fun _ _ h => h.elim)
      obtain ⟨rfl, hG9⟩ := hq
      rw [hG9]
      refine v_stk (st' := [vI (9 + 3 * d)]) rfl ?_
      refine v_istore_n (pc := 36) (by decide) rfl dX4_strikeIt_36 ?_
      refine v_aload_n (pc := 37) rfl dX4_strikeIt_37 ?_
      refine v_getR (pc := 38) (j := 107) fd_X4_9 (rfl) (by decide) rfl dX4_strikeIt_38 ?_
      refine v_iconst (pc := 41) (z := 1) dX4_strikeIt_41 ?_
      refine v_iald (pc := 42) (N := 144) rfl rfl (by decide) (by omega) (by decide) dX4_strikeIt_42 ?_
      refine v_iload_n (pc := 43) rfl dX4_strikeIt_43 ?_
      refine v_aload_n (pc := 44) rfl dX4_strikeIt_44 ?_
      refine v_getR (pc := 45) (j := 107) fd_X4_9 (rfl) (by decide) rfl dX4_strikeIt_45 ?_
      refine v_iload_n (pc := 48) rfl dX4_strikeIt_48 ?_
      refine v_iconst (pc := 49) (z := 1) dX4_strikeIt_49 ?_
      refine v_iadd (pc := 50) dX4_strikeIt_50 ?_
      refine v_iald (pc := 51) (N := 144) rfl rfl (by decide) (by omega) (by decide) dX4_strikeIt_51 ?_
      have r3 := MoI_d hM (i := d) (by omega) (by omega)
      refine v_imul (pc := 52) dX4_strikeIt_52 ?_
      refine v_icmp_lt (pc := 53) (tgt := 69) (by omega) dX4_strikeIt_53 (by decide) (fun bq4 => ?_) (fun bq4 => ?_)
      · skip
        refine v_aload_n (pc := 69) rfl dX4_strikeIt_69 ?_
        refine v_iconst (pc := 70) (z := 3) dX4_strikeIt_70 ?_
        refine v_callV (pc := 71) (rest := []) (c_X4_throwing) iok_X4_throwing wM_X4_81 (rfl) (by decide) (by decide) rfl (rmOk (by decide) (by decide)) ⟨Nat.le_of_ble_eq_true rfl, Nat.le_of_ble_eq_true rfl⟩ (Nat.le_of_ble_eq_true rfl) rfl dX4_strikeIt_71 (fun v G' hq => ?_) (fun _ _ h => h.elim)
        obtain ⟨rfl, hG9⟩ := hq
        rw [hG9]
        refine v_stk (st' := [vI (-1)]) rfl ?_
        exact v_iret (pc := 74) E (⟨_, rfl, 3, Or.inr ⟨hdd, Or.inr ⟨hss, Or.inl ⟨by show _ < s * G 107 (9 + 3 * d + 1) ∨ _; omega, rfl⟩⟩⟩, by rw [upd2_s]; rfl, fun i z a b c => if_neg c, Or.inl ⟨by decide, funext fun w => upd2_i (by decide)⟩⟩) (Nat.le_of_ble_eq_true rfl) (Nat.le_of_ble_eq_true rfl) dX4_strikeIt_74
      · skip
        refine v_aload_n (pc := 56) rfl dX4_strikeIt_56 ?_
        refine v_getR (pc := 57) (j := 107) fd_X4_9 (rfl) (by decide) rfl dX4_strikeIt_57 ?_
        refine v_iconst (pc := 60) (z := 3) dX4_strikeIt_60 ?_
        refine v_iald (pc := 61) (N := 144) rfl rfl (by decide) (by omega) (by decide) dX4_strikeIt_61 ?_
        refine v_iload_n (pc := 62) rfl dX4_strikeIt_62 ?_
        refine v_iadd (pc := 63) dX4_strikeIt_63 ?_
        refine v_bipush (pc := 64) (z := 40) rfl dX4_strikeIt_64 ?_
        refine v_icmp_le (pc := 66) (tgt := 75) (by omega) dX4_strikeIt_66 (by decide) (fun bq5 => ?_) (fun bq5 => ?_)
        · skip
          refine v_aload_n (pc := 75) rfl dX4_strikeIt_75 ?_
          refine v_getR (pc := 76) (j := 107) fd_X4_9 (rfl) (by decide) rfl dX4_strikeIt_76 ?_
          refine v_iload_n (pc := 79) rfl dX4_strikeIt_79 ?_
          refine v_iconst (pc := 80) (z := 2) dX4_strikeIt_80 ?_
          refine v_iadd (pc := 81) dX4_strikeIt_81 ?_
          refine v_iald (pc := 82) (N := 144) rfl rfl (by decide) (by omega) (by decide) dX4_strikeIt_82 ?_
          have r6 := MoI_d hM (i := d) (by omega) (by omega)
          refine v_iload_n (pc := 83) rfl dX4_strikeIt_83 ?_
          refine v_iadd (pc := 84) dX4_strikeIt_84 ?_
          refine v_bipush (pc := 85) (z := 30) rfl dX4_strikeIt_85 ?_
          refine v_icmp_le (pc := 87) (tgt := 96) (by omega) dX4_strikeIt_87 (by decide) (fun bq7 => ?_) (fun bq7 => ?_)
          · skip
            have hst : s * G 107 (9 + 3 * d + 1) ≤ G 107 1 ∧ G 107 3 + s ≤ 40 := by omega
            have hwe : G 107 (9 + 3 * d + 2) + s ≤ 30 := by omega
            refine v_iconst (pc := 96) (z := 0) dX4_strikeIt_96 ?_
            refine v_istore (pc := 97) (by decide) rfl dX4_strikeIt_97 ?_
            have lp99 : ∀ (m99 : Nat) (k : Int) (G1 : Mem), (0 ≤ k ∧ k ≤ s) → (G1 107 3 = G 107 3 + k) → (G1 107 4 = G 107 4 + k) → (G1 107 1 = G 107 1 - k * G 107 (9 + 3 * d + 1)) → (G1 107 (9 + 3 * d + 2) = G 107 (9 + 3 * d + 2) + k) → (∀ j, 0 ≤ j → j < k → G1 107 (24 + 3 * (G 107 3 + j)) = d ∧ G1 107 (24 + 3 * (G 107 3 + j) + 1) = G 107 2 ∧ G1 107 (24 + 3 * (G 107 3 + j) + 2) = gow (G 107 (9 + 3 * d + 2) + j)) → (∀ w, w ≠ 1 → w ≠ 3 → w ≠ 4 → w ≠ 9 + 3 * d + 2 → ¬ (24 + 3 * G 107 3 ≤ w ∧ w < 24 + 3 * (G 107 3 + k)) → G1 107 w = G 107 w) → (∀ j z, j ≠ 107 → G1 j z = G j z) → ((s - k).toNat) < m99 → V γ g cX4_strikeIt 6 RX4 (rmL 2 0 0) G1 0 0 99 [some (vR g 106), some (vI d), some (vI s), some (vI (9 + 3 * d)), some (vI k), none] [] := by
              intro m99
              induction m99 with
              | zero => intro k G1; intros; omega
              | succ m99 ih99 =>
                intro k G1 h0 e3 e4 e1 ew ek eo hF hm99
                have f2 : G1 107 2 = G 107 2 := eo 2 (by omega) (by omega) (by omega) (by omega) (by omega)
                have fW : G1 107 (9 + 3 * d + 1) = G 107 (9 + 3 * d + 1) := eo _ (by omega) (by omega) (by omega) (by omega) (by omega)
                refine v_iload (pc := 99) rfl dX4_strikeIt_99 ?_
                refine v_iload_n (pc := 101) rfl dX4_strikeIt_101 ?_
                refine v_icmp_ge (pc := 102) (tgt := 214) (by omega) dX4_strikeIt_102 (by decide) (fun bq8 => ?_) (fun bq8 => ?_)
                · skip
                  refine v_aload_n (pc := 214) rfl dX4_strikeIt_214 ?_
                  refine v_getR (pc := 215) (j := 107) fd_X4_9 (rfl) (by decide) rfl dX4_strikeIt_215 ?_
                  refine v_iconst (pc := 218) (z := 3) dX4_strikeIt_218 ?_
                  refine v_iald (pc := 219) (N := 144) rfl rfl (by decide) (by omega) (by decide) dX4_strikeIt_219 ?_
                  exact v_iret (pc := 220) E (⟨_, rfl, 0, Or.inr ⟨hdd, Or.inr ⟨hss, Or.inr ⟨hst, Or.inr ⟨hwe, rfl⟩⟩⟩⟩, by rw [hF 106 8 (by decide), h8]; rfl, fun i z a b c => hF i z a, Or.inr ⟨rfl, by
                    have hk : k = s := by omega
                    rw [hk] at e3 e4 e1 ew ek eo
                    have hP : PmSt (G 107) (G1 107) d s (G1 107 3) := ⟨e3, e3, e4, e1, ew, ek, eo⟩
                    exact ⟨MoI_st hM hdd (by omega) hwe hP, hP⟩⟩⟩) (Nat.le_of_ble_eq_true rfl) (Nat.le_of_ble_eq_true rfl) dX4_strikeIt_220
                · skip
                  refine v_aload_n (pc := 105) rfl dX4_strikeIt_105 ?_
                  refine v_getR (pc := 106) (j := 107) fd_X4_9 (rfl) (by decide) rfl dX4_strikeIt_106 ?_
                  refine v_iconst (pc := 109) (z := 3) dX4_strikeIt_109 ?_
                  refine v_iald (pc := 110) (N := 144) rfl rfl (by decide) (by omega) (by decide) dX4_strikeIt_110 ?_
                  rw [e3]
                  refine v_callS (pc := 111) (rest := []) (c_X4_coinAt) sok_X4_coinAt wM_X4_68 (rmOk (by decide) (by decide)) ⟨Nat.le_of_ble_eq_true rfl, Nat.le_of_ble_eq_true rfl⟩ (Nat.le_of_ble_eq_true rfl) rfl dX4_strikeIt_111 (fun v G' hq => ?_) (fun _ _ h => h.elim)
                  obtain ⟨rfl, hG9⟩ := hq
                  rw [hG9]
                  refine v_stk (st' := [vI (24 + 3 * (G 107 3 + k))]) rfl ?_
                  refine v_istore (pc := 114) (by decide) rfl dX4_strikeIt_114 ?_
                  refine v_aload_n (pc := 116) rfl dX4_strikeIt_116 ?_
                  refine v_getR (pc := 117) (j := 107) fd_X4_9 (rfl) (by decide) rfl dX4_strikeIt_117 ?_
                  refine v_iload (pc := 120) rfl dX4_strikeIt_120 ?_
                  refine v_iload_n (pc := 122) rfl dX4_strikeIt_122 ?_
                  refine v_iast (pc := 123) (N := 144) rfl rfl (by decide) (by omega) (by decide) dX4_strikeIt_123 ?_
                  refine v_aload_n (pc := 124) rfl dX4_strikeIt_124 ?_
                  refine v_getR (pc := 125) (j := 107) fd_X4_9 (rfl) (by decide) rfl dX4_strikeIt_125 ?_
                  refine v_iload (pc := 128) rfl dX4_strikeIt_128 ?_
                  refine v_iconst (pc := 130) (z := 1) dX4_strikeIt_130 ?_
                  refine v_iadd (pc := 131) dX4_strikeIt_131 ?_
                  refine v_aload_n (pc := 132) rfl dX4_strikeIt_132 ?_
                  refine v_getR (pc := 133) (j := 107) fd_X4_9 (rfl) (by decide) rfl dX4_strikeIt_133 ?_
                  refine v_iconst (pc := 136) (z := 2) dX4_strikeIt_136 ?_
                  refine v_iald (pc := 137) (N := 144) rfl rfl (by decide) (by omega) (by decide) dX4_strikeIt_137 ?_
                  refine v_top (b := G1 107 2) (upd2_z (by omega)) ?_
                  refine v_iast (pc := 138) (N := 144) rfl rfl (by decide) (by omega) (by decide) dX4_strikeIt_138 ?_
                  refine v_aload_n (pc := 139) rfl dX4_strikeIt_139 ?_
                  refine v_getR (pc := 140) (j := 107) fd_X4_9 (rfl) (by decide) rfl dX4_strikeIt_140 ?_
                  refine v_iload (pc := 143) rfl dX4_strikeIt_143 ?_
                  refine v_iconst (pc := 145) (z := 2) dX4_strikeIt_145 ?_
                  refine v_iadd (pc := 146) dX4_strikeIt_146 ?_
                  refine v_aload_n (pc := 147) rfl dX4_strikeIt_147 ?_
                  refine v_getR (pc := 148) (j := 107) fd_X4_9 (rfl) (by decide) rfl dX4_strikeIt_148 ?_
                  refine v_iload_n (pc := 151) rfl dX4_strikeIt_151 ?_
                  refine v_iconst (pc := 152) (z := 2) dX4_strikeIt_152 ?_
                  refine v_iadd (pc := 153) dX4_strikeIt_153 ?_
                  refine v_iald (pc := 154) (N := 144) rfl rfl (by decide) (by omega) (by decide) dX4_strikeIt_154 ?_
                  refine v_top (b := G1 107 ((9 + 3 * d) + 2)) ((upd2_z (by omega)).trans (upd2_z (by omega))) ?_
                  refine v_callS (pc := 155) (rest := [vI ((24 + 3 * (G 107 3 + k)) + 2), vR g 107]) (c_X4_gradeBy (by omega)) sok_X4_gradeBy wM_X4_108 (rmOk (by decide) (by decide)) ⟨Nat.le_of_ble_eq_true rfl, Nat.le_of_ble_eq_true rfl⟩ (Nat.le_of_ble_eq_true rfl) rfl dX4_strikeIt_155 (fun v G' hq => ?_) (fun _ _ h => h.elim)
                  obtain ⟨rfl, hG9⟩ := hq
                  rw [hG9]
                  refine v_stk (st' := [vI (gow (G1 107 ((9 + 3 * d) + 2))), vI ((24 + 3 * (G 107 3 + k)) + 2), vR g 107]) rfl ?_
                  refine v_iast (pc := 158) (N := 144) rfl rfl (by decide) (by omega) (by decide) dX4_strikeIt_158 ?_
                  refine v_aload_n (pc := 159) rfl dX4_strikeIt_159 ?_
                  refine v_getR (pc := 160) (j := 107) fd_X4_9 (rfl) (by decide) rfl dX4_strikeIt_160 ?_
                  refine v_iload_n (pc := 163) rfl dX4_strikeIt_163 ?_
                  refine v_iconst (pc := 164) (z := 2) dX4_strikeIt_164 ?_
                  refine v_iadd (pc := 165) dX4_strikeIt_165 ?_
                  refine v_dup2 (pc := 166) rfl rfl dX4_strikeIt_166 ?_
                  refine v_iald (pc := 167) (N := 144) rfl rfl (by decide) (by omega) (by decide) dX4_strikeIt_167 ?_
                  refine v_top (b := G1 107 ((9 + 3 * d) + 2)) (((upd2_z (by omega)).trans (upd2_z (by omega))).trans (upd2_z (by omega))) ?_
                  refine v_iconst (pc := 168) (z := 1) dX4_strikeIt_168 ?_
                  refine v_iadd (pc := 169) dX4_strikeIt_169 ?_
                  refine v_iast (pc := 170) (N := 144) rfl rfl (by decide) (by omega) (by decide) dX4_strikeIt_170 ?_
                  refine v_aload_n (pc := 171) rfl dX4_strikeIt_171 ?_
                  refine v_getR (pc := 172) (j := 107) fd_X4_9 (rfl) (by decide) rfl dX4_strikeIt_172 ?_
                  refine v_iconst (pc := 175) (z := 3) dX4_strikeIt_175 ?_
                  refine v_dup2 (pc := 176) rfl rfl dX4_strikeIt_176 ?_
                  refine v_iald (pc := 177) (N := 144) rfl rfl (by decide) (by omega) (by decide) dX4_strikeIt_177 ?_
                  refine v_top (b := G1 107 3) ((((upd2_z (by omega)).trans (upd2_z (by omega))).trans (upd2_z (by omega))).trans (upd2_z (by omega))) ?_
                  refine v_iconst (pc := 178) (z := 1) dX4_strikeIt_178 ?_
                  refine v_iadd (pc := 179) dX4_strikeIt_179 ?_
                  refine v_iast (pc := 180) (N := 144) rfl rfl (by decide) (by omega) (by decide) dX4_strikeIt_180 ?_
                  refine v_aload_n (pc := 181) rfl dX4_strikeIt_181 ?_
                  refine v_getR (pc := 182) (j := 107) fd_X4_9 (rfl) (by decide) rfl dX4_strikeIt_182 ?_
                  refine v_iconst (pc := 185) (z := 4) dX4_strikeIt_185 ?_
                  refine v_dup2 (pc := 186) rfl rfl dX4_strikeIt_186 ?_
                  refine v_iald (pc := 187) (N := 144) rfl rfl (by decide) (by omega) (by decide) dX4_strikeIt_187 ?_
                  refine v_top (b := G1 107 4) (((((upd2_z (by decide)).trans (upd2_z (by omega))).trans (upd2_z (by omega))).trans (upd2_z (by omega))).trans (upd2_z (by omega))) ?_
                  refine v_iconst (pc := 188) (z := 1) dX4_strikeIt_188 ?_
                  refine v_iadd (pc := 189) dX4_strikeIt_189 ?_
                  refine v_iast (pc := 190) (N := 144) rfl rfl (by decide) (by omega) (by decide) dX4_strikeIt_190 ?_
                  refine v_aload_n (pc := 191) rfl dX4_strikeIt_191 ?_
                  refine v_getR (pc := 192) (j := 107) fd_X4_9 (rfl) (by decide) rfl dX4_strikeIt_192 ?_
                  refine v_iconst (pc := 195) (z := 1) dX4_strikeIt_195 ?_
                  refine v_dup2 (pc := 196) rfl rfl dX4_strikeIt_196 ?_
                  refine v_iald (pc := 197) (N := 144) rfl rfl (by decide) (by omega) (by decide) dX4_strikeIt_197 ?_
                  refine v_top (b := G1 107 1) ((((((upd2_z (by decide)).trans (upd2_z (by decide))).trans (upd2_z (by omega))).trans (upd2_z (by omega))).trans (upd2_z (by omega))).trans (upd2_z (by omega))) ?_
                  refine v_aload_n (pc := 198) rfl dX4_strikeIt_198 ?_
                  refine v_getR (pc := 199) (j := 107) fd_X4_9 (rfl) (by decide) rfl dX4_strikeIt_199 ?_
                  refine v_iload_n (pc := 202) rfl dX4_strikeIt_202 ?_
                  refine v_iconst (pc := 203) (z := 1) dX4_strikeIt_203 ?_
                  refine v_iadd (pc := 204) dX4_strikeIt_204 ?_
                  refine v_iald (pc := 205) (N := 144) rfl rfl (by decide) (by omega) (by decide) dX4_strikeIt_205 ?_
                  refine v_top (b := G1 107 ((9 + 3 * d) + 1)) ((((((upd2_z (by omega)).trans (upd2_z (by omega))).trans (upd2_z (by omega))).trans (upd2_z (by omega))).trans (upd2_z (by omega))).trans (upd2_z (by omega))) ?_
                  refine v_isub (pc := 206) dX4_strikeIt_206 ?_
                  refine v_iast (pc := 207) (N := 144) rfl rfl (by decide) (by omega) (by decide) dX4_strikeIt_207 ?_
                  refine v_iinc (pc := 208) (y := 1) rfl (by decide) rfl dX4_strikeIt_208 ?_
                  refine v_goto (pc := 211) (tgt := 99) dX4_strikeIt_211 (by decide) ?_
                  refine v_loc (L' := [some (vR g 106), some (vI d), some (vI s), some (vI (9 + 3 * d)), some (vI (k + 1)), none]) (⟨rfl, rfl, rfl, rfl, rfl, trivial⟩) ?_
                  exact ih99 (k + 1) (upd2 (upd2 (upd2 (upd2 (upd2 (upd2 (upd2 G1 107 (24 + 3 * (G 107 3 + k)) d) 107 ((24 + 3 * (G 107 3 + k)) + 1) (G1 107 2)) 107 ((24 + 3 * (G 107 3 + k)) + 2) (gow (G1 107 ((9 + 3 * d) + 2)))) 107 ((9 + 3 * d) + 2) ((G1 107 ((9 + 3 * d) + 2)) + 1)) 107 3 ((G1 107 3) + 1)) 107 4 ((G1 107 4) + 1)) 107 1 ((G1 107 1) - (G1 107 ((9 + 3 * d) + 1)))) (by omega) (by (repeat (first | rw [upd2_s] | rw [cpy2_s (by omega)] | rw [upd2_i (by omega)] | rw [upd2_z (by omega)] | rw [cpy2_i (by omega)])); omega) (by (repeat (first | rw [upd2_s] | rw [cpy2_s (by omega)] | rw [upd2_i (by omega)] | rw [upd2_z (by omega)] | rw [cpy2_i (by omega)])); omega) (by (repeat (first | rw [upd2_s] | rw [cpy2_s (by omega)] | rw [upd2_i (by omega)] | rw [upd2_z (by omega)] | rw [cpy2_i (by omega)])); rw [Int.add_mul]; omega) (by (repeat (first | rw [upd2_s] | rw [cpy2_s (by omega)] | rw [upd2_i (by omega)] | rw [upd2_z (by omega)] | rw [cpy2_i (by omega)])); omega) (fun j j0 j1 => (Classical.em (j = k)).elim (fun e => by subst e; exact ⟨by (repeat (first | rw [upd2_s] | rw [cpy2_s (by omega)] | rw [upd2_i (by omega)] | rw [upd2_z (by omega)] | rw [cpy2_i (by omega)])), by (repeat (first | rw [upd2_s] | rw [cpy2_s (by omega)] | rw [upd2_i (by omega)] | rw [upd2_z (by omega)] | rw [cpy2_i (by omega)])); exact f2, by (repeat (first | rw [upd2_s] | rw [cpy2_s (by omega)] | rw [upd2_i (by omega)] | rw [upd2_z (by omega)] | rw [cpy2_i (by omega)])); rw [ew]⟩) (fun e => ⟨by (repeat (first | rw [upd2_s] | rw [cpy2_s (by omega)] | rw [upd2_i (by omega)] | rw [upd2_z (by omega)] | rw [cpy2_i (by omega)])); exact (ek j j0 (by omega)).1, by (repeat (first | rw [upd2_s] | rw [cpy2_s (by omega)] | rw [upd2_i (by omega)] | rw [upd2_z (by omega)] | rw [cpy2_i (by omega)])); exact (ek j j0 (by omega)).2.1, by (repeat (first | rw [upd2_s] | rw [cpy2_s (by omega)] | rw [upd2_i (by omega)] | rw [upd2_z (by omega)] | rw [cpy2_i (by omega)])); exact (ek j j0 (by omega)).2.2⟩)) (fun w w1 w3 w4 w5 w6 => by (repeat (first | rw [upd2_s] | rw [cpy2_s (by omega)] | rw [upd2_i (by omega)] | rw [upd2_z (by omega)] | rw [cpy2_i (by omega)])); exact eo w w1 w3 w4 w5 (by omega)) (fun j z a => by rw [upd2_i a, upd2_i a, upd2_i a, upd2_i a, upd2_i a, upd2_i a, upd2_i a]; exact hF j z a) (by omega)
            refine v_loc (L' := [some (vR g 106), some (vI d), some (vI s), some (vI (9 + 3 * d)), some (vI 0), none]) (⟨rfl, rfl, rfl, rfl, rfl, trivial⟩) ?_
            exact lp99 _ 0 G (by omega) (by omega) (by omega) (by omega) (by omega) (fun j a c => absurd c (by omega)) (fun _ _ _ _ _ _ => rfl) (fun _ _ _ => rfl) (Nat.lt_succ_self _)
          · skip
            refine v_aload_n (pc := 90) rfl dX4_strikeIt_90 ?_
            refine v_iconst (pc := 91) (z := 4) dX4_strikeIt_91 ?_
            refine v_callV (pc := 92) (rest := []) (c_X4_throwing) iok_X4_throwing wM_X4_81 (rfl) (by decide) (by decide) rfl (rmOk (by decide) (by decide)) ⟨Nat.le_of_ble_eq_true rfl, Nat.le_of_ble_eq_true rfl⟩ (Nat.le_of_ble_eq_true rfl) rfl dX4_strikeIt_92 (fun v G' hq => ?_) (fun _ _ h => h.elim)
            obtain ⟨rfl, hG9⟩ := hq
            rw [hG9]
            refine v_stk (st' := [vI (-1)]) rfl ?_
            exact v_iret (pc := 95) E (⟨_, rfl, 4, Or.inr ⟨hdd, Or.inr ⟨hss, Or.inr ⟨by show s * G 107 (9 + 3 * d + 1) ≤ _ ∧ _; omega, Or.inl ⟨by show 30 < G 107 (9 + 3 * d + 2) + s; omega, rfl⟩⟩⟩⟩, by rw [upd2_s]; rfl, fun i z a b c => if_neg c, Or.inl ⟨by decide, funext fun w => upd2_i (by decide)⟩⟩) (Nat.le_of_ble_eq_true rfl) (Nat.le_of_ble_eq_true rfl) dX4_strikeIt_95
        · skip
          refine v_aload_n (pc := 69) rfl dX4_strikeIt_69 ?_
          refine v_iconst (pc := 70) (z := 3) dX4_strikeIt_70 ?_
          refine v_callV (pc := 71) (rest := []) (c_X4_throwing) iok_X4_throwing wM_X4_81 (rfl) (by decide) (by decide) rfl (rmOk (by decide) (by decide)) ⟨Nat.le_of_ble_eq_true rfl, Nat.le_of_ble_eq_true rfl⟩ (Nat.le_of_ble_eq_true rfl) rfl dX4_strikeIt_71 (fun v G' hq => ?_) (fun _ _ h => h.elim)
          obtain ⟨rfl, hG9⟩ := hq
          rw [hG9]
          refine v_stk (st' := [vI (-1)]) rfl ?_
          exact v_iret (pc := 74) E (⟨_, rfl, 3, Or.inr ⟨hdd, Or.inr ⟨hss, Or.inl ⟨by show _ < s * G 107 (9 + 3 * d + 1) ∨ _; omega, rfl⟩⟩⟩, by rw [upd2_s]; rfl, fun i z a b c => if_neg c, Or.inl ⟨by decide, funext fun w => upd2_i (by decide)⟩⟩) (Nat.le_of_ble_eq_true rfl) (Nat.le_of_ble_eq_true rfl) dX4_strikeIt_74
    · skip
      have bq2 := bI_eq0.mp bq2
      refine v_aload_n (pc := 26) rfl dX4_strikeIt_26 ?_
      refine v_iconst (pc := 27) (z := 2) dX4_strikeIt_27 ?_
      refine v_callV (pc := 28) (rest := []) (c_X4_throwing) iok_X4_throwing wM_X4_81 (rfl) (by decide) (by decide) rfl (rmOk (by decide) (by decide)) ⟨Nat.le_of_ble_eq_true rfl, Nat.le_of_ble_eq_true rfl⟩ (Nat.le_of_ble_eq_true rfl) rfl dX4_strikeIt_28 (fun v G' hq => ?_) (fun _ _ h => h.elim)
      obtain ⟨rfl, hG9⟩ := hq
      rw [hG9]
      refine v_stk (st' := [vI (-1)]) rfl ?_
      exact v_iret (pc := 31) E (⟨_, rfl, 2, Or.inr ⟨hdd, Or.inl ⟨by omega, rfl⟩⟩, by rw [upd2_s]; rfl, fun i z a b c => if_neg c, Or.inl ⟨by decide, funext fun w => upd2_i (by decide)⟩⟩) (Nat.le_of_ble_eq_true rfl) (Nat.le_of_ble_eq_true rfl) dX4_strikeIt_31
  · skip
    have bq1 := bI_eq0.mp bq1
    refine v_aload_n (pc := 8) rfl dX4_strikeIt_8 ?_
    refine v_iconst (pc := 9) (z := 1) dX4_strikeIt_9 ?_
    refine v_callV (pc := 10) (rest := []) (c_X4_throwing) iok_X4_throwing wM_X4_81 (rfl) (by decide) (by decide) rfl (rmOk (by decide) (by decide)) ⟨Nat.le_of_ble_eq_true rfl, Nat.le_of_ble_eq_true rfl⟩ (Nat.le_of_ble_eq_true rfl) rfl dX4_strikeIt_10 (fun v G' hq => ?_) (fun _ _ h => h.elim)
    obtain ⟨rfl, hG9⟩ := hq
    rw [hG9]
    refine v_stk (st' := [vI (-1)]) rfl ?_
    exact v_iret (pc := 13) E (⟨_, rfl, 1, Or.inl ⟨by omega, rfl⟩, by rw [upd2_s]; rfl, fun i z a b c => if_neg c, Or.inl ⟨by decide, funext fun w => upd2_i (by decide)⟩⟩) (Nat.le_of_ble_eq_true rfl) (Nat.le_of_ble_eq_true rfl) dX4_strikeIt_13
def PmYr (M M' : Int → Int) (Y r : Int) : Prop := r = sz (M 3) (fun k => agd Y.toNat (M 2) (M (24 + 3 * k + 1)) (M (24 + 3 * k + 2)) - M (24 + 3 * k + 2)) ∧ M' 2 = M 2 + Y ∧ (∀ k, 0 ≤ k → k < M 3 → M' (24 + 3 * k + 2) = agd Y.toNat (M 2) (M (24 + 3 * k + 1)) (M (24 + 3 * k + 2))) ∧ ∀ w, w ≠ 2 → (∀ k, 0 ≤ k → k < M 3 → w ≠ 24 + 3 * k + 2) → M' w = M w
theorem MoI_yr {M M' : Int → Int} {Y r : Int} (h : MoI M) (hY : 0 ≤ Y ∧ M 2 + Y ≤ 1000000) (hP : PmYr M M' Y r) : MoI M' := by
  obtain ⟨a1, a2, a3, a4, a5, a6, a7⟩ := h
  obtain ⟨-, p2, pk, po⟩ := hP
  have e0 := po 0 (by omega) (fun k _ _ => by omega)
  have e3 := po 3 (by omega) (fun k _ _ => by omega)
  refine ⟨by omega, by omega, by omega, fun k k0 k1 => ?_, fun i i0 i1 => ?_, fun i i0 i1 => ?_, fun i j i0 ij j1 => ?_⟩
  · rw [e3] at k1
    have q := a4 k k0 k1
    have q2 := agd_r (y := M 2) (cy := M (24 + 3 * k + 1)) q.2.2 Y.toNat
    rw [po (24 + 3 * k) (by omega) (fun k _ _ => by omega), po (24 + 3 * k + 1) (by omega) (fun k _ _ => by omega), pk k k0 k1, e0, p2]
    omega
  · rw [po (9 + 3 * i) (by omega) (fun k _ _ => by omega), po (9 + 3 * i + 1) (by omega) (fun k _ _ => by omega), po (9 + 3 * i + 2) (by omega) (fun k _ _ => by omega)]
    exact a5 i i0 (by omega)
  · rw [po (9 + 3 * i + 2) (by omega) (fun k _ _ => by omega)]
    exact a6 i (by omega) i1
  · rw [po (9 + 3 * i) (by omega) (fun k _ _ => by omega), po (9 + 3 * j) (by omega) (fun k _ _ => by omega)]
    exact a7 i j i0 ij (by omega)

set_option maxHeartbeats 4000000 in
set_option maxRecDepth 100000 in
theorem c_X4_yearsIt {g : GT} {G : Mem} (hM : MoI (G 107)) (h8 : G 106 8 = 0) (hyy : G 107 2 + 20 ≤ 1000000) {y : Int} (h_y : -2147483648 ≤ y ∧ y < 2147483648) : Ctr g yX4_yearsIt cX4_yearsIt 7 (some FieldType.int) (rmL 2 0 0) [vR g 106, vI y] G (RP (fun r G' => ∃ q, FltYr y q ∧ EndM G G' 4 q (MoI (G' 107) ∧ PmYr (G 107) (G' 107) y r))) NoX := by
  refine ctr_of [some (vR g 106), some (vI y), none, none, none, none, none] (by decide) (Nat.le_of_ble_eq_true rfl) rfl (fun γ E => ?_)
  show V γ g cX4_yearsIt 7 RX4 (rmL 2 0 0) G 0 0 0 [some (vR g 106), some (vI y), none, none, none, none, none] []
  have hn := MoI_n hM
  have hc := MoI_c hM
  have hy := MoI_y hM
  refine v_iload_n (pc := 0) rfl dX4_yearsIt_0 ?_
  refine v_i2l (pc := 1) (by omega) dX4_yearsIt_1 ?_
  refine v_lconst (pc := 2) (z := 1) rfl dX4_yearsIt_2 ?_
  refine v_ldc2 (pc := 3) (z := 20) wG_X4_114 (by decide) dX4_yearsIt_3 ?_
  refine v_callS (pc := 6) (rest := []) (c_X4_in (by omega) (by omega) (by omega)) sok_X4_in wM_X4_60 (rmOk (by decide) (by decide)) ⟨Nat.le_of_ble_eq_true rfl, Nat.le_of_ble_eq_true rfl⟩ (Nat.le_of_ble_eq_true rfl) rfl dX4_yearsIt_6 (fun v G' hq => ?_) (fun _ _ h => h.elim)
  obtain ⟨rfl, hG9⟩ := hq
  rw [hG9]
  refine v_stk (st' := [vI (bI (1 ≤ y ∧ y ≤ 20))]) rfl ?_
  refine v_if_ne (pc := 9) (tgt := 18) (bI_r _) dX4_yearsIt_9 (by decide) (fun bq1 => ?_) (fun bq1 => ?_)
  · skip
    have bq1 := bI_n0 bq1
    have hy5 : 1 ≤ y ∧ y ≤ 20 := by assumption
    refine v_iconst (pc := 18) (z := 0) dX4_yearsIt_18 ?_
    refine v_istore_n (pc := 19) (by decide) rfl dX4_yearsIt_19 ?_
    refine v_iconst (pc := 20) (z := 0) dX4_yearsIt_20 ?_
    refine v_istore_n (pc := 21) (by decide) rfl dX4_yearsIt_21 ?_
    have lp22 : ∀ (m22 : Nat) (j : Int) (n : Int) (G1 : Mem), (0 ≤ j ∧ j ≤ y) → (G1 107 2 = G 107 2 + j) → (∀ k, 0 ≤ k → k < G 107 3 → G1 107 (24 + 3 * k + 2) = agd j.toNat (G 107 2) (G 107 (24 + 3 * k + 1)) (G 107 (24 + 3 * k + 2))) → (n = sz (G 107 3) (fun k => agd (j).toNat (G 107 2) (G 107 (24 + 3 * k + 1)) (G 107 (24 + 3 * k + 2)) - G 107 (24 + 3 * k + 2))) → (∀ w, w ≠ 2 → (∀ k, 0 ≤ k → k < G 107 3 → w ≠ 24 + 3 * k + 2) → G1 107 w = G 107 w) → (∀ i z, i ≠ 107 → G1 i z = G i z) → ((y - j).toNat) < m22 → V γ g cX4_yearsIt 7 RX4 (rmL 2 0 0) G1 0 0 22 [some (vR g 106), some (vI y), some (vI n), some (vI j), none, none, none] [] := by
      intro m22
      induction m22 with
      | zero => intro j n G1; intros; omega
      | succ m22 ih22 =>
        intro j n G1 h0 e2 eg hn1 eo hF hm22
        have f3 : G1 107 3 = G 107 3 := eo 3 (by omega) (fun k _ _ => by omega)
        refine v_iload_n (pc := 22) rfl dX4_yearsIt_22 ?_
        refine v_iload_n (pc := 23) rfl dX4_yearsIt_23 ?_
        refine v_icmp_ge (pc := 24) (tgt := 158) (by omega) dX4_yearsIt_24 (by decide) (fun bq2 => ?_) (fun bq2 => ?_)
        · skip
          refine v_iload_n (pc := 158) rfl dX4_yearsIt_158 ?_
          exact v_iret (pc := 159) E (⟨_, rfl, 0, Or.inr ⟨by omega, rfl⟩, by rw [hF 106 8 (by decide), h8]; rfl, fun i z a b c => hF i z a, Or.inr ⟨rfl, by
            have hk : j = y := by omega
            rw [hk] at e2 eg hn1
            have hP : PmYr (G 107) (G1 107) y n := ⟨hn1, e2, eg, eo⟩
            exact ⟨MoI_yr hM (by omega) hP, hP⟩⟩⟩) (Nat.le_of_ble_eq_true rfl) (Nat.le_of_ble_eq_true rfl) dX4_yearsIt_159
        · skip
          refine v_aload_n (pc := 27) rfl dX4_yearsIt_27 ?_
          refine v_getR (pc := 28) (j := 107) fd_X4_9 (rfl) (by decide) rfl dX4_yearsIt_28 ?_
          refine v_iconst (pc := 31) (z := 2) dX4_yearsIt_31 ?_
          refine v_dup2 (pc := 32) rfl rfl dX4_yearsIt_32 ?_
          refine v_iald (pc := 33) (N := 144) rfl rfl (by decide) (by omega) (by decide) dX4_yearsIt_33 ?_
          refine v_iconst (pc := 34) (z := 1) dX4_yearsIt_34 ?_
          refine v_iadd (pc := 35) dX4_yearsIt_35 ?_
          refine v_iast (pc := 36) (N := 144) rfl rfl (by decide) (by omega) (by decide) dX4_yearsIt_36 ?_
          refine v_iconst (pc := 37) (z := 0) dX4_yearsIt_37 ?_
          refine v_istore (pc := 38) (by decide) rfl dX4_yearsIt_38 ?_
          have lp40 : ∀ (m40 : Nat) (i : Int) (n2 : Int) (G2 : Mem), (0 ≤ i ∧ i ≤ G 107 3) → (G2 107 2 = G 107 2 + j + 1) → (∀ k, 0 ≤ k → k < i → G2 107 (24 + 3 * k + 2) = agd (j + 1).toNat (G 107 2) (G 107 (24 + 3 * k + 1)) (G 107 (24 + 3 * k + 2))) → (∀ k, i ≤ k → k < G 107 3 → G2 107 (24 + 3 * k + 2) = agd j.toNat (G 107 2) (G 107 (24 + 3 * k + 1)) (G 107 (24 + 3 * k + 2))) → (n2 = n + sz i (fun k => lwr1 (G 107 2 + j + 1) (G 107 (24 + 3 * k + 1)) (agd (j).toNat (G 107 2) (G 107 (24 + 3 * k + 1)) (G 107 (24 + 3 * k + 2))))) → (∀ w, w ≠ 2 → (∀ k, 0 ≤ k → k < G 107 3 → w ≠ 24 + 3 * k + 2) → G2 107 w = G 107 w) → (∀ i z, i ≠ 107 → G2 i z = G i z) → ((G 107 3 - i).toNat) < m40 → V γ g cX4_yearsIt 7 RX4 (rmL 2 0 0) G2 0 0 40 [some (vR g 106), some (vI y), some (vI n2), some (vI j), some (vI i), none, none] [] := by
            intro m40
            induction m40 with
            | zero => intro i n2 G2; intros; omega
            | succ m40 ih40 =>
              intro i n2 G2 g0 f2 fg fh hn2 fo hF2 hm40
              have k3 : G2 107 3 = G 107 3 := fo 3 (by omega) (fun k _ _ => by omega)
              refine v_iload (pc := 40) rfl dX4_yearsIt_40 ?_
              refine v_aload_n (pc := 42) rfl dX4_yearsIt_42 ?_
              refine v_getR (pc := 43) (j := 107) fd_X4_9 (rfl) (by decide) rfl dX4_yearsIt_43 ?_
              refine v_iconst (pc := 46) (z := 3) dX4_yearsIt_46 ?_
              refine v_iald (pc := 47) (N := 144) rfl rfl (by decide) (by omega) (by decide) dX4_yearsIt_47 ?_
              refine v_icmp_ge (pc := 48) (tgt := 152) (by omega) dX4_yearsIt_48 (by decide) (fun bq3 => ?_) (fun bq3 => ?_)
              · skip
                refine v_iinc (pc := 152) (y := 1) rfl (by decide) rfl dX4_yearsIt_152 ?_
                refine v_goto (pc := 155) (tgt := 22) dX4_yearsIt_155 (by decide) ?_
                refine v_loc (L' := [some (vR g 106), some (vI y), some (vI n2), some (vI (j + 1)), none, none, none]) (⟨rfl, rfl, rfl, rfl, trivial⟩) ?_
                exact ih22 (j + 1) n2 G2 (by omega) (by omega) (fun k a c => fg k a (by omega)) (by rw [hn2, hn1, show i = G 107 3 by omega, ← sz_add hc.1]; exact sz_congr fun k _ _ => by rw [agd_s h0.1]; omega) fo hF2 (by omega)
              · skip
                have ri := MoI_k hM (k := i) (by omega) (by omega)
                have x1 : G2 107 (24 + 3 * i + 1) = G 107 (24 + 3 * i + 1) := fo _ (by omega) (fun k _ _ => by omega)
                have x2 : G2 107 (24 + 3 * i + 2) = agd j.toNat (G 107 2) (G 107 (24 + 3 * i + 1)) (G 107 (24 + 3 * i + 2)) := fh i (by omega) (by omega)
                have x3 := agd_r (y := G 107 2) (cy := G 107 (24 + 3 * i + 1)) ri.2.2 j.toNat
                refine v_aload_n (pc := 51) rfl dX4_yearsIt_51 ?_
                refine v_getR (pc := 52) (j := 107) fd_X4_9 (rfl) (by decide) rfl dX4_yearsIt_52 ?_
                refine v_iconst (pc := 55) (z := 2) dX4_yearsIt_55 ?_
                refine v_iald (pc := 56) (N := 144) rfl rfl (by decide) (by omega) (by decide) dX4_yearsIt_56 ?_
                refine v_aload_n (pc := 57) rfl dX4_yearsIt_57 ?_
                refine v_getR (pc := 58) (j := 107) fd_X4_9 (rfl) (by decide) rfl dX4_yearsIt_58 ?_
                refine v_iload (pc := 61) rfl dX4_yearsIt_61 ?_
                refine v_callS (pc := 63) (rest := [vR g 107, vI (G2 107 2)]) (c_X4_coinAt) sok_X4_coinAt wM_X4_68 (rmOk (by decide) (by decide)) ⟨Nat.le_of_ble_eq_true rfl, Nat.le_of_ble_eq_true rfl⟩ (Nat.le_of_ble_eq_true rfl) rfl dX4_yearsIt_63 (fun v G' hq => ?_) (fun _ _ h => h.elim)
                obtain ⟨rfl, hG9⟩ := hq
                rw [hG9]
                refine v_stk (st' := [vI (24 + 3 * i), vR g 107, vI (G2 107 2)]) rfl ?_
                refine v_iconst (pc := 66) (z := 1) dX4_yearsIt_66 ?_
                refine v_iadd (pc := 67) dX4_yearsIt_67 ?_
                refine v_iald (pc := 68) (N := 144) rfl rfl (by decide) (by omega) (by decide) dX4_yearsIt_68 ?_
                refine v_isub (pc := 69) dX4_yearsIt_69 ?_
                refine v_istore (pc := 70) (by decide) rfl dX4_yearsIt_70 ?_
                refine v_iload (pc := 72) rfl dX4_yearsIt_72 ?_
                refine v_iconst (pc := 74) (z := 5) dX4_yearsIt_74 ?_
                refine v_icmp_eq (pc := 75) (tgt := 85) (by omega) dX4_yearsIt_75 (by decide) (fun bq4 => ?_) (fun bq4 => ?_)
                · skip
                  refine v_aload_n (pc := 85) rfl dX4_yearsIt_85 ?_
                  refine v_getR (pc := 86) (j := 107) fd_X4_9 (rfl) (by decide) rfl dX4_yearsIt_86 ?_
                  refine v_iload (pc := 89) rfl dX4_yearsIt_89 ?_
                  refine v_callS (pc := 91) (rest := [vR g 107]) (c_X4_coinAt) sok_X4_coinAt wM_X4_68 (rmOk (by decide) (by decide)) ⟨Nat.le_of_ble_eq_true rfl, Nat.le_of_ble_eq_true rfl⟩ (Nat.le_of_ble_eq_true rfl) rfl dX4_yearsIt_91 (fun v G' hq => ?_) (fun _ _ h => h.elim)
                  obtain ⟨rfl, hG9⟩ := hq
                  rw [hG9]
                  refine v_stk (st' := [vI (24 + 3 * i), vR g 107]) rfl ?_
                  refine v_iconst (pc := 94) (z := 2) dX4_yearsIt_94 ?_
                  refine v_iadd (pc := 95) dX4_yearsIt_95 ?_
                  refine v_iald (pc := 96) (N := 144) rfl rfl (by decide) (by omega) (by decide) dX4_yearsIt_96 ?_
                  refine v_iconst (pc := 97) (z := 2) dX4_yearsIt_97 ?_
                  refine v_icmp_ge (pc := 98) (tgt := 105) (by omega) dX4_yearsIt_98 (by decide) (fun bq5 => ?_) (fun bq5 => ?_)
                  · skip
                    have x4 : lwr1 (G 107 2 + j + 1) (G 107 (24 + 3 * i + 1)) (agd (j).toNat (G 107 2) (G 107 (24 + 3 * i + 1)) (G 107 (24 + 3 * i + 2))) = 0 := if_neg (by omega)
                    refine v_iconst (pc := 105) (z := 0) dX4_yearsIt_105 ?_
                    refine v_istore (pc := 106) (by decide) rfl dX4_yearsIt_106 ?_
                    refine v_aload_n (pc := 108) rfl dX4_yearsIt_108 ?_
                    refine v_getR (pc := 109) (j := 107) fd_X4_9 (rfl) (by decide) rfl dX4_yearsIt_109 ?_
                    refine v_iload (pc := 112) rfl dX4_yearsIt_112 ?_
                    refine v_callS (pc := 114) (rest := [vR g 107]) (c_X4_coinAt) sok_X4_coinAt wM_X4_68 (rmOk (by decide) (by decide)) ⟨Nat.le_of_ble_eq_true rfl, Nat.le_of_ble_eq_true rfl⟩ (Nat.le_of_ble_eq_true rfl) rfl dX4_yearsIt_114 (fun v G' hq => ?_) (fun _ _ h => h.elim)
                    obtain ⟨rfl, hG9⟩ := hq
                    rw [hG9]
                    refine v_stk (st' := [vI (24 + 3 * i), vR g 107]) rfl ?_
                    refine v_iconst (pc := 117) (z := 2) dX4_yearsIt_117 ?_
                    refine v_iadd (pc := 118) dX4_yearsIt_118 ?_
                    refine v_dup2 (pc := 119) rfl rfl dX4_yearsIt_119 ?_
                    refine v_iald (pc := 120) (N := 144) rfl rfl (by decide) (by omega) (by decide) dX4_yearsIt_120 ?_
                    refine v_iload (pc := 121) rfl dX4_yearsIt_121 ?_
                    refine v_if_eq (pc := 123) (tgt := 130) (by omega) dX4_yearsIt_123 (by decide) (fun _ => ?_) (fun bq6 => absurd bq6 (by decide))
                    refine v_iconst (pc := 130) (z := 0) dX4_yearsIt_130 ?_
                    refine v_iadd (pc := 131) dX4_yearsIt_131 ?_
                    refine v_iast (pc := 132) (N := 144) rfl rfl (by decide) (by omega) (by decide) dX4_yearsIt_132 ?_
                    skip
                    refine v_iload_n (pc := 133) rfl dX4_yearsIt_133 ?_
                    refine v_iload (pc := 134) rfl dX4_yearsIt_134 ?_
                    refine v_if_eq (pc := 136) (tgt := 143) (by omega) dX4_yearsIt_136 (by decide) (fun _ => ?_) (fun bq7 => absurd bq7 (by decide))
                    refine v_iconst (pc := 143) (z := 0) dX4_yearsIt_143 ?_
                    refine v_iadd (pc := 144) dX4_yearsIt_144 ?_
                    refine v_istore_n (pc := 145) (by decide) rfl dX4_yearsIt_145 ?_
                    refine v_iinc (pc := 146) (y := 1) rfl (by decide) rfl dX4_yearsIt_146 ?_
                    refine v_goto (pc := 149) (tgt := 40) dX4_yearsIt_149 (by decide) ?_
                    refine v_loc (L' := [some (vR g 106), some (vI y), some (vI (n2 + 0)), some (vI j), some (vI (i + 1)), none, none]) (⟨rfl, rfl, rfl, rfl, rfl, trivial⟩) ?_
                    exact ih40 (i + 1) (n2 + 0) (upd2 G2 107 ((24 + 3 * i) + 2) ((G2 107 ((24 + 3 * i) + 2)) + 0)) (by omega) (by (repeat (first | rw [upd2_s] | rw [cpy2_s (by omega)] | rw [upd2_i (by omega)] | rw [upd2_z (by omega)] | rw [cpy2_i (by omega)])); omega) (fun k a c => (Classical.em (k = i)).elim (fun e => by rw [e, agd_s h0.1]; (repeat (first | rw [upd2_s] | rw [cpy2_s (by omega)] | rw [upd2_i (by omega)] | rw [upd2_z (by omega)] | rw [cpy2_i (by omega)])); omega) (fun e => by (repeat (first | rw [upd2_s] | rw [cpy2_s (by omega)] | rw [upd2_i (by omega)] | rw [upd2_z (by omega)] | rw [cpy2_i (by omega)])); exact fg k a (by omega))) (fun k a c => by (repeat (first | rw [upd2_s] | rw [cpy2_s (by omega)] | rw [upd2_i (by omega)] | rw [upd2_z (by omega)] | rw [cpy2_i (by omega)])); exact fh k (by omega) c) (by rw [sz_s (by omega), hn2]; omega) (fun w a c => by have := c i (by omega) (by omega); (repeat (first | rw [upd2_s] | rw [cpy2_s (by omega)] | rw [upd2_i (by omega)] | rw [upd2_z (by omega)] | rw [cpy2_i (by omega)])); exact fo w a c) (fun j z a => by rw [upd2_i a]; exact hF2 j z a) (by omega)
                  · skip
                    have x4 : lwr1 (G 107 2 + j + 1) (G 107 (24 + 3 * i + 1)) (agd (j).toNat (G 107 2) (G 107 (24 + 3 * i + 1)) (G 107 (24 + 3 * i + 2))) = 1 := if_pos ⟨by omega, by omega⟩
                    refine v_iconst (pc := 101) (z := 1) dX4_yearsIt_101 ?_
                    refine v_goto (pc := 102) (tgt := 106) dX4_yearsIt_102 (by decide) ?_
                    refine v_istore (pc := 106) (by decide) rfl dX4_yearsIt_106 ?_
                    refine v_aload_n (pc := 108) rfl dX4_yearsIt_108 ?_
                    refine v_getR (pc := 109) (j := 107) fd_X4_9 (rfl) (by decide) rfl dX4_yearsIt_109 ?_
                    refine v_iload (pc := 112) rfl dX4_yearsIt_112 ?_
                    refine v_callS (pc := 114) (rest := [vR g 107]) (c_X4_coinAt) sok_X4_coinAt wM_X4_68 (rmOk (by decide) (by decide)) ⟨Nat.le_of_ble_eq_true rfl, Nat.le_of_ble_eq_true rfl⟩ (Nat.le_of_ble_eq_true rfl) rfl dX4_yearsIt_114 (fun v G' hq => ?_) (fun _ _ h => h.elim)
                    obtain ⟨rfl, hG9⟩ := hq
                    rw [hG9]
                    refine v_stk (st' := [vI (24 + 3 * i), vR g 107]) rfl ?_
                    refine v_iconst (pc := 117) (z := 2) dX4_yearsIt_117 ?_
                    refine v_iadd (pc := 118) dX4_yearsIt_118 ?_
                    refine v_dup2 (pc := 119) rfl rfl dX4_yearsIt_119 ?_
                    refine v_iald (pc := 120) (N := 144) rfl rfl (by decide) (by omega) (by decide) dX4_yearsIt_120 ?_
                    refine v_iload (pc := 121) rfl dX4_yearsIt_121 ?_
                    refine v_if_eq (pc := 123) (tgt := 130) (by omega) dX4_yearsIt_123 (by decide) (fun bq8 => absurd bq8 (by decide)) (fun _ => ?_)
                    refine v_iconst (pc := 126) (z := 1) dX4_yearsIt_126 ?_
                    refine v_goto (pc := 127) (tgt := 131) dX4_yearsIt_127 (by decide) ?_
                    refine v_iadd (pc := 131) dX4_yearsIt_131 ?_
                    refine v_iast (pc := 132) (N := 144) rfl rfl (by decide) (by omega) (by decide) dX4_yearsIt_132 ?_
                    skip
                    refine v_iload_n (pc := 133) rfl dX4_yearsIt_133 ?_
                    refine v_iload (pc := 134) rfl dX4_yearsIt_134 ?_
                    refine v_if_eq (pc := 136) (tgt := 143) (by omega) dX4_yearsIt_136 (by decide) (fun bq9 => absurd bq9 (by decide)) (fun _ => ?_)
                    refine v_iconst (pc := 139) (z := 1) dX4_yearsIt_139 ?_
                    refine v_goto (pc := 140) (tgt := 144) dX4_yearsIt_140 (by decide) ?_
                    refine v_iadd (pc := 144) dX4_yearsIt_144 ?_
                    refine v_istore_n (pc := 145) (by decide) rfl dX4_yearsIt_145 ?_
                    refine v_iinc (pc := 146) (y := 1) rfl (by decide) rfl dX4_yearsIt_146 ?_
                    refine v_goto (pc := 149) (tgt := 40) dX4_yearsIt_149 (by decide) ?_
                    refine v_loc (L' := [some (vR g 106), some (vI y), some (vI (n2 + 1)), some (vI j), some (vI (i + 1)), none, none]) (⟨rfl, rfl, rfl, rfl, rfl, trivial⟩) ?_
                    exact ih40 (i + 1) (n2 + 1) (upd2 G2 107 ((24 + 3 * i) + 2) ((G2 107 ((24 + 3 * i) + 2)) + 1)) (by omega) (by (repeat (first | rw [upd2_s] | rw [cpy2_s (by omega)] | rw [upd2_i (by omega)] | rw [upd2_z (by omega)] | rw [cpy2_i (by omega)])); omega) (fun k a c => (Classical.em (k = i)).elim (fun e => by rw [e, agd_s h0.1]; (repeat (first | rw [upd2_s] | rw [cpy2_s (by omega)] | rw [upd2_i (by omega)] | rw [upd2_z (by omega)] | rw [cpy2_i (by omega)])); omega) (fun e => by (repeat (first | rw [upd2_s] | rw [cpy2_s (by omega)] | rw [upd2_i (by omega)] | rw [upd2_z (by omega)] | rw [cpy2_i (by omega)])); exact fg k a (by omega))) (fun k a c => by (repeat (first | rw [upd2_s] | rw [cpy2_s (by omega)] | rw [upd2_i (by omega)] | rw [upd2_z (by omega)] | rw [cpy2_i (by omega)])); exact fh k (by omega) c) (by rw [sz_s (by omega), hn2]; omega) (fun w a c => by have := c i (by omega) (by omega); (repeat (first | rw [upd2_s] | rw [cpy2_s (by omega)] | rw [upd2_i (by omega)] | rw [upd2_z (by omega)] | rw [cpy2_i (by omega)])); exact fo w a c) (fun j z a => by rw [upd2_i a]; exact hF2 j z a) (by omega)
                · skip
                  refine v_iload (pc := 78) rfl dX4_yearsIt_78 ?_
                  refine v_bipush (pc := 80) (z := 10) rfl dX4_yearsIt_80 ?_
                  refine v_icmp_ne (pc := 82) (tgt := 105) (by omega) dX4_yearsIt_82 (by decide) (fun bq10 => ?_) (fun bq10 => ?_)
                  · skip
                    have x4 : lwr1 (G 107 2 + j + 1) (G 107 (24 + 3 * i + 1)) (agd (j).toNat (G 107 2) (G 107 (24 + 3 * i + 1)) (G 107 (24 + 3 * i + 2))) = 0 := if_neg (by omega)
                    refine v_iconst (pc := 105) (z := 0) dX4_yearsIt_105 ?_
                    refine v_istore (pc := 106) (by decide) rfl dX4_yearsIt_106 ?_
                    refine v_aload_n (pc := 108) rfl dX4_yearsIt_108 ?_
                    refine v_getR (pc := 109) (j := 107) fd_X4_9 (rfl) (by decide) rfl dX4_yearsIt_109 ?_
                    refine v_iload (pc := 112) rfl dX4_yearsIt_112 ?_
                    refine v_callS (pc := 114) (rest := [vR g 107]) (c_X4_coinAt) sok_X4_coinAt wM_X4_68 (rmOk (by decide) (by decide)) ⟨Nat.le_of_ble_eq_true rfl, Nat.le_of_ble_eq_true rfl⟩ (Nat.le_of_ble_eq_true rfl) rfl dX4_yearsIt_114 (fun v G' hq => ?_) (fun _ _ h => h.elim)
                    obtain ⟨rfl, hG9⟩ := hq
                    rw [hG9]
                    refine v_stk (st' := [vI (24 + 3 * i), vR g 107]) rfl ?_
                    refine v_iconst (pc := 117) (z := 2) dX4_yearsIt_117 ?_
                    refine v_iadd (pc := 118) dX4_yearsIt_118 ?_
                    refine v_dup2 (pc := 119) rfl rfl dX4_yearsIt_119 ?_
                    refine v_iald (pc := 120) (N := 144) rfl rfl (by decide) (by omega) (by decide) dX4_yearsIt_120 ?_
                    refine v_iload (pc := 121) rfl dX4_yearsIt_121 ?_
                    refine v_if_eq (pc := 123) (tgt := 130) (by omega) dX4_yearsIt_123 (by decide) (fun _ => ?_) (fun bq11 => absurd bq11 (by decide))
                    refine v_iconst (pc := 130) (z := 0) dX4_yearsIt_130 ?_
                    refine v_iadd (pc := 131) dX4_yearsIt_131 ?_
                    refine v_iast (pc := 132) (N := 144) rfl rfl (by decide) (by omega) (by decide) dX4_yearsIt_132 ?_
                    skip
                    refine v_iload_n (pc := 133) rfl dX4_yearsIt_133 ?_
                    refine v_iload (pc := 134) rfl dX4_yearsIt_134 ?_
                    refine v_if_eq (pc := 136) (tgt := 143) (by omega) dX4_yearsIt_136 (by decide) (fun _ => ?_) (fun bq12 => absurd bq12 (by decide))
                    refine v_iconst (pc := 143) (z := 0) dX4_yearsIt_143 ?_
                    refine v_iadd (pc := 144) dX4_yearsIt_144 ?_
                    refine v_istore_n (pc := 145) (by decide) rfl dX4_yearsIt_145 ?_
                    refine v_iinc (pc := 146) (y := 1) rfl (by decide) rfl dX4_yearsIt_146 ?_
                    refine v_goto (pc := 149) (tgt := 40) dX4_yearsIt_149 (by decide) ?_
                    refine v_loc (L' := [some (vR g 106), some (vI y), some (vI (n2 + 0)), some (vI j), some (vI (i + 1)), none, none]) (⟨rfl, rfl, rfl, rfl, rfl, trivial⟩) ?_
                    exact ih40 (i + 1) (n2 + 0) (upd2 G2 107 ((24 + 3 * i) + 2) ((G2 107 ((24 + 3 * i) + 2)) + 0)) (by omega) (by (repeat (first | rw [upd2_s] | rw [cpy2_s (by omega)] | rw [upd2_i (by omega)] | rw [upd2_z (by omega)] | rw [cpy2_i (by omega)])); omega) (fun k a c => (Classical.em (k = i)).elim (fun e => by rw [e, agd_s h0.1]; (repeat (first | rw [upd2_s] | rw [cpy2_s (by omega)] | rw [upd2_i (by omega)] | rw [upd2_z (by omega)] | rw [cpy2_i (by omega)])); omega) (fun e => by (repeat (first | rw [upd2_s] | rw [cpy2_s (by omega)] | rw [upd2_i (by omega)] | rw [upd2_z (by omega)] | rw [cpy2_i (by omega)])); exact fg k a (by omega))) (fun k a c => by (repeat (first | rw [upd2_s] | rw [cpy2_s (by omega)] | rw [upd2_i (by omega)] | rw [upd2_z (by omega)] | rw [cpy2_i (by omega)])); exact fh k (by omega) c) (by rw [sz_s (by omega), hn2]; omega) (fun w a c => by have := c i (by omega) (by omega); (repeat (first | rw [upd2_s] | rw [cpy2_s (by omega)] | rw [upd2_i (by omega)] | rw [upd2_z (by omega)] | rw [cpy2_i (by omega)])); exact fo w a c) (fun j z a => by rw [upd2_i a]; exact hF2 j z a) (by omega)
                  · skip
                    refine v_aload_n (pc := 85) rfl dX4_yearsIt_85 ?_
                    refine v_getR (pc := 86) (j := 107) fd_X4_9 (rfl) (by decide) rfl dX4_yearsIt_86 ?_
                    refine v_iload (pc := 89) rfl dX4_yearsIt_89 ?_
                    refine v_callS (pc := 91) (rest := [vR g 107]) (c_X4_coinAt) sok_X4_coinAt wM_X4_68 (rmOk (by decide) (by decide)) ⟨Nat.le_of_ble_eq_true rfl, Nat.le_of_ble_eq_true rfl⟩ (Nat.le_of_ble_eq_true rfl) rfl dX4_yearsIt_91 (fun v G' hq => ?_) (fun _ _ h => h.elim)
                    obtain ⟨rfl, hG9⟩ := hq
                    rw [hG9]
                    refine v_stk (st' := [vI (24 + 3 * i), vR g 107]) rfl ?_
                    refine v_iconst (pc := 94) (z := 2) dX4_yearsIt_94 ?_
                    refine v_iadd (pc := 95) dX4_yearsIt_95 ?_
                    refine v_iald (pc := 96) (N := 144) rfl rfl (by decide) (by omega) (by decide) dX4_yearsIt_96 ?_
                    refine v_iconst (pc := 97) (z := 2) dX4_yearsIt_97 ?_
                    refine v_icmp_ge (pc := 98) (tgt := 105) (by omega) dX4_yearsIt_98 (by decide) (fun bq13 => ?_) (fun bq13 => ?_)
                    · skip
                      have x4 : lwr1 (G 107 2 + j + 1) (G 107 (24 + 3 * i + 1)) (agd (j).toNat (G 107 2) (G 107 (24 + 3 * i + 1)) (G 107 (24 + 3 * i + 2))) = 0 := if_neg (by omega)
                      refine v_iconst (pc := 105) (z := 0) dX4_yearsIt_105 ?_
                      refine v_istore (pc := 106) (by decide) rfl dX4_yearsIt_106 ?_
                      refine v_aload_n (pc := 108) rfl dX4_yearsIt_108 ?_
                      refine v_getR (pc := 109) (j := 107) fd_X4_9 (rfl) (by decide) rfl dX4_yearsIt_109 ?_
                      refine v_iload (pc := 112) rfl dX4_yearsIt_112 ?_
                      refine v_callS (pc := 114) (rest := [vR g 107]) (c_X4_coinAt) sok_X4_coinAt wM_X4_68 (rmOk (by decide) (by decide)) ⟨Nat.le_of_ble_eq_true rfl, Nat.le_of_ble_eq_true rfl⟩ (Nat.le_of_ble_eq_true rfl) rfl dX4_yearsIt_114 (fun v G' hq => ?_) (fun _ _ h => h.elim)
                      obtain ⟨rfl, hG9⟩ := hq
                      rw [hG9]
                      refine v_stk (st' := [vI (24 + 3 * i), vR g 107]) rfl ?_
                      refine v_iconst (pc := 117) (z := 2) dX4_yearsIt_117 ?_
                      refine v_iadd (pc := 118) dX4_yearsIt_118 ?_
                      refine v_dup2 (pc := 119) rfl rfl dX4_yearsIt_119 ?_
                      refine v_iald (pc := 120) (N := 144) rfl rfl (by decide) (by omega) (by decide) dX4_yearsIt_120 ?_
                      refine v_iload (pc := 121) rfl dX4_yearsIt_121 ?_
                      refine v_if_eq (pc := 123) (tgt := 130) (by omega) dX4_yearsIt_123 (by decide) (fun _ => ?_) (fun bq14 => absurd bq14 (by decide))
                      refine v_iconst (pc := 130) (z := 0) dX4_yearsIt_130 ?_
                      refine v_iadd (pc := 131) dX4_yearsIt_131 ?_
                      refine v_iast (pc := 132) (N := 144) rfl rfl (by decide) (by omega) (by decide) dX4_yearsIt_132 ?_
                      skip
                      refine v_iload_n (pc := 133) rfl dX4_yearsIt_133 ?_
                      refine v_iload (pc := 134) rfl dX4_yearsIt_134 ?_
                      refine v_if_eq (pc := 136) (tgt := 143) (by omega) dX4_yearsIt_136 (by decide) (fun _ => ?_) (fun bq15 => absurd bq15 (by decide))
                      refine v_iconst (pc := 143) (z := 0) dX4_yearsIt_143 ?_
                      refine v_iadd (pc := 144) dX4_yearsIt_144 ?_
                      refine v_istore_n (pc := 145) (by decide) rfl dX4_yearsIt_145 ?_
                      refine v_iinc (pc := 146) (y := 1) rfl (by decide) rfl dX4_yearsIt_146 ?_
                      refine v_goto (pc := 149) (tgt := 40) dX4_yearsIt_149 (by decide) ?_
                      refine v_loc (L' := [some (vR g 106), some (vI y), some (vI (n2 + 0)), some (vI j), some (vI (i + 1)), none, none]) (⟨rfl, rfl, rfl, rfl, rfl, trivial⟩) ?_
                      exact ih40 (i + 1) (n2 + 0) (upd2 G2 107 ((24 + 3 * i) + 2) ((G2 107 ((24 + 3 * i) + 2)) + 0)) (by omega) (by (repeat (first | rw [upd2_s] | rw [cpy2_s (by omega)] | rw [upd2_i (by omega)] | rw [upd2_z (by omega)] | rw [cpy2_i (by omega)])); omega) (fun k a c => (Classical.em (k = i)).elim (fun e => by rw [e, agd_s h0.1]; (repeat (first | rw [upd2_s] | rw [cpy2_s (by omega)] | rw [upd2_i (by omega)] | rw [upd2_z (by omega)] | rw [cpy2_i (by omega)])); omega) (fun e => by (repeat (first | rw [upd2_s] | rw [cpy2_s (by omega)] | rw [upd2_i (by omega)] | rw [upd2_z (by omega)] | rw [cpy2_i (by omega)])); exact fg k a (by omega))) (fun k a c => by (repeat (first | rw [upd2_s] | rw [cpy2_s (by omega)] | rw [upd2_i (by omega)] | rw [upd2_z (by omega)] | rw [cpy2_i (by omega)])); exact fh k (by omega) c) (by rw [sz_s (by omega), hn2]; omega) (fun w a c => by have := c i (by omega) (by omega); (repeat (first | rw [upd2_s] | rw [cpy2_s (by omega)] | rw [upd2_i (by omega)] | rw [upd2_z (by omega)] | rw [cpy2_i (by omega)])); exact fo w a c) (fun j z a => by rw [upd2_i a]; exact hF2 j z a) (by omega)
                    · skip
                      have x4 : lwr1 (G 107 2 + j + 1) (G 107 (24 + 3 * i + 1)) (agd (j).toNat (G 107 2) (G 107 (24 + 3 * i + 1)) (G 107 (24 + 3 * i + 2))) = 1 := if_pos ⟨by omega, by omega⟩
                      refine v_iconst (pc := 101) (z := 1) dX4_yearsIt_101 ?_
                      refine v_goto (pc := 102) (tgt := 106) dX4_yearsIt_102 (by decide) ?_
                      refine v_istore (pc := 106) (by decide) rfl dX4_yearsIt_106 ?_
                      refine v_aload_n (pc := 108) rfl dX4_yearsIt_108 ?_
                      refine v_getR (pc := 109) (j := 107) fd_X4_9 (rfl) (by decide) rfl dX4_yearsIt_109 ?_
                      refine v_iload (pc := 112) rfl dX4_yearsIt_112 ?_
                      refine v_callS (pc := 114) (rest := [vR g 107]) (c_X4_coinAt) sok_X4_coinAt wM_X4_68 (rmOk (by decide) (by decide)) ⟨Nat.le_of_ble_eq_true rfl, Nat.le_of_ble_eq_true rfl⟩ (Nat.le_of_ble_eq_true rfl) rfl dX4_yearsIt_114 (fun v G' hq => ?_) (fun _ _ h => h.elim)
                      obtain ⟨rfl, hG9⟩ := hq
                      rw [hG9]
                      refine v_stk (st' := [vI (24 + 3 * i), vR g 107]) rfl ?_
                      refine v_iconst (pc := 117) (z := 2) dX4_yearsIt_117 ?_
                      refine v_iadd (pc := 118) dX4_yearsIt_118 ?_
                      refine v_dup2 (pc := 119) rfl rfl dX4_yearsIt_119 ?_
                      refine v_iald (pc := 120) (N := 144) rfl rfl (by decide) (by omega) (by decide) dX4_yearsIt_120 ?_
                      refine v_iload (pc := 121) rfl dX4_yearsIt_121 ?_
                      refine v_if_eq (pc := 123) (tgt := 130) (by omega) dX4_yearsIt_123 (by decide) (fun bq16 => absurd bq16 (by decide)) (fun _ => ?_)
                      refine v_iconst (pc := 126) (z := 1) dX4_yearsIt_126 ?_
                      refine v_goto (pc := 127) (tgt := 131) dX4_yearsIt_127 (by decide) ?_
                      refine v_iadd (pc := 131) dX4_yearsIt_131 ?_
                      refine v_iast (pc := 132) (N := 144) rfl rfl (by decide) (by omega) (by decide) dX4_yearsIt_132 ?_
                      skip
                      refine v_iload_n (pc := 133) rfl dX4_yearsIt_133 ?_
                      refine v_iload (pc := 134) rfl dX4_yearsIt_134 ?_
                      refine v_if_eq (pc := 136) (tgt := 143) (by omega) dX4_yearsIt_136 (by decide) (fun bq17 => absurd bq17 (by decide)) (fun _ => ?_)
                      refine v_iconst (pc := 139) (z := 1) dX4_yearsIt_139 ?_
                      refine v_goto (pc := 140) (tgt := 144) dX4_yearsIt_140 (by decide) ?_
                      refine v_iadd (pc := 144) dX4_yearsIt_144 ?_
                      refine v_istore_n (pc := 145) (by decide) rfl dX4_yearsIt_145 ?_
                      refine v_iinc (pc := 146) (y := 1) rfl (by decide) rfl dX4_yearsIt_146 ?_
                      refine v_goto (pc := 149) (tgt := 40) dX4_yearsIt_149 (by decide) ?_
                      refine v_loc (L' := [some (vR g 106), some (vI y), some (vI (n2 + 1)), some (vI j), some (vI (i + 1)), none, none]) (⟨rfl, rfl, rfl, rfl, rfl, trivial⟩) ?_
                      exact ih40 (i + 1) (n2 + 1) (upd2 G2 107 ((24 + 3 * i) + 2) ((G2 107 ((24 + 3 * i) + 2)) + 1)) (by omega) (by (repeat (first | rw [upd2_s] | rw [cpy2_s (by omega)] | rw [upd2_i (by omega)] | rw [upd2_z (by omega)] | rw [cpy2_i (by omega)])); omega) (fun k a c => (Classical.em (k = i)).elim (fun e => by rw [e, agd_s h0.1]; (repeat (first | rw [upd2_s] | rw [cpy2_s (by omega)] | rw [upd2_i (by omega)] | rw [upd2_z (by omega)] | rw [cpy2_i (by omega)])); omega) (fun e => by (repeat (first | rw [upd2_s] | rw [cpy2_s (by omega)] | rw [upd2_i (by omega)] | rw [upd2_z (by omega)] | rw [cpy2_i (by omega)])); exact fg k a (by omega))) (fun k a c => by (repeat (first | rw [upd2_s] | rw [cpy2_s (by omega)] | rw [upd2_i (by omega)] | rw [upd2_z (by omega)] | rw [cpy2_i (by omega)])); exact fh k (by omega) c) (by rw [sz_s (by omega), hn2]; omega) (fun w a c => by have := c i (by omega) (by omega); (repeat (first | rw [upd2_s] | rw [cpy2_s (by omega)] | rw [upd2_i (by omega)] | rw [upd2_z (by omega)] | rw [cpy2_i (by omega)])); exact fo w a c) (fun j z a => by rw [upd2_i a]; exact hF2 j z a) (by omega)
          refine v_loc (L' := [some (vR g 106), some (vI y), some (vI n), some (vI j), some (vI 0), none, none]) (⟨rfl, rfl, rfl, rfl, rfl, trivial⟩) ?_
          exact lp40 _ 0 n (upd2 G1 107 2 ((G1 107 2) + 1)) (by omega) (by rw [upd2_s]; omega) (fun k a c => absurd c (by omega)) (fun k a c => by rw [upd2_z (by omega)]; exact eg k (by omega) c) (by rw [sz_0]; omega) (fun w a c => by rw [upd2_z a]; exact eo w a c) (fun i z a => by rw [upd2_i a]; exact hF i z a) (Nat.lt_succ_self _)
    refine v_loc (L' := [some (vR g 106), some (vI y), some (vI 0), some (vI 0), none, none, none]) (⟨rfl, rfl, rfl, rfl, trivial⟩) ?_
    exact lp22 _ 0 0 G (by omega) (by omega) (fun _ _ _ => rfl) ((sz_zero hc.1 (fun k _ _ => by show G 107 (24 + 3 * k + 2) - _ = 0; omega)).symm) (fun _ _ _ => rfl) (fun _ _ _ => rfl) (Nat.lt_succ_self _)
  · skip
    have bq1 := bI_eq0.mp bq1
    refine v_aload_n (pc := 12) rfl dX4_yearsIt_12 ?_
    refine v_iconst (pc := 13) (z := 1) dX4_yearsIt_13 ?_
    refine v_callV (pc := 14) (rest := []) (c_X4_throwing) iok_X4_throwing wM_X4_81 (rfl) (by decide) (by decide) rfl (rmOk (by decide) (by decide)) ⟨Nat.le_of_ble_eq_true rfl, Nat.le_of_ble_eq_true rfl⟩ (Nat.le_of_ble_eq_true rfl) rfl dX4_yearsIt_14 (fun v G' hq => ?_) (fun _ _ h => h.elim)
    obtain ⟨rfl, hG9⟩ := hq
    rw [hG9]
    refine v_stk (st' := [vI (-1)]) rfl ?_
    exact v_iret (pc := 17) E (⟨_, rfl, 2, Or.inl ⟨by omega, rfl⟩, by rw [upd2_s]; rfl, fun i z a b c => if_neg c, Or.inl ⟨by decide, funext fun w => upd2_i (by decide)⟩⟩) (Nat.le_of_ble_eq_true rfl) (Nat.le_of_ble_eq_true rfl) dX4_yearsIt_17
/-- the weight of a coin of the die d, by the row m -/
abbrev wM (M : Int → Int) (d : Int) : Int := M (9 + 3 * d + 1)
def mltM (M : Int → Int) (y : Int) : Int := mlt (M 3) (fun k => M (24 + 3 * k)) (fun i => M (9 + 3 * i + 1)) (fun k => M (24 + 3 * k + 1)) (fun k => M (24 + 3 * k + 2)) y
def PmMl (M M' : Int → Int) (y r : Int) : Prop := r = mltM M y ∧ (∀ φ, csM M' φ = csM M (fun dd yy gg => if yy = y then 0 else φ dd yy gg)) ∧ M' 1 = M 1 + r ∧ M' 7 = M 7 + (csM M (fun dd _ _ => wM M dd) - csM M (fun dd yy _ => if yy = y then 0 else wM M dd) - r) ∧ ∀ z, z < 24 → z ≠ 1 → z ≠ 3 → z ≠ 7 → M' z = M z
theorem mltM_cs (M : Int → Int) (y : Int) : mltM M y = csM M (fun dd yy gg => if yy = y then mxI 0 (M (9 + 3 * dd + 1) - gg) else 0) := rfl
theorem csM_fcongr {M : Int → Int} {φ ψ : Int → Int → Int → Int} (h : ∀ k, 0 ≤ k → k < M 3 → φ (M (24 + 3 * k)) (M (24 + 3 * k + 1)) (M (24 + 3 * k + 2)) = ψ (M (24 + 3 * k)) (M (24 + 3 * k + 1)) (M (24 + 3 * k + 2))) : csM M φ = csM M ψ := sz_congr h
theorem csM_same {M M' : Int → Int} (h3 : M' 3 = M 3) (h : ∀ z, 24 ≤ z → M' z = M z) (φ : Int → Int → Int → Int) : csM M' φ = csM M φ := by
  unfold csM
  rw [h3]
  exact sz_congr fun k k0 k1 => by rw [h (24 + 3 * k) (by omega), h (24 + 3 * k + 1) (by omega), h (24 + 3 * k + 2) (by omega)]

/-- the coin k leaves the row m, whose place 7 has become v -/
theorem tk_step {G1 G3 : Mem} {k v : Int} (hI : MoI (G1 107)) (hk : 0 ≤ k ∧ k < G1 107 3) (h : G3 = setM (upd2 G1 107 7 v) (tkM (upd2 G1 107 7 v 107) k)) :
    (∀ φ : Int → Int → Int → Int, csM (G3 107) φ = csM (G1 107) φ - φ (G1 107 (24 + 3 * k)) (G1 107 (24 + 3 * k + 1)) (G1 107 (24 + 3 * k + 2))) ∧ MoI (G3 107) ∧ G3 107 3 = G1 107 3 - 1 ∧ (∀ z, z < 24 → z ≠ 3 → z ≠ 7 → G3 107 z = G1 107 z) ∧ G3 107 7 = v ∧ (∀ i z, i ≠ 107 → G3 i z = G1 i z) ∧ ∀ z, 24 ≤ z → z < 24 + 3 * k → G3 107 z = G1 107 z := by
  have e7 : G3 107 = tkM (upd2 G1 107 7 v 107) k := by rw [h, setM_7]
  have c3 : upd2 G1 107 7 v 107 3 = G1 107 3 := upd2_z (by decide)
  have hI2 : MoI (upd2 G1 107 7 v 107) := MoI_eq hI (fun z a => upd2_z (by omega))
  have hk2 : 0 ≤ k ∧ k < upd2 G1 107 7 v 107 3 := by rw [c3]; exact hk
  have h40 := (MoI_c hI2).2
  refine ⟨fun φ => ?_, by rw [e7]; exact MoI_tk hI2 hk2, by rw [e7, tkM_3, c3], fun z z0 z3 z7 => ?_, by rw [e7, tkM_lo hk.1 (by decide) (by decide), upd2_s], fun i z a => ?_, fun z z0 z1 => ?_⟩
  · rw [e7, csM_tk hk2 h40, csM_same (M := G1 107) c3 (fun z a => upd2_z (by omega)), upd2_z (by omega), upd2_z (by omega), upd2_z (by omega)]
  · rw [e7, tkM_lo hk.1 z0 z3, upd2_z z7]
  · rw [h, setM_o a, upd2_i a]
  · rw [e7]
    unfold tkM
    rw [if_neg (by omega), if_neg (by omega), if_neg (by omega), upd2_z (by omega)]

set_option maxHeartbeats 4000000 in
set_option maxRecDepth 100000 in
theorem c_X4_recallIt {g : GT} {G : Mem} (hM : MoI (G 107)) (h8 : G 106 8 = 0) (hlv : 0 ≤ G 107 1 ∧ G 107 1 ≤ 100000) {y : Int} (h_y : -2147483648 ≤ y ∧ y < 2147483648) : Ctr g yX4_recallIt cX4_recallIt 4 (some FieldType.int) (rmL 3 0 0) [vR g 106, vI y] G (RP (fun r G' => ∃ q, FltMl (G 107 2) (G 107 3) (fun k => G 107 (24 + 3 * k + 1)) y q ∧ EndM G G' 5 q (MoI (G' 107) ∧ PmMl (G 107) (G' 107) y r))) NoX := by
  refine ctr_of [some (vR g 106), some (vI y), none, none] (by decide) (Nat.le_of_ble_eq_true rfl) rfl (fun γ E => ?_)
  show V γ g cX4_recallIt 4 RX4 (rmL 3 0 0) G 0 0 0 [some (vR g 106), some (vI y), none, none] []
  have hn := MoI_n hM
  have hc := MoI_c hM
  have hy := MoI_y hM
  refine v_iload_n (pc := 0) rfl dX4_recallIt_0 ?_
  refine v_i2l (pc := 1) (by omega) dX4_recallIt_1 ?_
  refine v_lconst (pc := 2) (z := 0) rfl dX4_recallIt_2 ?_
  refine v_aload_n (pc := 3) rfl dX4_recallIt_3 ?_
  refine v_getR (pc := 4) (j := 107) fd_X4_9 (rfl) (by decide) rfl dX4_recallIt_4 ?_
  refine v_iconst (pc := 7) (z := 2) dX4_recallIt_7 ?_
  refine v_iald (pc := 8) (N := 144) rfl rfl (by decide) (by omega) (by decide) dX4_recallIt_8 ?_
  refine v_i2l (pc := 9) (by omega) dX4_recallIt_9 ?_
  refine v_callS (pc := 10) (rest := []) (c_X4_in (by omega) (by omega) (by omega)) sok_X4_in wM_X4_60 (rmOk (by decide) (by decide)) ⟨Nat.le_of_ble_eq_true rfl, Nat.le_of_ble_eq_true rfl⟩ (Nat.le_of_ble_eq_true rfl) rfl dX4_recallIt_10 (fun v G' hq => ?_) (fun _ _ h => h.elim)
  obtain ⟨rfl, hG9⟩ := hq
  rw [hG9]
  refine v_stk (st' := [vI (bI (0 ≤ y ∧ y ≤ G 107 2))]) rfl ?_
  refine v_if_ne (pc := 13) (tgt := 22) (bI_r _) dX4_recallIt_13 (by decide) (fun bq1 => ?_) (fun bq1 => ?_)
  · skip
    have bq1 := bI_n0 bq1
    refine v_aload_n (pc := 22) rfl dX4_recallIt_22 ?_
    refine v_iload_n (pc := 23) rfl dX4_recallIt_23 ?_
    refine v_callV (pc := 24) (rest := []) (c_X4_manyOfYear hM h_y) iok_X4_manyOfYear wM_X4_125 (rfl) (by decide) (by decide) rfl (rmOk (by decide) (by decide)) ⟨Nat.le_of_ble_eq_true rfl, Nat.le_of_ble_eq_true rfl⟩ (Nat.le_of_ble_eq_true rfl) rfl dX4_recallIt_24 (fun v G' hq => ?_) (fun _ _ h => h.elim)
    obtain ⟨rfl, hG9⟩ := hq
    rw [hG9]
    refine v_stk (st' := [vI (cntE (G 107 3) (fun k => G 107 (24 + 3 * k + 1)) y)]) rfl ?_
    have hcn := sz_cnt (n := G 107 3) (p := fun k => G 107 (24 + 3 * k + 1) = y) (fun k => Int.instDecidableEq _ _) hc.1
    change 0 ≤ cntE (G 107 3) (fun k => G 107 (24 + 3 * k + 1)) y ∧ cntE (G 107 3) (fun k => G 107 (24 + 3 * k + 1)) y ≤ G 107 3 at hcn
    refine v_if_ne (pc := 27) (tgt := 36) (by omega) dX4_recallIt_27 (by decide) (fun bq2 => ?_) (fun bq2 => ?_)
    · skip
      refine v_iconst (pc := 36) (z := 0) dX4_recallIt_36 ?_
      refine v_istore_n (pc := 37) (by decide) rfl dX4_recallIt_37 ?_
      refine v_iconst (pc := 38) (z := 0) dX4_recallIt_38 ?_
      refine v_istore_n (pc := 39) (by decide) rfl dX4_recallIt_39 ?_
      have lp40 : ∀ (m40 : Nat) (k : Int) (bk : Int) (G1 : Mem), (0 ≤ k ∧ k ≤ G1 107 3) → (MoI (G1 107)) → (∀ j, 0 ≤ j → j < k → G1 107 (24 + 3 * j + 1) ≠ y) → (∀ φ : Int → Int → Int → Int, csM (G1 107) (fun dd yy gg => if yy = y then 0 else φ dd yy gg) = csM (G 107) (fun dd yy gg => if yy = y then 0 else φ dd yy gg)) → (bk = csM (G 107) (fun dd yy gg => if yy = y then mxI 0 (G 107 (9 + 3 * dd + 1) - gg) else 0) - csM (G1 107) (fun dd yy gg => if yy = y then mxI 0 (G 107 (9 + 3 * dd + 1) - gg) else 0)) → (G1 107 7 = G 107 7 + (csM (G 107) (fun dd _ _ => G 107 (9 + 3 * dd + 1)) - csM (G1 107) (fun dd _ _ => G 107 (9 + 3 * dd + 1))) - bk) → (∀ z, z < 24 → z ≠ 3 → z ≠ 7 → G1 107 z = G 107 z) → (∀ i z, i ≠ 107 → G1 i z = G i z) → ((G1 107 3 - k).toNat) < m40 → V γ g cX4_recallIt 4 RX4 (rmL 3 0 0) G1 0 0 40 [some (vR g 106), some (vI y), some (vI bk), some (vI k)] [] := by
        intro m40
        induction m40 with
        | zero => intro k bk G1; intros; omega
        | succ m40 ih40 =>
          intro k bk G1 h0 hI hlow hφ hb h7 eo hF hm40
          have kc := MoI_c hI
          have ky := MoI_y hI
          have kn := MoI_n hI
          have ke2 := eo 2 (by decide) (by decide) (by decide)
          refine v_iload_n (pc := 40) rfl dX4_recallIt_40 ?_
          refine v_aload_n (pc := 41) rfl dX4_recallIt_41 ?_
          refine v_getR (pc := 42) (j := 107) fd_X4_9 (rfl) (by decide) rfl dX4_recallIt_42 ?_
          refine v_iconst (pc := 45) (z := 3) dX4_recallIt_45 ?_
          refine v_iald (pc := 46) (N := 144) rfl rfl (by decide) (by omega) (by decide) dX4_recallIt_46 ?_
          refine v_icmp_ge (pc := 47) (tgt := 108) (by omega) dX4_recallIt_47 (by decide) (fun bq3 => ?_) (fun bq3 => ?_)
          · skip
            refine v_aload_n (pc := 108) rfl dX4_recallIt_108 ?_
            refine v_getR (pc := 109) (j := 107) fd_X4_9 (rfl) (by decide) rfl dX4_recallIt_109 ?_
            refine v_iconst (pc := 112) (z := 1) dX4_recallIt_112 ?_
            refine v_dup2 (pc := 113) rfl rfl dX4_recallIt_113 ?_
            refine v_iald (pc := 114) (N := 144) rfl rfl (by decide) (by omega) (by decide) dX4_recallIt_114 ?_
            refine v_iload_n (pc := 115) rfl dX4_recallIt_115 ?_
            refine v_iadd (pc := 116) dX4_recallIt_116 ?_
            refine v_iast (pc := 117) (N := 144) rfl rfl (by decide) (by omega) (by decide) dX4_recallIt_117 ?_
            refine v_iload_n (pc := 118) rfl dX4_recallIt_118 ?_
            exact v_iret (pc := 119) E (⟨_, rfl, 0, Or.inr ⟨by omega, Or.inr ⟨by assumption, rfl⟩⟩, by rw [upd2_i (by decide), hF 106 8 (by decide), h8]; rfl, fun i z a b c => (upd2_i a).trans (hF i z a), Or.inr ⟨rfl, MoI_eq hI (fun z a => upd2_z (by omega)), by
              have hno : ∀ φ : Int → Int → Int → Int, csM (G1 107) φ = csM (G1 107) (fun dd yy gg => if yy = y then 0 else φ dd yy gg) := fun φ => csM_fcongr fun j j0 j1 => (if_neg (hlow j j0 (by omega))).symm
              have z0 : csM (G1 107) (fun dd yy gg => if yy = y then mxI 0 (G 107 (9 + 3 * dd + 1) - gg) else 0) = 0 := sz_zero (MoI_c hI).1 (fun j j0 j1 => if_neg (hlow j j0 (by omega)))
              refine ⟨by rw [mltM_cs]; omega, fun φ => ?_, by rw [upd2_s, eo 1 (by decide) (by decide) (by decide)], ?_, fun z a b c d => by rw [upd2_z b]; exact eo z a c d⟩
              · rw [csM_same (M := G1 107) (upd2_z (by decide)) (fun z a => upd2_z (by omega)), hno, hφ]
              · rw [upd2_z (by decide), h7, hno, hφ]
                show _ = G 107 7 + ((csM (G 107) (fun dd _ _ => G 107 (9 + 3 * dd + 1)) - csM (G 107) (fun dd yy _ => if yy = y then 0 else G 107 (9 + 3 * dd + 1))) - bk)
                omega⟩⟩) (Nat.le_of_ble_eq_true rfl) (Nat.le_of_ble_eq_true rfl) dX4_recallIt_119
          · skip
            have rk := MoI_k hI (k := k) (by omega) (by omega)
            have wk : G1 107 (9 + 3 * G1 107 (24 + 3 * k) + 1) = G 107 (9 + 3 * G1 107 (24 + 3 * k) + 1) := eo _ (by have := MoI_n hI; omega) (by omega) (by omega)
            refine v_aload_n (pc := 50) rfl dX4_recallIt_50 ?_
            refine v_getR (pc := 51) (j := 107) fd_X4_9 (rfl) (by decide) rfl dX4_recallIt_51 ?_
            refine v_iload_n (pc := 54) rfl dX4_recallIt_54 ?_
            refine v_callS (pc := 55) (rest := [vR g 107]) (c_X4_coinAt) sok_X4_coinAt wM_X4_68 (rmOk (by decide) (by decide)) ⟨Nat.le_of_ble_eq_true rfl, Nat.le_of_ble_eq_true rfl⟩ (Nat.le_of_ble_eq_true rfl) rfl dX4_recallIt_55 (fun v G' hq => ?_) (fun _ _ h => h.elim)
            obtain ⟨rfl, hG9⟩ := hq
            rw [hG9]
            refine v_stk (st' := [vI (24 + 3 * k), vR g 107]) rfl ?_
            refine v_iconst (pc := 58) (z := 1) dX4_recallIt_58 ?_
            refine v_iadd (pc := 59) dX4_recallIt_59 ?_
            refine v_iald (pc := 60) (N := 144) rfl rfl (by decide) (by omega) (by decide) dX4_recallIt_60 ?_
            refine v_iload_n (pc := 61) rfl dX4_recallIt_61 ?_
            refine v_icmp_ne (pc := 62) (tgt := 102) (by omega) dX4_recallIt_62 (by decide) (fun bq4 => ?_) (fun bq4 => ?_)
            · skip
              refine v_iinc (pc := 102) (y := 1) rfl (by decide) rfl dX4_recallIt_102 ?_
              refine v_goto (pc := 105) (tgt := 40) dX4_recallIt_105 (by decide) ?_
              exact ih40 (k + 1) bk G1 (by omega) hI (fun j a c => (Classical.em (j = k)).elim (fun e => by rw [e]; assumption) (fun e => hlow j a (by omega))) hφ hb h7 eo hF (by omega)
            · skip
              refine v_iload_n (pc := 65) rfl dX4_recallIt_65 ?_
              refine v_aload_n (pc := 66) rfl dX4_recallIt_66 ?_
              refine v_iload_n (pc := 67) rfl dX4_recallIt_67 ?_
              refine v_callV (pc := 68) (rest := [vI bk]) (c_X4_grams (G := G1) hI (k := k) (by omega)) iok_X4_grams wM_X4_128 (rfl) (by decide) (by decide) rfl (rmOk (by decide) (by decide)) ⟨Nat.le_of_ble_eq_true rfl, Nat.le_of_ble_eq_true rfl⟩ (Nat.le_of_ble_eq_true rfl) rfl dX4_recallIt_68 (fun v G' hq => ?_) (fun _ _ h => h.elim)
              obtain ⟨rfl, hG9⟩ := hq
              rw [hG9]
              obtain ⟨gm, h_gm⟩ : ∃ w9, w9 = (mxI 0 (G1 107 (9 + 3 * G1 107 (24 + 3 * k) + 1) - G1 107 (24 + 3 * k + 2))) := ⟨_, rfl⟩
              refine v_stk (st' := [vI gm, vI bk]) (by rw [h_gm]; rfl) ?_
              have gmv : mxI 0 (G 107 (9 + 3 * G1 107 (24 + 3 * k) + 1) - G1 107 (24 + 3 * k + 2)) = gm := by rw [h_gm, wk]
              refine v_iadd (pc := 71) dX4_recallIt_71 ?_
              refine v_istore_n (pc := 72) (by decide) rfl dX4_recallIt_72 ?_
              refine v_aload_n (pc := 73) rfl dX4_recallIt_73 ?_
              refine v_getR (pc := 74) (j := 107) fd_X4_9 (rfl) (by decide) rfl dX4_recallIt_74 ?_
              refine v_bipush (pc := 77) (z := 7) rfl dX4_recallIt_77 ?_
              refine v_dup2 (pc := 79) rfl rfl dX4_recallIt_79 ?_
              refine v_iald (pc := 80) (N := 144) rfl rfl (by decide) (by omega) (by decide) dX4_recallIt_80 ?_
              refine v_aload_n (pc := 81) rfl dX4_recallIt_81 ?_
              refine v_iload_n (pc := 82) rfl dX4_recallIt_82 ?_
              refine v_callV (pc := 83) (rest := [vI (G1 107 7), vI 7, vR g 107]) (c_X4_weightOfCoin (G := G1) hI (k := k) (by omega)) iok_X4_weightOfCoin wM_X4_119 (rfl) (by decide) (by decide) rfl (rmOk (by decide) (by decide)) ⟨Nat.le_of_ble_eq_true rfl, Nat.le_of_ble_eq_true rfl⟩ (Nat.le_of_ble_eq_true rfl) rfl dX4_recallIt_83 (fun v G' hq => ?_) (fun _ _ h => h.elim)
              obtain ⟨rfl, hG9⟩ := hq
              rw [hG9]
              obtain ⟨wk9, h_wk9⟩ : ∃ w9, w9 = (G1 107 (9 + 3 * G1 107 (24 + 3 * k) + 1)) := ⟨_, rfl⟩
              refine v_stk (st' := [vI wk9, vI (G1 107 7), vI 7, vR g 107]) (by rw [h_wk9]; rfl) ?_
              have hwk : G 107 (9 + 3 * G1 107 (24 + 3 * k) + 1) = wk9 := by rw [h_wk9, wk]
              refine v_aload_n (pc := 86) rfl dX4_recallIt_86 ?_
              refine v_iload_n (pc := 87) rfl dX4_recallIt_87 ?_
              refine v_callV (pc := 88) (rest := [vI wk9, vI (G1 107 7), vI 7, vR g 107]) (c_X4_grams (G := G1) hI (k := k) (by omega)) iok_X4_grams wM_X4_128 (rfl) (by decide) (by decide) rfl (rmOk (by decide) (by decide)) ⟨Nat.le_of_ble_eq_true rfl, Nat.le_of_ble_eq_true rfl⟩ (Nat.le_of_ble_eq_true rfl) rfl dX4_recallIt_88 (fun v G' hq => ?_) (fun _ _ h => h.elim)
              obtain ⟨rfl, hG9⟩ := hq
              rw [hG9]
              obtain ⟨gm2, h_gm2⟩ : ∃ w9, w9 = (mxI 0 (G1 107 (9 + 3 * G1 107 (24 + 3 * k) + 1) - G1 107 (24 + 3 * k + 2))) := ⟨_, rfl⟩
              refine v_stk (st' := [vI gm2, vI wk9, vI (G1 107 7), vI 7, vR g 107]) (by rw [h_gm2]; rfl) ?_
              have hg2 : gm2 = gm := by rw [h_gm2, h_gm]
              rw [hg2]
              refine v_isub (pc := 91) dX4_recallIt_91 ?_
              refine v_iadd (pc := 92) dX4_recallIt_92 ?_
              refine v_iast (pc := 93) (N := 144) rfl rfl (by decide) (by omega) (by decide) dX4_recallIt_93 ?_
              refine v_aload_n (pc := 94) rfl dX4_recallIt_94 ?_
              refine v_iload_n (pc := 95) rfl dX4_recallIt_95 ?_
              refine v_callV (pc := 96) (rest := []) (c_X4_takesOut (G := upd2 G1 107 7 ((G1 107 7) + (wk9 - gm))) (MoI_eq hI (fun z a => upd2_z (by omega))) (c := k) (by rw [upd2_z (by decide)]; omega)) iok_X4_takesOut wM_X4_131 (rfl) (by decide) (by decide) rfl (rmOk (by decide) (by decide)) ⟨Nat.le_of_ble_eq_true rfl, Nat.le_of_ble_eq_true rfl⟩ (Nat.le_of_ble_eq_true rfl) rfl dX4_recallIt_96 (fun v G' hq => ?_) (fun _ _ h => h.elim)
              obtain ⟨rfl, hG9⟩ := hq
              rw [hG9]
              refine v_stk (st' := []) rfl ?_
              obtain ⟨G3, hG3⟩ : ∃ x : Mem, x = setM (upd2 G1 107 7 ((G1 107 7) + (wk9 - gm))) (tkM (upd2 G1 107 7 ((G1 107 7) + (wk9 - gm)) 107) k) := ⟨_, rfl⟩
              rw [← hG3]
              obtain ⟨tφ, tI, t3, tz, t7, tF, tl⟩ := tk_step hI (k := k) (by omega) hG3
              refine v_goto (pc := 99) (tgt := 40) dX4_recallIt_99 (by decide) ?_
              exact ih40 k (bk + gm) G3 (by omega) tI (fun j a c => by rw [tl _ (by omega) (by omega)]; exact hlow j a c) (fun φ => by rw [tφ, hφ, if_pos (by omega)]; omega) (by rw [tφ, if_pos (by omega), gmv]; omega) (by rw [t7, tφ, hwk]; omega) (fun z a b c => (tz z a b c).trans (eo z a b c)) (fun i z a => (tF i z a).trans (hF i z a)) (by omega)
      refine v_loc (L' := [some (vR g 106), some (vI y), some (vI 0), some (vI 0)]) (⟨rfl, rfl, rfl, rfl, trivial⟩) ?_
      exact lp40 _ 0 0 G (by omega) hM (fun j a c => absurd c (by omega)) (fun φ => rfl) (by omega) (by omega) (fun _ _ _ _ => rfl) (fun _ _ _ => rfl) (Nat.lt_succ_self _)
    · skip
      refine v_aload_n (pc := 30) rfl dX4_recallIt_30 ?_
      refine v_iconst (pc := 31) (z := 2) dX4_recallIt_31 ?_
      refine v_callV (pc := 32) (rest := []) (c_X4_throwing) iok_X4_throwing wM_X4_81 (rfl) (by decide) (by decide) rfl (rmOk (by decide) (by decide)) ⟨Nat.le_of_ble_eq_true rfl, Nat.le_of_ble_eq_true rfl⟩ (Nat.le_of_ble_eq_true rfl) rfl dX4_recallIt_32 (fun v G' hq => ?_) (fun _ _ h => h.elim)
      obtain ⟨rfl, hG9⟩ := hq
      rw [hG9]
      refine v_stk (st' := [vI (-1)]) rfl ?_
      exact v_iret (pc := 35) E (⟨_, rfl, 5, Or.inr ⟨by omega, Or.inl ⟨by assumption, rfl⟩⟩, by rw [upd2_s]; rfl, fun i z a b c => if_neg c, Or.inl ⟨by decide, funext fun w => upd2_i (by decide)⟩⟩) (Nat.le_of_ble_eq_true rfl) (Nat.le_of_ble_eq_true rfl) dX4_recallIt_35
  · skip
    have bq1 := bI_eq0.mp bq1
    refine v_aload_n (pc := 16) rfl dX4_recallIt_16 ?_
    refine v_iconst (pc := 17) (z := 1) dX4_recallIt_17 ?_
    refine v_callV (pc := 18) (rest := []) (c_X4_throwing) iok_X4_throwing wM_X4_81 (rfl) (by decide) (by decide) rfl (rmOk (by decide) (by decide)) ⟨Nat.le_of_ble_eq_true rfl, Nat.le_of_ble_eq_true rfl⟩ (Nat.le_of_ble_eq_true rfl) rfl dX4_recallIt_18 (fun v G' hq => ?_) (fun _ _ h => h.elim)
    obtain ⟨rfl, hG9⟩ := hq
    rw [hG9]
    refine v_stk (st' := [vI (-1)]) rfl ?_
    exact v_iret (pc := 21) E (⟨_, rfl, 2, Or.inl ⟨by omega, rfl⟩, by rw [upd2_s]; rfl, fun i z a b c => if_neg c, Or.inl ⟨by decide, funext fun w => upd2_i (by decide)⟩⟩) (Nat.le_of_ble_eq_true rfl) (Nat.le_of_ble_eq_true rfl) dX4_recallIt_21
