-- strike, recall
theorem rm_step {a s t u x y : Int} (h1 : a + s = t + u) (h2 : s = s - x + x) (h3 : a + s = t + u) : a - y + (s - x) = t - y + (u - x) := by omega

set_option maxHeartbeats 4000000 in
set_option maxRecDepth 100000 in
theorem c_X2_makeCoins {g : GT} {b : Nat} {G : Mem} (hb : isS b) (hI : StI G b) {d z : Int} (h_d : 0 ≤ d ∧ d < G b 0) (h_z : 1 ≤ z ∧ z ≤ 9) (hfull : G b 5 + z ≤ 40) (hwear : G (b + 3) d + z ≤ 30) : Ctr g yX2_makeCoins cX2_makeCoins 4 (some FieldType.int) (rmL 1 0 0) [vR g b, vI d, vI z] G (RP (fun r G' => r = G b 5 + z ∧ G' b 5 = G b 5 + z ∧ (∀ k, 0 ≤ k → k < G b 5 → G' (b + 5) k = G (b + 5) k ∧ G' (b + 6) k = G (b + 6) k ∧ G' (b + 7) k = G (b + 7) k) ∧ (∀ k, 0 ≤ k → k < z → G' (b + 5) (G b 5 + k) = d ∧ G' (b + 6) (G b 5 + k) = G b 10 ∧ G' (b + 7) (G b 5 + k) = gow (G (b + 3) d + k)) ∧ G' (b + 3) d = G (b + 3) d + z ∧ (∀ e, e ≠ d → G' (b + 3) e = G (b + 3) e) ∧ G' b 9 = G b 9 - z * G (b + 2) d ∧ G' b 11 = G b 11 + z ∧ ∀ i w, i ≠ b + 3 ∧ i ≠ b + 5 ∧ i ≠ b + 6 ∧ i ≠ b + 7 → ¬ (i = b ∧ (w = 5 ∨ w = 9 ∨ w = 11)) → G' i w = G i w)) NoX := by
  refine ctr_of [some (vR g b), some (vI d), some (vI z), none] (by decide) (Nat.le_of_ble_eq_true rfl) rfl (fun γ E => ?_)
  show V γ g cX2_makeCoins 4 RX2 (rmL 1 0 0) G 0 0 0 [some (vR g b), some (vI d), some (vI z), none] []
  have hn := StI_n hI
  have hc := StI_c hI
  have hy := StI_y hI
  refine v_iconst (pc := 0) (z := 0) dX2_makeCoins_0 ?_
  refine v_istore_n (pc := 1) (by decide) rfl dX2_makeCoins_1 ?_
  have lp2 : ∀ (m : Nat) (i : Int) (G1 : Mem), (0 ≤ i ∧ i ≤ z) → (G1 b 5 = G b 5 + i) → (G1 (b + 3) d = G (b + 3) d + i) → (∀ k, 0 ≤ k → k < G b 5 → G1 (b + 5) k = G (b + 5) k ∧ G1 (b + 6) k = G (b + 6) k ∧ G1 (b + 7) k = G (b + 7) k) → (∀ k, 0 ≤ k → k < i → G1 (b + 5) (G b 5 + k) = d ∧ G1 (b + 6) (G b 5 + k) = G b 10 ∧ G1 (b + 7) (G b 5 + k) = gow (G (b + 3) d + k)) → (∀ e, e ≠ d → G1 (b + 3) e = G (b + 3) e) → (∀ j w, j ≠ b + 3 ∧ j ≠ b + 5 ∧ j ≠ b + 6 ∧ j ≠ b + 7 → ¬ (j = b ∧ w = 5) → G1 j w = G j w) → ((z - i).toNat) < m → V γ g cX2_makeCoins 4 RX2 (rmL 1 0 0) G1 0 0 2 [some (vR g b), some (vI d), some (vI z), some (vI i)] [] := by
    intro m
    induction m with
    | zero => intro i G1; intros; omega
    | succ m ih =>
      intro i G1 h0 hc1 hw1 hold hnew hwo hG hm
      have ew := StI_d hI (i := d) (by omega) (by omega)
      have e10 := hG b 10 (by omega) (by omega)
      refine v_iload_n (pc := 2) rfl dX2_makeCoins_2 ?_
      refine v_iload_n (pc := 3) rfl dX2_makeCoins_3 ?_
      refine v_icmp_ge (pc := 4) (tgt := 74) (by omega) dX2_makeCoins_4 (by decide) (fun h1 => ?_) (fun h1 => ?_)
      · skip
        have e2 := hG (b + 2) d (by omega) (by omega)
        have e9 := hG b 9 (by omega) (by omega)
        have e11 := hG b 11 (by omega) (by omega)
        refine v_aload_n (pc := 74) rfl dX2_makeCoins_74 ?_
        refine v_dup (pc := 75) rfl dX2_makeCoins_75 ?_
        refine v_get (pc := 76) 9 fd_X2_46 (kdS hb) (ltS hb 0 (by decide)) (tgS hb 9 none rfl) rfl dX2_makeCoins_76 ?_
        refine v_iload_n (pc := 79) rfl dX2_makeCoins_79 ?_
        refine v_aload_n (pc := 80) rfl dX2_makeCoins_80 ?_
        refine v_getR (pc := 81) (j := b + 2) fd_X2_15 (kdS hb) (ltS hb 0 (by decide)) (tgS hb 2 _ rfl) dX2_makeCoins_81 ?_
        refine v_iload_n (pc := 84) rfl dX2_makeCoins_84 ?_
        refine v_iald (pc := 85) (N := 5) (kdS_i hb 2 (by decide)) (lnS_5 hb 2 (by decide)) (ltS hb 2 (by decide)) (by omega) (by decide) dX2_makeCoins_85 ?_
        refine v_imul (pc := 86) dX2_makeCoins_86 ?_
        refine v_isub (pc := 87) dX2_makeCoins_87 ?_
        refine v_put (pc := 88) 9 pd_X2_46 (kdS hb) (ltS hb 0 (by decide)) (tgS hb 9 none rfl) rfl dX2_makeCoins_88 ?_
        refine v_aload_n (pc := 91) rfl dX2_makeCoins_91 ?_
        refine v_dup (pc := 92) rfl dX2_makeCoins_92 ?_
        refine v_get (pc := 93) 11 fd_X2_52 (kdS hb) (ltS hb 0 (by decide)) (tgS hb 11 none rfl) rfl dX2_makeCoins_93 ?_
        refine v_top (b := G1 b 11) (upd2_z (by decide)) ?_
        refine v_iload_n (pc := 96) rfl dX2_makeCoins_96 ?_
        refine v_iadd (pc := 97) dX2_makeCoins_97 ?_
        refine v_put (pc := 98) 11 pd_X2_52 (kdS hb) (ltS hb 0 (by decide)) (tgS hb 11 none rfl) rfl dX2_makeCoins_98 ?_
        refine v_aload_n (pc := 101) rfl dX2_makeCoins_101 ?_
        refine v_get (pc := 102) 5 fd_X2_43 (kdS hb) (ltS hb 0 (by decide)) (tgS hb 5 none rfl) rfl dX2_makeCoins_102 ?_
        refine v_top (b := G1 b 5) ((upd2_z (by decide)).trans (upd2_z (by decide))) ?_
        exact v_iret (pc := 105) E (⟨_, rfl, by omega, by (repeat (first | rw [upd2_s] | rw [cpy2_s (by omega)] | rw [upd2_i (by omega)] | rw [upd2_z (by omega)] | rw [cpy2_i (by omega)])); omega, fun k k0 k1 => ⟨by (repeat (first | rw [upd2_s] | rw [cpy2_s (by omega)] | rw [upd2_i (by omega)] | rw [upd2_z (by omega)] | rw [cpy2_i (by omega)])); exact (hold k k0 k1).1, by (repeat (first | rw [upd2_s] | rw [cpy2_s (by omega)] | rw [upd2_i (by omega)] | rw [upd2_z (by omega)] | rw [cpy2_i (by omega)])); exact (hold k k0 k1).2.1, by (repeat (first | rw [upd2_s] | rw [cpy2_s (by omega)] | rw [upd2_i (by omega)] | rw [upd2_z (by omega)] | rw [cpy2_i (by omega)])); exact (hold k k0 k1).2.2⟩, fun k k0 k1 => ⟨by (repeat (first | rw [upd2_s] | rw [cpy2_s (by omega)] | rw [upd2_i (by omega)] | rw [upd2_z (by omega)] | rw [cpy2_i (by omega)])); exact (hnew k k0 (by omega)).1, by (repeat (first | rw [upd2_s] | rw [cpy2_s (by omega)] | rw [upd2_i (by omega)] | rw [upd2_z (by omega)] | rw [cpy2_i (by omega)])); exact (hnew k k0 (by omega)).2.1, by (repeat (first | rw [upd2_s] | rw [cpy2_s (by omega)] | rw [upd2_i (by omega)] | rw [upd2_z (by omega)] | rw [cpy2_i (by omega)])); exact (hnew k k0 (by omega)).2.2⟩, by (repeat (first | rw [upd2_s] | rw [cpy2_s (by omega)] | rw [upd2_i (by omega)] | rw [upd2_z (by omega)] | rw [cpy2_i (by omega)])); omega, fun e he => by (repeat (first | rw [upd2_s] | rw [cpy2_s (by omega)] | rw [upd2_i (by omega)] | rw [upd2_z (by omega)] | rw [cpy2_i (by omega)])); exact hwo e he, by (repeat (first | rw [upd2_s] | rw [cpy2_s (by omega)] | rw [upd2_i (by omega)] | rw [upd2_z (by omega)] | rw [cpy2_i (by omega)])); rw [e9, e2], by (repeat (first | rw [upd2_s] | rw [cpy2_s (by omega)] | rw [upd2_i (by omega)] | rw [upd2_z (by omega)] | rw [cpy2_i (by omega)])); omega, fun j w a c => by rw [show upd2 (upd2 G1 b 9 (G1 b 9 - z * G1 (b + 2) d)) b 11 (G1 b 11 + z) j w = G1 j w from (if_neg (by omega)).trans (if_neg (by omega))]; exact hG j w a (by omega)⟩) (Nat.le_of_ble_eq_true rfl) (Nat.le_of_ble_eq_true rfl) dX2_makeCoins_105
      · skip
        refine v_aload_n (pc := 7) rfl dX2_makeCoins_7 ?_
        refine v_getR (pc := 8) (j := b + 5) fd_X2_24 (kdS hb) (ltS hb 0 (by decide)) (tgS hb 6 _ rfl) dX2_makeCoins_8 ?_
        refine v_aload_n (pc := 11) rfl dX2_makeCoins_11 ?_
        refine v_get (pc := 12) 5 fd_X2_43 (kdS hb) (ltS hb 0 (by decide)) (tgS hb 5 none rfl) rfl dX2_makeCoins_12 ?_
        refine v_iload_n (pc := 15) rfl dX2_makeCoins_15 ?_
        refine v_iast (pc := 16) (N := 40) (kdS_i hb 5 (by decide)) (lnS_40 hb 5 (by decide)) (ltS hb 5 (by decide)) (by omega) (by decide) dX2_makeCoins_16 ?_
        refine v_aload_n (pc := 17) rfl dX2_makeCoins_17 ?_
        refine v_getR (pc := 18) (j := b + 6) fd_X2_27 (kdS hb) (ltS hb 0 (by decide)) (tgS hb 7 _ rfl) dX2_makeCoins_18 ?_
        refine v_aload_n (pc := 21) rfl dX2_makeCoins_21 ?_
        refine v_get (pc := 22) 5 fd_X2_43 (kdS hb) (ltS hb 0 (by decide)) (tgS hb 5 none rfl) rfl dX2_makeCoins_22 ?_
        refine v_top (b := G1 b 5) (upd2_i (by omega)) ?_
        refine v_aload_n (pc := 25) rfl dX2_makeCoins_25 ?_
        refine v_get (pc := 26) 10 fd_X2_49 (kdS hb) (ltS hb 0 (by decide)) (tgS hb 10 none rfl) rfl dX2_makeCoins_26 ?_
        refine v_top (b := G1 b 10) (upd2_i (by omega)) ?_
        refine v_iast (pc := 29) (N := 40) (kdS_i hb 6 (by decide)) (lnS_40 hb 6 (by decide)) (ltS hb 6 (by decide)) (by omega) (by decide) dX2_makeCoins_29 ?_
        refine v_aload_n (pc := 30) rfl dX2_makeCoins_30 ?_
        refine v_getR (pc := 31) (j := b + 7) fd_X2_30 (kdS hb) (ltS hb 0 (by decide)) (tgS hb 8 _ rfl) dX2_makeCoins_31 ?_
        refine v_aload_n (pc := 34) rfl dX2_makeCoins_34 ?_
        refine v_get (pc := 35) 5 fd_X2_43 (kdS hb) (ltS hb 0 (by decide)) (tgS hb 5 none rfl) rfl dX2_makeCoins_35 ?_
        refine v_top (b := G1 b 5) ((upd2_i (by omega)).trans (upd2_i (by omega))) ?_
        refine v_aload_n (pc := 38) rfl dX2_makeCoins_38 ?_
        refine v_getR (pc := 39) (j := b + 3) fd_X2_18 (kdS hb) (ltS hb 0 (by decide)) (tgS hb 3 _ rfl) dX2_makeCoins_39 ?_
        refine v_iload_n (pc := 42) rfl dX2_makeCoins_42 ?_
        refine v_iald (pc := 43) (N := 5) (kdS_i hb 3 (by decide)) (lnS_5 hb 3 (by decide)) (ltS hb 3 (by decide)) (by omega) (by decide) dX2_makeCoins_43 ?_
        refine v_top (b := G1 (b + 3) d) ((upd2_i (by omega)).trans (upd2_i (by omega))) ?_
        refine v_callSN (pc := 44) (rest := [vI (G1 b 5), vR g (b + 7)]) (c_X3_gradeOfWear (by omega)) sok_X3_gradeOfWear wM_X2_81 (rmOk (by decide) (by decide)) ⟨Nat.le_of_ble_eq_true rfl, Nat.le_of_ble_eq_true rfl⟩ (Nat.le_of_ble_eq_true rfl) rfl dX2_makeCoins_44 (fun v G' hq => ?_) (fun _ _ h => h.elim)
        obtain ⟨rfl, hG9⟩ := hq
        rw [hG9]
        refine v_stk (st' := [vI (gow (G1 (b + 3) d)), vI (G1 b 5), vR g (b + 7)]) rfl ?_
        refine v_iast (pc := 47) (N := 40) (kdS_i hb 7 (by decide)) (lnS_40 hb 7 (by decide)) (ltS hb 7 (by decide)) (by omega) (by decide) dX2_makeCoins_47 ?_
        refine v_aload_n (pc := 48) rfl dX2_makeCoins_48 ?_
        refine v_dup (pc := 49) rfl dX2_makeCoins_49 ?_
        refine v_get (pc := 50) 5 fd_X2_43 (kdS hb) (ltS hb 0 (by decide)) (tgS hb 5 none rfl) rfl dX2_makeCoins_50 ?_
        refine v_top (b := G1 b 5) (((upd2_i (by omega)).trans (upd2_i (by omega))).trans (upd2_i (by omega))) ?_
        refine v_iconst (pc := 53) (z := 1) dX2_makeCoins_53 ?_
        refine v_iadd (pc := 54) dX2_makeCoins_54 ?_
        refine v_put (pc := 55) 5 pd_X2_43 (kdS hb) (ltS hb 0 (by decide)) (tgS hb 5 none rfl) rfl dX2_makeCoins_55 ?_
        refine v_aload_n (pc := 58) rfl dX2_makeCoins_58 ?_
        refine v_getR (pc := 59) (j := b + 3) fd_X2_18 (kdS hb) (ltS hb 0 (by decide)) (tgS hb 3 _ rfl) dX2_makeCoins_59 ?_
        refine v_iload_n (pc := 62) rfl dX2_makeCoins_62 ?_
        refine v_dup2 (pc := 63) rfl rfl dX2_makeCoins_63 ?_
        refine v_iald (pc := 64) (N := 5) (kdS_i hb 3 (by decide)) (lnS_5 hb 3 (by decide)) (ltS hb 3 (by decide)) (by omega) (by decide) dX2_makeCoins_64 ?_
        refine v_top (b := G1 (b + 3) d) ((((upd2_i (by omega)).trans (upd2_i (by omega))).trans (upd2_i (by omega))).trans (upd2_i (by omega))) ?_
        refine v_iconst (pc := 65) (z := 1) dX2_makeCoins_65 ?_
        refine v_iadd (pc := 66) dX2_makeCoins_66 ?_
        refine v_iast (pc := 67) (N := 5) (kdS_i hb 3 (by decide)) (lnS_5 hb 3 (by decide)) (ltS hb 3 (by decide)) (by omega) (by decide) dX2_makeCoins_67 ?_
        refine v_iinc (pc := 68) (y := 1) rfl (by decide) rfl dX2_makeCoins_68 ?_
        refine v_goto (pc := 71) (tgt := 2) dX2_makeCoins_71 (by decide) ?_
        exact ih (i + 1) (upd2 (upd2 (upd2 (upd2 (upd2 G1 (b + 5) (G1 b 5) d) (b + 6) (G1 b 5) (G1 b 10)) (b + 7) (G1 b 5) (gow (G1 (b + 3) d))) b 5 ((G1 b 5) + 1)) (b + 3) d ((G1 (b + 3) d) + 1)) (by omega) (by (repeat (first | rw [upd2_s] | rw [cpy2_s (by omega)] | rw [upd2_i (by omega)] | rw [upd2_z (by omega)] | rw [cpy2_i (by omega)])); omega) (by (repeat (first | rw [upd2_s] | rw [cpy2_s (by omega)] | rw [upd2_i (by omega)] | rw [upd2_z (by omega)] | rw [cpy2_i (by omega)])); omega) (fun k k0 k1 => ⟨by (repeat (first | rw [upd2_s] | rw [cpy2_s (by omega)] | rw [upd2_i (by omega)] | rw [upd2_z (by omega)] | rw [cpy2_i (by omega)])); exact (hold k k0 k1).1, by (repeat (first | rw [upd2_s] | rw [cpy2_s (by omega)] | rw [upd2_i (by omega)] | rw [upd2_z (by omega)] | rw [cpy2_i (by omega)])); exact (hold k k0 k1).2.1, by (repeat (first | rw [upd2_s] | rw [cpy2_s (by omega)] | rw [upd2_i (by omega)] | rw [upd2_z (by omega)] | rw [cpy2_i (by omega)])); exact (hold k k0 k1).2.2⟩) (fun k k0 k1 => (Classical.em (k = i)).elim (fun e => by subst e; rw [← hc1]; exact ⟨by (repeat (first | rw [upd2_s] | rw [cpy2_s (by omega)] | rw [upd2_i (by omega)] | rw [upd2_z (by omega)] | rw [cpy2_i (by omega)])), by (repeat (first | rw [upd2_s] | rw [cpy2_s (by omega)] | rw [upd2_i (by omega)] | rw [upd2_z (by omega)] | rw [cpy2_i (by omega)])); exact hG b 10 (by omega) (by omega), by (repeat (first | rw [upd2_s] | rw [cpy2_s (by omega)] | rw [upd2_i (by omega)] | rw [upd2_z (by omega)] | rw [cpy2_i (by omega)])); rw [hw1]⟩) (fun e => ⟨by (repeat (first | rw [upd2_s] | rw [cpy2_s (by omega)] | rw [upd2_i (by omega)] | rw [upd2_z (by omega)] | rw [cpy2_i (by omega)])); exact (hnew k k0 (by omega)).1, by (repeat (first | rw [upd2_s] | rw [cpy2_s (by omega)] | rw [upd2_i (by omega)] | rw [upd2_z (by omega)] | rw [cpy2_i (by omega)])); exact (hnew k k0 (by omega)).2.1, by (repeat (first | rw [upd2_s] | rw [cpy2_s (by omega)] | rw [upd2_i (by omega)] | rw [upd2_z (by omega)] | rw [cpy2_i (by omega)])); exact (hnew k k0 (by omega)).2.2⟩)) (fun e he => by (repeat (first | rw [upd2_s] | rw [cpy2_s (by omega)] | rw [upd2_i (by omega)] | rw [upd2_z (by omega)] | rw [cpy2_i (by omega)])); exact hwo e he) (fun j w a c => (upd2_i a.1).trans ((if_neg c).trans ((upd2_i a.2.2.2).trans ((upd2_i a.2.2.1).trans ((upd2_i a.2.1).trans (hG j w a c)))))) (by omega)
  refine v_loc (L' := [some (vR g b), some (vI d), some (vI z), some (vI 0)]) (⟨rfl, rfl, rfl, rfl, trivial⟩) ?_
  exact lp2 _ 0 G (by omega) (by omega) (by omega) (fun _ _ _ => ⟨rfl, rfl, rfl⟩) (fun k a c => absurd c (by omega)) (fun _ _ => rfl) (fun _ _ _ _ => rfl) (Nat.lt_succ_self _)
set_option maxHeartbeats 4000000 in
set_option maxRecDepth 100000 in
theorem c_X2_removeCoinsStruckIn {g : GT} {b : Nat} {G : Mem} (hb : isS b) (hI : StI G b) {y : Int} (h_y : -2147483648 ≤ y ∧ y < 2147483648) : Ctr g yX2_removeCoinsStruckIn cX2_removeCoinsStruckIn 3 (none : Option FieldType) (rmL 1 0 0) [vR g b, vI y] G (VP (fun G' => (∀ φ, cs G' b φ = cs G b (fun dd yy gg => if yy = y then 0 else φ dd yy gg)) ∧ CkI G' b ∧ ∀ i w, i ≠ b + 5 ∧ i ≠ b + 6 ∧ i ≠ b + 7 → ¬ (i = b ∧ w = 5) → G' i w = G i w)) NoX := by
  refine ctr_of [some (vR g b), some (vI y), none] (by decide) (Nat.le_of_ble_eq_true rfl) rfl (fun γ E => ?_)
  show V γ g cX2_removeCoinsStruckIn 3 RX2 (rmL 1 0 0) G 0 0 0 [some (vR g b), some (vI y), none] []
  have hn := StI_n hI
  have hc := StI_c hI
  have hy := StI_y hI
  refine v_aload_n (pc := 0) rfl dX2_removeCoinsStruckIn_0 ?_
  refine v_get (pc := 1) 5 fd_X2_43 (kdS hb) (ltS hb 0 (by decide)) (tgS hb 5 none rfl) rfl dX2_removeCoinsStruckIn_1 ?_
  refine v_iconst (pc := 4) (z := 1) dX2_removeCoinsStruckIn_4 ?_
  refine v_isub (pc := 5) dX2_removeCoinsStruckIn_5 ?_
  refine v_istore_n (pc := 6) (by decide) rfl dX2_removeCoinsStruckIn_6 ?_
  have lp7 : ∀ (m : Nat) (i : Int) (G1 : Mem), (0 ≤ i ∧ i ≤ G1 b 5) → (CkI G1 b) → (∀ k, 0 ≤ k → k < i → G1 (b + 5) k = G (b + 5) k ∧ G1 (b + 6) k = G (b + 6) k ∧ G1 (b + 7) k = G (b + 7) k) → (∀ φ : Int → Int → Int → Int, cs G1 b φ + sz i (fun k => if G (b + 6) k = y then 0 else φ (G (b + 5) k) (G (b + 6) k) (G (b + 7) k)) = sz i (fun k => φ (G (b + 5) k) (G (b + 6) k) (G (b + 7) k)) + sz (G b 5) (fun k => if G (b + 6) k = y then 0 else φ (G (b + 5) k) (G (b + 6) k) (G (b + 7) k))) → (∀ j w, j ≠ b + 5 ∧ j ≠ b + 6 ∧ j ≠ b + 7 → ¬ (j = b ∧ w = 5) → G1 j w = G j w) → (i.toNat) < m → V γ g cX2_removeCoinsStruckIn 3 RX2 (rmL 1 0 0) G1 0 0 7 [some (vR g b), some (vI y), some (vI (i - 1))] [] := by
    intro m
    induction m with
    | zero => intro i G1; intros; omega
    | succ m ih =>
      intro i G1 h0 hk hold hs hG hm
      have hn1 := hk.1
      refine v_iload_n (pc := 7) rfl dX2_removeCoinsStruckIn_7 ?_
      refine v_if_lt (pc := 8) (tgt := 32) (by omega) dX2_removeCoinsStruckIn_8 (by decide) (fun h1 => ?_) (fun h1 => ?_)
      · skip
        exact v_vret (pc := 32) E (⟨rfl, fun φ => by have e := hs φ; rw [show i = 0 by omega, sz_0, sz_0] at e; show cs G1 b φ = sz (G b 5) (fun k => if G (b + 6) k = y then 0 else φ (G (b + 5) k) (G (b + 6) k) (G (b + 7) k)); omega, hk, hG⟩) (Nat.le_of_ble_eq_true rfl) (Nat.le_of_ble_eq_true rfl) dX2_removeCoinsStruckIn_32
      · skip
        have q1 := hold (i - 1) (by omega) (by omega)
        have q3 := hk.2 (i - 1) (by omega) (by omega)
        have q4 := hG b 10 (by omega) (by omega)
        refine v_aload_n (pc := 11) rfl dX2_removeCoinsStruckIn_11 ?_
        refine v_getR (pc := 12) (j := b + 6) fd_X2_27 (kdS hb) (ltS hb 0 (by decide)) (tgS hb 7 _ rfl) dX2_removeCoinsStruckIn_12 ?_
        refine v_iload_n (pc := 15) rfl dX2_removeCoinsStruckIn_15 ?_
        refine v_iald (pc := 16) (N := 40) (kdS_i hb 6 (by decide)) (lnS_40 hb 6 (by decide)) (ltS hb 6 (by decide)) (by omega) (by decide) dX2_removeCoinsStruckIn_16 ?_
        refine v_iload_n (pc := 17) rfl dX2_removeCoinsStruckIn_17 ?_
        refine v_icmp_ne (pc := 18) (tgt := 26) (by omega) dX2_removeCoinsStruckIn_18 (by decide) (fun h2 => ?_) (fun h2 => ?_)
        · skip
          refine v_iinc (pc := 26) (y := (-1)) rfl (by decide) rfl dX2_removeCoinsStruckIn_26 ?_
          refine v_goto (pc := 29) (tgt := 7) dX2_removeCoinsStruckIn_29 (by decide) ?_
          exact ih (i - 1) G1 (by omega) hk (fun k k0 k1 => hold k k0 (by omega)) (fun φ => by have e1 := sz_s (i := i - 1) (f := (fun k => if G (b + 6) k = y then 0 else φ (G (b + 5) k) (G (b + 6) k) (G (b + 7) k))) (by omega); have e2 := sz_s (i := i - 1) (f := (fun k => φ (G (b + 5) k) (G (b + 6) k) (G (b + 7) k))) (by omega); rw [show i - 1 + 1 = i by omega] at e1 e2; have e3 := hs φ; rw [if_neg (by omega)] at e1; omega) hG (by omega)
        · skip
          refine v_aload_n (pc := 21) rfl dX2_removeCoinsStruckIn_21 ?_
          refine v_iload_n (pc := 22) rfl dX2_removeCoinsStruckIn_22 ?_
          refine v_callV (pc := 23) (rest := []) (c_X2_removeCoin hb (G := G1) (c := i - 1) (by omega) (by omega)) iok_X2_removeCoin wM_X2_101 (kdS hb) (by decide) (ltS hb 0 (by decide)) rfl (rmOk (by decide) (by decide)) ⟨Nat.le_of_ble_eq_true rfl, Nat.le_of_ble_eq_true rfl⟩ (Nat.le_of_ble_eq_true rfl) rfl dX2_removeCoinsStruckIn_23 (fun v G' hq => ?_) (fun _ _ h => h.elim)
          obtain ⟨rfl, hG9⟩ := hq
          rw [hG9]
          refine v_stk (st' := []) rfl ?_
          refine v_iinc (pc := 26) (y := (-1)) rfl (by decide) rfl dX2_removeCoinsStruckIn_26 ?_
          refine v_goto (pc := 29) (tgt := 7) dX2_removeCoinsStruckIn_29 (by decide) ?_
          exact ih (i - 1) (rmvC G1 b (i - 1)) (by rw [rmvC_n]; omega) (rmvC_Ck (by omega) hk) (fun k k0 k1 => by rw [(rmvC_k G1 b (i - 1) k).1, (rmvC_k G1 b (i - 1) k).2.1, (rmvC_k G1 b (i - 1) k).2.2, if_neg (by omega), if_neg (by omega), if_neg (by omega)]; exact hold k k0 (by omega)) (fun φ => by have e1 := sz_s (i := i - 1) (f := (fun k => if G (b + 6) k = y then 0 else φ (G (b + 5) k) (G (b + 6) k) (G (b + 7) k))) (by omega); have e2 := sz_s (i := i - 1) (f := (fun k => φ (G (b + 5) k) (G (b + 6) k) (G (b + 7) k))) (by omega); rw [show i - 1 + 1 = i by omega] at e1 e2; have e3 := hs φ; rw [if_pos (by omega)] at e1; rw [rmvC_cs (by omega), q1.1, q1.2.1, q1.2.2]; omega) (fun j w a c => (rmvC_o a c).trans (hG j w a c)) (by omega)
  refine v_loc (L' := [some (vR g b), some (vI y), some (vI ((G b 5) - 1))]) (⟨rfl, rfl, rfl, trivial⟩) ?_
  exact lp7 _ (G b 5) G (by omega) (StI_Ck hI) (fun _ _ _ => ⟨rfl, rfl, rfl⟩) (fun φ => rfl) (fun _ _ _ _ => rfl) (Nat.lt_succ_self _)
