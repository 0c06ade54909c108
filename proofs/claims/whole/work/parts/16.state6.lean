/-- what a State is, by the fields that StI reads -/
theorem StI_same {G G' : Mem} {b : Nat} (hI : StI G b) (h : ∀ i z, (i = b → z = 0 ∨ z = 5 ∨ z = 10) → G' i z = G i z) : StI G' b := by
  have h0 := h b 0 (by omega)
  have h5 := h b 5 (by omega)
  have h10 := h b 10 (by omega)
  refine StI_coins hI ⟨by rw [h5]; exact StI_c hI, fun k k0 k1 => ?_⟩ h0 (by rw [h10]; exact StI_y hI) (fun z z0 z1 => ?_)
  · rw [h5] at k1
    rw [h (b + 5) k (by omega), h (b + 6) k (by omega), h (b + 7) k (by omega), h0, h10]
    exact StI_k hI k0 k1
  · rw [h (b + 1) z (by omega), h (b + 2) z (by omega), h (b + 3) z (by omega), h (b + 4) z (by omega)]
    exact ⟨rfl, rfl, (StI_d hI z0 z1).2.2, rfl⟩

set_option maxHeartbeats 4000000 in
set_option maxRecDepth 100000 in
theorem c_X2_payOut {g : GT} {b : Nat} {G : Mem} (hb : isS b) (hI : StI G b) {a : Int} (hu : ∀ e, 0 ≤ e → e < G b 0 → 0 ≤ G 92 e ∧ G 92 e ≤ cntE (G b 5) (G (b + 5)) e) : Ctr g yX2_payOut cX2_payOut 6 (some FieldType.int) (rmL 2 0 0) [vR g b, vI a, vR g 92] G (RP (fun r G' => r = sz (G b 0) (G 92) ∧ StI G' b ∧ (∀ φ, cs G' b φ = cs G b φ - sz (G b 0) (fun e => remS (cs G b) e (G 92 e) φ)) ∧ G' b 12 = G b 12 + a ∧ G' b 13 = G b 13 + sz (G b 0) (fun e => G 92 e * G (b + 2) e) ∧ ∀ i w, i ≠ b + 5 ∧ i ≠ b + 6 ∧ i ≠ b + 7 → ¬ (i = b ∧ (w = 5 ∨ w = 12 ∨ w = 13)) → G' i w = G i w)) NoX := by
  refine ctr_of [some (vR g b), some (vI a), some (vR g 92), none, none, none] (by decide) (Nat.le_of_ble_eq_true rfl) rfl (fun γ E => ?_)
  show V γ g cX2_payOut 6 RX2 (rmL 2 0 0) G 0 0 0 [some (vR g b), some (vI a), some (vR g 92), none, none, none] []
  have hn := StI_n hI
  have hc := StI_c hI
  have hy := StI_y hI
  have hb2 := isS_lt hb
  refine v_aload_n (pc := 0) rfl dX2_payOut_0 ?_
  refine v_get (pc := 1) 5 fd_X2_43 (kdS hb) (ltS hb 0 (by decide)) (tgS hb 5 none rfl) rfl dX2_payOut_1 ?_
  refine v_istore_n (pc := 4) (by decide) rfl dX2_payOut_4 ?_
  refine v_iconst (pc := 5) (z := 0) dX2_payOut_5 ?_
  refine v_istore (pc := 6) (by decide) rfl dX2_payOut_6 ?_
  have lp8 : ∀ (m8 : Nat) (i : Int) (G1 : Mem), (0 ≤ i ∧ i ≤ G b 0) → (StI G1 b) → (∀ φ, cs G1 b φ = cs G b φ - sz i (fun e => remS (cs G b) e (G 92 e) φ)) → (G1 b 13 = G b 13 + sz i (fun e => G 92 e * G (b + 2) e)) → (∀ p w, p ≠ b + 5 ∧ p ≠ b + 6 ∧ p ≠ b + 7 → ¬ (p = b ∧ (w = 5 ∨ w = 13)) → G1 p w = G p w) → ((G b 0 - i).toNat) < m8 → V γ g cX2_payOut 6 RX2 (rmL 2 0 0) G1 0 0 8 [some (vR g b), some (vI a), some (vR g 92), some (vI (G b 5)), some (vI i), none] [] := by
    intro m8
    induction m8 with
    | zero => intro i G1; intros; omega
    | succ m8 ih8 =>
      intro i G1 h0 hI1 hF hpw hG hm8
      have e0 := hG b 0 (by omega) (by omega)
      refine v_iload (pc := 8) rfl dX2_payOut_8 ?_
      refine v_aload_n (pc := 10) rfl dX2_payOut_10 ?_
      refine v_get (pc := 11) 0 fd_X2_33 (kdS hb) (ltS hb 0 (by decide)) (tgS hb 0 none rfl) rfl dX2_payOut_11 ?_
      refine v_icmp_ge (pc := 14) (tgt := 47) (by omega) dX2_payOut_14 (by decide) (fun h1 => ?_) (fun h1 => ?_)
      · skip
        have f12 := hG b 12 (by omega) (by omega)
        have hi0 : i = G b 0 := by omega
        refine v_aload_n (pc := 47) rfl dX2_payOut_47 ?_
        refine v_dup (pc := 48) rfl dX2_payOut_48 ?_
        refine v_get (pc := 49) 12 fd_X2_55 (kdS hb) (ltS hb 0 (by decide)) (tgS hb 12 none rfl) rfl dX2_payOut_49 ?_
        refine v_iload_n (pc := 52) rfl dX2_payOut_52 ?_
        refine v_iadd (pc := 53) dX2_payOut_53 ?_
        refine v_put (pc := 54) 12 pd_X2_55 (kdS hb) (ltS hb 0 (by decide)) (tgS hb 12 none rfl) rfl dX2_payOut_54 ?_
        refine v_iload_n (pc := 57) rfl dX2_payOut_57 ?_
        refine v_aload_n (pc := 58) rfl dX2_payOut_58 ?_
        refine v_get (pc := 59) 5 fd_X2_43 (kdS hb) (ltS hb 0 (by decide)) (tgS hb 5 none rfl) rfl dX2_payOut_59 ?_
        refine v_top (b := G1 b 5) (upd2_z (by decide)) ?_
        refine v_isub (pc := 62) dX2_payOut_62 ?_
        exact v_iret (pc := 63) E (⟨_, rfl, by have h1 := hF (fun _ _ _ => 1); rw [cs_n G1 b (StI_c hI1).1, cs_n G b hc.1, hi0, sz_congr (g := G 92) (fun e e0 e1 => remS_one (hu e e0 e1).1)] at h1; omega, StI_same hI1 (fun p w q => if_neg (by omega)), fun φ => (cs_congr (upd2_z (by omega)) (fun k _ _ => ⟨upd2_i (by omega), upd2_i (by omega), upd2_i (by omega)⟩)).trans (by rw [hF φ, hi0]), by rw [upd2_s]; omega, by rw [upd2_z (by omega), hpw, hi0], fun p w q1 q2 => (if_neg (by omega)).trans (hG p w q1 (by omega))⟩) (Nat.le_of_ble_eq_true rfl) (Nat.le_of_ble_eq_true rfl) dX2_payOut_63
      · skip
        have hui := hu i (by omega) (by omega)
        have hqc : 0 ≤ cntE (G b 5) (G (b + 5)) i ∧ cntE (G b 5) (G (b + 5)) i ≤ G b 5 := sz_cnt (n := G b 5) (p := fun k => G (b + 5) k = i) (fun k => Int.instDecidableEq _ _) hc.1
        refine v_iconst (pc := 17) (z := 0) dX2_payOut_17 ?_
        refine v_istore (pc := 18) (by decide) rfl dX2_payOut_18 ?_
        have lp20 : ∀ (m20 : Nat) (j : Int) (G2 : Mem), (0 ≤ j ∧ j ≤ G 92 i) → (StI G2 b) → (∀ φ, cs G2 b φ = cs G b φ - sz i (fun e => remS (cs G b) e (G 92 e) φ) - remS (cs G b) i j φ) → (G2 b 13 = G b 13 + sz i (fun e => G 92 e * G (b + 2) e) + j * G (b + 2) i) → (∀ p w, p ≠ b + 5 ∧ p ≠ b + 6 ∧ p ≠ b + 7 → ¬ (p = b ∧ (w = 5 ∨ w = 13)) → G2 p w = G p w) → ((G 92 i - j).toNat) < m20 → V γ g cX2_payOut 6 RX2 (rmL 2 0 0) G2 0 0 20 [some (vR g b), some (vI a), some (vR g 92), some (vI (G b 5)), some (vI i), some (vI j)] [] := by
          intro m20
          induction m20 with
          | zero => intro j G2; intros; omega
          | succ m20 ih20 =>
            intro j G2 j0 hI2 hF2 hpw2 hG2 hm20
            have e92 := hG2 92 i (by omega) (by omega)
            have f0 := hG2 b 0 (by omega) (by omega)
            have e12 := hG2 b 12 (by omega) (by omega)
            refine v_iload (pc := 20) rfl dX2_payOut_20 ?_
            refine v_aload_n (pc := 22) rfl dX2_payOut_22 ?_
            refine v_iload (pc := 23) rfl dX2_payOut_23 ?_
            refine v_iald (pc := 25) (N := 5) rfl rfl (by decide) (by omega) (by decide) dX2_payOut_25 ?_
            refine v_icmp_ge (pc := 26) (tgt := 41) (by omega) dX2_payOut_26 (by decide) (fun h2 => ?_) (fun h2 => ?_)
            · skip
              refine v_iinc (pc := 41) (y := 1) rfl (by decide) rfl dX2_payOut_41 ?_
              refine v_goto (pc := 44) (tgt := 8) dX2_payOut_44 (by decide) ?_
              refine v_loc (L' := [some (vR g b), some (vI a), some (vR g 92), some (vI (G b 5)), some (vI (i + 1)), none]) (⟨rfl, rfl, rfl, rfl, rfl, trivial⟩) ?_
              exact ih8 (i + 1) G2 (by omega) hI2 (fun φ => by rw [hF2 φ, sz_s (by omega), show j = G 92 i by omega]; omega) (by rw [hpw2, sz_s (by omega), show j = G 92 i by omega]; omega) hG2 (by omega)
            · skip
              have hn5 : cs G2 b (fun dd _ _ => if dd = i then 1 else 0) = cntE (G b 5) (G (b + 5)) i - j := by
                rw [hF2, cntE_cs, remS_die (by omega), sz_zero (by omega) (fun e e0 e1 => remS_die_ne (hu e e0 (by omega)).1 (by omega))]
                omega
              have hex : ∃ k, 0 ≤ k ∧ k < G2 b 5 ∧ G2 (b + 5) k = i := cntE_pos (StI_c hI2).1 (by rw [cntE_cs, hn5]; omega)
              refine v_aload_n (pc := 29) rfl dX2_payOut_29 ?_
              refine v_iload (pc := 30) rfl dX2_payOut_30 ?_
              refine v_callV (pc := 32) (rest := []) (c_X2_spendCoin hb hI2 (d := i) (by omega) hex) iok_X2_spendCoin wM_X2_104 (kdS hb) (by decide) (ltS hb 0 (by decide)) rfl (rmOk (by decide) (by decide)) ⟨Nat.le_of_ble_eq_true rfl, Nat.le_of_ble_eq_true rfl⟩ (Nat.le_of_ble_eq_true rfl) rfl dX2_payOut_32 (fun v G3 hq => ?_) (fun _ _ h => h.elim)
              obtain ⟨rfl, hq⟩ := hq
              refine v_stk (st' := []) rfl ?_
              obtain ⟨s, hs1, hs2, hs3⟩ := hq
              have hsp := StI_spent hI2 hs1.1 hs3
              have e2 := hG2 (b + 2) i (by omega) (by omega)
              have hbn := bst_next (u := G 92) (i := i) (j := j) (StI_c hI2).1 (by omega) (by omega) (fun e e0 e1 => (hu e e0 (by omega)).1) hF2 hs1 hs2
              have hF3 : ∀ φ, cs G3 b φ = cs G b φ - sz i (fun e => remS (cs G b) e (G 92 e) φ) - remS (cs G b) i (j + 1) φ := fun φ => by
                rw [hsp.2.1 φ, hF2 φ, remS_s (by omega), hbn, hs1.2]
                dsimp only
                omega
              have hpw3 : G3 b 13 = G b 13 + sz i (fun e => G 92 e * G (b + 2) e) + (j + 1) * G (b + 2) i := by
                rw [hsp.2.2.1, hpw2, e2, Int.add_mul]
                omega
              have hG3 : ∀ p w, p ≠ b + 5 ∧ p ≠ b + 6 ∧ p ≠ b + 7 → ¬ (p = b ∧ (w = 5 ∨ w = 13)) → G3 p w = G p w := fun p w q1 q2 => (hsp.2.2.2 p w q1 q2).trans (hG2 p w q1 q2)
              refine v_iinc (pc := 35) (y := 1) rfl (by decide) rfl dX2_payOut_35 ?_
              refine v_goto (pc := 38) (tgt := 20) dX2_payOut_38 (by decide) ?_
              exact ih20 (j + 1) G3 (by omega) (hsp.1) hF3 hpw3 hG3 (by omega)
        refine v_loc (L' := [some (vR g b), some (vI a), some (vR g 92), some (vI (G b 5)), some (vI i), some (vI 0)]) (⟨rfl, rfl, rfl, rfl, rfl, rfl, trivial⟩) ?_
        exact lp20 _ 0 G1 (by omega) hI1 (fun φ => by rw [hF φ, remS_0]; omega) (by rw [hpw]; omega) hG (Nat.lt_succ_self _)
  refine v_loc (L' := [some (vR g b), some (vI a), some (vR g 92), some (vI (G b 5)), some (vI 0), none]) (⟨rfl, rfl, rfl, rfl, rfl, trivial⟩) ?_
  exact lp8 _ 0 G (by omega) hI (fun φ => by rw [sz_0]; omega) (by rw [sz_0]; omega) (fun _ _ _ _ => rfl) (Nat.lt_succ_self _)
/-- the dies with a new one, in their order -/
theorem StI_put {G G' : Mem} {b : Nat} {v w ρ : Int} (hI : StI G b) (hn : G b 0 < 5) (hv : 1 ≤ v ∧ v ≤ 50) (hw : 1 ≤ w ∧ w ≤ 9) (h0 : G' b 0 = G b 0 + 1) (h1 : G' (b + 1) (G b 0) = v) (h2 : G' (b + 2) (G b 0) = w) (h3 : G' (b + 3) (G b 0) = 0)
    (ho : ∀ z, 0 ≤ z → z < G b 0 → G' (b + 1) z = G (b + 1) z ∧ G' (b + 2) z = G (b + 2) z ∧ G' (b + 3) z = G (b + 3) z)
    (hr : 0 ≤ ρ ∧ ρ ≤ G b 0) (hlo : ∀ k, 0 ≤ k → k < ρ → G' (b + 4) k = G (b + 4) k ∧ G (b + 1) (G (b + 4) k) < v) (hat : G' (b + 4) ρ = G b 0) (hhi : ∀ k, ρ < k → k ≤ G b 0 → G' (b + 4) k = G (b + 4) (k - 1) ∧ v < G (b + 1) (G (b + 4) (k - 1)))
    (hfr : ∀ i z, i ≠ b + 1 ∧ i ≠ b + 2 ∧ i ≠ b + 3 ∧ i ≠ b + 4 → ¬ (i = b ∧ z = 0) → G' i z = G i z) : StI G' b := by
  obtain ⟨a1, a2, a3, a4, a5, a6, a7, a8⟩ := hI
  have e5 := hfr b 5 (by omega) (by omega)
  have e10 := hfr b 10 (by omega) (by omega)
  have hval : ∀ k, 0 ≤ k → k < G b 0 → G' (b + 1) (G (b + 4) k) = G (b + 1) (G (b + 4) k) := fun k k0 k1 => (ho _ (a6 k k0 k1).1 (a6 k k0 k1).2).1
  refine ⟨by omega, by rw [e5]; exact a2, by rw [e10]; exact a3, fun k k0 k1 => ?_, fun i i0 i1 => ?_, fun r r0 r1 => ?_, fun r s r0 rs s1 => ?_, fun i i0 i1 => ?_⟩
  · rw [e5] at k1
    rw [h0, e10, hfr (b + 5) k (by omega) (by omega), hfr (b + 6) k (by omega) (by omega), hfr (b + 7) k (by omega) (by omega)]
    have := a4 k k0 k1
    omega
  · by_cases hi : i = G b 0
    · rw [hi, h1, h2, h3]
      omega
    · rw [(ho i i0 (by omega)).1, (ho i i0 (by omega)).2.1, (ho i i0 (by omega)).2.2]
      exact a5 i i0 (by omega)
  · rcases Int.lt_trichotomy r ρ with q | q | q
    · rw [(hlo r r0 q).1]
      have := a6 r r0 (by omega)
      omega
    · rw [q, hat]; omega
    · rw [(hhi r q (by omega)).1]
      have := a6 (r - 1) (by omega) (by omega)
      omega
  · rcases Int.lt_trichotomy s ρ with q | q | q
    · rw [(hlo r r0 (by omega)).1, (hlo s (by omega) q).1, hval r r0 (by omega), hval s (by omega) (by omega)]
      exact a7 r s r0 rs (by omega)
    · rw [(hlo r r0 (by omega)).1, q, hat, h1, hval r r0 (by omega)]
      exact (hlo r r0 (by omega)).2
    · rcases Int.lt_trichotomy r ρ with p | p | p
      · rw [(hlo r r0 p).1, (hhi s q (by omega)).1, hval r r0 (by omega), hval (s - 1) (by omega) (by omega)]
        have x1 := (hlo r r0 p).2
        have x2 := (hhi s q (by omega)).2
        omega
      · rw [p, hat, h1, (hhi s q (by omega)).1, hval (s - 1) (by omega) (by omega)]
        exact (hhi s q (by omega)).2
      · rw [(hhi r p (by omega)).1, (hhi s q (by omega)).1, hval (r - 1) (by omega) (by omega), hval (s - 1) (by omega) (by omega)]
        exact a7 (r - 1) (s - 1) (by omega) (by omega) (by omega)
  · by_cases hi : i = G b 0
    · exact ⟨ρ, by omega, by omega, by rw [hat, hi]⟩
    · obtain ⟨r, r0, r1, r2⟩ := a8 i i0 (by omega)
      by_cases q : r < ρ
      · exact ⟨r, r0, by omega, by rw [(hlo r r0 q).1, r2]⟩
      · exact ⟨r + 1, by omega, by omega, by rw [(hhi (r + 1) (by omega) (by omega)).1, show r + 1 - 1 = r by omega, r2]⟩

set_option maxHeartbeats 4000000 in
set_option maxRecDepth 100000 in
theorem c_X2_putDie {g : GT} {b : Nat} {G : Mem} (hb : isS b) (hI : StI G b) {v w : Int} (h_v : 1 ≤ v ∧ v ≤ 50) (h_w : 1 ≤ w ∧ w ≤ 9) (hn5 : G b 0 < 5) (hne : ∀ i, 0 ≤ i → i < G b 0 → G (b + 1) i ≠ v) : Ctr g yX2_putDie cX2_putDie 5 (some FieldType.int) (rmL 0 0 0) [vR g b, vI v, vI w] G (RP (fun r G' => r = G b 0 ∧ StI G' b ∧ G' b 0 = G b 0 + 1 ∧ (G' (b + 1) (G b 0) = v ∧ G' (b + 2) (G b 0) = w ∧ G' (b + 3) (G b 0) = 0) ∧ (∀ z, 0 ≤ z → z < G b 0 → G' (b + 1) z = G (b + 1) z ∧ G' (b + 2) z = G (b + 2) z ∧ G' (b + 3) z = G (b + 3) z) ∧ ∀ i z, i ≠ b + 1 ∧ i ≠ b + 2 ∧ i ≠ b + 3 ∧ i ≠ b + 4 → ¬ (i = b ∧ z = 0) → G' i z = G i z)) NoX := by
  refine ctr_of [some (vR g b), some (vI v), some (vI w), none, none] (by decide) (Nat.le_of_ble_eq_true rfl) rfl (fun γ E => ?_)
  show V γ g cX2_putDie 5 RX2 (rmL 0 0 0) G 0 0 0 [some (vR g b), some (vI v), some (vI w), none, none] []
  have hn := StI_n hI
  have hc := StI_c hI
  have hy := StI_y hI
  refine v_aload_n (pc := 0) rfl dX2_putDie_0 ?_
  refine v_get (pc := 1) 0 fd_X2_33 (kdS hb) (ltS hb 0 (by decide)) (tgS hb 0 none rfl) rfl dX2_putDie_1 ?_
  refine v_istore_n (pc := 4) (by decide) rfl dX2_putDie_4 ?_
  refine v_aload_n (pc := 5) rfl dX2_putDie_5 ?_
  refine v_getR (pc := 6) (j := b + 1) fd_X2_9 (kdS hb) (ltS hb 0 (by decide)) (tgS hb 1 _ rfl) dX2_putDie_6 ?_
  refine v_iload_n (pc := 9) rfl dX2_putDie_9 ?_
  refine v_iload_n (pc := 10) rfl dX2_putDie_10 ?_
  refine v_iast (pc := 11) (N := 5) (kdS_i hb 1 (by decide)) (lnS_5 hb 1 (by decide)) (ltS hb 1 (by decide)) (by omega) (by decide) dX2_putDie_11 ?_
  refine v_aload_n (pc := 12) rfl dX2_putDie_12 ?_
  refine v_getR (pc := 13) (j := b + 2) fd_X2_15 (kdS hb) (ltS hb 0 (by decide)) (tgS hb 2 _ rfl) dX2_putDie_13 ?_
  refine v_iload_n (pc := 16) rfl dX2_putDie_16 ?_
  refine v_iload_n (pc := 17) rfl dX2_putDie_17 ?_
  refine v_iast (pc := 18) (N := 5) (kdS_i hb 2 (by decide)) (lnS_5 hb 2 (by decide)) (ltS hb 2 (by decide)) (by omega) (by decide) dX2_putDie_18 ?_
  refine v_aload_n (pc := 19) rfl dX2_putDie_19 ?_
  refine v_getR (pc := 20) (j := b + 3) fd_X2_18 (kdS hb) (ltS hb 0 (by decide)) (tgS hb 3 _ rfl) dX2_putDie_20 ?_
  refine v_iload_n (pc := 23) rfl dX2_putDie_23 ?_
  refine v_iconst (pc := 24) (z := 0) dX2_putDie_24 ?_
  refine v_iast (pc := 25) (N := 5) (kdS_i hb 3 (by decide)) (lnS_5 hb 3 (by decide)) (ltS hb 3 (by decide)) (by omega) (by decide) dX2_putDie_25 ?_
  refine v_iload_n (pc := 26) rfl dX2_putDie_26 ?_
  refine v_istore (pc := 27) (by decide) rfl dX2_putDie_27 ?_
  have lp29 : ∀ (m29 : Nat) (ρ : Int) (G1 : Mem), (0 ≤ ρ ∧ ρ ≤ G b 0) → (G1 (b + 1) (G b 0) = v ∧ G1 (b + 2) (G b 0) = w ∧ G1 (b + 3) (G b 0) = 0) → (∀ z, 0 ≤ z → z < G b 0 → G1 (b + 1) z = G (b + 1) z ∧ G1 (b + 2) z = G (b + 2) z ∧ G1 (b + 3) z = G (b + 3) z) → (∀ k, 0 ≤ k → k < ρ → G1 (b + 4) k = G (b + 4) k) → (∀ k, ρ < k → k ≤ G b 0 → G1 (b + 4) k = G (b + 4) (k - 1) ∧ v < G (b + 1) (G (b + 4) (k - 1))) → (∀ i z, i ≠ b + 1 ∧ i ≠ b + 2 ∧ i ≠ b + 3 ∧ i ≠ b + 4 → G1 i z = G i z) → (ρ.toNat) < m29 → V γ g cX2_putDie 5 RX2 (rmL 0 0 0) G1 0 0 29 [some (vR g b), some (vI v), some (vI w), some (vI (G b 0)), some (vI ρ)] [] := by
    intro m29
    induction m29 with
    | zero => intro ρ G1; intros; omega
    | succ m29 ih29 =>
      intro ρ G1 h0 ha ho hlo hhi hfr hm29
      refine v_iload (pc := 29) rfl dX2_putDie_29 ?_
      refine v_if_le (pc := 31) (tgt := 74) (by omega) dX2_putDie_31 (by decide) (fun h1 => ?_) (fun h1 => ?_)
      · skip
        have e0 := hfr b 0 (by omega)
        have hlt : ∀ k, 0 ≤ k → k < ρ → G (b + 1) (G (b + 4) k) < v := fun k k0 k1 => by
          have x1 := StI_r hI (r := ρ - 1) (by omega) (by omega)
          have x2 := hne (G (b + 4) (ρ - 1)) x1.1 x1.2
          have x3 := (ho (G (b + 4) (ρ - 1)) x1.1 x1.2).1
          have x4 := hlo (ρ - 1) (by omega) (by omega)
          have x5 : G (b + 1) (G (b + 4) (ρ - 1)) ≤ v := by first | omega | (rw [x4, x3] at *; omega)
          by_cases h : k = ρ - 1
          · rw [h]; omega
          · have := hI.2.2.2.2.2.2.1 k (ρ - 1) k0 (by omega) (by omega)
            omega
        refine v_aload_n (pc := 74) rfl dX2_putDie_74 ?_
        refine v_getR (pc := 75) (j := b + 4) fd_X2_21 (kdS hb) (ltS hb 0 (by decide)) (tgS hb 4 _ rfl) dX2_putDie_75 ?_
        refine v_iload (pc := 78) rfl dX2_putDie_78 ?_
        refine v_iload_n (pc := 80) rfl dX2_putDie_80 ?_
        refine v_iast (pc := 81) (N := 5) (kdS_i hb 4 (by decide)) (lnS_5 hb 4 (by decide)) (ltS hb 4 (by decide)) (by omega) (by decide) dX2_putDie_81 ?_
        refine v_aload_n (pc := 82) rfl dX2_putDie_82 ?_
        refine v_dup (pc := 83) rfl dX2_putDie_83 ?_
        refine v_get (pc := 84) 0 fd_X2_33 (kdS hb) (ltS hb 0 (by decide)) (tgS hb 0 none rfl) rfl dX2_putDie_84 ?_
        refine v_top (b := G1 b 0) (upd2_i (by omega)) ?_
        refine v_iconst (pc := 87) (z := 1) dX2_putDie_87 ?_
        refine v_iadd (pc := 88) dX2_putDie_88 ?_
        refine v_put (pc := 89) 0 pd_X2_33 (kdS hb) (ltS hb 0 (by decide)) (tgS hb 0 none rfl) rfl dX2_putDie_89 ?_
        refine v_iload_n (pc := 92) rfl dX2_putDie_92 ?_
        exact v_iret (pc := 93) E (⟨_, rfl, rfl, StI_put (ρ := ρ) (v := v) (w := w) hI hn5 h_v h_w (by (repeat (first | rw [upd2_s] | rw [cpy2_s (by omega)] | rw [upd2_i (by omega)] | rw [upd2_z (by omega)] | rw [cpy2_i (by omega)])); omega) (by (repeat (first | rw [upd2_s] | rw [cpy2_s (by omega)] | rw [upd2_i (by omega)] | rw [upd2_z (by omega)] | rw [cpy2_i (by omega)])); exact ha.1) (by (repeat (first | rw [upd2_s] | rw [cpy2_s (by omega)] | rw [upd2_i (by omega)] | rw [upd2_z (by omega)] | rw [cpy2_i (by omega)])); exact ha.2.1) (by (repeat (first | rw [upd2_s] | rw [cpy2_s (by omega)] | rw [upd2_i (by omega)] | rw [upd2_z (by omega)] | rw [cpy2_i (by omega)])); exact ha.2.2) (fun z z0 z1 => ⟨by (repeat (first | rw [upd2_s] | rw [cpy2_s (by omega)] | rw [upd2_i (by omega)] | rw [upd2_z (by omega)] | rw [cpy2_i (by omega)])); exact (ho z z0 z1).1, by (repeat (first | rw [upd2_s] | rw [cpy2_s (by omega)] | rw [upd2_i (by omega)] | rw [upd2_z (by omega)] | rw [cpy2_i (by omega)])); exact (ho z z0 z1).2.1, by (repeat (first | rw [upd2_s] | rw [cpy2_s (by omega)] | rw [upd2_i (by omega)] | rw [upd2_z (by omega)] | rw [cpy2_i (by omega)])); exact (ho z z0 z1).2.2⟩) h0 (fun k k0 k1 => ⟨by (repeat (first | rw [upd2_s] | rw [cpy2_s (by omega)] | rw [upd2_i (by omega)] | rw [upd2_z (by omega)] | rw [cpy2_i (by omega)])); exact hlo k k0 k1, hlt k k0 k1⟩) (by (repeat (first | rw [upd2_s] | rw [cpy2_s (by omega)] | rw [upd2_i (by omega)] | rw [upd2_z (by omega)] | rw [cpy2_i (by omega)]))) (fun k k0 k1 => ⟨by (repeat (first | rw [upd2_s] | rw [cpy2_s (by omega)] | rw [upd2_i (by omega)] | rw [upd2_z (by omega)] | rw [cpy2_i (by omega)])); exact (hhi k k0 k1).1, (hhi k k0 k1).2⟩) (fun i z a c => (if_neg c).trans ((upd2_i a.2.2.2).trans (hfr i z a))), by (repeat (first | rw [upd2_s] | rw [cpy2_s (by omega)] | rw [upd2_i (by omega)] | rw [upd2_z (by omega)] | rw [cpy2_i (by omega)])); omega, ⟨by (repeat (first | rw [upd2_s] | rw [cpy2_s (by omega)] | rw [upd2_i (by omega)] | rw [upd2_z (by omega)] | rw [cpy2_i (by omega)])); exact ha.1, by (repeat (first | rw [upd2_s] | rw [cpy2_s (by omega)] | rw [upd2_i (by omega)] | rw [upd2_z (by omega)] | rw [cpy2_i (by omega)])); exact ha.2.1, by (repeat (first | rw [upd2_s] | rw [cpy2_s (by omega)] | rw [upd2_i (by omega)] | rw [upd2_z (by omega)] | rw [cpy2_i (by omega)])); exact ha.2.2⟩, fun z z0 z1 => ⟨by (repeat (first | rw [upd2_s] | rw [cpy2_s (by omega)] | rw [upd2_i (by omega)] | rw [upd2_z (by omega)] | rw [cpy2_i (by omega)])); exact (ho z z0 z1).1, by (repeat (first | rw [upd2_s] | rw [cpy2_s (by omega)] | rw [upd2_i (by omega)] | rw [upd2_z (by omega)] | rw [cpy2_i (by omega)])); exact (ho z z0 z1).2.1, by (repeat (first | rw [upd2_s] | rw [cpy2_s (by omega)] | rw [upd2_i (by omega)] | rw [upd2_z (by omega)] | rw [cpy2_i (by omega)])); exact (ho z z0 z1).2.2⟩, fun i z a c => (if_neg c).trans ((upd2_i a.2.2.2).trans (hfr i z a))⟩) (Nat.le_of_ble_eq_true rfl) (Nat.le_of_ble_eq_true rfl) dX2_putDie_93
      · skip
        have q5 := hlo (ρ - 1) (by omega) (by omega)
        have q6 := StI_r hI (r := ρ - 1) (by omega) (by omega)
        have q7 := StI_d hI (i := G (b + 4) (ρ - 1)) (by omega) (by omega)
        have q8 := ho (G (b + 4) (ρ - 1)) (by omega) (by omega)
        have q9 : G1 (b + 1) (G1 (b + 4) (ρ - 1)) = G (b + 1) (G (b + 4) (ρ - 1)) := by rw [q5]; exact q8.1
        have q10 : 0 ≤ G1 (b + 4) (ρ - 1) ∧ G1 (b + 4) (ρ - 1) < 5 := by omega
        refine v_aload_n (pc := 34) rfl dX2_putDie_34 ?_
        refine v_getR (pc := 35) (j := b + 1) fd_X2_9 (kdS hb) (ltS hb 0 (by decide)) (tgS hb 1 _ rfl) dX2_putDie_35 ?_
        refine v_aload_n (pc := 38) rfl dX2_putDie_38 ?_
        refine v_getR (pc := 39) (j := b + 4) fd_X2_21 (kdS hb) (ltS hb 0 (by decide)) (tgS hb 4 _ rfl) dX2_putDie_39 ?_
        refine v_iload (pc := 42) rfl dX2_putDie_42 ?_
        refine v_iconst (pc := 44) (z := 1) dX2_putDie_44 ?_
        refine v_isub (pc := 45) dX2_putDie_45 ?_
        refine v_iald (pc := 46) (N := 5) (kdS_i hb 4 (by decide)) (lnS_5 hb 4 (by decide)) (ltS hb 4 (by decide)) (by omega) (by decide) dX2_putDie_46 ?_
        refine v_iald (pc := 47) (N := 5) (kdS_i hb 1 (by decide)) (lnS_5 hb 1 (by decide)) (ltS hb 1 (by decide)) (by omega) (by decide) dX2_putDie_47 ?_
        refine v_iload_n (pc := 48) rfl dX2_putDie_48 ?_
        refine v_icmp_le (pc := 49) (tgt := 74) (by omega) dX2_putDie_49 (by decide) (fun h2 => ?_) (fun h2 => ?_)
        · skip
          have e0 := hfr b 0 (by omega)
          have hlt : ∀ k, 0 ≤ k → k < ρ → G (b + 1) (G (b + 4) k) < v := fun k k0 k1 => by
            have x1 := StI_r hI (r := ρ - 1) (by omega) (by omega)
            have x2 := hne (G (b + 4) (ρ - 1)) x1.1 x1.2
            have x3 := (ho (G (b + 4) (ρ - 1)) x1.1 x1.2).1
            have x4 := hlo (ρ - 1) (by omega) (by omega)
            have x5 : G (b + 1) (G (b + 4) (ρ - 1)) ≤ v := by first | omega | (rw [x4, x3] at *; omega)
            by_cases h : k = ρ - 1
            · rw [h]; omega
            · have := hI.2.2.2.2.2.2.1 k (ρ - 1) k0 (by omega) (by omega)
              omega
          refine v_aload_n (pc := 74) rfl dX2_putDie_74 ?_
          refine v_getR (pc := 75) (j := b + 4) fd_X2_21 (kdS hb) (ltS hb 0 (by decide)) (tgS hb 4 _ rfl) dX2_putDie_75 ?_
          refine v_iload (pc := 78) rfl dX2_putDie_78 ?_
          refine v_iload_n (pc := 80) rfl dX2_putDie_80 ?_
          refine v_iast (pc := 81) (N := 5) (kdS_i hb 4 (by decide)) (lnS_5 hb 4 (by decide)) (ltS hb 4 (by decide)) (by omega) (by decide) dX2_putDie_81 ?_
          refine v_aload_n (pc := 82) rfl dX2_putDie_82 ?_
          refine v_dup (pc := 83) rfl dX2_putDie_83 ?_
          refine v_get (pc := 84) 0 fd_X2_33 (kdS hb) (ltS hb 0 (by decide)) (tgS hb 0 none rfl) rfl dX2_putDie_84 ?_
          refine v_top (b := G1 b 0) (upd2_i (by omega)) ?_
          refine v_iconst (pc := 87) (z := 1) dX2_putDie_87 ?_
          refine v_iadd (pc := 88) dX2_putDie_88 ?_
          refine v_put (pc := 89) 0 pd_X2_33 (kdS hb) (ltS hb 0 (by decide)) (tgS hb 0 none rfl) rfl dX2_putDie_89 ?_
          refine v_iload_n (pc := 92) rfl dX2_putDie_92 ?_
          exact v_iret (pc := 93) E (⟨_, rfl, rfl, StI_put (ρ := ρ) (v := v) (w := w) hI hn5 h_v h_w (by (repeat (first | rw [upd2_s] | rw [cpy2_s (by omega)] | rw [upd2_i (by omega)] | rw [upd2_z (by omega)] | rw [cpy2_i (by omega)])); omega) (by (repeat (first | rw [upd2_s] | rw [cpy2_s (by omega)] | rw [upd2_i (by omega)] | rw [upd2_z (by omega)] | rw [cpy2_i (by omega)])); exact ha.1) (by (repeat (first | rw [upd2_s] | rw [cpy2_s (by omega)] | rw [upd2_i (by omega)] | rw [upd2_z (by omega)] | rw [cpy2_i (by omega)])); exact ha.2.1) (by (repeat (first | rw [upd2_s] | rw [cpy2_s (by omega)] | rw [upd2_i (by omega)] | rw [upd2_z (by omega)] | rw [cpy2_i (by omega)])); exact ha.2.2) (fun z z0 z1 => ⟨by (repeat (first | rw [upd2_s] | rw [cpy2_s (by omega)] | rw [upd2_i (by omega)] | rw [upd2_z (by omega)] | rw [cpy2_i (by omega)])); exact (ho z z0 z1).1, by (repeat (first | rw [upd2_s] | rw [cpy2_s (by omega)] | rw [upd2_i (by omega)] | rw [upd2_z (by omega)] | rw [cpy2_i (by omega)])); exact (ho z z0 z1).2.1, by (repeat (first | rw [upd2_s] | rw [cpy2_s (by omega)] | rw [upd2_i (by omega)] | rw [upd2_z (by omega)] | rw [cpy2_i (by omega)])); exact (ho z z0 z1).2.2⟩) h0 (fun k k0 k1 => ⟨by (repeat (first | rw [upd2_s] | rw [cpy2_s (by omega)] | rw [upd2_i (by omega)] | rw [upd2_z (by omega)] | rw [cpy2_i (by omega)])); exact hlo k k0 k1, hlt k k0 k1⟩) (by (repeat (first | rw [upd2_s] | rw [cpy2_s (by omega)] | rw [upd2_i (by omega)] | rw [upd2_z (by omega)] | rw [cpy2_i (by omega)]))) (fun k k0 k1 => ⟨by (repeat (first | rw [upd2_s] | rw [cpy2_s (by omega)] | rw [upd2_i (by omega)] | rw [upd2_z (by omega)] | rw [cpy2_i (by omega)])); exact (hhi k k0 k1).1, (hhi k k0 k1).2⟩) (fun i z a c => (if_neg c).trans ((upd2_i a.2.2.2).trans (hfr i z a))), by (repeat (first | rw [upd2_s] | rw [cpy2_s (by omega)] | rw [upd2_i (by omega)] | rw [upd2_z (by omega)] | rw [cpy2_i (by omega)])); omega, ⟨by (repeat (first | rw [upd2_s] | rw [cpy2_s (by omega)] | rw [upd2_i (by omega)] | rw [upd2_z (by omega)] | rw [cpy2_i (by omega)])); exact ha.1, by (repeat (first | rw [upd2_s] | rw [cpy2_s (by omega)] | rw [upd2_i (by omega)] | rw [upd2_z (by omega)] | rw [cpy2_i (by omega)])); exact ha.2.1, by (repeat (first | rw [upd2_s] | rw [cpy2_s (by omega)] | rw [upd2_i (by omega)] | rw [upd2_z (by omega)] | rw [cpy2_i (by omega)])); exact ha.2.2⟩, fun z z0 z1 => ⟨by (repeat (first | rw [upd2_s] | rw [cpy2_s (by omega)] | rw [upd2_i (by omega)] | rw [upd2_z (by omega)] | rw [cpy2_i (by omega)])); exact (ho z z0 z1).1, by (repeat (first | rw [upd2_s] | rw [cpy2_s (by omega)] | rw [upd2_i (by omega)] | rw [upd2_z (by omega)] | rw [cpy2_i (by omega)])); exact (ho z z0 z1).2.1, by (repeat (first | rw [upd2_s] | rw [cpy2_s (by omega)] | rw [upd2_i (by omega)] | rw [upd2_z (by omega)] | rw [cpy2_i (by omega)])); exact (ho z z0 z1).2.2⟩, fun i z a c => (if_neg c).trans ((upd2_i a.2.2.2).trans (hfr i z a))⟩) (Nat.le_of_ble_eq_true rfl) (Nat.le_of_ble_eq_true rfl) dX2_putDie_93
        · skip
          refine v_aload_n (pc := 52) rfl dX2_putDie_52 ?_
          refine v_getR (pc := 53) (j := b + 4) fd_X2_21 (kdS hb) (ltS hb 0 (by decide)) (tgS hb 4 _ rfl) dX2_putDie_53 ?_
          refine v_iload (pc := 56) rfl dX2_putDie_56 ?_
          refine v_aload_n (pc := 58) rfl dX2_putDie_58 ?_
          refine v_getR (pc := 59) (j := b + 4) fd_X2_21 (kdS hb) (ltS hb 0 (by decide)) (tgS hb 4 _ rfl) dX2_putDie_59 ?_
          refine v_iload (pc := 62) rfl dX2_putDie_62 ?_
          refine v_iconst (pc := 64) (z := 1) dX2_putDie_64 ?_
          refine v_isub (pc := 65) dX2_putDie_65 ?_
          refine v_iald (pc := 66) (N := 5) (kdS_i hb 4 (by decide)) (lnS_5 hb 4 (by decide)) (ltS hb 4 (by decide)) (by omega) (by decide) dX2_putDie_66 ?_
          refine v_iast (pc := 67) (N := 5) (kdS_i hb 4 (by decide)) (lnS_5 hb 4 (by decide)) (ltS hb 4 (by decide)) (by omega) (by decide) dX2_putDie_67 ?_
          refine v_iinc (pc := 68) (y := (-1)) rfl (by decide) rfl dX2_putDie_68 ?_
          refine v_goto (pc := 71) (tgt := 29) dX2_putDie_71 (by decide) ?_
          exact ih29 (ρ + (-1)) (upd2 G1 (b + 4) ρ (G1 (b + 4) (ρ - 1))) (by omega) (⟨by (repeat (first | rw [upd2_s] | rw [cpy2_s (by omega)] | rw [upd2_i (by omega)] | rw [upd2_z (by omega)] | rw [cpy2_i (by omega)])); exact ha.1, by (repeat (first | rw [upd2_s] | rw [cpy2_s (by omega)] | rw [upd2_i (by omega)] | rw [upd2_z (by omega)] | rw [cpy2_i (by omega)])); exact ha.2.1, by (repeat (first | rw [upd2_s] | rw [cpy2_s (by omega)] | rw [upd2_i (by omega)] | rw [upd2_z (by omega)] | rw [cpy2_i (by omega)])); exact ha.2.2⟩) (fun z z0 z1 => ⟨by (repeat (first | rw [upd2_s] | rw [cpy2_s (by omega)] | rw [upd2_i (by omega)] | rw [upd2_z (by omega)] | rw [cpy2_i (by omega)])); exact (ho z z0 z1).1, by (repeat (first | rw [upd2_s] | rw [cpy2_s (by omega)] | rw [upd2_i (by omega)] | rw [upd2_z (by omega)] | rw [cpy2_i (by omega)])); exact (ho z z0 z1).2.1, by (repeat (first | rw [upd2_s] | rw [cpy2_s (by omega)] | rw [upd2_i (by omega)] | rw [upd2_z (by omega)] | rw [cpy2_i (by omega)])); exact (ho z z0 z1).2.2⟩) (fun k k0 k1 => (upd2_z (by omega)).trans (hlo k k0 (by omega))) (fun k k0 k1 => (Classical.em (k = ρ)).elim (fun e => by rw [e, upd2_s]; exact ⟨q5, by omega⟩) (fun e => ⟨(upd2_z e).trans (hhi k (by omega) k1).1, (hhi k (by omega) k1).2⟩)) (fun i z a => (upd2_i a.2.2.2).trans (hfr i z a)) (by omega)
  refine v_loc (L' := [some (vR g b), some (vI v), some (vI w), some (vI (G b 0)), some (vI (G b 0))]) (⟨rfl, rfl, rfl, rfl, rfl, trivial⟩) ?_
  exact lp29 _ (G b 0) (upd2 (upd2 (upd2 G (b + 1) (G b 0) v) (b + 2) (G b 0) w) (b + 3) (G b 0) 0) (by omega) (⟨by (repeat (first | rw [upd2_s] | rw [cpy2_s (by omega)] | rw [upd2_i (by omega)] | rw [upd2_z (by omega)] | rw [cpy2_i (by omega)])), by (repeat (first | rw [upd2_s] | rw [cpy2_s (by omega)] | rw [upd2_i (by omega)] | rw [upd2_z (by omega)] | rw [cpy2_i (by omega)])), by (repeat (first | rw [upd2_s] | rw [cpy2_s (by omega)] | rw [upd2_i (by omega)] | rw [upd2_z (by omega)] | rw [cpy2_i (by omega)]))⟩) (fun z z0 z1 => ⟨by (repeat (first | rw [upd2_s] | rw [cpy2_s (by omega)] | rw [upd2_i (by omega)] | rw [upd2_z (by omega)] | rw [cpy2_i (by omega)])), by (repeat (first | rw [upd2_s] | rw [cpy2_s (by omega)] | rw [upd2_i (by omega)] | rw [upd2_z (by omega)] | rw [cpy2_i (by omega)])), by (repeat (first | rw [upd2_s] | rw [cpy2_s (by omega)] | rw [upd2_i (by omega)] | rw [upd2_z (by omega)] | rw [cpy2_i (by omega)]))⟩) (fun k _ _ => by (repeat (first | rw [upd2_s] | rw [cpy2_s (by omega)] | rw [upd2_i (by omega)] | rw [upd2_z (by omega)] | rw [cpy2_i (by omega)]))) (fun k a c => absurd c (by omega)) (fun i z a => (upd2_i a.2.2.1).trans ((upd2_i a.2.1).trans (upd2_i a.1))) (Nat.lt_succ_self _)
