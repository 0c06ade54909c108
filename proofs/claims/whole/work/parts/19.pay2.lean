theorem StI_inj {G : Mem} {b : Nat} (hI : StI G b) {r s : Int} (h0 : 0 ≤ r) (h1 : r < G b 0) (h2 : 0 ≤ s) (h3 : s < G b 0) (h : G (b + 4) r = G (b + 4) s) : r = s := by
  have hs := hI.2.2.2.2.2.2.1
  rcases Int.lt_trichotomy r s with q | q | q
  · have := hs r s h0 q h3
    rw [h] at this; omega
  · exact q
  · have := hs s r h2 q h1
    rw [h] at this; omega
theorem mn_div {c x v t : Int} (hv : 1 ≤ v) (ht : 0 ≤ t ∧ t ≤ c) (h : t * v ≤ x) (h2 : t = c ∨ x - t * v < v) : mnI c (x / v) = t := by
  have h3 : t ≤ x / v := (Int.le_ediv_iff_mul_le (by omega)).mpr h
  unfold mnI
  rcases h2 with q | q
  · split <;> omega
  · have h4 : x / v < t + 1 := by
      rw [Int.ediv_lt_iff_lt_mul (by omega), Int.add_mul]
      omega
    split <;> omega

theorem grR_s {vs cn : Int → Int} {n a r : Int} (h : 0 ≤ r ∧ r < n) : grR vs cn n a (n - r).toNat = grR vs cn n a (n - 1 - r).toNat - mnI (cn r) (grR vs cn n a (n - 1 - r).toNat / vs r) * vs r := by
  have e : (n - r).toNat = (n - 1 - r).toNat + 1 := by omega
  rw [e]
  show grR vs cn n a (n - 1 - r).toNat - mnI (cn (n - 1 - (((n - 1 - r).toNat : Nat) : Int))) _ * _ = _
  rw [show n - 1 - (((n - 1 - r).toNat : Nat) : Int) = r by omega]

theorem mst_u {f : Int → Int} {fe v x t : Int} (h : 1 ≤ t) : mst f fe v x t.toNat = if t * v ≤ x ∧ f (x - t * v) + t = fe then t else mst f fe v x (t - 1).toNat := by
  obtain ⟨s, rfl⟩ : ∃ s : Nat, t = (s : Int) + 1 := ⟨(t - 1).toNat, by omega⟩
  rw [show ((s : Int) + 1).toNat = s + 1 by omega, show (s : Int) + 1 - 1 = s by omega, show ((s : Int)).toNat = s by omega]
  rfl

set_option maxHeartbeats 4000000 in
set_option maxRecDepth 100000 in
theorem c_X0_mostOfValue {g : GT} {G : Mem} {r v c x : Int} (h_r : 0 ≤ r ∧ r ≤ 4) (h_v : 1 ≤ v ∧ v ≤ 50) (h_c : 0 ≤ c ∧ c ≤ 40) (h_x : 0 ≤ x ∧ x ≤ 99) (hf : ∀ y, 0 ≤ y → y < 100 → 0 ≤ G (94 + r.toNat) y ∧ G (94 + r.toNat) y ≤ 1000) (hfe : -2147483648 ≤ G (94 + (r + 1).toNat) x ∧ G (94 + (r + 1).toNat) x < 2147483648) : Ctr g yX0_mostOfValue cX0_mostOfValue 8 (some FieldType.int) (rmL 0 0 0) [vR g 1, vI r, vI v, vI c, vI x] G (RM (mst (G (94 + r.toNat)) (G (94 + (r + 1).toNat) x) v x c.toNat) G) NoX := by
  refine ctr_of [some (vR g 1), some (vI r), some (vI v), some (vI c), some (vI x), none, none, none] (by decide) (Nat.le_of_ble_eq_true rfl) rfl (fun γ E => ?_)
  show V γ g cX0_mostOfValue 8 RX0 (rmL 0 0 0) G 0 0 0 [some (vR g 1), some (vI r), some (vI v), some (vI c), some (vI x), none, none, none] []
  refine v_aload_n (pc := 0) rfl dX0_mostOfValue_0 ?_
  refine v_getR (pc := 1) (j := 93) fd_X0_17 (rfl) (by decide) rfl dX0_mostOfValue_1 ?_
  refine v_iload_n (pc := 4) rfl dX0_mostOfValue_4 ?_
  refine v_iconst (pc := 5) (z := 1) dX0_mostOfValue_5 ?_
  refine v_iadd (pc := 6) dX0_mostOfValue_6 ?_
  refine v_aldt (pc := 7) (N := 6) rfl rfl (by decide) (by omega) (by decide) dX0_mostOfValue_7 ?_
  refine v_iload (pc := 8) rfl dX0_mostOfValue_8 ?_
  refine v_iald (pc := 10) (N := 100) (kdT (by omega)) (lnT (by omega)) (ltT (by omega)) (by omega) (by decide) dX0_mostOfValue_10 ?_
  refine v_istore (pc := 11) (by decide) rfl dX0_mostOfValue_11 ?_
  refine v_iload_n (pc := 13) rfl dX0_mostOfValue_13 ?_
  refine v_istore (pc := 14) (by decide) rfl dX0_mostOfValue_14 ?_
  have lp16 : ∀ (m16 : Nat) (t : Int), (0 ≤ t ∧ t ≤ c) → (mst (G (94 + r.toNat)) (G (94 + (r + 1).toNat) x) v x c.toNat = mst (G (94 + r.toNat)) (G (94 + (r + 1).toNat) x) v x t.toNat) → (t.toNat) < m16 → V γ g cX0_mostOfValue 8 RX0 (rmL 0 0 0) G 0 0 16 [some (vR g 1), some (vI r), some (vI v), some (vI c), some (vI x), some (vI (G (94 + (r + 1).toNat) x)), some (vI t), none] [] := by
    intro m16
    induction m16 with
    | zero => intro t; intros; omega
    | succ m16 ih16 =>
      intro t t0 hm hm16
      refine v_iload (pc := 16) rfl dX0_mostOfValue_16 ?_
      refine v_if_le (pc := 18) (tgt := 61) (by omega) dX0_mostOfValue_18 (by decide) (fun h1 => ?_) (fun h1 => ?_)
      · skip
        refine v_iconst (pc := 61) (z := 0) dX0_mostOfValue_61 ?_
        exact v_iret (pc := 62) E (⟨by rw [hm, show t = 0 by omega]; rfl, rfl⟩) (Nat.le_of_ble_eq_true rfl) (Nat.le_of_ble_eq_true rfl) dX0_mostOfValue_62
      · skip
        have hmu := mul_rng (a := t) (b := v) (A := 40) (B := 50) (by omega) (by omega)
        have hun : mst (G (94 + r.toNat)) (G (94 + (r + 1).toNat) x) v x t.toNat = if t * v ≤ x ∧ G (94 + r.toNat) (x - t * v) + t = G (94 + (r + 1).toNat) x then t else mst (G (94 + r.toNat)) (G (94 + (r + 1).toNat) x) v x (t - 1).toNat := mst_u (by omega)
        refine v_iload (pc := 21) rfl dX0_mostOfValue_21 ?_
        refine v_iload (pc := 23) rfl dX0_mostOfValue_23 ?_
        refine v_iload_n (pc := 25) rfl dX0_mostOfValue_25 ?_
        refine v_imul (pc := 26) dX0_mostOfValue_26 ?_
        refine v_isub (pc := 27) dX0_mostOfValue_27 ?_
        refine v_istore (pc := 28) (by decide) rfl dX0_mostOfValue_28 ?_
        refine v_iload (pc := 30) rfl dX0_mostOfValue_30 ?_
        refine v_if_lt (pc := 32) (tgt := 55) (by omega) dX0_mostOfValue_32 (by decide) (fun h2 => ?_) (fun h2 => ?_)
        · skip
          refine v_iinc (pc := 55) (y := (-1)) rfl (by decide) rfl dX0_mostOfValue_55 ?_
          refine v_goto (pc := 58) (tgt := 16) dX0_mostOfValue_58 (by decide) ?_
          refine v_loc (L' := [some (vR g 1), some (vI r), some (vI v), some (vI c), some (vI x), some (vI (G (94 + (r + 1).toNat) x)), some (vI (t + (-1))), none]) (⟨rfl, rfl, rfl, rfl, rfl, rfl, rfl, trivial⟩) ?_
          exact ih16 (t + (-1)) (by omega) (by rw [hm, hun, if_neg (by omega)]; rw [show t + -1 = t - 1 by omega]) (by omega)
        · skip
          have r1 := hf (x - t * v) (by omega) (by omega)
          refine v_aload_n (pc := 35) rfl dX0_mostOfValue_35 ?_
          refine v_getR (pc := 36) (j := 93) fd_X0_17 (rfl) (by decide) rfl dX0_mostOfValue_36 ?_
          refine v_iload_n (pc := 39) rfl dX0_mostOfValue_39 ?_
          refine v_aldt (pc := 40) (N := 6) rfl rfl (by decide) (by omega) (by decide) dX0_mostOfValue_40 ?_
          refine v_iload (pc := 41) rfl dX0_mostOfValue_41 ?_
          refine v_iald (pc := 43) (N := 100) (kdT (by omega)) (lnT (by omega)) (ltT (by omega)) (by omega) (by decide) dX0_mostOfValue_43 ?_
          refine v_iload (pc := 44) rfl dX0_mostOfValue_44 ?_
          refine v_iadd (pc := 46) dX0_mostOfValue_46 ?_
          refine v_iload (pc := 47) rfl dX0_mostOfValue_47 ?_
          refine v_icmp_ne (pc := 49) (tgt := 55) (by omega) dX0_mostOfValue_49 (by decide) (fun h3 => ?_) (fun h3 => ?_)
          · skip
            refine v_iinc (pc := 55) (y := (-1)) rfl (by decide) rfl dX0_mostOfValue_55 ?_
            refine v_goto (pc := 58) (tgt := 16) dX0_mostOfValue_58 (by decide) ?_
            refine v_loc (L' := [some (vR g 1), some (vI r), some (vI v), some (vI c), some (vI x), some (vI (G (94 + (r + 1).toNat) x)), some (vI (t + (-1))), none]) (⟨rfl, rfl, rfl, rfl, rfl, rfl, rfl, trivial⟩) ?_
            exact ih16 (t + (-1)) (by omega) (by rw [hm, hun, if_neg (by omega)]; rw [show t + -1 = t - 1 by omega]) (by omega)
          · skip
            refine v_iload (pc := 52) rfl dX0_mostOfValue_52 ?_
            exact v_iret (pc := 54) E (⟨by rw [hm, hun, if_pos (by omega)], rfl⟩) (Nat.le_of_ble_eq_true rfl) (Nat.le_of_ble_eq_true rfl) dX0_mostOfValue_54
  refine v_loc (L' := [some (vR g 1), some (vI r), some (vI v), some (vI c), some (vI x), some (vI (G (94 + (r + 1).toNat) x)), some (vI c), none]) (⟨rfl, rfl, rfl, rfl, rfl, rfl, rfl, trivial⟩) ?_
  exact lp16 _ c (by omega) rfl (Nat.lt_succ_self _)
set_option maxHeartbeats 4000000 in
set_option maxRecDepth 100000 in
theorem c_X0_plan {g : GT} {b : Nat} {G : Mem} (hb : isS b) (hI : StI G b) {a : Int} (h_a : 1 ≤ a ∧ a ≤ 99) : Ctr g yX0_plan cX0_plan 7 (some FieldType.boolean) (rmL 2 0 0) [vR g 1, vR g b, vI a] G (RP (fun r G' => r = bI (Tab (vsR G b) (cnR G b) (G b 0).toNat a ≠ 1000) ∧ G' 1 4 = G b 0 ∧ (∀ r : Nat, (r : Int) ≤ G b 0 → ∀ a, 0 ≤ a → a < 100 → G' (94 + r) a = Tab (vsR G b) (cnR G b) r a) ∧ (Tab (vsR G b) (cnR G b) (G b 0).toNat a ≠ 1000 → ∀ s, 0 ≤ s → s < G b 0 → G' 92 (G (b + 4) s) = usF (vsR G b) (cnR G b) (G b 0) a s) ∧ ∀ i z, ¬ (92 ≤ i ∧ i ≤ 99 ∧ i ≠ 93) → ¬ (i = 1 ∧ z = 4) → G' i z = G i z)) NoX := by
  refine ctr_of [some (vR g 1), some (vR g b), some (vI a), none, none, none, none] (by decide) (Nat.le_of_ble_eq_true rfl) rfl (fun γ E => ?_)
  show V γ g cX0_plan 7 RX0 (rmL 2 0 0) G 0 0 0 [some (vR g 1), some (vR g b), some (vI a), none, none, none, none] []
  have hn := StI_n hI
  have hc := StI_c hI
  have hy := StI_y hI
  have hb2 := isS_lt hb
  refine v_aload_n (pc := 0) rfl dX0_plan_0 ?_
  refine v_aload_n (pc := 1) rfl dX0_plan_1 ?_
  refine v_callV (pc := 2) (rest := []) (c_X0_tabulate hb hI) iok_X0_tabulate wM_X0_74 (rfl) (by decide) (by decide) rfl (rmOk (by decide) (by decide)) ⟨Nat.le_of_ble_eq_true rfl, Nat.le_of_ble_eq_true rfl⟩ (Nat.le_of_ble_eq_true rfl) rfl dX0_plan_2 (fun v G1 hq => ?_) (fun _ _ h => h.elim)
  obtain ⟨rfl, hq⟩ := hq
  refine v_stk (st' := []) rfl ?_
  obtain ⟨e4, hT, hF⟩ := hq
  have hTn : G1 (94 + (G1 1 4).toNat) a = Tab (vsR G b) (cnR G b) (G b 0).toNat a := by rw [e4]; exact hT (G b 0).toNat (by omega) a (by omega) (by omega)
  have hTr := TabR hI (r := (G b 0).toNat) (by omega) a
  refine v_aload_n (pc := 5) rfl dX0_plan_5 ?_
  refine v_iload_n (pc := 6) rfl dX0_plan_6 ?_
  refine v_callV (pc := 7) (rest := []) (c_X0_tableAnswer (G := G1) (a := a) (by omega) (by omega)) iok_X0_tableAnswer wM_X0_78 (rfl) (by decide) (by decide) rfl (rmOk (by decide) (by decide)) ⟨Nat.le_of_ble_eq_true rfl, Nat.le_of_ble_eq_true rfl⟩ (Nat.le_of_ble_eq_true rfl) rfl dX0_plan_7 (fun v G' hq => ?_) (fun _ _ h => h.elim)
  obtain ⟨rfl, hG9⟩ := hq
  rw [hG9]
  obtain ⟨ta, h_ta⟩ : ∃ w9, w9 = (G1 (94 + (G1 1 4).toNat) a) := ⟨_, rfl⟩
  refine v_stk (st' := [vI ta]) (by rw [h_ta]; rfl) ?_
  refine v_sipush (pc := 10) (z := 1000) rfl dX0_plan_10 ?_
  refine v_icmp_ne (pc := 13) (tgt := 18) (by omega) dX0_plan_13 (by decide) (fun h1 => ?_) (fun h1 => ?_)
  · skip
    refine v_iload_n (pc := 18) rfl dX0_plan_18 ?_
    refine v_istore_n (pc := 19) (by decide) rfl dX0_plan_19 ?_
    refine v_aload_n (pc := 20) rfl dX0_plan_20 ?_
    refine v_get (pc := 21) 4 fd_X0_33 (rfl) (by decide) rfl rfl dX0_plan_21 ?_
    refine v_iconst (pc := 24) (z := 1) dX0_plan_24 ?_
    refine v_isub (pc := 25) dX0_plan_25 ?_
    refine v_istore (pc := 26) (by decide) rfl dX0_plan_26 ?_
    have lp28 : ∀ (m28 : Nat) (i : Int) (x : Int) (G2 : Mem), (0 ≤ i ∧ i ≤ G b 0) → (x = rsF (vsR G b) (cnR G b) (G b 0) a (G b 0 - i).toNat) → (∀ s, i ≤ s → s < G b 0 → G2 92 (G (b + 4) s) = usF (vsR G b) (cnR G b) (G b 0) a s) → (∀ j z, j ≠ 92 → G2 j z = G1 j z) → (i.toNat) < m28 → V γ g cX0_plan 7 RX0 (rmL 2 0 0) G2 0 0 28 [some (vR g 1), some (vR g b), some (vI a), some (vI x), some (vI (i - 1)), none, none] [] := by
      intro m28
      induction m28 with
      | zero => intro i x G2; intros; omega
      | succ m28 ih28 =>
        intro i x G2 h0 hx hu hG hm28
        have hxr := rsF_r (vs := vsR G b) (cn := cnR G b) (n := G b 0) (a := a) (by omega) (fun r r0 r1 => by have := vsR_r hI r0 r1; omega) (G b 0 - i).toNat (by omega)
        rw [← hx] at hxr
        refine v_iload (pc := 28) rfl dX0_plan_28 ?_
        refine v_if_lt (pc := 30) (tgt := 92) (by omega) dX0_plan_30 (by decide) (fun h2 => ?_) (fun h2 => ?_)
        · skip
          refine v_iconst (pc := 92) (z := 1) dX0_plan_92 ?_
          exact v_bret (pc := 93) E (by decide) (⟨_, rfl, by rw [bI_t (by omega)], (hG 1 4 (by omega)).trans e4, fun r hr y y0 y1 => (hG (94 + r) y (by omega)).trans (hT r hr y y0 y1), fun _ s s0 s1 => hu s (by omega) s1, fun j z q c => (hG j z (by omega)).trans (hF j z (by omega) c)⟩) (Nat.le_of_ble_eq_true rfl) (Nat.le_of_ble_eq_true rfl) dX0_plan_93
        · skip
          have hr := StI_r hI (r := i - 1) (by omega) (by omega)
          have hGb : ∀ j : Nat, j ≤ 7 → ∀ w, G2 (b + j) w = G (b + j) w := fun j hj w => (hG (b + j) w (by omega)).trans (hF (b + j) w (by omega) (by omega))
          have hI2 : StI G2 b := StI_sameB hI hGb
          have f4 := hGb 4 (by omega) (i - 1)
          have f0 := hGb 0 (by omega) 0
          have f0b : G2 b 0 = G b 0 := f0
          have f1 : G2 (b + 1) (G2 (b + 4) (i - 1)) = vsR G b (i - 1) := by rw [f4]; exact hGb 1 (by omega) _
          have hvv := vsR_r hI (r := i - 1) (by omega) (by omega)
          have hcc := cnR_r hI (i - 1)
          have ht1 : ∀ r : Nat, (r : Int) ≤ G b 0 → ∀ y, 0 ≤ y → y < 100 → G2 (94 + r) y = Tab (vsR G b) (cnR G b) r y := fun r hr y y0 y1 => (hG (94 + r) y (by omega)).trans (hT r hr y y0 y1)
          refine v_aload_n (pc := 33) rfl dX0_plan_33 ?_
          refine v_getR (pc := 34) (j := b + 4) fd_X0_42 (kdS hb) (ltS hb 0 (by decide)) (tgS hb 4 _ rfl) dX0_plan_34 ?_
          refine v_iload (pc := 37) rfl dX0_plan_37 ?_
          refine v_iald (pc := 39) (N := 5) (kdS_i hb 4 (by decide)) (lnS_5 hb 4 (by decide)) (ltS hb 4 (by decide)) (by omega) (by decide) dX0_plan_39 ?_
          refine v_istore (pc := 40) (by decide) rfl dX0_plan_40 ?_
          refine v_aload_n (pc := 42) rfl dX0_plan_42 ?_
          refine v_getR (pc := 43) (j := b + 1) fd_X0_45 (kdS hb) (ltS hb 0 (by decide)) (tgS hb 1 _ rfl) dX0_plan_43 ?_
          refine v_iload (pc := 46) rfl dX0_plan_46 ?_
          refine v_iald (pc := 48) (N := 5) (kdS_i hb 1 (by decide)) (lnS_5 hb 1 (by decide)) (ltS hb 1 (by decide)) (by omega) (by decide) dX0_plan_48 ?_
          refine v_istore (pc := 49) (by decide) rfl dX0_plan_49 ?_
          refine v_aload_n (pc := 51) rfl dX0_plan_51 ?_
          refine v_getR (pc := 52) (j := 92) fd_X0_9 (rfl) (by decide) rfl dX0_plan_52 ?_
          refine v_iload (pc := 55) rfl dX0_plan_55 ?_
          refine v_aload_n (pc := 57) rfl dX0_plan_57 ?_
          refine v_iload (pc := 58) rfl dX0_plan_58 ?_
          refine v_iload (pc := 60) rfl dX0_plan_60 ?_
          refine v_aload_n (pc := 62) rfl dX0_plan_62 ?_
          refine v_iload (pc := 63) rfl dX0_plan_63 ?_
          refine v_callVN (pc := 65) (rest := [vI (G2 (b + 1) (G2 (b + 4) (i - 1))), vI (i - 1), vR g 1, vI (G2 (b + 4) (i - 1)), vR g 92]) (c_X2_coinsFrom hb hI2 (d := G2 (b + 4) (i - 1)) (by omega)) iok_X2_coinsFrom wM_X0_48 (kdS hb) (by decide) (ltS hb 0 (by decide)) rfl (rmOk (by decide) (by decide)) ⟨Nat.le_of_ble_eq_true rfl, Nat.le_of_ble_eq_true rfl⟩ (Nat.le_of_ble_eq_true rfl) rfl dX0_plan_65 (fun v G' hq => ?_) (fun _ _ h => h.elim)
          obtain ⟨rfl, hG9⟩ := hq
          rw [hG9]
          obtain ⟨cc, h_cc⟩ : ∃ w9, w9 = (cntE (G2 b 5) (G2 (b + 5)) (G2 (b + 4) (i - 1))) := ⟨_, rfl⟩
          refine v_stk (st' := [vI cc, vI (G2 (b + 1) (G2 (b + 4) (i - 1))), vI (i - 1), vR g 1, vI (G2 (b + 4) (i - 1)), vR g 92]) (by rw [h_cc]; rfl) ?_
          have hcq : cc = cnR G b (i - 1) := by
            rw [h_cc, f4, show G2 b 5 = G b 5 from hGb 0 (by omega) 5]
            exact sz_congr (fun k _ _ => by rw [hGb 5 (by omega) k])
          refine v_iload_n (pc := 68) rfl dX0_plan_68 ?_
          refine v_callV (pc := 69) (rest := [vI (G2 (b + 4) (i - 1)), vR g 92]) (c_X0_mostOfValue (G := G2) (r := i - 1) (v := G2 (b + 1) (G2 (b + 4) (i - 1))) (c := cc) (x := x) (by omega) (by omega) (by omega) (by omega) (fun y y0 y1 => by rw [ht1 (i - 1).toNat (by omega) y y0 y1]; exact TabR hI (by omega) y) (by rw [ht1 (i - 1 + 1).toNat (by omega) x (by omega) (by omega)]; have := TabR hI (r := (i - 1 + 1).toNat) (by omega) x; omega)) iok_X0_mostOfValue wM_X0_81 (rfl) (by decide) (by decide) rfl (rmOk (by decide) (by decide)) ⟨Nat.le_of_ble_eq_true rfl, Nat.le_of_ble_eq_true rfl⟩ (Nat.le_of_ble_eq_true rfl) rfl dX0_plan_69 (fun v G' hq => ?_) (fun _ _ h => h.elim)
          obtain ⟨rfl, hG9⟩ := hq
          rw [hG9]
          obtain ⟨us, h_us⟩ : ∃ w9, w9 = (mst (G2 (94 + (i - 1).toNat)) (G2 (94 + (i - 1 + 1).toNat) x) (G2 (b + 1) (G2 (b + 4) (i - 1))) x cc.toNat) := ⟨_, rfl⟩
          refine v_stk (st' := [vI us, vI (G2 (b + 4) (i - 1)), vR g 92]) (by rw [h_us]; rfl) ?_
          have husq : us = usF (vsR G b) (cnR G b) (G b 0) a (i - 1) := by
            unfold usF
            rw [show G b 0 - 1 - (i - 1) = G b 0 - i by omega, ← hx, h_us, f1, hcq, ht1 (i - 1 + 1).toNat (by omega) x (by omega) (by omega), show (i - 1 + 1).toNat = (i - 1).toNat + 1 by omega]
            exact mst_congr (by omega) (fun y y0 y1 => ht1 (i - 1).toNat (by omega) y y0 (by omega)) _
          have hx3 : x - us * vsR G b (i - 1) = rsF (vsR G b) (cnR G b) (G b 0) a (G b 0 - (i - 1)).toNat := by
            rw [rsF_s (by omega), show G b 0 - 1 - (i - 1) = G b 0 - i by omega, ← hx, husq]
          have hu3 : ∀ s, i - 1 ≤ s → s < G b 0 → upd2 G2 92 (G2 (b + 4) (i - 1)) us 92 (G (b + 4) s) = usF (vsR G b) (cnR G b) (G b 0) a s := fun s s0 s1 => by
            by_cases hs : s = i - 1
            · rw [hs, f4, upd2_s]; exact husq
            · rw [upd2_z (fun e => hs (StI_inj hI (by omega) s1 (by omega) (by omega) (by rw [e, f4])))]
              exact hu s (by omega) s1
          refine v_iast (pc := 72) (N := 5) rfl rfl (by decide) (by omega) (by decide) dX0_plan_72 ?_
          refine v_iload_n (pc := 73) rfl dX0_plan_73 ?_
          refine v_aload_n (pc := 74) rfl dX0_plan_74 ?_
          refine v_getR (pc := 75) (j := 92) fd_X0_9 (rfl) (by decide) rfl dX0_plan_75 ?_
          refine v_iload (pc := 78) rfl dX0_plan_78 ?_
          refine v_iald (pc := 80) (N := 5) rfl rfl (by decide) (by omega) (by decide) dX0_plan_80 ?_
          refine v_top (b := us) (upd2_s _ _ _ _) ?_
          refine v_iload (pc := 81) rfl dX0_plan_81 ?_
          refine v_imul (pc := 83) dX0_plan_83 ?_
          refine v_isub (pc := 84) dX0_plan_84 ?_
          refine v_istore_n (pc := 85) (by decide) rfl dX0_plan_85 ?_
          refine v_iinc (pc := 86) (y := (-1)) rfl (by decide) rfl dX0_plan_86 ?_
          refine v_goto (pc := 89) (tgt := 28) dX0_plan_89 (by decide) ?_
          refine v_loc (L' := [some (vR g 1), some (vR g b), some (vI a), some (vI (x - (us * (G2 (b + 1) (G2 (b + 4) (i - 1)))))), some (vI ((i - 1) - 1)), none, none]) (⟨rfl, rfl, rfl, rfl, rfl, trivial⟩) ?_
          exact ih28 (i - 1) (x - (us * (G2 (b + 1) (G2 (b + 4) (i - 1))))) (upd2 G2 92 (G2 (b + 4) (i - 1)) us) (by omega) (by rw [f1]; exact hx3) hu3 (fun j z hj => (upd2_i hj).trans (hG j z hj)) (by omega)
    refine v_loc (L' := [some (vR g 1), some (vR g b), some (vI a), some (vI a), some (vI ((G1 1 4) - 1)), none, none]) (⟨rfl, rfl, rfl, rfl, rfl, trivial⟩) ?_
    exact lp28 _ (G1 1 4) a G1 (by omega) (by rw [show (G b 0 - G1 1 4).toNat = 0 by omega]; rfl) (fun s a c => absurd c (by omega)) (fun _ _ _ => rfl) (Nat.lt_succ_self _)
  · skip
    refine v_iconst (pc := 16) (z := 0) dX0_plan_16 ?_
    exact v_bret (pc := 17) E (by decide) (⟨_, rfl, by rw [bI_f (fun q => q (by omega))], e4, hT, fun q => absurd q (fun q => q (by omega)), fun i z a c => hF i z (by omega) c⟩) (Nat.le_of_ble_eq_true rfl) (Nat.le_of_ble_eq_true rfl) dX0_plan_17
set_option maxHeartbeats 4000000 in
set_option maxRecDepth 100000 in
theorem c_X0_payGreedily {g : GT} {b : Nat} {G : Mem} (hb : isS b) (hI : StI G b) {a : Int} (h_a : 1 ≤ a ∧ a ≤ 99) : Ctr g yX0_payGreedily cX0_payGreedily 9 (some FieldType.int) (rmL 1 0 0) [vR g 1, vR g b, vI a] G (RM (if grR (vsR G b) (cnR G b) (G b 0) a (G b 0).toNat = 0 then sz (G b 0) (grU (vsR G b) (cnR G b) (G b 0) a) else 1000) G) NoX := by
  refine ctr_of [some (vR g 1), some (vR g b), some (vI a), none, none, none, none, none, none] (by decide) (Nat.le_of_ble_eq_true rfl) rfl (fun γ E => ?_)
  show V γ g cX0_payGreedily 9 RX0 (rmL 1 0 0) G 0 0 0 [some (vR g 1), some (vR g b), some (vI a), none, none, none, none, none, none] []
  have hn := StI_n hI
  have hc := StI_c hI
  have hy := StI_y hI
  refine v_iconst (pc := 0) (z := 0) dX0_payGreedily_0 ?_
  refine v_istore_n (pc := 1) (by decide) rfl dX0_payGreedily_1 ?_
  refine v_iload_n (pc := 2) rfl dX0_payGreedily_2 ?_
  refine v_istore (pc := 3) (by decide) rfl dX0_payGreedily_3 ?_
  refine v_aload_n (pc := 5) rfl dX0_payGreedily_5 ?_
  refine v_get (pc := 6) 0 fd_X0_27 (kdS hb) (ltS hb 0 (by decide)) (tgS hb 0 none rfl) rfl dX0_payGreedily_6 ?_
  refine v_iconst (pc := 9) (z := 1) dX0_payGreedily_9 ?_
  refine v_isub (pc := 10) dX0_payGreedily_10 ?_
  refine v_istore (pc := 11) (by decide) rfl dX0_payGreedily_11 ?_
  have lp13 : ∀ (m13 : Nat) (i : Int) (x : Int) (m : Int), (0 ≤ i ∧ i ≤ G b 0) → (x = grR (vsR G b) (cnR G b) (G b 0) a (G b 0 - i).toNat) → (m = sz (G b 0 - i) (grU (vsR G b) (cnR G b) (G b 0) a)) → (i.toNat) < m13 → V γ g cX0_payGreedily 9 RX0 (rmL 1 0 0) G 0 0 13 [some (vR g 1), some (vR g b), some (vI a), some (vI m), some (vI x), some (vI (i - 1)), none, none, none] [] := by
    intro m13
    induction m13 with
    | zero => intro i x m; intros; omega
    | succ m13 ih13 =>
      intro i x m h0 hx hm hm13
      have hxr := grR_r (vs := vsR G b) (cn := cnR G b) (n := G b 0) (a := a) (by omega) (fun r r0 r1 => (vsR_r hI r0 r1).1) (fun r _ _ => (cnR_r hI r).1) (G b 0 - i).toNat (by omega)
      rw [← hx] at hxr
      refine v_iload (pc := 13) rfl dX0_payGreedily_13 ?_
      refine v_if_lt (pc := 15) (tgt := 78) (by omega) dX0_payGreedily_15 (by decide) (fun h1 => ?_) (fun h1 => ?_)
      · skip
        refine v_iload (pc := 78) rfl dX0_payGreedily_78 ?_
        refine v_if_ne (pc := 80) (tgt := 87) (by omega) dX0_payGreedily_80 (by decide) (fun h2 => ?_) (fun h2 => ?_)
        · skip
          refine v_sipush (pc := 87) (z := 1000) rfl dX0_payGreedily_87 ?_
          exact v_iret (pc := 90) E (⟨by rw [if_neg (by rw [show (G b 0).toNat = (G b 0 - i).toNat by omega, ← hx]; omega)], rfl⟩) (Nat.le_of_ble_eq_true rfl) (Nat.le_of_ble_eq_true rfl) dX0_payGreedily_90
        · skip
          refine v_iload_n (pc := 83) rfl dX0_payGreedily_83 ?_
          refine v_goto (pc := 84) (tgt := 90) dX0_payGreedily_84 (by decide) ?_
          exact v_iret (pc := 90) E (⟨by rw [if_pos (by rw [show (G b 0).toNat = (G b 0 - i).toNat by omega, ← hx]; omega), hm, show G b 0 - i = G b 0 by omega], rfl⟩) (Nat.le_of_ble_eq_true rfl) (Nat.le_of_ble_eq_true rfl) dX0_payGreedily_90
      · skip
        have hr := StI_r hI (r := i - 1) (by omega) (by omega)
        have hvv : 1 ≤ G (b + 1) (G (b + 4) (i - 1)) ∧ G (b + 1) (G (b + 4) (i - 1)) ≤ 50 := vsR_r hI (r := i - 1) (by omega) (by omega)
        have hcc := cnR_r hI (i - 1)
        refine v_aload_n (pc := 18) rfl dX0_payGreedily_18 ?_
        refine v_getR (pc := 19) (j := b + 4) fd_X0_42 (kdS hb) (ltS hb 0 (by decide)) (tgS hb 4 _ rfl) dX0_payGreedily_19 ?_
        refine v_iload (pc := 22) rfl dX0_payGreedily_22 ?_
        refine v_iald (pc := 24) (N := 5) (kdS_i hb 4 (by decide)) (lnS_5 hb 4 (by decide)) (ltS hb 4 (by decide)) (by omega) (by decide) dX0_payGreedily_24 ?_
        refine v_istore (pc := 25) (by decide) rfl dX0_payGreedily_25 ?_
        refine v_aload_n (pc := 27) rfl dX0_payGreedily_27 ?_
        refine v_getR (pc := 28) (j := b + 1) fd_X0_45 (kdS hb) (ltS hb 0 (by decide)) (tgS hb 1 _ rfl) dX0_payGreedily_28 ?_
        refine v_iload (pc := 31) rfl dX0_payGreedily_31 ?_
        refine v_iald (pc := 33) (N := 5) (kdS_i hb 1 (by decide)) (lnS_5 hb 1 (by decide)) (ltS hb 1 (by decide)) (by omega) (by decide) dX0_payGreedily_33 ?_
        refine v_istore (pc := 34) (by decide) rfl dX0_payGreedily_34 ?_
        refine v_aload_n (pc := 36) rfl dX0_payGreedily_36 ?_
        refine v_iload (pc := 37) rfl dX0_payGreedily_37 ?_
        refine v_callVN (pc := 39) (rest := []) (c_X2_coinsFrom hb hI (d := G (b + 4) (i - 1)) (by omega)) iok_X2_coinsFrom wM_X0_48 (kdS hb) (by decide) (ltS hb 0 (by decide)) rfl (rmOk (by decide) (by decide)) ⟨Nat.le_of_ble_eq_true rfl, Nat.le_of_ble_eq_true rfl⟩ (Nat.le_of_ble_eq_true rfl) rfl dX0_payGreedily_39 (fun v G' hq => ?_) (fun _ _ h => h.elim)
        obtain ⟨rfl, hG9⟩ := hq
        rw [hG9]
        refine v_stk (st' := [vI (cnR G b (i - 1))]) rfl ?_
        refine v_istore (pc := 42) (by decide) rfl dX0_payGreedily_42 ?_
        have lp44 : ∀ (m44 : Nat) (t : Int) (lf : Int) (y : Int) (u : Int), (0 ≤ t ∧ t ≤ cnR G b (i - 1)) → (t * G (b + 1) (G (b + 4) (i - 1)) ≤ x) → (lf = cnR G b (i - 1) - t) → (y = x - t * G (b + 1) (G (b + 4) (i - 1))) → (u = m + t) → (lf.toNat) < m44 → V γ g cX0_payGreedily 9 RX0 (rmL 1 0 0) G 0 0 44 [some (vR g 1), some (vR g b), some (vI a), some (vI u), some (vI y), some (vI (i - 1)), some (vI (G (b + 4) (i - 1))), some (vI (G (b + 1) (G (b + 4) (i - 1)))), some (vI lf)] [] := by
          intro m44
          induction m44 with
          | zero => intro t lf y u; intros; omega
          | succ m44 ih44 =>
            intro t lf y u t0 t1 hlf hyx hum hm44
            have hmu := mul_rng (a := t) (b := G (b + 1) (G (b + 4) (i - 1))) (A := 40) (B := 50) (by omega) (by omega)
            refine v_iload (pc := 44) rfl dX0_payGreedily_44 ?_
            refine v_if_le (pc := 46) (tgt := 72) (by omega) dX0_payGreedily_46 (by decide) (fun h3 => ?_) (fun h3 => ?_)
            · skip
              have ev : t * vsR G b (i - 1) = t * G (b + 1) (G (b + 4) (i - 1)) := rfl
              have ev2 : vsR G b (i - 1) = G (b + 1) (G (b + 4) (i - 1)) := rfl
              have hmn : mnI (cnR G b (i - 1)) (x / vsR G b (i - 1)) = t := mn_div hvv.1 t0 t1 (by omega)
              have hx3 : y = grR (vsR G b) (cnR G b) (G b 0) a (G b 0 - (i - 1)).toNat := by
                rw [grR_s (by omega), show G b 0 - 1 - (i - 1) = G b 0 - i by omega, ← hx, hmn]
                exact hyx
              have hm3 : u = sz (G b 0 - (i - 1)) (grU (vsR G b) (cnR G b) (G b 0) a) := by
                rw [show G b 0 - (i - 1) = (G b 0 - i) + 1 by omega, sz_s (by omega), ← hm]
                unfold grU
                rw [show G b 0 - 1 - (G b 0 - i) = i - 1 by omega, ← hx, hmn]
                exact hum
              refine v_iinc (pc := 72) (y := (-1)) rfl (by decide) rfl dX0_payGreedily_72 ?_
              refine v_goto (pc := 75) (tgt := 13) dX0_payGreedily_75 (by decide) ?_
              refine v_loc (L' := [some (vR g 1), some (vR g b), some (vI a), some (vI u), some (vI y), some (vI ((i - 1) - 1)), none, none, none]) (⟨rfl, rfl, rfl, rfl, rfl, rfl, trivial⟩) ?_
              exact ih13 (i - 1) y u (by omega) hx3 hm3 (by omega)
            · skip
              refine v_iload (pc := 49) rfl dX0_payGreedily_49 ?_
              refine v_iload (pc := 51) rfl dX0_payGreedily_51 ?_
              refine v_icmp_gt (pc := 53) (tgt := 72) (by omega) dX0_payGreedily_53 (by decide) (fun h4 => ?_) (fun h4 => ?_)
              · skip
                have ev : t * vsR G b (i - 1) = t * G (b + 1) (G (b + 4) (i - 1)) := rfl
                have ev2 : vsR G b (i - 1) = G (b + 1) (G (b + 4) (i - 1)) := rfl
                have hmn : mnI (cnR G b (i - 1)) (x / vsR G b (i - 1)) = t := mn_div hvv.1 t0 t1 (by omega)
                have hx3 : y = grR (vsR G b) (cnR G b) (G b 0) a (G b 0 - (i - 1)).toNat := by
                  rw [grR_s (by omega), show G b 0 - 1 - (i - 1) = G b 0 - i by omega, ← hx, hmn]
                  exact hyx
                have hm3 : u = sz (G b 0 - (i - 1)) (grU (vsR G b) (cnR G b) (G b 0) a) := by
                  rw [show G b 0 - (i - 1) = (G b 0 - i) + 1 by omega, sz_s (by omega), ← hm]
                  unfold grU
                  rw [show G b 0 - 1 - (G b 0 - i) = i - 1 by omega, ← hx, hmn]
                  exact hum
                refine v_iinc (pc := 72) (y := (-1)) rfl (by decide) rfl dX0_payGreedily_72 ?_
                refine v_goto (pc := 75) (tgt := 13) dX0_payGreedily_75 (by decide) ?_
                refine v_loc (L' := [some (vR g 1), some (vR g b), some (vI a), some (vI u), some (vI y), some (vI ((i - 1) - 1)), none, none, none]) (⟨rfl, rfl, rfl, rfl, rfl, rfl, trivial⟩) ?_
                exact ih13 (i - 1) y u (by omega) hx3 hm3 (by omega)
              · skip
                refine v_iinc (pc := 56) (y := (-1)) rfl (by decide) rfl dX0_payGreedily_56 ?_
                refine v_iload (pc := 59) rfl dX0_payGreedily_59 ?_
                refine v_iload (pc := 61) rfl dX0_payGreedily_61 ?_
                refine v_isub (pc := 63) dX0_payGreedily_63 ?_
                refine v_istore (pc := 64) (by decide) rfl dX0_payGreedily_64 ?_
                refine v_iinc (pc := 66) (y := 1) rfl (by decide) rfl dX0_payGreedily_66 ?_
                refine v_goto (pc := 69) (tgt := 44) dX0_payGreedily_69 (by decide) ?_
                exact ih44 (t + 1) (lf + (-1)) (y - (G (b + 1) (G (b + 4) (i - 1)))) (u + 1) (by omega) (by rw [Int.add_mul]; omega) (by omega) (by rw [Int.add_mul]; omega) (by omega) (by omega)
        refine v_loc (L' := [some (vR g 1), some (vR g b), some (vI a), some (vI m), some (vI x), some (vI (i - 1)), some (vI (G (b + 4) (i - 1))), some (vI (G (b + 1) (G (b + 4) (i - 1)))), some (vI (cnR G b (i - 1)))]) (⟨rfl, rfl, rfl, rfl, rfl, rfl, rfl, rfl, rfl, trivial⟩) ?_
        exact lp44 _ 0 (cnR G b (i - 1)) x m (by omega) (by omega) (by omega) (by omega) (by omega) (Nat.lt_succ_self _)
  refine v_loc (L' := [some (vR g 1), some (vR g b), some (vI a), some (vI 0), some (vI a), some (vI ((G b 0) - 1)), none, none, none]) (⟨rfl, rfl, rfl, rfl, rfl, rfl, trivial⟩) ?_
  exact lp13 _ (G b 0) a 0 (by omega) (by rw [show (G b 0 - G b 0).toNat = 0 by omega]; rfl) (by rw [show G b 0 - G b 0 = 0 by omega]; rfl) (Nat.lt_succ_self _)
