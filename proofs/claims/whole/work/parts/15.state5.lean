theorem cs_congr {G G' : Mem} {b : Nat} {φ : Int → Int → Int → Int} (h5 : G' b 5 = G b 5) (h : ∀ k, 0 ≤ k → k < G b 5 → G' (b + 5) k = G (b + 5) k ∧ G' (b + 6) k = G (b + 6) k ∧ G' (b + 7) k = G (b + 7) k) : cs G' b φ = cs G b φ := by
  unfold cs
  rw [h5]
  exact sz_congr (fun k k0 k1 => by rw [(h k k0 k1).1, (h k k0 k1).2.1, (h k k0 k1).2.2])
theorem cs_fcongr {G : Mem} {b : Nat} {φ ψ : Int → Int → Int → Int} (h : ∀ k, 0 ≤ k → k < G b 5 → φ (G (b + 5) k) (G (b + 6) k) (G (b + 7) k) = ψ (G (b + 5) k) (G (b + 6) k) (G (b + 7) k)) : cs G b φ = cs G b ψ := sz_congr h
/-- a coin of that kind is there -/
theorem cnt3_pos {G : Mem} {b : Nat} {d y gr : Int} (h0 : 0 ≤ G b 5) : 0 < cnt3 (cs G b) d y gr ↔ ∃ k, 0 ≤ k ∧ k < G b 5 ∧ G (b + 5) k = d ∧ G (b + 6) k = y ∧ G (b + 7) k = gr := by
  unfold cnt3 cs
  constructor
  · intro h
    obtain ⟨k, k0, k1, k2⟩ := sz_pos h0 h
    refine ⟨k, k0, k1, ?_⟩
    apply Classical.byContradiction
    intro q
    have k3 : 0 < (if G (b + 5) k = d ∧ G (b + 6) k = y ∧ G (b + 7) k = gr then (1 : Int) else 0) := k2
    rw [if_neg q] at k3
    omega
  · rintro ⟨k, k0, k1, k2⟩
    have := sz_ge (i := k) (f := fun k => if G (b + 5) k = d ∧ G (b + 6) k = y ∧ G (b + 7) k = gr then 1 else 0) h0 (fun k _ _ => by split <;> omega) ⟨k0, k1⟩
    have e : (if G (b + 5) k = d ∧ G (b + 6) k = y ∧ G (b + 7) k = gr then (1 : Int) else 0) = 1 := if_pos k2
    rw [e] at this
    show 0 < sz (G b 5) (fun k => if G (b + 5) k = d ∧ G (b + 6) k = y ∧ G (b + 7) k = gr then (1 : Int) else 0)
    omega
theorem cntE_cs (G : Mem) (b : Nat) (d : Int) : cntE (G b 5) (G (b + 5)) d = cs G b (fun dd _ _ => if dd = d then 1 else 0) := rfl
theorem cntE_pos {n d : Int} {f : Int → Int} (h0 : 0 ≤ n) (h : 0 < cntE n f d) : ∃ k, 0 ≤ k ∧ k < n ∧ f k = d := by
  obtain ⟨k, k0, k1, k2⟩ := sz_pos h0 h
  refine ⟨k, k0, k1, ?_⟩
  apply Classical.byContradiction
  intro q
  rw [if_neg q] at k2
  omega
theorem remS_die_ne {F : (Int → Int → Int → Int) → Int} {d d' u : Int} (hu : 0 ≤ u) (h : d ≠ d') : remS F d u (fun dd _ _ => if dd = d' then 1 else 0) = 0 := sz_zero hu (fun _ _ _ => if_neg h)
theorem remS_die {F : (Int → Int → Int → Int) → Int} {d u : Int} (hu : 0 ≤ u) : remS F d u (fun dd _ _ => if dd = d then 1 else 0) = u := by
  have e : remS F d u (fun dd _ _ => if dd = d then 1 else 0) = sz u (fun _ => 1) := sz_congr (fun _ _ _ => if_pos rfl)
  rw [e, sz_one hu]
theorem remS_one {F : (Int → Int → Int → Int) → Int} {d u : Int} (hu : 0 ≤ u) : remS F d u (fun _ _ _ => 1) = u := sz_one hu
/-- the coin that is spent next -/
theorem bst_next {G : Mem} {b : Nat} {F : (Int → Int → Int → Int) → Int} {i j s : Int} {u : Int → Int} (h0 : 0 ≤ G b 5) (hj : 0 ≤ j) (hi : 0 ≤ i) (hu : ∀ e, 0 ≤ e → e < i → 0 ≤ u e)
    (hF : ∀ φ, cs G b φ = F φ - sz i (fun e => remS F e (u e) φ) - remS F i j φ) (hs : (0 ≤ s ∧ s < G b 5) ∧ G (b + 5) s = i) (hb : ∀ k, 0 ≤ k → k < G b 5 → G (b + 5) k = i → G (b + 7) k < G (b + 7) s ∨ (G (b + 7) k = G (b + 7) s ∧ G (b + 6) s ≤ G (b + 6) k)) :
    bst (cjs (cnt3 F i) j.toNat) = (G (b + 6) s, G (b + 7) s) := by
  have e : cjs (cnt3 F i) j.toNat = cnt3 (cs G b) i := by
    funext y gr
    have e1 := remS_eq F i y gr j.toNat
    have e2 := hF (fun d1 y1 g1 => if d1 = i ∧ y1 = y ∧ g1 = gr then 1 else 0)
    have e3 : sz i (fun e => remS F e (u e) (fun d1 y1 g1 => if d1 = i ∧ y1 = y ∧ g1 = gr then 1 else 0)) = 0 := sz_zero hi (fun e e0 e1 => remS_ne (hu e e0 e1) (by omega))
    rw [show ((j.toNat : Nat) : Int) = j by omega] at e1
    rw [e1]
    show _ = cs G b (fun d1 y1 g1 => if d1 = i ∧ y1 = y ∧ g1 = gr then 1 else 0)
    rw [e2, e3]
    show F _ - _ = F _ - 0 - _
    omega
  rw [e]
  refine bst_of ⟨(cnt3_pos h0).mpr ⟨s, hs.1.1, hs.1.2, hs.2, rfl, rfl⟩, fun y' g' h => ?_⟩
  obtain ⟨k, k0, k1, k2, rfl, rfl⟩ := (cnt3_pos h0).mp h
  exact hb k k0 k1 k2
/-- the State when a coin has left it for a payment -/
theorem StI_spent {G G' : Mem} {b : Nat} {s v : Int} (hI : StI G b) (hs : 0 ≤ s ∧ s < G b 5) (he : G' = rmvC (upd2 G b 13 v) b s) : StI G' b ∧ (∀ φ, cs G' b φ = cs G b φ - φ (G (b + 5) s) (G (b + 6) s) (G (b + 7) s)) ∧ G' b 13 = v ∧ ∀ i w, i ≠ b + 5 ∧ i ≠ b + 6 ∧ i ≠ b + 7 → ¬ (i = b ∧ (w = 5 ∨ w = 13)) → G' i w = G i w := by
  subst he
  have h5 : upd2 G b 13 v b 5 = G b 5 := upd2_z (by omega)
  have hk : ∀ j z, j ≠ b → upd2 G b 13 v j z = G j z := fun j z h => upd2_i h
  have hC : CkI (upd2 G b 13 v) b := by
    obtain ⟨a1, a2⟩ := StI_Ck hI
    refine ⟨by rw [h5]; exact a1, fun k k0 k1 => ?_⟩
    rw [h5] at k1
    rw [hk (b + 5) k (by omega), hk (b + 6) k (by omega), hk (b + 7) k (by omega), show upd2 G b 13 v b 0 = G b 0 from upd2_z (by omega), show upd2 G b 13 v b 10 = G b 10 from upd2_z (by omega)]
    exact a2 k k0 k1
  have hfr : ∀ i w, i ≠ b + 5 ∧ i ≠ b + 6 ∧ i ≠ b + 7 → ¬ (i = b ∧ (w = 5 ∨ w = 13)) → rmvC (upd2 G b 13 v) b s i w = G i w := fun i w a c => (rmvC_o a (by omega)).trans (if_neg (by omega))
  refine ⟨StI_coins hI (rmvC_Ck (by rw [h5]; exact hs) hC) (hfr b 0 (by omega) (by omega)) ?_ (fun z z0 z1 => ?_), fun φ => ?_, ?_, hfr⟩
  · rw [hfr b 10 (by omega) (by omega)]
    exact StI_y hI
  · rw [hfr (b + 1) z (by omega) (by omega), hfr (b + 2) z (by omega) (by omega), hfr (b + 3) z (by omega) (by omega), hfr (b + 4) z (by omega) (by omega)]
    exact ⟨rfl, rfl, (StI_d hI z0 z1).2.2, rfl⟩
  · rw [rmvC_cs (by rw [h5]; exact hs), hk (b + 5) s (by omega), hk (b + 6) s (by omega), hk (b + 7) s (by omega)]
    rw [cs_congr (G' := upd2 G b 13 v) (G := G) h5 (fun k _ _ => ⟨hk _ _ (by omega), hk _ _ (by omega), hk _ _ (by omega)⟩)]
  · rw [rmvC_o (by omega) (by omega), upd2_s]

set_option maxHeartbeats 4000000 in
set_option maxRecDepth 100000 in
theorem c_X2_melt {g : GT} {b : Nat} {G : Mem} (hb : isS b) (hI : StI G b) {y : Int} (h_y : -2147483648 ≤ y ∧ y < 2147483648) : Ctr g yX2_melt cX2_melt 4 (some FieldType.int) (rmL 2 0 0) [vR g b, vI y] G (RP (fun r G' => r = mlt (G b 5) (G (b + 5)) (G (b + 2)) (G (b + 6)) (G (b + 7)) y ∧ StI G' b ∧ (∀ φ, cs G' b φ = cs G b (fun dd yy gg => if yy = y then 0 else φ dd yy gg)) ∧ G' b 9 = G b 9 + r ∧ G' b 14 = G b 14 + (cs G b (fun dd _ _ => G (b + 2) dd) - cs G b (fun dd yy _ => if yy = y then 0 else G (b + 2) dd) - r) ∧ ∀ i w, i ≠ b + 5 ∧ i ≠ b + 6 ∧ i ≠ b + 7 → ¬ (i = b ∧ (w = 5 ∨ w = 9 ∨ w = 14)) → G' i w = G i w)) NoX := by
  refine ctr_of [some (vR g b), some (vI y), none, none] (by decide) (Nat.le_of_ble_eq_true rfl) rfl (fun γ E => ?_)
  show V γ g cX2_melt 4 RX2 (rmL 2 0 0) G 0 0 0 [some (vR g b), some (vI y), none, none] []
  have hn := StI_n hI
  have hc := StI_c hI
  have hy := StI_y hI
  refine v_aload_n (pc := 0) rfl dX2_melt_0 ?_
  refine v_iload_n (pc := 1) rfl dX2_melt_1 ?_
  refine v_callV (pc := 2) (rest := []) (c_X2_gramsFromMelting hb hI h_y) iok_X2_gramsFromMelting wM_X2_91 (kdS hb) (by decide) (ltS hb 0 (by decide)) rfl (rmOk (by decide) (by decide)) ⟨Nat.le_of_ble_eq_true rfl, Nat.le_of_ble_eq_true rfl⟩ (Nat.le_of_ble_eq_true rfl) rfl dX2_melt_2 (fun v G' hq => ?_) (fun _ _ h => h.elim)
  obtain ⟨rfl, hG9⟩ := hq
  rw [hG9]
  obtain ⟨r1, h_r1⟩ : ∃ x, x = (mlt (G b 5) (G (b + 5)) (G (b + 2)) (G (b + 6)) (G (b + 7)) y) := ⟨_, rfl⟩
  refine v_stk (st' := [vI r1]) (by rw [h_r1]; rfl) ?_
  refine v_istore_n (pc := 5) (by decide) rfl dX2_melt_5 ?_
  refine v_aload_n (pc := 6) rfl dX2_melt_6 ?_
  refine v_callV (pc := 7) (rest := []) (c_X2_weightOfCoins hb hI) iok_X2_weightOfCoins wM_X2_94 (kdS hb) (by decide) (ltS hb 0 (by decide)) rfl (rmOk (by decide) (by decide)) ⟨Nat.le_of_ble_eq_true rfl, Nat.le_of_ble_eq_true rfl⟩ (Nat.le_of_ble_eq_true rfl) rfl dX2_melt_7 (fun v G' hq => ?_) (fun _ _ h => h.elim)
  obtain ⟨rfl, hG9⟩ := hq
  rw [hG9]
  obtain ⟨w0, h_w0⟩ : ∃ x, x = (wgt (G b 5) (G (b + 5)) (G (b + 2))) := ⟨_, rfl⟩
  refine v_stk (st' := [vI w0]) (by rw [h_w0]; rfl) ?_
  refine v_istore_n (pc := 10) (by decide) rfl dX2_melt_10 ?_
  refine v_aload_n (pc := 11) rfl dX2_melt_11 ?_
  refine v_iload_n (pc := 12) rfl dX2_melt_12 ?_
  refine v_callV (pc := 13) (rest := []) (c_X2_removeCoinsStruckIn hb hI h_y) iok_X2_removeCoinsStruckIn wM_X2_97 (kdS hb) (by decide) (ltS hb 0 (by decide)) rfl (rmOk (by decide) (by decide)) ⟨Nat.le_of_ble_eq_true rfl, Nat.le_of_ble_eq_true rfl⟩ (Nat.le_of_ble_eq_true rfl) rfl dX2_melt_13 (fun v G1 hq => ?_) (fun _ _ h => h.elim)
  obtain ⟨rfl, hq⟩ := hq
  refine v_stk (st' := []) rfl ?_
  obtain ⟨hF, hC, hG⟩ := hq
  have e9 := hG b 9 (by omega) (by omega)
  have e14 := hG b 14 (by omega) (by omega)
  have hf9 : ∀ v : Int, ∀ i w, ¬ (i = b ∧ w = 9) → upd2 G1 b 9 v i w = G1 i w := fun v i w h => if_neg h
  have hI1 : ∀ v : Int, StI (upd2 G1 b 9 v) b := fun v => StI_coins hI ⟨by rw [hf9 v b 5 (by omega)]; exact hC.1, fun k k0 k1 => by rw [hf9 v b 5 (by omega)] at k1; rw [hf9 v (b + 5) k (by omega), hf9 v (b + 6) k (by omega), hf9 v (b + 7) k (by omega), hf9 v b 0 (by omega), hf9 v b 10 (by omega)]; exact hC.2 k k0 k1⟩ ((hf9 v b 0 (by omega)).trans (hG b 0 (by omega) (by omega))) (by rw [hf9 v b 10 (by omega), hG b 10 (by omega) (by omega)]; exact hy) (fun z z0 z1 => by
    rw [hf9 v (b + 1) z (by omega), hf9 v (b + 2) z (by omega), hf9 v (b + 3) z (by omega), hf9 v (b + 4) z (by omega), hG (b + 1) z (by omega) (by omega), hG (b + 2) z (by omega) (by omega), hG (b + 3) z (by omega) (by omega), hG (b + 4) z (by omega) (by omega)]
    exact ⟨rfl, rfl, (StI_d hI z0 z1).2.2, rfl⟩)
  refine v_aload_n (pc := 16) rfl dX2_melt_16 ?_
  refine v_dup (pc := 17) rfl dX2_melt_17 ?_
  refine v_get (pc := 18) 9 fd_X2_46 (kdS hb) (ltS hb 0 (by decide)) (tgS hb 9 none rfl) rfl dX2_melt_18 ?_
  refine v_iload_n (pc := 21) rfl dX2_melt_21 ?_
  refine v_iadd (pc := 22) dX2_melt_22 ?_
  refine v_put (pc := 23) 9 pd_X2_46 (kdS hb) (ltS hb 0 (by decide)) (tgS hb 9 none rfl) rfl dX2_melt_23 ?_
  refine v_aload_n (pc := 26) rfl dX2_melt_26 ?_
  refine v_dup (pc := 27) rfl dX2_melt_27 ?_
  refine v_get (pc := 28) 14 fd_X2_61 (kdS hb) (ltS hb 0 (by decide)) (tgS hb 14 none rfl) rfl dX2_melt_28 ?_
  refine v_top (b := G1 b 14) (upd2_z (by decide)) ?_
  refine v_iload_n (pc := 31) rfl dX2_melt_31 ?_
  refine v_aload_n (pc := 32) rfl dX2_melt_32 ?_
  refine v_callV (pc := 33) (rest := [vI w0, vI (G1 b 14), vR g b]) (c_X2_weightOfCoins hb (hI1 (G1 b 9 + r1))) iok_X2_weightOfCoins wM_X2_94 (kdS hb) (by decide) (ltS hb 0 (by decide)) rfl (rmOk (by decide) (by decide)) ⟨Nat.le_of_ble_eq_true rfl, Nat.le_of_ble_eq_true rfl⟩ (Nat.le_of_ble_eq_true rfl) rfl dX2_melt_33 (fun v G' hq => ?_) (fun _ _ h => h.elim)
  obtain ⟨rfl, hG9⟩ := hq
  rw [hG9]
  obtain ⟨w1, h_w1⟩ : ∃ x, x = (wgt ((upd2 G1 b 9 ((G1 b 9) + r1)) b 5) ((upd2 G1 b 9 ((G1 b 9) + r1)) (b + 5)) ((upd2 G1 b 9 ((G1 b 9) + r1)) (b + 2))) := ⟨_, rfl⟩
  refine v_stk (st' := [vI w1, vI w0, vI (G1 b 14), vR g b]) (by rw [h_w1]; rfl) ?_
  have hw1 : w1 = cs G b (fun dd yy _ => if yy = y then 0 else G (b + 2) dd) := by
    rw [h_w1, ← hF (fun dd _ _ => G (b + 2) dd)]
    unfold wgt cs
    rw [hf9 _ b 5 (by omega)]
    exact sz_congr (fun k _ _ => by rw [hf9 _ (b + 5) k (by omega), hf9 _ (b + 2) _ (by omega), hG (b + 2) _ (by omega) (by omega)])
  have hw0 : w0 = cs G b (fun dd _ _ => G (b + 2) dd) := h_w0
  refine v_isub (pc := 36) dX2_melt_36 ?_
  refine v_iload_n (pc := 37) rfl dX2_melt_37 ?_
  refine v_isub (pc := 38) dX2_melt_38 ?_
  refine v_iadd (pc := 39) dX2_melt_39 ?_
  refine v_put (pc := 40) 14 pd_X2_61 (kdS hb) (ltS hb 0 (by decide)) (tgS hb 14 none rfl) rfl dX2_melt_40 ?_
  refine v_iload_n (pc := 43) rfl dX2_melt_43 ?_
  exact v_iret (pc := 44) E (⟨r1, rfl, h_r1, StI_coins hI ⟨by (repeat (first | rw [upd2_s] | rw [cpy2_s (by omega)] | rw [upd2_i (by omega)] | rw [upd2_z (by omega)] | rw [cpy2_i (by omega)])); exact hC.1, fun k k0 k1 => by rw [show (upd2 (upd2 G1 b 9 ((G1 b 9) + r1)) b 14 ((G1 b 14) + ((w0 - w1) - r1))) b 5 = G1 b 5 from (if_neg (by omega)).trans (if_neg (by omega))] at k1; (repeat (first | rw [upd2_s] | rw [cpy2_s (by omega)] | rw [upd2_i (by omega)] | rw [upd2_z (by omega)] | rw [cpy2_i (by omega)])); exact hC.2 k k0 k1⟩ (by (repeat (first | rw [upd2_s] | rw [cpy2_s (by omega)] | rw [upd2_i (by omega)] | rw [upd2_z (by omega)] | rw [cpy2_i (by omega)])); exact hG b 0 (by omega) (by omega)) (by (repeat (first | rw [upd2_s] | rw [cpy2_s (by omega)] | rw [upd2_i (by omega)] | rw [upd2_z (by omega)] | rw [cpy2_i (by omega)])); rw [hG b 10 (by omega) (by omega)]; exact hy) (fun z z0 z1 => by (repeat (first | rw [upd2_s] | rw [cpy2_s (by omega)] | rw [upd2_i (by omega)] | rw [upd2_z (by omega)] | rw [cpy2_i (by omega)])); rw [hG (b + 1) z (by omega) (by omega), hG (b + 2) z (by omega) (by omega), hG (b + 3) z (by omega) (by omega), hG (b + 4) z (by omega) (by omega)]; exact ⟨rfl, rfl, (StI_d hI z0 z1).2.2, rfl⟩), fun φ => (cs_congr (by (repeat (first | rw [upd2_s] | rw [cpy2_s (by omega)] | rw [upd2_i (by omega)] | rw [upd2_z (by omega)] | rw [cpy2_i (by omega)]))) (fun k _ _ => ⟨by (repeat (first | rw [upd2_s] | rw [cpy2_s (by omega)] | rw [upd2_i (by omega)] | rw [upd2_z (by omega)] | rw [cpy2_i (by omega)])), by (repeat (first | rw [upd2_s] | rw [cpy2_s (by omega)] | rw [upd2_i (by omega)] | rw [upd2_z (by omega)] | rw [cpy2_i (by omega)])), by (repeat (first | rw [upd2_s] | rw [cpy2_s (by omega)] | rw [upd2_i (by omega)] | rw [upd2_z (by omega)] | rw [cpy2_i (by omega)]))⟩)).trans (hF φ), by (repeat (first | rw [upd2_s] | rw [cpy2_s (by omega)] | rw [upd2_i (by omega)] | rw [upd2_z (by omega)] | rw [cpy2_i (by omega)])); omega, by (repeat (first | rw [upd2_s] | rw [cpy2_s (by omega)] | rw [upd2_i (by omega)] | rw [upd2_z (by omega)] | rw [cpy2_i (by omega)])); omega, (fun i w a c => by rw [show (upd2 (upd2 G1 b 9 ((G1 b 9) + r1)) b 14 ((G1 b 14) + ((w0 - w1) - r1))) i w = G1 i w from (if_neg (by omega)).trans (if_neg (by omega))]; exact hG i w a (by omega))⟩) (Nat.le_of_ble_eq_true rfl) (Nat.le_of_ble_eq_true rfl) dX2_melt_44
set_option maxHeartbeats 4000000 in
set_option maxRecDepth 100000 in
theorem c_X2_spendCoin {g : GT} {b : Nat} {G : Mem} (hb : isS b) (hI : StI G b) {d : Int} (h_d : 0 ≤ d ∧ d < G b 0) (hex : ∃ k, 0 ≤ k ∧ k < G b 5 ∧ G (b + 5) k = d) : Ctr g yX2_spendCoin cX2_spendCoin 4 (none : Option FieldType) (rmL 1 0 0) [vR g b, vI d] G (VP (fun G' => ∃ s, ((0 ≤ s ∧ s < G b 5) ∧ G (b + 5) s = d) ∧ (∀ k, 0 ≤ k → k < G b 5 → G (b + 5) k = d → G (b + 7) k < G (b + 7) s ∨ (G (b + 7) k = G (b + 7) s ∧ G (b + 6) s ≤ G (b + 6) k)) ∧ G' = rmvC (upd2 G b 13 (G b 13 + G (b + 2) d)) b s)) NoX := by
  refine ctr_of [some (vR g b), some (vI d), none, none] (by decide) (Nat.le_of_ble_eq_true rfl) rfl (fun γ E => ?_)
  show V γ g cX2_spendCoin 4 RX2 (rmL 1 0 0) G 0 0 0 [some (vR g b), some (vI d), none, none] []
  have hn := StI_n hI
  have hc := StI_c hI
  have hy := StI_y hI
  refine v_iconst (pc := 0) (z := (-1)) dX2_spendCoin_0 ?_
  refine v_istore_n (pc := 1) (by decide) rfl dX2_spendCoin_1 ?_
  refine v_iconst (pc := 2) (z := 0) dX2_spendCoin_2 ?_
  refine v_istore_n (pc := 3) (by decide) rfl dX2_spendCoin_3 ?_
  have lp4 : ∀ (m4 : Nat) (i : Int) (s : Int), (0 ≤ i ∧ i ≤ G b 5) → ((s = -1 ∧ ∀ k, 0 ≤ k → k < i → G (b + 5) k ≠ d) ∨ (((0 ≤ s ∧ s < i) ∧ G (b + 5) s = d) ∧ (∀ k, 0 ≤ k → k < i → G (b + 5) k = d → G (b + 7) k < G (b + 7) s ∨ (G (b + 7) k = G (b + 7) s ∧ G (b + 6) s ≤ G (b + 6) k)))) → ((G b 5 - i).toNat) < m4 → V γ g cX2_spendCoin 4 RX2 (rmL 1 0 0) G 0 0 4 [some (vR g b), some (vI d), some (vI s), some (vI i)] [] := by
    intro m4
    induction m4 with
    | zero => intro i s; intros; omega
    | succ m4 ih4 =>
      intro i s h0 hs hm4
      have hsr : -1 ≤ s ∧ s < i + 1 := by rcases hs with q | q <;> omega
      refine v_iload_n (pc := 4) rfl dX2_spendCoin_4 ?_
      refine v_aload_n (pc := 5) rfl dX2_spendCoin_5 ?_
      refine v_get (pc := 6) 5 fd_X2_43 (kdS hb) (ltS hb 0 (by decide)) (tgS hb 5 none rfl) rfl dX2_spendCoin_6 ?_
      refine v_icmp_ge (pc := 9) (tgt := 44) (by omega) dX2_spendCoin_9 (by decide) (fun h1 => ?_) (fun h1 => ?_)
      · skip
        refine v_iload_n (pc := 44) rfl dX2_spendCoin_44 ?_
        refine v_iconst (pc := 45) (z := (-1)) dX2_spendCoin_45 ?_
        refine v_icmp_eq (pc := 46) (tgt := 69) (by omega) dX2_spendCoin_46 (by decide) (fun h2 => ?_) (fun h2 => ?_)
        · skip
          exact absurd hex (fun ⟨k, k0, k1, k2⟩ => by rcases hs with q | q <;> first | exact q.2 k k0 (by omega) k2 | omega)
        · skip
          have hs2 := hs.resolve_left (fun q => by omega)
          have hii : i = G b 5 := by omega
          have q1 := StI_d hI (i := d) (by omega) (by omega)
          refine v_aload_n (pc := 49) rfl dX2_spendCoin_49 ?_
          refine v_dup (pc := 50) rfl dX2_spendCoin_50 ?_
          refine v_get (pc := 51) 13 fd_X2_58 (kdS hb) (ltS hb 0 (by decide)) (tgS hb 13 none rfl) rfl dX2_spendCoin_51 ?_
          refine v_aload_n (pc := 54) rfl dX2_spendCoin_54 ?_
          refine v_getR (pc := 55) (j := b + 2) fd_X2_15 (kdS hb) (ltS hb 0 (by decide)) (tgS hb 2 _ rfl) dX2_spendCoin_55 ?_
          refine v_iload_n (pc := 58) rfl dX2_spendCoin_58 ?_
          refine v_iald (pc := 59) (N := 5) (kdS_i hb 2 (by decide)) (lnS_5 hb 2 (by decide)) (ltS hb 2 (by decide)) (by omega) (by decide) dX2_spendCoin_59 ?_
          have r3 := StI_d hI (i := d) (by omega) (by omega)
          refine v_iadd (pc := 60) dX2_spendCoin_60 ?_
          refine v_put (pc := 61) 13 pd_X2_58 (kdS hb) (ltS hb 0 (by decide)) (tgS hb 13 none rfl) rfl dX2_spendCoin_61 ?_
          refine v_aload_n (pc := 64) rfl dX2_spendCoin_64 ?_
          refine v_iload_n (pc := 65) rfl dX2_spendCoin_65 ?_
          refine v_callV (pc := 66) (rest := []) (c_X2_removeCoin hb (G := (upd2 G b 13 ((G b 13) + (G (b + 2) d)))) (c := s) (by rw [upd2_z (by omega)]; omega) (by omega)) iok_X2_removeCoin wM_X2_101 (kdS hb) (by decide) (ltS hb 0 (by decide)) rfl (rmOk (by decide) (by decide)) ⟨Nat.le_of_ble_eq_true rfl, Nat.le_of_ble_eq_true rfl⟩ (Nat.le_of_ble_eq_true rfl) rfl dX2_spendCoin_66 (fun v G' hq => ?_) (fun _ _ h => h.elim)
          obtain ⟨rfl, hG9⟩ := hq
          rw [hG9]
          refine v_stk (st' := []) rfl ?_
          exact v_vret (pc := 69) E (⟨rfl, s, ⟨by omega, hs2.1.2⟩, by rw [← hii]; exact hs2.2, rfl⟩) (Nat.le_of_ble_eq_true rfl) (Nat.le_of_ble_eq_true rfl) dX2_spendCoin_69
      · skip
        refine v_aload_n (pc := 12) rfl dX2_spendCoin_12 ?_
        refine v_getR (pc := 13) (j := b + 5) fd_X2_24 (kdS hb) (ltS hb 0 (by decide)) (tgS hb 6 _ rfl) dX2_spendCoin_13 ?_
        refine v_iload_n (pc := 16) rfl dX2_spendCoin_16 ?_
        refine v_iald (pc := 17) (N := 40) (kdS_i hb 5 (by decide)) (lnS_40 hb 5 (by decide)) (ltS hb 5 (by decide)) (by omega) (by decide) dX2_spendCoin_17 ?_
        have r4 := StI_k hI (k := i) (by omega) (by omega)
        refine v_iload_n (pc := 18) rfl dX2_spendCoin_18 ?_
        refine v_icmp_ne (pc := 19) (tgt := 38) (by omega) dX2_spendCoin_19 (by decide) (fun h5 => ?_) (fun h5 => ?_)
        · skip
          refine v_iinc (pc := 38) (y := 1) rfl (by decide) rfl dX2_spendCoin_38 ?_
          refine v_goto (pc := 41) (tgt := 4) dX2_spendCoin_41 (by decide) ?_
          exact ih4 (i + 1) s (by omega) (by rcases hs with ⟨e1, e2⟩ | ⟨e1, e2⟩ <;> first | exact Or.inl ⟨by omega, fun k k0 k1 => (Classical.em (k = i)).elim (fun e => by rw [e]; omega) (fun e => e2 k k0 (by omega))⟩ | exact Or.inr ⟨⟨by omega, by omega⟩, fun k k0 k1 k2 => (Classical.em (k = i)).elim (fun e => by rw [e] at k2 ⊢; omega) (fun e => by first | (have := e2 k k0 (by omega) k2; omega) | exact absurd k2 (e2 k k0 (by omega)))⟩) (by omega)
        · skip
          refine v_iload_n (pc := 22) rfl dX2_spendCoin_22 ?_
          refine v_iconst (pc := 23) (z := (-1)) dX2_spendCoin_23 ?_
          refine v_icmp_eq (pc := 24) (tgt := 36) (by omega) dX2_spendCoin_24 (by decide) (fun h6 => ?_) (fun h6 => ?_)
          · skip
            refine v_iload_n (pc := 36) rfl dX2_spendCoin_36 ?_
            refine v_istore_n (pc := 37) (by decide) rfl dX2_spendCoin_37 ?_
            refine v_iinc (pc := 38) (y := 1) rfl (by decide) rfl dX2_spendCoin_38 ?_
            refine v_goto (pc := 41) (tgt := 4) dX2_spendCoin_41 (by decide) ?_
            exact ih4 (i + 1) i (by omega) (by rcases hs with ⟨e1, e2⟩ | ⟨e1, e2⟩ <;> first | exact Or.inl ⟨by omega, fun k k0 k1 => (Classical.em (k = i)).elim (fun e => by rw [e]; omega) (fun e => e2 k k0 (by omega))⟩ | exact Or.inr ⟨⟨by omega, by omega⟩, fun k k0 k1 k2 => (Classical.em (k = i)).elim (fun e => by rw [e] at k2 ⊢; omega) (fun e => by first | (have := e2 k k0 (by omega) k2; omega) | exact absurd k2 (e2 k k0 (by omega)))⟩) (by omega)
          · skip
            refine v_aload_n (pc := 27) rfl dX2_spendCoin_27 ?_
            refine v_iload_n (pc := 28) rfl dX2_spendCoin_28 ?_
            refine v_iload_n (pc := 29) rfl dX2_spendCoin_29 ?_
            refine v_callV (pc := 30) (rest := []) (c_X2_isSpentBefore hb hI (c := i) (o := s) (by omega) (by rcases hs with q | q <;> omega)) iok_X2_isSpentBefore wM_X2_107 (kdS hb) (by decide) (ltS hb 0 (by decide)) rfl (rmOk (by decide) (by decide)) ⟨Nat.le_of_ble_eq_true rfl, Nat.le_of_ble_eq_true rfl⟩ (Nat.le_of_ble_eq_true rfl) rfl dX2_spendCoin_30 (fun v G' hq => ?_) (fun _ _ h => h.elim)
            obtain ⟨rfl, hG9⟩ := hq
            rw [hG9]
            refine v_stk (st' := [vI (bI (G (b + 7) s < G (b + 7) i ∨ (G (b + 7) i = G (b + 7) s ∧ G (b + 6) i < G (b + 6) s)))]) rfl ?_
            refine v_if_eq (pc := 33) (tgt := 38) (bI_r _) dX2_spendCoin_33 (by decide) (fun h7 => ?_) (fun h7 => ?_)
            · skip
              have h7 := bI_eq0.mp h7
              refine v_iinc (pc := 38) (y := 1) rfl (by decide) rfl dX2_spendCoin_38 ?_
              refine v_goto (pc := 41) (tgt := 4) dX2_spendCoin_41 (by decide) ?_
              exact ih4 (i + 1) s (by omega) (by rcases hs with ⟨e1, e2⟩ | ⟨e1, e2⟩ <;> first | exact Or.inl ⟨by omega, fun k k0 k1 => (Classical.em (k = i)).elim (fun e => by rw [e]; omega) (fun e => e2 k k0 (by omega))⟩ | exact Or.inr ⟨⟨by omega, by omega⟩, fun k k0 k1 k2 => (Classical.em (k = i)).elim (fun e => by rw [e] at k2 ⊢; omega) (fun e => by first | (have := e2 k k0 (by omega) k2; omega) | exact absurd k2 (e2 k k0 (by omega)))⟩) (by omega)
            · skip
              have h7 := bI_n0 h7
              refine v_iload_n (pc := 36) rfl dX2_spendCoin_36 ?_
              refine v_istore_n (pc := 37) (by decide) rfl dX2_spendCoin_37 ?_
              refine v_iinc (pc := 38) (y := 1) rfl (by decide) rfl dX2_spendCoin_38 ?_
              refine v_goto (pc := 41) (tgt := 4) dX2_spendCoin_41 (by decide) ?_
              exact ih4 (i + 1) i (by omega) (by rcases hs with ⟨e1, e2⟩ | ⟨e1, e2⟩ <;> first | exact Or.inl ⟨by omega, fun k k0 k1 => (Classical.em (k = i)).elim (fun e => by rw [e]; omega) (fun e => e2 k k0 (by omega))⟩ | exact Or.inr ⟨⟨by omega, by omega⟩, fun k k0 k1 k2 => (Classical.em (k = i)).elim (fun e => by rw [e] at k2 ⊢; omega) (fun e => by first | (have := e2 k k0 (by omega) k2; omega) | exact absurd k2 (e2 k k0 (by omega)))⟩) (by omega)
  refine v_loc (L' := [some (vR g b), some (vI d), some (vI (-1)), some (vI 0)]) (⟨rfl, rfl, rfl, rfl, trivial⟩) ?_
  exact lp4 _ 0 (-1) (by omega) (Or.inl ⟨rfl, fun k a c => absurd c (by omega)⟩) (Nat.lt_succ_self _)
