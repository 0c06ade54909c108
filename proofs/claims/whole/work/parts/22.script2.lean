theorem upd2_n {G : Mem} {i j : Nat} {z w v : Int} (h : ¬ (j = i ∧ w = z)) : upd2 G i z v j w = G j w := if_neg h
theorem nE_r {S : Int → Int} {n p : Int} (h : p ≤ n) : p ≤ nE S n p ∧ nE S n p ≤ n := by
  unfold nE
  split
  · split <;> omega
  · omega
/-- the number behind "year" -/
def yE (S : Int → Int) (n p : Int) : Int := if sg S n p 32 then nE S n (p + 1) else p
def yV (S : Int → Int) (n p : Int) : Int := if sg S n p 32 then nV S n (p + 1) else 1
theorem yE_r {S : Int → Int} {n p : Int} (h : p ≤ n) : p ≤ yE S n p ∧ yE S n p ≤ n := by
  unfold yE
  split
  · have := nE_r (S := S) (n := n) (p := p + 1) (by omega); omega
  · omega

set_option maxHeartbeats 4000000 in
set_option maxRecDepth 100000 in
theorem c_X1_readNumber {g : GT} {G : Mem} {S : Int → Int} {n p c : Int} (h : Sc G S n p c) : Ctr g yX1_readNumber cX1_readNumber 1 (some FieldType.boolean) (rmL 2 0 0) [vR g 2] G (RP (fun r G' => r = bI (dg S n p) ∧ G' 2 2 = nE S n p ∧ (dg S n p → G' 104 c = nV S n p) ∧ ∀ i z, ¬ (i = 2 ∧ z = 2) → ¬ (i = 104 ∧ z = c) → G' i z = G i z)) NoX := by
  refine ctr_of [some (vR g 2)] (by decide) (Nat.le_of_ble_eq_true rfl) rfl (fun γ E => ?_)
  show V γ g cX1_readNumber 1 RX1 (rmL 2 0 0) G 0 0 0 [some (vR g 2)] []
  have hSc := h
  obtain ⟨rfl, rfl, rfl, rfl, hb, hS⟩ := h
  refine v_aload_n (pc := 0) rfl dX1_readNumber_0 ?_
  by_cases hd1 : dg (G 102) (G 2 1) (G 2 2)
  · skip
    refine v_callV (pc := 1) (rest := []) (c_X1_readDigit_t hSc hd1) iok_X1_readDigit wM_X1_52 (rfl) (by decide) (by decide) rfl (rmOk (by decide) (by decide)) ⟨Nat.le_of_ble_eq_true rfl, Nat.le_of_ble_eq_true rfl⟩ (Nat.le_of_ble_eq_true rfl) rfl dX1_readNumber_1 (fun v G' hq => ?_) (fun _ _ h => h.elim)
    obtain ⟨rfl, hG9⟩ := hq
    rw [hG9]
    refine v_stk (st' := [vI 1]) rfl ?_
    refine v_if_ne (pc := 4) (tgt := 9) (by omega) dX1_readNumber_4 (by decide) (fun _ => ?_) (fun h2 => absurd h2 (by decide))
    have hSc2 := Sc_row (z := G 2 3) (v := G 102 (G 2 2) - 48) (Sc_pos (e := G 2 2 + 1) hSc (by omega)) (i := 104) (by decide)
    refine v_aload_n (pc := 9) rfl dX1_readNumber_9 ?_
    by_cases hd3 : dg (G 102) (G 2 1) (G 2 2 + 1)
    · skip
      refine v_callV (pc := 10) (rest := []) (c_X1_isAtDigit_t hSc2 hd3) iok_X1_isAtDigit wM_X1_95 (rfl) (by decide) (by decide) rfl (rmOk (by decide) (by decide)) ⟨Nat.le_of_ble_eq_true rfl, Nat.le_of_ble_eq_true rfl⟩ (Nat.le_of_ble_eq_true rfl) rfl dX1_readNumber_10 (fun v G' hq => ?_) (fun _ _ h => h.elim)
      obtain ⟨rfl, hG9⟩ := hq
      rw [hG9]
      refine v_stk (st' := [vI 1]) rfl ?_
      refine v_if_eq (pc := 13) (tgt := 42) (by omega) dX1_readNumber_13 (by decide) (fun h4 => absurd h4 (by decide)) (fun _ => ?_)
      refine v_aload_n (pc := 16) rfl dX1_readNumber_16 ?_
      refine v_getR (pc := 17) (j := 104) fd_X1_19 (rfl) (by decide) rfl dX1_readNumber_17 ?_
      refine v_aload_n (pc := 20) rfl dX1_readNumber_20 ?_
      refine v_get (pc := 21) 3 fd_X1_32 (rfl) (by decide) rfl rfl dX1_readNumber_21 ?_
      refine v_top (b := G 2 3) ((upd2_i (by decide)).trans (upd2_z (by decide))) ?_
      refine v_bipush (pc := 24) (z := 10) rfl dX1_readNumber_24 ?_
      refine v_aload_n (pc := 26) rfl dX1_readNumber_26 ?_
      refine v_getR (pc := 27) (j := 104) fd_X1_19 (rfl) (by decide) rfl dX1_readNumber_27 ?_
      refine v_aload_n (pc := 30) rfl dX1_readNumber_30 ?_
      refine v_get (pc := 31) 3 fd_X1_32 (rfl) (by decide) rfl rfl dX1_readNumber_31 ?_
      refine v_top (b := G 2 3) ((upd2_i (by decide)).trans (upd2_z (by decide))) ?_
      refine v_iald (pc := 34) (N := 60) rfl rfl (by decide) (by omega) (by decide) dX1_readNumber_34 ?_
      refine v_top (b := G 102 (G 2 2) - 48) (upd2_s _ _ _ _) ?_
      refine v_imul (pc := 35) dX1_readNumber_35 ?_
      refine v_aload_n (pc := 36) rfl dX1_readNumber_36 ?_
      refine v_callV (pc := 37) (rest := [vI (10 * (G 102 (G 2 2) - 48)), vI (G 2 3), vR g 104]) (c_X1_takeDigit hSc2 (by assumption)) iok_X1_takeDigit wM_X1_98 (rfl) (by decide) (by decide) rfl (rmOk (by decide) (by decide)) ⟨Nat.le_of_ble_eq_true rfl, Nat.le_of_ble_eq_true rfl⟩ (Nat.le_of_ble_eq_true rfl) rfl dX1_readNumber_37 (fun v G' hq => ?_) (fun _ _ h => h.elim)
      obtain ⟨rfl, hG9⟩ := hq
      rw [hG9]
      refine v_stk (st' := [vI (G 102 (G 2 2 + 1) - 48), vI (10 * (G 102 (G 2 2) - 48)), vI (G 2 3), vR g 104]) rfl ?_
      refine v_iadd (pc := 40) dX1_readNumber_40 ?_
      refine v_iast (pc := 41) (N := 60) rfl rfl (by decide) (by omega) (by decide) dX1_readNumber_41 ?_
      refine v_iconst (pc := 42) (z := 1) dX1_readNumber_42 ?_
      exact v_bret (pc := 43) E (by decide) (⟨_, rfl, by rw [bI_t (by assumption)], by unfold nE; rw [if_pos (by assumption), if_pos (by assumption)]; ((repeat (first | rw [upd2_s] | rw [upd2_i (by omega)] | rw [upd2_z (by omega)])) <;> omega), fun _ => by unfold nV; rw [if_pos (by assumption)]; ((repeat (first | rw [upd2_s] | rw [upd2_i (by omega)] | rw [upd2_z (by omega)])) <;> omega), fun i z _ _ => by (repeat rw [upd2_n (by omega)])⟩) (Nat.le_of_ble_eq_true rfl) (Nat.le_of_ble_eq_true rfl) dX1_readNumber_43
    · skip
      refine v_callV (pc := 10) (rest := []) (c_X1_isAtDigit_f hSc2 hd3) iok_X1_isAtDigit wM_X1_95 (rfl) (by decide) (by decide) rfl (rmOk (by decide) (by decide)) ⟨Nat.le_of_ble_eq_true rfl, Nat.le_of_ble_eq_true rfl⟩ (Nat.le_of_ble_eq_true rfl) rfl dX1_readNumber_10 (fun v G' hq => ?_) (fun _ _ h => h.elim)
      obtain ⟨rfl, hG9⟩ := hq
      rw [hG9]
      refine v_stk (st' := [vI 0]) rfl ?_
      refine v_if_eq (pc := 13) (tgt := 42) (by omega) dX1_readNumber_13 (by decide) (fun _ => ?_) (fun h5 => absurd h5 (by decide))
      refine v_iconst (pc := 42) (z := 1) dX1_readNumber_42 ?_
      exact v_bret (pc := 43) E (by decide) (⟨_, rfl, by rw [bI_t (by assumption)], by unfold nE; rw [if_pos (by assumption), if_neg (by assumption)]; ((repeat (first | rw [upd2_s] | rw [upd2_i (by omega)] | rw [upd2_z (by omega)])) <;> omega), fun _ => by unfold nV; rw [if_neg (by assumption)]; ((repeat (first | rw [upd2_s] | rw [upd2_i (by omega)] | rw [upd2_z (by omega)])) <;> omega), fun i z _ _ => by (repeat rw [upd2_n (by omega)])⟩) (Nat.le_of_ble_eq_true rfl) (Nat.le_of_ble_eq_true rfl) dX1_readNumber_43
  · skip
    refine v_callV (pc := 1) (rest := []) (c_X1_readDigit_f hSc hd1) iok_X1_readDigit wM_X1_52 (rfl) (by decide) (by decide) rfl (rmOk (by decide) (by decide)) ⟨Nat.le_of_ble_eq_true rfl, Nat.le_of_ble_eq_true rfl⟩ (Nat.le_of_ble_eq_true rfl) rfl dX1_readNumber_1 (fun v G' hq => ?_) (fun _ _ h => h.elim)
    obtain ⟨rfl, hG9⟩ := hq
    rw [hG9]
    refine v_stk (st' := [vI 0]) rfl ?_
    refine v_if_ne (pc := 4) (tgt := 9) (by omega) dX1_readNumber_4 (by decide) (fun h6 => absurd h6 (by decide)) (fun _ => ?_)
    refine v_iconst (pc := 7) (z := 0) dX1_readNumber_7 ?_
    exact v_bret (pc := 8) E (by decide) (⟨_, rfl, by rw [bI_f (by assumption)], by unfold nE; rw [if_neg (by assumption)], fun q => absurd q (by assumption), fun _ _ _ _ => rfl⟩) (Nat.le_of_ble_eq_true rfl) (Nat.le_of_ble_eq_true rfl) dX1_readNumber_8
set_option maxHeartbeats 4000000 in
set_option maxRecDepth 100000 in
theorem c_X1_readYears {g : GT} {G : Mem} {S : Int → Int} {n p c : Int} (h : Sc G S n p c) : Ctr g yX1_readYears cX1_readYears 1 (some FieldType.boolean) (rmL 3 0 0) [vR g 2] G (RP (fun r G' => r = bI (sg S n p 32 → dg S n (p + 1)) ∧ G' 2 2 = yE S n p ∧ ((sg S n p 32 → dg S n (p + 1)) → G' 104 c = yV S n p) ∧ ∀ i z, ¬ (i = 2 ∧ z = 2) → ¬ (i = 104 ∧ z = c) → G' i z = G i z)) NoX := by
  refine ctr_of [some (vR g 2)] (by decide) (Nat.le_of_ble_eq_true rfl) rfl (fun γ E => ?_)
  show V γ g cX1_readYears 1 RX1 (rmL 3 0 0) G 0 0 0 [some (vR g 2)] []
  have hSc := h
  obtain ⟨rfl, rfl, rfl, rfl, hb, hS⟩ := h
  refine v_aload_n (pc := 0) rfl dX1_readYears_0 ?_
  refine v_bipush (pc := 1) (z := 32) rfl dX1_readYears_1 ?_
  by_cases hd1 : sg (G 102) (G 2 1) (G 2 2) 32
  · skip
    refine v_callV (pc := 3) (rest := []) (c_X1_readSign_t hSc (by decide) hd1) iok_X1_readSign wM_X1_39 (rfl) (by decide) (by decide) rfl (rmOk (by decide) (by decide)) ⟨Nat.le_of_ble_eq_true rfl, Nat.le_of_ble_eq_true rfl⟩ (Nat.le_of_ble_eq_true rfl) rfl dX1_readYears_3 (fun v G' hq => ?_) (fun _ _ h => h.elim)
    obtain ⟨rfl, hG9⟩ := hq
    rw [hG9]
    refine v_stk (st' := [vI 1]) rfl ?_
    refine v_if_ne (pc := 6) (tgt := 21) (by omega) dX1_readYears_6 (by decide) (fun _ => ?_) (fun h2 => absurd h2 (by decide))
    have hSc2 := Sc_pos (e := G 2 2 + 1) hSc (by omega)
    refine v_aload_n (pc := 21) rfl dX1_readYears_21 ?_
    refine v_callV (pc := 22) (rest := []) (c_X1_readNumber hSc2) iok_X1_readNumber wM_X1_46 (rfl) (by decide) (by decide) rfl (rmOk (by decide) (by decide)) ⟨Nat.le_of_ble_eq_true rfl, Nat.le_of_ble_eq_true rfl⟩ (Nat.le_of_ble_eq_true rfl) rfl dX1_readYears_22 (fun v G1 hq => ?_) (fun _ _ h => h.elim)
    obtain ⟨r, rfl, hq⟩ := hq
    refine v_stk (st' := [vI r]) rfl ?_
    obtain ⟨hr, he, ha, hF⟩ := hq
    have hrr := bI_rng (dg (G 102) (G 2 1) (G 2 2 + 1))
    rw [← hr] at hrr
    exact v_bret (pc := 25) E (by omega) (⟨_, rfl, hr.trans (bI_congr ⟨fun q _ => q, fun q => q (by assumption)⟩), by unfold yE; rw [if_pos (by assumption)]; exact he, fun q => by unfold yV; rw [if_pos (by assumption)]; exact ha (q (by assumption)), fun i z a b => (hF i z a b).trans (upd2_n a)⟩) (Nat.le_of_ble_eq_true rfl) (Nat.le_of_ble_eq_true rfl) dX1_readYears_25
  · skip
    refine v_callV (pc := 3) (rest := []) (c_X1_readSign_f hSc (by decide) hd1) iok_X1_readSign wM_X1_39 (rfl) (by decide) (by decide) rfl (rmOk (by decide) (by decide)) ⟨Nat.le_of_ble_eq_true rfl, Nat.le_of_ble_eq_true rfl⟩ (Nat.le_of_ble_eq_true rfl) rfl dX1_readYears_3 (fun v G' hq => ?_) (fun _ _ h => h.elim)
    obtain ⟨rfl, hG9⟩ := hq
    rw [hG9]
    refine v_stk (st' := [vI 0]) rfl ?_
    refine v_if_ne (pc := 6) (tgt := 21) (by omega) dX1_readYears_6 (by decide) (fun h3 => absurd h3 (by decide)) (fun _ => ?_)
    refine v_aload_n (pc := 9) rfl dX1_readYears_9 ?_
    refine v_getR (pc := 10) (j := 104) fd_X1_19 (rfl) (by decide) rfl dX1_readYears_10 ?_
    refine v_aload_n (pc := 13) rfl dX1_readYears_13 ?_
    refine v_get (pc := 14) 3 fd_X1_32 (rfl) (by decide) rfl rfl dX1_readYears_14 ?_
    refine v_iconst (pc := 17) (z := 1) dX1_readYears_17 ?_
    refine v_iast (pc := 18) (N := 60) rfl rfl (by decide) (by omega) (by decide) dX1_readYears_18 ?_
    refine v_iconst (pc := 19) (z := 1) dX1_readYears_19 ?_
    exact v_bret (pc := 20) E (by decide) (⟨_, rfl, by rw [bI_t (fun q => absurd q (by assumption))], by unfold yE; rw [if_neg (by assumption)]; exact upd2_i (by decide), fun q => by unfold yV; rw [if_neg (by assumption)]; exact upd2_s _ _ _ _, fun i z a b => upd2_n b⟩) (Nat.le_of_ble_eq_true rfl) (Nat.le_of_ble_eq_true rfl) dX1_readYears_20
