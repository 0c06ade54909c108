-- texts, and the model's rendering
/-- a text: its length, its signs -/
abbrev Tx : Type := Int × (Int → Int)
def tc (t : Tx) (c : Int) : Tx := (t.1 + 1, fun z => if z = t.1 then c else t.2 z)
/-- a number below 100 -/
def tnum (t : Tx) (v : Int) : Tx := if v < 10 then tc t (48 + v) else tc (tc t (48 + v / 10)) (48 + v % 10)
def t0 : Tx := (0, fun _ => 0)
/-- alike, as far as they reach -/
def txE (t : Tx) (n : Int) (f : Int → Int) : Prop := t.1 = n ∧ ∀ z, 0 ≤ z → z < n → f z = t.2 z
theorem tc_n (t : Tx) (c : Int) : (tc t c).1 = t.1 + 1 := rfl
theorem tnum_n (t : Tx) (v : Int) : (tnum t v).1 = if v < 10 then t.1 + 1 else t.1 + 2 := by
  unfold tnum
  split
  · rfl
  · show t.1 + 1 + 1 = _; omega
theorem txE_tc {t : Tx} {n c : Int} {f : Int → Int} (h : txE t n f) {f' : Int → Int} (hn : f' n = c) (hz : ∀ z, 0 ≤ z → z < n → f' z = f z) : txE (tc t c) (n + 1) f' := by
  refine ⟨by rw [tc_n, h.1], fun z z0 z1 => ?_⟩
  show f' z = if z = t.1 then c else t.2 z
  by_cases q : z = n
  · rw [if_pos (by rw [h.1]; exact q), q, hn]
  · rw [if_neg (by rw [h.1]; exact q), hz z z0 (by omega), h.2 z z0 (by omega)]
/-- the model's line holds a text -/
def LnI (G : Mem) (t : Tx) : Prop := txE t (G 106 15) (G 115) ∧ 0 ≤ G 106 15 ∧ G 106 15 ≤ 79
/-- only the line differs, and what is thrown, and the order of the dies -/
def FrL (G G' : Mem) : Prop := ∀ i z, i ≠ 112 → i ≠ 115 → ¬ (i = 106 ∧ (z = 8 ∨ z = 15)) → G' i z = G i z
theorem FrL_t {G G1 G2 : Mem} (h1 : FrL G G1) (h2 : FrL G1 G2) : FrL G G2 := fun i z a b c => (h2 i z a b c).trans (h1 i z a b c)
/-- writing to the line alone -/
def FrS5 (G G' : Mem) : Prop := ∀ i z, i ≠ 115 → ¬ (i = 106 ∧ z = 15) → G' i z = G i z
theorem FrS5_t {G G1 G2 : Mem} (h1 : FrS5 G G1) (h2 : FrS5 G1 G2) : FrS5 G G2 := fun i z b c => (h2 i z b c).trans (h1 i z b c)

set_option maxHeartbeats 4000000 in
set_option maxRecDepth 100000 in
theorem c_X4_sign {g : GT} {G : Mem} {t : Tx} (h : txE t (G 106 15) (G 115)) (hl : 0 ≤ G 106 15 ∧ G 106 15 ≤ 79) {c : Int} : Ctr g yX4_sign cX4_sign 2 (none : Option FieldType) (rmL 0 0 0) [vR g 106, vI c] G (VP (fun G' => txE (tc t c) (G' 106 15) (G' 115) ∧ G' 106 15 = G 106 15 + 1 ∧ FrS5 G G')) NoX := by
  refine ctr_of [some (vR g 106), some (vI c)] (by decide) (Nat.le_of_ble_eq_true rfl) rfl (fun γ E => ?_)
  show V γ g cX4_sign 2 RX4 (rmL 0 0 0) G 0 0 0 [some (vR g 106), some (vI c)] []
  refine v_aload_n (pc := 0) rfl dX4_sign_0 ?_
  refine v_getR (pc := 1) (j := 115) fd_X4_41 (rfl) (by decide) rfl dX4_sign_1 ?_
  refine v_aload_n (pc := 4) rfl dX4_sign_4 ?_
  refine v_get (pc := 5) 15 fd_X4_185 (rfl) (by decide) rfl rfl dX4_sign_5 ?_
  refine v_iload_n (pc := 8) rfl dX4_sign_8 ?_
  refine v_iast (pc := 9) (N := 80) rfl rfl (by decide) (by omega) (by decide) dX4_sign_9 ?_
  refine v_aload_n (pc := 10) rfl dX4_sign_10 ?_
  refine v_dup (pc := 11) rfl dX4_sign_11 ?_
  refine v_get (pc := 12) 15 fd_X4_185 (rfl) (by decide) rfl rfl dX4_sign_12 ?_
  refine v_top (b := G 106 15) (upd2_i (by decide)) ?_
  refine v_iconst (pc := 15) (z := 1) dX4_sign_15 ?_
  refine v_iadd (pc := 16) dX4_sign_16 ?_
  refine v_put (pc := 17) 15 pd_X4_185 (rfl) (by decide) rfl rfl dX4_sign_17 ?_
  exact v_vret (pc := 20) E (⟨rfl, by rw [upd2_s]; exact txE_tc h (by rw [upd2_i (by decide), upd2_s]) (fun z z0 z1 => by rw [upd2_i (by decide), upd2_z (by omega)]), upd2_s _ _ _ _, fun i z a b => by rw [upd2, if_neg b, upd2_i a]⟩) (Nat.le_of_ble_eq_true rfl) (Nat.le_of_ble_eq_true rfl) dX4_sign_20
set_option maxHeartbeats 4000000 in
set_option maxRecDepth 100000 in
theorem c_X4_writesNumber {g : GT} {G : Mem} {t : Tx} (h : txE t (G 106 15) (G 115)) (hl : 0 ≤ G 106 15 ∧ G 106 15 ≤ 77) {v : Int} (h_v : 0 ≤ v ∧ v < 100) : Ctr g yX4_writesNumber cX4_writesNumber 3 (none : Option FieldType) (rmL 1 0 0) [vR g 106, vI v] G (VP (fun G' => txE (tnum t v) (G' 106 15) (G' 115) ∧ (G 106 15 ≤ G' 106 15 ∧ G' 106 15 ≤ G 106 15 + 2) ∧ FrS5 G G')) NoX := by
  refine ctr_of [some (vR g 106), some (vI v), none] (by decide) (Nat.le_of_ble_eq_true rfl) rfl (fun γ E => ?_)
  show V γ g cX4_writesNumber 3 RX4 (rmL 1 0 0) G 0 0 0 [some (vR g 106), some (vI v), none] []
  refine v_iconst (pc := 0) (z := 1) dX4_writesNumber_0 ?_
  refine v_istore_n (pc := 1) (by decide) rfl dX4_writesNumber_1 ?_
  skip
  refine v_iload_n (pc := 2) rfl dX4_writesNumber_2 ?_
  refine v_iload_n (pc := 3) rfl dX4_writesNumber_3 ?_
  refine v_idiv (pc := 4) (by omega) (by omega) dX4_writesNumber_4 ?_
  refine v_bipush (pc := 5) (z := 9) rfl dX4_writesNumber_5 ?_
  refine v_icmp_le (pc := 7) (tgt := 18) (by omega) dX4_writesNumber_7 (by decide) (fun bq1 => ?_) (fun bq1 => ?_)
  · skip
    refine v_iload_n (pc := 18) rfl dX4_writesNumber_18 ?_
    refine v_if_le (pc := 19) (tgt := 43) (by omega) dX4_writesNumber_19 (by decide) (fun bq2 => absurd bq2 (by decide)) (fun _ => ?_)
    refine v_aload_n (pc := 22) rfl dX4_writesNumber_22 ?_
    refine v_bipush (pc := 23) (z := 48) rfl dX4_writesNumber_23 ?_
    refine v_iload_n (pc := 25) rfl dX4_writesNumber_25 ?_
    refine v_iload_n (pc := 26) rfl dX4_writesNumber_26 ?_
    refine v_idiv (pc := 27) (by omega) (by omega) dX4_writesNumber_27 ?_
    refine v_bipush (pc := 28) (z := 10) rfl dX4_writesNumber_28 ?_
    refine v_irem (pc := 30) (by omega) (by omega) dX4_writesNumber_30 ?_
    refine v_iadd (pc := 31) dX4_writesNumber_31 ?_
    refine v_callV (pc := 32) (rest := []) (c_X4_sign (G := G) h (by omega) (c := 48 + ((v / 1) % 10))) iok_X4_sign wM_X4_188 (rfl) (by decide) (by decide) rfl (rmOk (by decide) (by decide)) ⟨Nat.le_of_ble_eq_true rfl, Nat.le_of_ble_eq_true rfl⟩ (Nat.le_of_ble_eq_true rfl) rfl dX4_writesNumber_32 (fun v Gs1 hq => ?_) (fun _ _ h => h.elim)
    obtain ⟨rfl, hq⟩ := hq
    refine v_stk (st' := []) rfl ?_
    obtain ⟨hx1, hn1, hf1⟩ := hq
    refine v_iload_n (pc := 35) rfl dX4_writesNumber_35 ?_
    refine v_bipush (pc := 36) (z := 10) rfl dX4_writesNumber_36 ?_
    refine v_idiv (pc := 38) (by omega) (by omega) dX4_writesNumber_38 ?_
    refine v_top (b := 0) (by decide) ?_
    refine v_istore_n (pc := 39) (by decide) rfl dX4_writesNumber_39 ?_
    refine v_goto (pc := 40) (tgt := 18) dX4_writesNumber_40 (by decide) ?_
    refine v_iload_n (pc := 18) rfl dX4_writesNumber_18 ?_
    refine v_if_le (pc := 19) (tgt := 43) (by omega) dX4_writesNumber_19 (by decide) (fun _ => ?_) (fun bq3 => absurd bq3 (by decide))
    exact v_vret (pc := 43) E (⟨rfl, by unfold tnum; rw [if_pos (by omega)]; rw [show v / 1 % 10 = v by omega] at hx1; exact hx1, by omega, hf1⟩) (Nat.le_of_ble_eq_true rfl) (Nat.le_of_ble_eq_true rfl) dX4_writesNumber_43
  · skip
    refine v_iload_n (pc := 10) rfl dX4_writesNumber_10 ?_
    refine v_bipush (pc := 11) (z := 10) rfl dX4_writesNumber_11 ?_
    refine v_imul (pc := 13) dX4_writesNumber_13 ?_
    refine v_top (b := 10) (by decide) ?_
    refine v_istore_n (pc := 14) (by decide) rfl dX4_writesNumber_14 ?_
    refine v_goto (pc := 15) (tgt := 2) dX4_writesNumber_15 (by decide) ?_
    skip
    refine v_iload_n (pc := 2) rfl dX4_writesNumber_2 ?_
    refine v_iload_n (pc := 3) rfl dX4_writesNumber_3 ?_
    refine v_idiv (pc := 4) (by omega) (by omega) dX4_writesNumber_4 ?_
    refine v_bipush (pc := 5) (z := 9) rfl dX4_writesNumber_5 ?_
    refine v_icmp_le (pc := 7) (tgt := 18) (by omega) dX4_writesNumber_7 (by decide) (fun bq4 => ?_) (fun bq4 => ?_)
    · skip
      refine v_iload_n (pc := 18) rfl dX4_writesNumber_18 ?_
      refine v_if_le (pc := 19) (tgt := 43) (by omega) dX4_writesNumber_19 (by decide) (fun bq5 => absurd bq5 (by decide)) (fun _ => ?_)
      refine v_aload_n (pc := 22) rfl dX4_writesNumber_22 ?_
      refine v_bipush (pc := 23) (z := 48) rfl dX4_writesNumber_23 ?_
      refine v_iload_n (pc := 25) rfl dX4_writesNumber_25 ?_
      refine v_iload_n (pc := 26) rfl dX4_writesNumber_26 ?_
      refine v_idiv (pc := 27) (by omega) (by omega) dX4_writesNumber_27 ?_
      refine v_bipush (pc := 28) (z := 10) rfl dX4_writesNumber_28 ?_
      refine v_irem (pc := 30) (by omega) (by omega) dX4_writesNumber_30 ?_
      refine v_iadd (pc := 31) dX4_writesNumber_31 ?_
      refine v_callV (pc := 32) (rest := []) (c_X4_sign (G := G) h (by omega) (c := 48 + ((v / 10) % 10))) iok_X4_sign wM_X4_188 (rfl) (by decide) (by decide) rfl (rmOk (by decide) (by decide)) ⟨Nat.le_of_ble_eq_true rfl, Nat.le_of_ble_eq_true rfl⟩ (Nat.le_of_ble_eq_true rfl) rfl dX4_writesNumber_32 (fun v Gs1 hq => ?_) (fun _ _ h => h.elim)
      obtain ⟨rfl, hq⟩ := hq
      refine v_stk (st' := []) rfl ?_
      obtain ⟨hx1, hn1, hf1⟩ := hq
      refine v_iload_n (pc := 35) rfl dX4_writesNumber_35 ?_
      refine v_bipush (pc := 36) (z := 10) rfl dX4_writesNumber_36 ?_
      refine v_idiv (pc := 38) (by omega) (by omega) dX4_writesNumber_38 ?_
      refine v_top (b := 1) (by decide) ?_
      refine v_istore_n (pc := 39) (by decide) rfl dX4_writesNumber_39 ?_
      refine v_goto (pc := 40) (tgt := 18) dX4_writesNumber_40 (by decide) ?_
      refine v_iload_n (pc := 18) rfl dX4_writesNumber_18 ?_
      refine v_if_le (pc := 19) (tgt := 43) (by omega) dX4_writesNumber_19 (by decide) (fun bq6 => absurd bq6 (by decide)) (fun _ => ?_)
      refine v_aload_n (pc := 22) rfl dX4_writesNumber_22 ?_
      refine v_bipush (pc := 23) (z := 48) rfl dX4_writesNumber_23 ?_
      refine v_iload_n (pc := 25) rfl dX4_writesNumber_25 ?_
      refine v_iload_n (pc := 26) rfl dX4_writesNumber_26 ?_
      refine v_idiv (pc := 27) (by omega) (by omega) dX4_writesNumber_27 ?_
      refine v_bipush (pc := 28) (z := 10) rfl dX4_writesNumber_28 ?_
      refine v_irem (pc := 30) (by omega) (by omega) dX4_writesNumber_30 ?_
      refine v_iadd (pc := 31) dX4_writesNumber_31 ?_
      refine v_callV (pc := 32) (rest := []) (c_X4_sign (G := Gs1) hx1 (by omega) (c := 48 + ((v / 1) % 10))) iok_X4_sign wM_X4_188 (rfl) (by decide) (by decide) rfl (rmOk (by decide) (by decide)) ⟨Nat.le_of_ble_eq_true rfl, Nat.le_of_ble_eq_true rfl⟩ (Nat.le_of_ble_eq_true rfl) rfl dX4_writesNumber_32 (fun v Gs2 hq => ?_) (fun _ _ h => h.elim)
      obtain ⟨rfl, hq⟩ := hq
      refine v_stk (st' := []) rfl ?_
      obtain ⟨hx2, hn2, hf2⟩ := hq
      refine v_iload_n (pc := 35) rfl dX4_writesNumber_35 ?_
      refine v_bipush (pc := 36) (z := 10) rfl dX4_writesNumber_36 ?_
      refine v_idiv (pc := 38) (by omega) (by omega) dX4_writesNumber_38 ?_
      refine v_top (b := 0) (by decide) ?_
      refine v_istore_n (pc := 39) (by decide) rfl dX4_writesNumber_39 ?_
      refine v_goto (pc := 40) (tgt := 18) dX4_writesNumber_40 (by decide) ?_
      refine v_iload_n (pc := 18) rfl dX4_writesNumber_18 ?_
      refine v_if_le (pc := 19) (tgt := 43) (by omega) dX4_writesNumber_19 (by decide) (fun _ => ?_) (fun bq7 => absurd bq7 (by decide))
      exact v_vret (pc := 43) E (⟨rfl, by unfold tnum; rw [if_neg (by omega)]; rw [show v / 10 % 10 = v / 10 by omega] at hx2; rw [show v / 1 % 10 = v % 10 by omega] at hx2; exact hx2, by omega, FrS5_t hf1 hf2⟩) (Nat.le_of_ble_eq_true rfl) (Nat.le_of_ble_eq_true rfl) dX4_writesNumber_43
    · skip
      exfalso; omega
set_option maxHeartbeats 4000000 in
set_option maxRecDepth 100000 in
theorem c_X4_renderDie {g : GT} {G : Mem} (hM : MoI (G 107)) {d : Int} (h_d : -2147483648 ≤ d ∧ d < 2147483648) : Ctr g yX4_renderDie cX4_renderDie 2 (some FieldType.int) (rmL 3 0 0) [vR g 106, vI d] G (RP (fun r G' => (¬ (0 ≤ d ∧ d < G 107 0) ∧ G' = upd2 G 106 8 1) ∨ ((0 ≤ d ∧ d < G 107 0) ∧ G' 106 8 = 0 ∧ FrL G G' ∧ LnI G' (tnum (tc (tnum (tc (tnum (tc (tnum t0 d) 58) (G 107 (9 + 3 * d))) 119) (G 107 (9 + 3 * d + 1))) 47) (G 107 (9 + 3 * d + 2))) ∧ r = G' 106 15))) NoX := by
  refine ctr_of [some (vR g 106), some (vI d)] (by decide) (Nat.le_of_ble_eq_true rfl) rfl (fun γ E => ?_)
  show V γ g cX4_renderDie 2 RX4 (rmL 3 0 0) G 0 0 0 [some (vR g 106), some (vI d)] []
  have hn := MoI_n hM
  have hc := MoI_c hM
  have hy := MoI_y hM
  refine v_aload_n (pc := 0) rfl dX4_renderDie_0 ?_
  refine v_iconst (pc := 1) (z := 0) dX4_renderDie_1 ?_
  refine v_put (pc := 2) 8 pd_X4_54 (rfl) (by decide) rfl rfl dX4_renderDie_2 ?_
  refine v_aload_n (pc := 5) rfl dX4_renderDie_5 ?_
  refine v_iload_n (pc := 6) rfl dX4_renderDie_6 ?_
  refine v_callV (pc := 7) (rest := []) (c_X4_isDie (G := upd2 G 106 8 0) hM h_d) iok_X4_isDie wM_X4_96 (rfl) (by decide) (by decide) rfl (rmOk (by decide) (by decide)) ⟨Nat.le_of_ble_eq_true rfl, Nat.le_of_ble_eq_true rfl⟩ (Nat.le_of_ble_eq_true rfl) rfl dX4_renderDie_7 (fun v G' hq => ?_) (fun _ _ h => h.elim)
  obtain ⟨rfl, hG9⟩ := hq
  rw [hG9]
  refine v_stk (st' := [vI (bI (0 ≤ d ∧ d < G 107 0))]) rfl ?_
  refine v_if_ne (pc := 10) (tgt := 19) (bI_r _) dX4_renderDie_10 (by decide) (fun bq1 => ?_) (fun bq1 => ?_)
  · skip
    have bq1 := bI_n0 bq1
    refine v_aload_n (pc := 19) rfl dX4_renderDie_19 ?_
    refine v_iconst (pc := 20) (z := 0) dX4_renderDie_20 ?_
    refine v_put (pc := 21) 15 pd_X4_185 (rfl) (by decide) rfl rfl dX4_renderDie_21 ?_
    refine v_aload_n (pc := 24) rfl dX4_renderDie_24 ?_
    refine v_iload_n (pc := 25) rfl dX4_renderDie_25 ?_
    have hdd : 0 ≤ d ∧ d < G 107 0 := by assumption
    have hdi := MoI_d hM hdd.1 hdd.2
    obtain ⟨W0, hW0⟩ : ∃ x : Mem, x = (upd2 (upd2 G 106 8 0) 106 15 0) := ⟨_, rfl⟩
    rw [← hW0]
    have wx0 : txE t0 (W0 106 15) (W0 115) := by rw [hW0, upd2_s]; exact ⟨rfl, fun z a b => by omega⟩
    have wl0 : W0 106 15 = 0 := by rw [hW0, upd2_s]
    have w80 : W0 106 8 = 0 := by rw [hW0, upd2_z (by omega), upd2_s]
    have wf0 : FrL G W0 := fun i z a b c => by rw [hW0, upd2, if_neg (by omega), upd2, if_neg (by omega)]
    have wm0 : ∀ z, W0 107 z = G 107 z := fun z => wf0 107 z (by omega) (by omega) (by omega)
    refine v_callV (pc := 26) (rest := []) (c_X4_writesNumber (G := W0) wx0 (by omega) (v := d) (by omega)) iok_X4_writesNumber wM_X4_191 (rfl) (by decide) (by decide) rfl (rmOk (by decide) (by decide)) ⟨Nat.le_of_ble_eq_true rfl, Nat.le_of_ble_eq_true rfl⟩ (Nat.le_of_ble_eq_true rfl) rfl dX4_renderDie_26 (fun v W1 hq => ?_) (fun _ _ h => h.elim)
    obtain ⟨rfl, hq⟩ := hq
    refine v_stk (st' := []) rfl ?_
    obtain ⟨wx1, wl1, ws1⟩ := hq
    have w81 : W1 106 8 = 0 := (ws1 106 8 (by omega) (by omega)).trans w80
    have wf1 : FrL G W1 := fun i z a b c => (ws1 i z b (by omega)).trans (wf0 i z a b c)
    have wm1 : ∀ z, W1 107 z = G 107 z := fun z => wf1 107 z (by omega) (by omega) (by omega)
    refine v_aload_n (pc := 29) rfl dX4_renderDie_29 ?_
    refine v_bipush (pc := 30) (z := 58) rfl dX4_renderDie_30 ?_
    refine v_callV (pc := 32) (rest := []) (c_X4_sign (G := W1) wx1 (by omega) (c := 58)) iok_X4_sign wM_X4_188 (rfl) (by decide) (by decide) rfl (rmOk (by decide) (by decide)) ⟨Nat.le_of_ble_eq_true rfl, Nat.le_of_ble_eq_true rfl⟩ (Nat.le_of_ble_eq_true rfl) rfl dX4_renderDie_32 (fun v W2 hq => ?_) (fun _ _ h => h.elim)
    obtain ⟨rfl, hq⟩ := hq
    refine v_stk (st' := []) rfl ?_
    obtain ⟨wx2, wl2, ws2⟩ := hq
    have w82 : W2 106 8 = 0 := (ws2 106 8 (by omega) (by omega)).trans w81
    have wf2 : FrL G W2 := fun i z a b c => (ws2 i z b (by omega)).trans (wf1 i z a b c)
    have wm2 : ∀ z, W2 107 z = G 107 z := fun z => wf2 107 z (by omega) (by omega) (by omega)
    refine v_aload_n (pc := 35) rfl dX4_renderDie_35 ?_
    refine v_aload_n (pc := 36) rfl dX4_renderDie_36 ?_
    refine v_getR (pc := 37) (j := 107) fd_X4_9 (rfl) (by decide) rfl dX4_renderDie_37 ?_
    refine v_iload_n (pc := 40) rfl dX4_renderDie_40 ?_
    refine v_callS (pc := 41) (rest := [vR g 107, vR g 106]) (c_X4_dieAt) sok_X4_dieAt wM_X4_64 (rmOk (by decide) (by decide)) ⟨Nat.le_of_ble_eq_true rfl, Nat.le_of_ble_eq_true rfl⟩ (Nat.le_of_ble_eq_true rfl) rfl dX4_renderDie_41 (fun v G' hq => ?_) (fun _ _ h => h.elim)
    obtain ⟨rfl, hG9⟩ := hq
    rw [hG9]
    refine v_stk (st' := [vI (9 + 3 * d), vR g 107, vR g 106]) rfl ?_
    refine v_iald (pc := 44) (N := 144) rfl rfl (by decide) (by omega) (by decide) dX4_renderDie_44 ?_
    refine v_top (b := G 107 (9 + 3 * d)) (wm2 _) ?_
    refine v_callV (pc := 45) (rest := []) (c_X4_writesNumber (G := W2) wx2 (by omega) (v := G 107 (9 + 3 * d)) (by omega)) iok_X4_writesNumber wM_X4_191 (rfl) (by decide) (by decide) rfl (rmOk (by decide) (by decide)) ⟨Nat.le_of_ble_eq_true rfl, Nat.le_of_ble_eq_true rfl⟩ (Nat.le_of_ble_eq_true rfl) rfl dX4_renderDie_45 (fun v W3 hq => ?_) (fun _ _ h => h.elim)
    obtain ⟨rfl, hq⟩ := hq
    refine v_stk (st' := []) rfl ?_
    obtain ⟨wx3, wl3, ws3⟩ := hq
    have w83 : W3 106 8 = 0 := (ws3 106 8 (by omega) (by omega)).trans w82
    have wf3 : FrL G W3 := fun i z a b c => (ws3 i z b (by omega)).trans (wf2 i z a b c)
    have wm3 : ∀ z, W3 107 z = G 107 z := fun z => wf3 107 z (by omega) (by omega) (by omega)
    refine v_aload_n (pc := 48) rfl dX4_renderDie_48 ?_
    refine v_bipush (pc := 49) (z := 119) rfl dX4_renderDie_49 ?_
    refine v_callV (pc := 51) (rest := []) (c_X4_sign (G := W3) wx3 (by omega) (c := 119)) iok_X4_sign wM_X4_188 (rfl) (by decide) (by decide) rfl (rmOk (by decide) (by decide)) ⟨Nat.le_of_ble_eq_true rfl, Nat.le_of_ble_eq_true rfl⟩ (Nat.le_of_ble_eq_true rfl) rfl dX4_renderDie_51 (fun v W4 hq => ?_) (fun _ _ h => h.elim)
    obtain ⟨rfl, hq⟩ := hq
    refine v_stk (st' := []) rfl ?_
    obtain ⟨wx4, wl4, ws4⟩ := hq
    have w84 : W4 106 8 = 0 := (ws4 106 8 (by omega) (by omega)).trans w83
    have wf4 : FrL G W4 := fun i z a b c => (ws4 i z b (by omega)).trans (wf3 i z a b c)
    have wm4 : ∀ z, W4 107 z = G 107 z := fun z => wf4 107 z (by omega) (by omega) (by omega)
    refine v_aload_n (pc := 54) rfl dX4_renderDie_54 ?_
    refine v_aload_n (pc := 55) rfl dX4_renderDie_55 ?_
    refine v_getR (pc := 56) (j := 107) fd_X4_9 (rfl) (by decide) rfl dX4_renderDie_56 ?_
    refine v_iload_n (pc := 59) rfl dX4_renderDie_59 ?_
    refine v_callS (pc := 60) (rest := [vR g 107, vR g 106]) (c_X4_dieAt) sok_X4_dieAt wM_X4_64 (rmOk (by decide) (by decide)) ⟨Nat.le_of_ble_eq_true rfl, Nat.le_of_ble_eq_true rfl⟩ (Nat.le_of_ble_eq_true rfl) rfl dX4_renderDie_60 (fun v G' hq => ?_) (fun _ _ h => h.elim)
    obtain ⟨rfl, hG9⟩ := hq
    rw [hG9]
    refine v_stk (st' := [vI (9 + 3 * d), vR g 107, vR g 106]) rfl ?_
    refine v_iconst (pc := 63) (z := 1) dX4_renderDie_63 ?_
    refine v_iadd (pc := 64) dX4_renderDie_64 ?_
    refine v_iald (pc := 65) (N := 144) rfl rfl (by decide) (by omega) (by decide) dX4_renderDie_65 ?_
    refine v_top (b := G 107 (9 + 3 * d + 1)) (wm4 _) ?_
    refine v_callV (pc := 66) (rest := []) (c_X4_writesNumber (G := W4) wx4 (by omega) (v := G 107 (9 + 3 * d + 1)) (by omega)) iok_X4_writesNumber wM_X4_191 (rfl) (by decide) (by decide) rfl (rmOk (by decide) (by decide)) ⟨Nat.le_of_ble_eq_true rfl, Nat.le_of_ble_eq_true rfl⟩ (Nat.le_of_ble_eq_true rfl) rfl dX4_renderDie_66 (fun v W5 hq => ?_) (fun _ _ h => h.elim)
    obtain ⟨rfl, hq⟩ := hq
    refine v_stk (st' := []) rfl ?_
    obtain ⟨wx5, wl5, ws5⟩ := hq
    have w85 : W5 106 8 = 0 := (ws5 106 8 (by omega) (by omega)).trans w84
    have wf5 : FrL G W5 := fun i z a b c => (ws5 i z b (by omega)).trans (wf4 i z a b c)
    have wm5 : ∀ z, W5 107 z = G 107 z := fun z => wf5 107 z (by omega) (by omega) (by omega)
    refine v_aload_n (pc := 69) rfl dX4_renderDie_69 ?_
    refine v_bipush (pc := 70) (z := 47) rfl dX4_renderDie_70 ?_
    refine v_callV (pc := 72) (rest := []) (c_X4_sign (G := W5) wx5 (by omega) (c := 47)) iok_X4_sign wM_X4_188 (rfl) (by decide) (by decide) rfl (rmOk (by decide) (by decide)) ⟨Nat.le_of_ble_eq_true rfl, Nat.le_of_ble_eq_true rfl⟩ (Nat.le_of_ble_eq_true rfl) rfl dX4_renderDie_72 (fun v W6 hq => ?_) (fun _ _ h => h.elim)
    obtain ⟨rfl, hq⟩ := hq
    refine v_stk (st' := []) rfl ?_
    obtain ⟨wx6, wl6, ws6⟩ := hq
    have w86 : W6 106 8 = 0 := (ws6 106 8 (by omega) (by omega)).trans w85
    have wf6 : FrL G W6 := fun i z a b c => (ws6 i z b (by omega)).trans (wf5 i z a b c)
    have wm6 : ∀ z, W6 107 z = G 107 z := fun z => wf6 107 z (by omega) (by omega) (by omega)
    refine v_aload_n (pc := 75) rfl dX4_renderDie_75 ?_
    refine v_aload_n (pc := 76) rfl dX4_renderDie_76 ?_
    refine v_getR (pc := 77) (j := 107) fd_X4_9 (rfl) (by decide) rfl dX4_renderDie_77 ?_
    refine v_iload_n (pc := 80) rfl dX4_renderDie_80 ?_
    refine v_callS (pc := 81) (rest := [vR g 107, vR g 106]) (c_X4_dieAt) sok_X4_dieAt wM_X4_64 (rmOk (by decide) (by decide)) ⟨Nat.le_of_ble_eq_true rfl, Nat.le_of_ble_eq_true rfl⟩ (Nat.le_of_ble_eq_true rfl) rfl dX4_renderDie_81 (fun v G' hq => ?_) (fun _ _ h => h.elim)
    obtain ⟨rfl, hG9⟩ := hq
    rw [hG9]
    refine v_stk (st' := [vI (9 + 3 * d), vR g 107, vR g 106]) rfl ?_
    refine v_iconst (pc := 84) (z := 2) dX4_renderDie_84 ?_
    refine v_iadd (pc := 85) dX4_renderDie_85 ?_
    refine v_iald (pc := 86) (N := 144) rfl rfl (by decide) (by omega) (by decide) dX4_renderDie_86 ?_
    refine v_top (b := G 107 (9 + 3 * d + 2)) (wm6 _) ?_
    refine v_callV (pc := 87) (rest := []) (c_X4_writesNumber (G := W6) wx6 (by omega) (v := G 107 (9 + 3 * d + 2)) (by omega)) iok_X4_writesNumber wM_X4_191 (rfl) (by decide) (by decide) rfl (rmOk (by decide) (by decide)) ⟨Nat.le_of_ble_eq_true rfl, Nat.le_of_ble_eq_true rfl⟩ (Nat.le_of_ble_eq_true rfl) rfl dX4_renderDie_87 (fun v W7 hq => ?_) (fun _ _ h => h.elim)
    obtain ⟨rfl, hq⟩ := hq
    refine v_stk (st' := []) rfl ?_
    obtain ⟨wx7, wl7, ws7⟩ := hq
    have w87 : W7 106 8 = 0 := (ws7 106 8 (by omega) (by omega)).trans w86
    have wf7 : FrL G W7 := fun i z a b c => (ws7 i z b (by omega)).trans (wf6 i z a b c)
    have wm7 : ∀ z, W7 107 z = G 107 z := fun z => wf7 107 z (by omega) (by omega) (by omega)
    refine v_aload_n (pc := 90) rfl dX4_renderDie_90 ?_
    refine v_get (pc := 91) 15 fd_X4_185 (rfl) (by decide) rfl rfl dX4_renderDie_91 ?_
    exact v_iret (pc := 94) E (⟨_, rfl, Or.inr ⟨hdd, w87, wf7, ⟨wx7, by omega, by omega⟩, rfl⟩⟩) (Nat.le_of_ble_eq_true rfl) (Nat.le_of_ble_eq_true rfl) dX4_renderDie_94
  · skip
    have bq1 := bI_eq0.mp bq1
    refine v_aload_n (pc := 13) rfl dX4_renderDie_13 ?_
    refine v_iconst (pc := 14) (z := 1) dX4_renderDie_14 ?_
    refine v_callV (pc := 15) (rest := []) (c_X4_throwing) iok_X4_throwing wM_X4_81 (rfl) (by decide) (by decide) rfl (rmOk (by decide) (by decide)) ⟨Nat.le_of_ble_eq_true rfl, Nat.le_of_ble_eq_true rfl⟩ (Nat.le_of_ble_eq_true rfl) rfl dX4_renderDie_15 (fun v G' hq => ?_) (fun _ _ h => h.elim)
    obtain ⟨rfl, hG9⟩ := hq
    rw [hG9]
    refine v_stk (st' := [vI (-1)]) rfl ?_
    exact v_iret (pc := 18) E (⟨_, rfl, Or.inl ⟨by assumption, upd2_u G 106 8 0 1⟩⟩) (Nat.le_of_ble_eq_true rfl) (Nat.le_of_ble_eq_true rfl) dX4_renderDie_18
/-- the vault's text: the dies by ranks from the greatest on: values v, counts c -/
def vtx (v c : Int → Int) : Nat → Tx
  | 0 => t0
  | h + 1 => if 0 < c h then tnum (tc (tnum (if 0 < (vtx v c h).1 then tc (vtx v c h) 32 else vtx v c h) (v h)) 120) (c h) else vtx v c h

set_option maxHeartbeats 4000000 in
set_option maxRecDepth 100000 in
theorem c_X4_renderVault {g : GT} {G : Mem} (hM : MoI (G 107)) : Ctr g yX4_renderVault cX4_renderVault 2 (some FieldType.int) (rmL 3 0 0) [vR g 106] G (RP (fun r G' => G' 106 8 = 0 ∧ FrL G G' ∧ r = G' 106 15 ∧ ∃ β, SrtM (G 107) β ∧ LnI G' (vtx (fun h => G 107 (9 + 3 * β h)) (fun h => cntE (G 107 3) (fun k => G 107 (24 + 3 * k)) (β h)) (G 107 0).toNat))) NoX := by
  refine ctr_of [some (vR g 106), none] (by decide) (Nat.le_of_ble_eq_true rfl) rfl (fun γ E => ?_)
  show V γ g cX4_renderVault 2 RX4 (rmL 3 0 0) G 0 0 0 [some (vR g 106), none] []
  have hn := MoI_n hM
  have hc := MoI_c hM
  have hy := MoI_y hM
  refine v_aload_n (pc := 0) rfl dX4_renderVault_0 ?_
  refine v_iconst (pc := 1) (z := 0) dX4_renderVault_1 ?_
  refine v_put (pc := 2) 8 pd_X4_54 (rfl) (by decide) rfl rfl dX4_renderVault_2 ?_
  refine v_aload_n (pc := 5) rfl dX4_renderVault_5 ?_
  refine v_callV (pc := 6) (rest := []) (c_X4_sortsDies (G := upd2 G 106 8 0) hM) iok_X4_sortsDies wM_X4_138 (rfl) (by decide) (by decide) rfl (rmOk (by decide) (by decide)) ⟨Nat.le_of_ble_eq_true rfl, Nat.le_of_ble_eq_true rfl⟩ (Nat.le_of_ble_eq_true rfl) rfl dX4_renderVault_6 (fun v G1 hq => ?_) (fun _ _ h => h.elim)
  obtain ⟨rfl, hq⟩ := hq
  refine v_stk (st' := []) rfl ?_
  obtain ⟨hS, hF1⟩ := hq
  rw [u107] at hS
  have h68 : G1 106 8 = 0 := (hF1 106 8 (by omega)).trans (upd2_s _ _ _ _)
  have hfl1 : FrL G G1 := fun i z a b c => (hF1 i z a).trans (if_neg (by omega))
  refine v_aload_n (pc := 9) rfl dX4_renderVault_9 ?_
  refine v_iconst (pc := 10) (z := 0) dX4_renderVault_10 ?_
  refine v_put (pc := 11) 15 pd_X4_185 (rfl) (by decide) rfl rfl dX4_renderVault_11 ?_
  obtain ⟨Gi, hGi⟩ : ∃ x : Mem, x = (upd2 G1 106 15 0) := ⟨_, rfl⟩
  rw [← hGi]
  have i8 : Gi 106 8 = 0 := by rw [hGi, upd2_z (by omega)]; exact h68
  have ifr : FrL G Gi := fun i z a b c => by rw [hGi, upd2, if_neg (by omega)]; exact hfl1 i z a b c
  have i12 : Gi 112 = G1 112 := by rw [hGi]; exact funext fun z => upd2_i (by omega)
  have i15 : Gi 106 15 = 0 := by rw [hGi, upd2_s]
  refine v_iconst (pc := 14) (z := 0) dX4_renderVault_14 ?_
  refine v_istore_n (pc := 15) (by decide) rfl dX4_renderVault_15 ?_
  have lp16 : ∀ (m16 : Nat) (h : Int) (Gw : Mem), (0 ≤ h ∧ h ≤ G 107 0) → (txE (vtx (fun h => G 107 (9 + 3 * G1 112 h)) (fun h => cntE (G 107 3) (fun k => G 107 (24 + 3 * k)) (G1 112 h)) h.toNat) (Gw 106 15) (Gw 115)) → (0 ≤ Gw 106 15 ∧ Gw 106 15 ≤ 7 * h) → (Gw 106 8 = 0) → (FrL G Gw) → (Gw 112 = G1 112) → ((G 107 0 - h).toNat) < m16 → V γ g cX4_renderVault 2 RX4 (rmL 3 0 0) Gw 0 0 16 [some (vR g 106), some (vI h)] [] := by
    intro m16
    induction m16 with
    | zero => intro h Gw; intros; omega
    | succ m16 ih16 =>
      intro h Gw h0 hx hl w8 wf w12 hm16
      have e7 : ∀ z, Gw 107 z = G 107 z := fun z => wf 107 z (by omega) (by omega) (by omega)
      have e77 : Gw 107 = G 107 := funext e7
      have e0 := e7 0
      refine v_iload_n (pc := 16) rfl dX4_renderVault_16 ?_
      refine v_aload_n (pc := 17) rfl dX4_renderVault_17 ?_
      refine v_getR (pc := 18) (j := 107) fd_X4_9 (rfl) (by decide) rfl dX4_renderVault_18 ?_
      refine v_iconst (pc := 21) (z := 0) dX4_renderVault_21 ?_
      refine v_iald (pc := 22) (N := 144) rfl rfl (by decide) (by omega) (by decide) dX4_renderVault_22 ?_
      refine v_icmp_ge (pc := 23) (tgt := 96) (by omega) dX4_renderVault_23 (by decide) (fun bq1 => ?_) (fun bq1 => ?_)
      · skip
        refine v_aload_n (pc := 96) rfl dX4_renderVault_96 ?_
        refine v_get (pc := 97) 15 fd_X4_185 (rfl) (by decide) rfl rfl dX4_renderVault_97 ?_
        exact v_iret (pc := 100) E (⟨_, rfl, w8, wf, rfl, G1 112, hS, by rw [show (G 107 0).toNat = h.toNat by omega]; exact hx, by omega, by omega⟩) (Nat.le_of_ble_eq_true rfl) (Nat.le_of_ble_eq_true rfl) dX4_renderVault_100
      · skip
        have hβ := hS.2 h (by omega) (by omega)
        have hvr := MoI_d hM hβ.1.1 hβ.1.2
        have hcr : 0 ≤ cntE (G 107 3) (fun k => G 107 (24 + 3 * k)) (G1 112 h) ∧ cntE (G 107 3) (fun k => G 107 (24 + 3 * k)) (G1 112 h) ≤ G 107 3 := sz_cnt (n := G 107 3) (p := fun k => G 107 (24 + 3 * k) = G1 112 h) (fun k => Int.instDecidableEq _ _) hc.1
        have b12 : Gw 112 h = G1 112 h := by rw [w12]
        refine v_aload_n (pc := 26) rfl dX4_renderVault_26 ?_
        refine v_aload_n (pc := 27) rfl dX4_renderVault_27 ?_
        refine v_getR (pc := 28) (j := 112) fd_X4_32 (rfl) (by decide) rfl dX4_renderVault_28 ?_
        refine v_iload_n (pc := 31) rfl dX4_renderVault_31 ?_
        refine v_iald (pc := 32) (N := 5) rfl rfl (by decide) (by omega) (by decide) dX4_renderVault_32 ?_
        refine v_callV (pc := 33) (rest := []) (c_X4_many (G := Gw) (by rw [e77]; exact hM) (d := Gw 112 h) (by omega)) iok_X4_many wM_X4_144 (rfl) (by decide) (by decide) rfl (rmOk (by decide) (by decide)) ⟨Nat.le_of_ble_eq_true rfl, Nat.le_of_ble_eq_true rfl⟩ (Nat.le_of_ble_eq_true rfl) rfl dX4_renderVault_33 (fun v G' hq => ?_) (fun _ _ h => h.elim)
        obtain ⟨rfl, hG9⟩ := hq
        rw [hG9]
        obtain ⟨cn2, h_cn2⟩ : ∃ w9, w9 = (cntE (Gw 107 3) (fun k => Gw 107 (24 + 3 * k)) (Gw 112 h)) := ⟨_, rfl⟩
        refine v_stk (st' := [vI cn2]) (by rw [h_cn2]; rfl) ?_
        have c_cn2 : cn2 = cntE (G 107 3) (fun k => G 107 (24 + 3 * k)) (G1 112 h) := by rw [h_cn2, e77, b12]
        refine v_if_le (pc := 36) (tgt := 90) (by omega) dX4_renderVault_36 (by decide) (fun bq3 => ?_) (fun bq3 => ?_)
        · skip
          refine v_iinc (pc := 90) (y := 1) rfl (by decide) rfl dX4_renderVault_90 ?_
          refine v_goto (pc := 93) (tgt := 16) dX4_renderVault_93 (by decide) ?_
          exact ih16 (h + 1) Gw (by omega) (by rw [show (h + 1).toNat = h.toNat + 1 by omega]; show txE (if 0 < cntE (G 107 3) (fun k => G 107 (24 + 3 * k)) (G1 112 ((h.toNat : Nat) : Int)) then _ else _) _ _; rw [show ((h.toNat : Nat) : Int) = h by omega, if_neg (by omega)]; exact hx) (by omega) w8 wf w12 (by omega)
        · skip
          refine v_aload_n (pc := 39) rfl dX4_renderVault_39 ?_
          refine v_get (pc := 40) 15 fd_X4_185 (rfl) (by decide) rfl rfl dX4_renderVault_40 ?_
          refine v_if_le (pc := 43) (tgt := 52) (by omega) dX4_renderVault_43 (by decide) (fun bq4 => ?_) (fun bq4 => ?_)
          · skip
            refine v_aload_n (pc := 52) rfl dX4_renderVault_52 ?_
            refine v_aload_n (pc := 53) rfl dX4_renderVault_53 ?_
            refine v_getR (pc := 54) (j := 107) fd_X4_9 (rfl) (by decide) rfl dX4_renderVault_54 ?_
            refine v_aload_n (pc := 57) rfl dX4_renderVault_57 ?_
            refine v_getR (pc := 58) (j := 112) fd_X4_32 (rfl) (by decide) rfl dX4_renderVault_58 ?_
            refine v_iload_n (pc := 61) rfl dX4_renderVault_61 ?_
            refine v_iald (pc := 62) (N := 5) rfl rfl (by decide) (by omega) (by decide) dX4_renderVault_62 ?_
            refine v_callS (pc := 63) (rest := [vR g 107, vR g 106]) (c_X4_dieAt) sok_X4_dieAt wM_X4_64 (rmOk (by decide) (by decide)) ⟨Nat.le_of_ble_eq_true rfl, Nat.le_of_ble_eq_true rfl⟩ (Nat.le_of_ble_eq_true rfl) rfl dX4_renderVault_63 (fun v G' hq => ?_) (fun _ _ h => h.elim)
            obtain ⟨rfl, hG9⟩ := hq
            rw [hG9]
            refine v_stk (st' := [vI (9 + 3 * (Gw 112 h)), vR g 107, vR g 106]) rfl ?_
            refine v_iald (pc := 66) (N := 144) rfl rfl (by decide) (by omega) (by decide) dX4_renderVault_66 ?_
            refine v_top (b := G 107 (9 + 3 * G1 112 h)) (by rw [b12, e77]) ?_
            refine v_callV (pc := 67) (rest := []) (c_X4_writesNumber (G := Gw) hx (by omega) (v := G 107 (9 + 3 * G1 112 h)) (by omega)) iok_X4_writesNumber wM_X4_191 (rfl) (by decide) (by decide) rfl (rmOk (by decide) (by decide)) ⟨Nat.le_of_ble_eq_true rfl, Nat.le_of_ble_eq_true rfl⟩ (Nat.le_of_ble_eq_true rfl) rfl dX4_renderVault_67 (fun v Wa hq => ?_) (fun _ _ h => h.elim)
            obtain ⟨rfl, hq⟩ := hq
            refine v_stk (st' := []) rfl ?_
            obtain ⟨Wax, Wal, Was⟩ := hq
            have Wa8 : Wa 106 8 = 0 := (Was 106 8 (by omega) (by omega)).trans w8
            have Waf : FrL G Wa := fun i z a b c => (Was i z b (by omega)).trans (wf i z a b c)
            have Wa7 : Wa 107 = G 107 := funext fun z => Waf 107 z (by omega) (by omega) (by omega)
            have Wa12 : Wa 112 h = G1 112 h := (Was 112 h (by omega) (by omega)).trans b12
            have Wae12 : Wa 112 = G1 112 := (funext fun z => Was 112 z (by omega) (by omega)).trans w12
            refine v_aload_n (pc := 70) rfl dX4_renderVault_70 ?_
            refine v_bipush (pc := 71) (z := 120) rfl dX4_renderVault_71 ?_
            refine v_callV (pc := 73) (rest := []) (c_X4_sign (G := Wa) Wax (by omega) (c := 120)) iok_X4_sign wM_X4_188 (rfl) (by decide) (by decide) rfl (rmOk (by decide) (by decide)) ⟨Nat.le_of_ble_eq_true rfl, Nat.le_of_ble_eq_true rfl⟩ (Nat.le_of_ble_eq_true rfl) rfl dX4_renderVault_73 (fun v Wb hq => ?_) (fun _ _ h => h.elim)
            obtain ⟨rfl, hq⟩ := hq
            refine v_stk (st' := []) rfl ?_
            obtain ⟨Wbx, Wbl, Wbs⟩ := hq
            have Wb8 : Wb 106 8 = 0 := (Wbs 106 8 (by omega) (by omega)).trans Wa8
            have Wbf : FrL G Wb := fun i z a b c => (Wbs i z b (by omega)).trans (Waf i z a b c)
            have Wb7 : Wb 107 = G 107 := funext fun z => Wbf 107 z (by omega) (by omega) (by omega)
            have Wb12 : Wb 112 h = G1 112 h := (Wbs 112 h (by omega) (by omega)).trans Wa12
            have Wbe12 : Wb 112 = G1 112 := (funext fun z => Wbs 112 z (by omega) (by omega)).trans Wae12
            refine v_aload_n (pc := 76) rfl dX4_renderVault_76 ?_
            refine v_aload_n (pc := 77) rfl dX4_renderVault_77 ?_
            refine v_aload_n (pc := 78) rfl dX4_renderVault_78 ?_
            refine v_getR (pc := 79) (j := 112) fd_X4_32 (rfl) (by decide) rfl dX4_renderVault_79 ?_
            refine v_iload_n (pc := 82) rfl dX4_renderVault_82 ?_
            refine v_iald (pc := 83) (N := 5) rfl rfl (by decide) (by omega) (by decide) dX4_renderVault_83 ?_
            refine v_callV (pc := 84) (rest := [vR g 106]) (c_X4_many (G := Wb) (by rw [Wb7]; exact hM) (d := Wb 112 h) (by omega)) iok_X4_many wM_X4_144 (rfl) (by decide) (by decide) rfl (rmOk (by decide) (by decide)) ⟨Nat.le_of_ble_eq_true rfl, Nat.le_of_ble_eq_true rfl⟩ (Nat.le_of_ble_eq_true rfl) rfl dX4_renderVault_84 (fun v G' hq => ?_) (fun _ _ h => h.elim)
            obtain ⟨rfl, hG9⟩ := hq
            rw [hG9]
            obtain ⟨cn5, h_cn5⟩ : ∃ w9, w9 = (cntE (Wb 107 3) (fun k => Wb 107 (24 + 3 * k)) (Wb 112 h)) := ⟨_, rfl⟩
            refine v_stk (st' := [vI cn5, vR g 106]) (by rw [h_cn5]; rfl) ?_
            have c_cn5 : cn5 = cntE (G 107 3) (fun k => G 107 (24 + 3 * k)) (G1 112 h) := by rw [h_cn5, Wb7, Wb12]
            refine v_callV (pc := 87) (rest := []) (c_X4_writesNumber (G := Wb) Wbx (by omega) (v := cn5) (by omega)) iok_X4_writesNumber wM_X4_191 (rfl) (by decide) (by decide) rfl (rmOk (by decide) (by decide)) ⟨Nat.le_of_ble_eq_true rfl, Nat.le_of_ble_eq_true rfl⟩ (Nat.le_of_ble_eq_true rfl) rfl dX4_renderVault_87 (fun v Wc hq => ?_) (fun _ _ h => h.elim)
            obtain ⟨rfl, hq⟩ := hq
            refine v_stk (st' := []) rfl ?_
            obtain ⟨Wcx, Wcl, Wcs⟩ := hq
            have Wc8 : Wc 106 8 = 0 := (Wcs 106 8 (by omega) (by omega)).trans Wb8
            have Wcf : FrL G Wc := fun i z a b c => (Wcs i z b (by omega)).trans (Wbf i z a b c)
            have Wc7 : Wc 107 = G 107 := funext fun z => Wcf 107 z (by omega) (by omega) (by omega)
            have Wc12 : Wc 112 h = G1 112 h := (Wcs 112 h (by omega) (by omega)).trans Wb12
            have Wce12 : Wc 112 = G1 112 := (funext fun z => Wcs 112 z (by omega) (by omega)).trans Wbe12
            have hxl : (vtx (fun h => G 107 (9 + 3 * G1 112 h)) (fun h => cntE (G 107 3) (fun k => G 107 (24 + 3 * k)) (G1 112 h)) h.toNat).1 = Gw 106 15 := hx.1
            have hxx : txE (tnum (tc (tnum (if 0 < (vtx (fun h => G 107 (9 + 3 * G1 112 h)) (fun h => cntE (G 107 3) (fun k => G 107 (24 + 3 * k)) (G1 112 h)) h.toNat).1 then tc (vtx (fun h => G 107 (9 + 3 * G1 112 h)) (fun h => cntE (G 107 3) (fun k => G 107 (24 + 3 * k)) (G1 112 h)) h.toNat) 32 else vtx (fun h => G 107 (9 + 3 * G1 112 h)) (fun h => cntE (G 107 3) (fun k => G 107 (24 + 3 * k)) (G1 112 h)) h.toNat) (G 107 (9 + 3 * G1 112 h))) 120) (cntE (G 107 3) (fun k => G 107 (24 + 3 * k)) (G1 112 h))) (Wc 106 15) (Wc 115) := by
              rw [hxl, if_neg (by omega)]
              have q := Wcx
              first | exact q | (rw [c_cn5] at q; exact q)
            have z8 := Wc8
            have zf := Wcf
            have z12 := Wce12
            refine v_iinc (pc := 90) (y := 1) rfl (by decide) rfl dX4_renderVault_90 ?_
            refine v_goto (pc := 93) (tgt := 16) dX4_renderVault_93 (by decide) ?_
            exact ih16 (h + 1) Wc (by omega) (by rw [show (h + 1).toNat = h.toNat + 1 by omega]; show txE (if 0 < cntE (G 107 3) (fun k => G 107 (24 + 3 * k)) (G1 112 ((h.toNat : Nat) : Int)) then _ else _) _ _; rw [show ((h.toNat : Nat) : Int) = h by omega]; first | (rw [if_pos (by omega)]; exact hxx) | (rw [if_neg (by omega)]; exact hx)) (by omega) z8 zf z12 (by omega)
          · skip
            refine v_aload_n (pc := 46) rfl dX4_renderVault_46 ?_
            refine v_bipush (pc := 47) (z := 32) rfl dX4_renderVault_47 ?_
            refine v_callV (pc := 49) (rest := []) (c_X4_sign (G := Gw) hx (by omega) (c := 32)) iok_X4_sign wM_X4_188 (rfl) (by decide) (by decide) rfl (rmOk (by decide) (by decide)) ⟨Nat.le_of_ble_eq_true rfl, Nat.le_of_ble_eq_true rfl⟩ (Nat.le_of_ble_eq_true rfl) rfl dX4_renderVault_49 (fun v Wa hq => ?_) (fun _ _ h => h.elim)
            obtain ⟨rfl, hq⟩ := hq
            refine v_stk (st' := []) rfl ?_
            obtain ⟨Wax, Wal, Was⟩ := hq
            have Wa8 : Wa 106 8 = 0 := (Was 106 8 (by omega) (by omega)).trans w8
            have Waf : FrL G Wa := fun i z a b c => (Was i z b (by omega)).trans (wf i z a b c)
            have Wa7 : Wa 107 = G 107 := funext fun z => Waf 107 z (by omega) (by omega) (by omega)
            have Wa12 : Wa 112 h = G1 112 h := (Was 112 h (by omega) (by omega)).trans b12
            have Wae12 : Wa 112 = G1 112 := (funext fun z => Was 112 z (by omega) (by omega)).trans w12
            refine v_aload_n (pc := 52) rfl dX4_renderVault_52 ?_
            refine v_aload_n (pc := 53) rfl dX4_renderVault_53 ?_
            refine v_getR (pc := 54) (j := 107) fd_X4_9 (rfl) (by decide) rfl dX4_renderVault_54 ?_
            refine v_aload_n (pc := 57) rfl dX4_renderVault_57 ?_
            refine v_getR (pc := 58) (j := 112) fd_X4_32 (rfl) (by decide) rfl dX4_renderVault_58 ?_
            refine v_iload_n (pc := 61) rfl dX4_renderVault_61 ?_
            refine v_iald (pc := 62) (N := 5) rfl rfl (by decide) (by omega) (by decide) dX4_renderVault_62 ?_
            refine v_callS (pc := 63) (rest := [vR g 107, vR g 106]) (c_X4_dieAt) sok_X4_dieAt wM_X4_64 (rmOk (by decide) (by decide)) ⟨Nat.le_of_ble_eq_true rfl, Nat.le_of_ble_eq_true rfl⟩ (Nat.le_of_ble_eq_true rfl) rfl dX4_renderVault_63 (fun v G' hq => ?_) (fun _ _ h => h.elim)
            obtain ⟨rfl, hG9⟩ := hq
            rw [hG9]
            refine v_stk (st' := [vI (9 + 3 * (Wa 112 h)), vR g 107, vR g 106]) rfl ?_
            refine v_iald (pc := 66) (N := 144) rfl rfl (by decide) (by omega) (by decide) dX4_renderVault_66 ?_
            refine v_top (b := G 107 (9 + 3 * G1 112 h)) (by rw [Wa12, Wa7]) ?_
            refine v_callV (pc := 67) (rest := []) (c_X4_writesNumber (G := Wa) Wax (by omega) (v := G 107 (9 + 3 * G1 112 h)) (by omega)) iok_X4_writesNumber wM_X4_191 (rfl) (by decide) (by decide) rfl (rmOk (by decide) (by decide)) ⟨Nat.le_of_ble_eq_true rfl, Nat.le_of_ble_eq_true rfl⟩ (Nat.le_of_ble_eq_true rfl) rfl dX4_renderVault_67 (fun v Wb hq => ?_) (fun _ _ h => h.elim)
            obtain ⟨rfl, hq⟩ := hq
            refine v_stk (st' := []) rfl ?_
            obtain ⟨Wbx, Wbl, Wbs⟩ := hq
            have Wb8 : Wb 106 8 = 0 := (Wbs 106 8 (by omega) (by omega)).trans Wa8
            have Wbf : FrL G Wb := fun i z a b c => (Wbs i z b (by omega)).trans (Waf i z a b c)
            have Wb7 : Wb 107 = G 107 := funext fun z => Wbf 107 z (by omega) (by omega) (by omega)
            have Wb12 : Wb 112 h = G1 112 h := (Wbs 112 h (by omega) (by omega)).trans Wa12
            have Wbe12 : Wb 112 = G1 112 := (funext fun z => Wbs 112 z (by omega) (by omega)).trans Wae12
            refine v_aload_n (pc := 70) rfl dX4_renderVault_70 ?_
            refine v_bipush (pc := 71) (z := 120) rfl dX4_renderVault_71 ?_
            refine v_callV (pc := 73) (rest := []) (c_X4_sign (G := Wb) Wbx (by omega) (c := 120)) iok_X4_sign wM_X4_188 (rfl) (by decide) (by decide) rfl (rmOk (by decide) (by decide)) ⟨Nat.le_of_ble_eq_true rfl, Nat.le_of_ble_eq_true rfl⟩ (Nat.le_of_ble_eq_true rfl) rfl dX4_renderVault_73 (fun v Wc hq => ?_) (fun _ _ h => h.elim)
            obtain ⟨rfl, hq⟩ := hq
            refine v_stk (st' := []) rfl ?_
            obtain ⟨Wcx, Wcl, Wcs⟩ := hq
            have Wc8 : Wc 106 8 = 0 := (Wcs 106 8 (by omega) (by omega)).trans Wb8
            have Wcf : FrL G Wc := fun i z a b c => (Wcs i z b (by omega)).trans (Wbf i z a b c)
            have Wc7 : Wc 107 = G 107 := funext fun z => Wcf 107 z (by omega) (by omega) (by omega)
            have Wc12 : Wc 112 h = G1 112 h := (Wcs 112 h (by omega) (by omega)).trans Wb12
            have Wce12 : Wc 112 = G1 112 := (funext fun z => Wcs 112 z (by omega) (by omega)).trans Wbe12
            refine v_aload_n (pc := 76) rfl dX4_renderVault_76 ?_
            refine v_aload_n (pc := 77) rfl dX4_renderVault_77 ?_
            refine v_aload_n (pc := 78) rfl dX4_renderVault_78 ?_
            refine v_getR (pc := 79) (j := 112) fd_X4_32 (rfl) (by decide) rfl dX4_renderVault_79 ?_
            refine v_iload_n (pc := 82) rfl dX4_renderVault_82 ?_
            refine v_iald (pc := 83) (N := 5) rfl rfl (by decide) (by omega) (by decide) dX4_renderVault_83 ?_
            refine v_callV (pc := 84) (rest := [vR g 106]) (c_X4_many (G := Wc) (by rw [Wc7]; exact hM) (d := Wc 112 h) (by omega)) iok_X4_many wM_X4_144 (rfl) (by decide) (by decide) rfl (rmOk (by decide) (by decide)) ⟨Nat.le_of_ble_eq_true rfl, Nat.le_of_ble_eq_true rfl⟩ (Nat.le_of_ble_eq_true rfl) rfl dX4_renderVault_84 (fun v G' hq => ?_) (fun _ _ h => h.elim)
            obtain ⟨rfl, hG9⟩ := hq
            rw [hG9]
            obtain ⟨cn6, h_cn6⟩ : ∃ w9, w9 = (cntE (Wc 107 3) (fun k => Wc 107 (24 + 3 * k)) (Wc 112 h)) := ⟨_, rfl⟩
            refine v_stk (st' := [vI cn6, vR g 106]) (by rw [h_cn6]; rfl) ?_
            have c_cn6 : cn6 = cntE (G 107 3) (fun k => G 107 (24 + 3 * k)) (G1 112 h) := by rw [h_cn6, Wc7, Wc12]
            refine v_callV (pc := 87) (rest := []) (c_X4_writesNumber (G := Wc) Wcx (by omega) (v := cn6) (by omega)) iok_X4_writesNumber wM_X4_191 (rfl) (by decide) (by decide) rfl (rmOk (by decide) (by decide)) ⟨Nat.le_of_ble_eq_true rfl, Nat.le_of_ble_eq_true rfl⟩ (Nat.le_of_ble_eq_true rfl) rfl dX4_renderVault_87 (fun v Wd hq => ?_) (fun _ _ h => h.elim)
            obtain ⟨rfl, hq⟩ := hq
            refine v_stk (st' := []) rfl ?_
            obtain ⟨Wdx, Wdl, Wds⟩ := hq
            have Wd8 : Wd 106 8 = 0 := (Wds 106 8 (by omega) (by omega)).trans Wc8
            have Wdf : FrL G Wd := fun i z a b c => (Wds i z b (by omega)).trans (Wcf i z a b c)
            have Wd7 : Wd 107 = G 107 := funext fun z => Wdf 107 z (by omega) (by omega) (by omega)
            have Wd12 : Wd 112 h = G1 112 h := (Wds 112 h (by omega) (by omega)).trans Wc12
            have Wde12 : Wd 112 = G1 112 := (funext fun z => Wds 112 z (by omega) (by omega)).trans Wce12
            have hxl : (vtx (fun h => G 107 (9 + 3 * G1 112 h)) (fun h => cntE (G 107 3) (fun k => G 107 (24 + 3 * k)) (G1 112 h)) h.toNat).1 = Gw 106 15 := hx.1
            have hxx : txE (tnum (tc (tnum (if 0 < (vtx (fun h => G 107 (9 + 3 * G1 112 h)) (fun h => cntE (G 107 3) (fun k => G 107 (24 + 3 * k)) (G1 112 h)) h.toNat).1 then tc (vtx (fun h => G 107 (9 + 3 * G1 112 h)) (fun h => cntE (G 107 3) (fun k => G 107 (24 + 3 * k)) (G1 112 h)) h.toNat) 32 else vtx (fun h => G 107 (9 + 3 * G1 112 h)) (fun h => cntE (G 107 3) (fun k => G 107 (24 + 3 * k)) (G1 112 h)) h.toNat) (G 107 (9 + 3 * G1 112 h))) 120) (cntE (G 107 3) (fun k => G 107 (24 + 3 * k)) (G1 112 h))) (Wd 106 15) (Wd 115) := by
              rw [hxl, if_pos (by omega)]
              have q := Wdx
              first | exact q | (rw [c_cn6] at q; exact q)
            have z8 := Wd8
            have zf := Wdf
            have z12 := Wde12
            refine v_iinc (pc := 90) (y := 1) rfl (by decide) rfl dX4_renderVault_90 ?_
            refine v_goto (pc := 93) (tgt := 16) dX4_renderVault_93 (by decide) ?_
            exact ih16 (h + 1) Wd (by omega) (by rw [show (h + 1).toNat = h.toNat + 1 by omega]; show txE (if 0 < cntE (G 107 3) (fun k => G 107 (24 + 3 * k)) (G1 112 ((h.toNat : Nat) : Int)) then _ else _) _ _; rw [show ((h.toNat : Nat) : Int) = h by omega]; first | (rw [if_pos (by omega)]; exact hxx) | (rw [if_neg (by omega)]; exact hx)) (by omega) z8 zf z12 (by omega)
  refine v_loc (L' := [some (vR g 106), some (vI 0)]) (⟨rfl, rfl, trivial⟩) ?_
  exact lp16 _ 0 Gi (by omega) (by rw [i15]; exact ⟨rfl, fun z a b => by omega⟩) (by omega) i8 ifr i12 (Nat.lt_succ_self _)
set_option maxHeartbeats 4000000 in
set_option maxRecDepth 100000 in
theorem c_X4_outputAt {g : GT} {G : Mem} {d : Int} (h_d : -2147483648 ≤ d ∧ d < 2147483648) (hl : 0 ≤ G 106 15 ∧ G 106 15 ≤ 79) (hz : ∀ z, 0 ≤ z → z < G 106 15 → 0 ≤ G 115 z ∧ G 115 z < 65536) : Ctr g yX4_outputAt cX4_outputAt 2 (some FieldType.char) (rmL 1 0 0) [vR g 106, vI d] G (QR G (fun k r => (k = 0 ∧ (0 ≤ d ∧ d < G 106 15) ∧ r = G 115 d) ∨ (k = 1 ∧ ¬ (0 ≤ d ∧ d < G 106 15)))) NoX := by
  refine ctr_of [some (vR g 106), some (vI d)] (by decide) (Nat.le_of_ble_eq_true rfl) rfl (fun γ E => ?_)
  show V γ g cX4_outputAt 2 RX4 (rmL 1 0 0) G 0 0 0 [some (vR g 106), some (vI d)] []
  refine v_aload_n (pc := 0) rfl dX4_outputAt_0 ?_
  refine v_iconst (pc := 1) (z := 0) dX4_outputAt_1 ?_
  refine v_put (pc := 2) 8 pd_X4_54 (rfl) (by decide) rfl rfl dX4_outputAt_2 ?_
  refine v_iload_n (pc := 5) rfl dX4_outputAt_5 ?_
  refine v_i2l (pc := 6) (by omega) dX4_outputAt_6 ?_
  refine v_lconst (pc := 7) (z := 0) rfl dX4_outputAt_7 ?_
  refine v_aload_n (pc := 8) rfl dX4_outputAt_8 ?_
  refine v_get (pc := 9) 15 fd_X4_185 (rfl) (by decide) rfl rfl dX4_outputAt_9 ?_
  refine v_top (b := G 106 15) (upd2_z (by decide)) ?_
  refine v_iconst (pc := 12) (z := 1) dX4_outputAt_12 ?_
  refine v_isub (pc := 13) dX4_outputAt_13 ?_
  refine v_i2l (pc := 14) (by omega) dX4_outputAt_14 ?_
  refine v_callS (pc := 15) (rest := []) (c_X4_in (by omega) (by omega) (by omega)) sok_X4_in wM_X4_60 (rmOk (by decide) (by decide)) ⟨Nat.le_of_ble_eq_true rfl, Nat.le_of_ble_eq_true rfl⟩ (Nat.le_of_ble_eq_true rfl) rfl dX4_outputAt_15 (fun v G' hq => ?_) (fun _ _ h => h.elim)
  obtain ⟨rfl, hG9⟩ := hq
  rw [hG9]
  refine v_stk (st' := [vI (bI (0 ≤ d ∧ d ≤ (G 106 15) - 1))]) rfl ?_
  refine v_if_eq (pc := 18) (tgt := 31) (bI_r _) dX4_outputAt_18 (by decide) (fun bq1 => ?_) (fun bq1 => ?_)
  · skip
    have bq1 := bI_eq0.mp bq1
    refine v_aload_n (pc := 31) rfl dX4_outputAt_31 ?_
    refine v_iconst (pc := 32) (z := 1) dX4_outputAt_32 ?_
    refine v_callV (pc := 33) (rest := []) (c_X4_throwing) iok_X4_throwing wM_X4_81 (rfl) (by decide) (by decide) rfl (rmOk (by decide) (by decide)) ⟨Nat.le_of_ble_eq_true rfl, Nat.le_of_ble_eq_true rfl⟩ (Nat.le_of_ble_eq_true rfl) rfl dX4_outputAt_33 (fun v G' hq => ?_) (fun _ _ h => h.elim)
    obtain ⟨rfl, hG9⟩ := hq
    rw [hG9]
    refine v_stk (st' := [vI (-1)]) rfl ?_
    refine v_i2c (pc := 36) dX4_outputAt_36 ?_
    exact v_cret (pc := 37) E (by omega) (⟨_, 1, rfl, Or.inr ⟨rfl, by omega⟩, by omega, upd2_u G 106 8 0 1⟩) (Nat.le_of_ble_eq_true rfl) (Nat.le_of_ble_eq_true rfl) dX4_outputAt_37
  · skip
    have bq1 := bI_n0 bq1
    refine v_aload_n (pc := 21) rfl dX4_outputAt_21 ?_
    refine v_getR (pc := 22) (j := 115) fd_X4_41 (rfl) (by decide) rfl dX4_outputAt_22 ?_
    refine v_iload_n (pc := 25) rfl dX4_outputAt_25 ?_
    have hzz := hz d (by omega) (by omega)
    refine v_iald (pc := 26) (N := 80) rfl rfl (by decide) (by omega) (by decide) dX4_outputAt_26 ?_
    refine v_top (b := G 115 d) (upd2_i (by decide)) ?_
    refine v_i2c (pc := 27) dX4_outputAt_27 ?_
    refine v_top (b := G 115 d) (by omega) ?_
    refine v_goto (pc := 28) (tgt := 37) dX4_outputAt_28 (by decide) ?_
    exact v_cret (pc := 37) E (by omega) (⟨_, 0, rfl, Or.inl ⟨rfl, by omega, rfl⟩, by omega, rfl⟩) (Nat.le_of_ble_eq_true rfl) (Nat.le_of_ble_eq_true rfl) dX4_outputAt_37
