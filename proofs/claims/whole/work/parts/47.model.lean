-- the model: its row m (place 107): 0 dies, 1 stock, 2 year, 3 coins, 4 struck, 5 paid, 6 paid weight, 7 lost, 8 added; die i at 9 + 3 i (value, weight, wear), coin k at 24 + 3 k (die, year, grade)
def MoI (M : Int → Int) : Prop :=
  (0 ≤ M 0 ∧ M 0 ≤ 5) ∧ (0 ≤ M 3 ∧ M 3 ≤ 40) ∧ (0 ≤ M 2 ∧ M 2 ≤ 1000000) ∧
  (∀ k, 0 ≤ k → k < M 3 → (0 ≤ M (24 + 3 * k) ∧ M (24 + 3 * k) < M 0) ∧ (0 ≤ M (24 + 3 * k + 1) ∧ M (24 + 3 * k + 1) ≤ M 2) ∧ 0 ≤ M (24 + 3 * k + 2) ∧ M (24 + 3 * k + 2) ≤ 2) ∧
  (∀ i, 0 ≤ i → i < M 0 → (1 ≤ M (9 + 3 * i) ∧ M (9 + 3 * i) ≤ 50) ∧ (1 ≤ M (9 + 3 * i + 1) ∧ M (9 + 3 * i + 1) ≤ 9) ∧ 0 ≤ M (9 + 3 * i + 2) ∧ M (9 + 3 * i + 2) ≤ 30) ∧
  (∀ i, M 0 ≤ i → i < 5 → M (9 + 3 * i + 2) = 0) ∧
  (∀ i j, 0 ≤ i → i < j → j < M 0 → M (9 + 3 * i) ≠ M (9 + 3 * j))
theorem MoI_n {M : Int → Int} (h : MoI M) : 0 ≤ M 0 ∧ M 0 ≤ 5 := h.1
theorem MoI_c {M : Int → Int} (h : MoI M) : 0 ≤ M 3 ∧ M 3 ≤ 40 := h.2.1
theorem MoI_y {M : Int → Int} (h : MoI M) : 0 ≤ M 2 ∧ M 2 ≤ 1000000 := h.2.2.1
theorem MoI_k {M : Int → Int} (h : MoI M) {k : Int} (h0 : 0 ≤ k) (h1 : k < M 3) : (0 ≤ M (24 + 3 * k) ∧ M (24 + 3 * k) < M 0) ∧ (0 ≤ M (24 + 3 * k + 1) ∧ M (24 + 3 * k + 1) ≤ M 2) ∧ 0 ≤ M (24 + 3 * k + 2) ∧ M (24 + 3 * k + 2) ≤ 2 := h.2.2.2.1 k h0 h1
theorem MoI_d {M : Int → Int} (h : MoI M) {i : Int} (h0 : 0 ≤ i) (h1 : i < M 0) : (1 ≤ M (9 + 3 * i) ∧ M (9 + 3 * i) ≤ 50) ∧ (1 ≤ M (9 + 3 * i + 1) ∧ M (9 + 3 * i + 1) ≤ 9) ∧ 0 ≤ M (9 + 3 * i + 2) ∧ M (9 + 3 * i + 2) ≤ 30 := h.2.2.2.2.1 i h0 h1
/-- the sum of φ over the model's coins -/
def csM (M : Int → Int) (φ : Int → Int → Int → Int) : Int := sz (M 3) (fun k => φ (M (24 + 3 * k)) (M (24 + 3 * k + 1)) (M (24 + 3 * k + 2)))
theorem upd2_u (G : Mem) (i : Nat) (z a b : Int) : upd2 (upd2 G i z a) i z b = upd2 G i z b := by
  funext j w
  unfold upd2
  split <;> rfl
theorem if_congr {α : Type} {p q : Prop} {ip : Decidable p} {iq : Decidable q} {a b c d : α} (h : p ↔ q) (h1 : a = c) (h2 : b = d) : (@ite α p ip a b) = @ite α q iq c d := by
  subst h1
  subst h2
  by_cases z : p
  · rw [if_pos z, if_pos (h.mp z)]
  · rw [if_neg z, if_neg (fun y => z (h.mpr y))]
theorem u107 (G : Mem) (k : Int) : upd2 G 106 8 k 107 = G 107 := funext fun _ => upd2_i (by decide)
/-- a question's end: its number, and what is thrown -/
def QR (G : Mem) (P : Int → Int → Prop) : Option Value → Mem → Prop := fun v G' => ∃ r k, v = some (vI r) ∧ P k r ∧ (0 ≤ k ∧ k ≤ 5) ∧ G' = upd2 G 106 8 k
theorem gow_q {w : Int} (h : 0 ≤ w ∧ w < 2147483648) : mnI 2 (w / 10) = gow w := by
  unfold mnI gow
  repeat (first | omega | split)

set_option maxHeartbeats 4000000 in
set_option maxRecDepth 100000 in
theorem c_X4_in {g : GT} {G : Mem} {v lo hi : Int} (h_v : -9223372036854775808 ≤ v ∧ v < 9223372036854775808) (h_lo : -9223372036854775808 ≤ lo ∧ lo < 9223372036854775808) (h_hi : -9223372036854775808 ≤ hi ∧ hi < 9223372036854775808) : Ctr g yX4_in cX4_in 6 (some FieldType.boolean) (rmL 0 0 0) [vJ v, vJ lo, vJ hi] G (RM (bI (lo ≤ v ∧ v ≤ hi)) G) NoX := by
  refine ctr_of [some (vJ v), none, some (vJ lo), none, some (vJ hi), none] (by decide) (Nat.le_of_ble_eq_true rfl) rfl (fun γ E => ?_)
  show V γ g cX4_in 6 RX4 (rmL 0 0 0) G 0 0 0 [some (vJ v), none, some (vJ lo), none, some (vJ hi), none] []
  refine v_lload_n (pc := 0) rfl dX4_in_0 ?_
  refine v_lload_n (pc := 1) rfl dX4_in_1 ?_
  refine v_lc_lt (pc := 2) (tgt := 17) (by omega) (by omega) dX4_in_2 dX4_in_3 (by decide) (fun bq1 => ?_) (fun bq1 => ?_)
  · skip
    refine v_iconst (pc := 17) (z := 0) dX4_in_17 ?_
    exact v_bret (pc := 18) E (by decide) (⟨by rw [bI_f (by omega)], rfl⟩) (Nat.le_of_ble_eq_true rfl) (Nat.le_of_ble_eq_true rfl) dX4_in_18
  · skip
    refine v_lload_n (pc := 6) rfl dX4_in_6 ?_
    refine v_lload (pc := 7) rfl dX4_in_7 ?_
    refine v_lc_gt (pc := 9) (tgt := 17) (by omega) (by omega) dX4_in_9 dX4_in_10 (by decide) (fun bq2 => ?_) (fun bq2 => ?_)
    · skip
      refine v_iconst (pc := 17) (z := 0) dX4_in_17 ?_
      exact v_bret (pc := 18) E (by decide) (⟨by rw [bI_f (by omega)], rfl⟩) (Nat.le_of_ble_eq_true rfl) (Nat.le_of_ble_eq_true rfl) dX4_in_18
    · skip
      refine v_iconst (pc := 13) (z := 1) dX4_in_13 ?_
      refine v_goto (pc := 14) (tgt := 18) dX4_in_14 (by decide) ?_
      exact v_bret (pc := 18) E (by decide) (⟨by rw [bI_t (by omega)], rfl⟩) (Nat.le_of_ble_eq_true rfl) (Nat.le_of_ble_eq_true rfl) dX4_in_18
set_option maxHeartbeats 4000000 in
set_option maxRecDepth 100000 in
theorem c_X4_dieAt {g : GT} {G : Mem} {z : Int} : Ctr g yX4_dieAt cX4_dieAt 1 (some FieldType.int) (rmL 0 0 0) [vI z] G (RM (9 + 3 * z) G) NoX := by
  refine ctr_of [some (vI z)] (by decide) (Nat.le_of_ble_eq_true rfl) rfl (fun γ E => ?_)
  show V γ g cX4_dieAt 1 RX4 (rmL 0 0 0) G 0 0 0 [some (vI z)] []
  refine v_bipush (pc := 0) (z := 9) rfl dX4_dieAt_0 ?_
  refine v_iconst (pc := 2) (z := 3) dX4_dieAt_2 ?_
  refine v_iload_n (pc := 3) rfl dX4_dieAt_3 ?_
  refine v_imul (pc := 4) dX4_dieAt_4 ?_
  refine v_iadd (pc := 5) dX4_dieAt_5 ?_
  exact v_iret (pc := 6) E (⟨rfl, rfl⟩) (Nat.le_of_ble_eq_true rfl) (Nat.le_of_ble_eq_true rfl) dX4_dieAt_6
set_option maxHeartbeats 4000000 in
set_option maxRecDepth 100000 in
theorem c_X4_coinAt {g : GT} {G : Mem} {z : Int} : Ctr g yX4_coinAt cX4_coinAt 1 (some FieldType.int) (rmL 0 0 0) [vI z] G (RM (24 + 3 * z) G) NoX := by
  refine ctr_of [some (vI z)] (by decide) (Nat.le_of_ble_eq_true rfl) rfl (fun γ E => ?_)
  show V γ g cX4_coinAt 1 RX4 (rmL 0 0 0) G 0 0 0 [some (vI z)] []
  refine v_bipush (pc := 0) (z := 24) rfl dX4_coinAt_0 ?_
  refine v_iconst (pc := 2) (z := 3) dX4_coinAt_2 ?_
  refine v_iload_n (pc := 3) rfl dX4_coinAt_3 ?_
  refine v_imul (pc := 4) dX4_coinAt_4 ?_
  refine v_iadd (pc := 5) dX4_coinAt_5 ?_
  exact v_iret (pc := 6) E (⟨rfl, rfl⟩) (Nat.le_of_ble_eq_true rfl) (Nat.le_of_ble_eq_true rfl) dX4_coinAt_6
set_option maxHeartbeats 4000000 in
set_option maxRecDepth 100000 in
theorem c_X4_cell {g : GT} {G : Mem} {z y : Int} : Ctr g yX4_cell cX4_cell 2 (some FieldType.int) (rmL 0 0 0) [vI z, vI y] G (RM (100 * z + y) G) NoX := by
  refine ctr_of [some (vI z), some (vI y)] (by decide) (Nat.le_of_ble_eq_true rfl) rfl (fun γ E => ?_)
  show V γ g cX4_cell 2 RX4 (rmL 0 0 0) G 0 0 0 [some (vI z), some (vI y)] []
  refine v_bipush (pc := 0) (z := 100) rfl dX4_cell_0 ?_
  refine v_iload_n (pc := 2) rfl dX4_cell_2 ?_
  refine v_imul (pc := 3) dX4_cell_3 ?_
  refine v_iload_n (pc := 4) rfl dX4_cell_4 ?_
  refine v_iadd (pc := 5) dX4_cell_5 ?_
  exact v_iret (pc := 6) E (⟨rfl, rfl⟩) (Nat.le_of_ble_eq_true rfl) (Nat.le_of_ble_eq_true rfl) dX4_cell_6
set_option maxHeartbeats 4000000 in
set_option maxRecDepth 100000 in
theorem c_X4_gradeBy {g : GT} {G : Mem} {w : Int} (h_w : 0 ≤ w ∧ w < 2147483648) : Ctr g yX4_gradeBy cX4_gradeBy 1 (some FieldType.int) (rmL 0 0 0) [vI w] G (RM (gow w) G) NoX := by
  refine ctr_of [some (vI w)] (by decide) (Nat.le_of_ble_eq_true rfl) rfl (fun γ E => ?_)
  show V γ g cX4_gradeBy 1 RX4 (rmL 0 0 0) G 0 0 0 [some (vI w)] []
  refine v_iconst (pc := 0) (z := 2) dX4_gradeBy_0 ?_
  refine v_iload_n (pc := 1) rfl dX4_gradeBy_1 ?_
  refine v_bipush (pc := 2) (z := 10) rfl dX4_gradeBy_2 ?_
  refine v_idiv (pc := 4) (by omega) (by omega) dX4_gradeBy_4 ?_
  refine v_mmin (pc := 5) (by omega) wM_X4_71 (Nat.le_of_ble_eq_true rfl) (Nat.le_of_ble_eq_true rfl) (Nat.le_of_ble_eq_true rfl) (Nat.le_of_ble_eq_true rfl) (Nat.le_of_ble_eq_true rfl) dX4_gradeBy_5 ?_
  exact v_iret (pc := 8) E (⟨by rw [← gow_q h_w], rfl⟩) (Nat.le_of_ble_eq_true rfl) (Nat.le_of_ble_eq_true rfl) dX4_gradeBy_8
set_option maxHeartbeats 4000000 in
set_option maxRecDepth 100000 in
theorem c_X4_throwing {g : GT} {G : Mem} {z : Int} : Ctr g yX4_throwing cX4_throwing 2 (some FieldType.int) (rmL 0 0 0) [vR g 106, vI z] G (RM (-1) (upd2 G 106 8 z)) NoX := by
  refine ctr_of [some (vR g 106), some (vI z)] (by decide) (Nat.le_of_ble_eq_true rfl) rfl (fun γ E => ?_)
  show V γ g cX4_throwing 2 RX4 (rmL 0 0 0) G 0 0 0 [some (vR g 106), some (vI z)] []
  refine v_aload_n (pc := 0) rfl dX4_throwing_0 ?_
  refine v_iload_n (pc := 1) rfl dX4_throwing_1 ?_
  refine v_put (pc := 2) 8 pd_X4_54 (rfl) (by decide) rfl rfl dX4_throwing_2 ?_
  refine v_iconst (pc := 5) (z := (-1)) dX4_throwing_5 ?_
  exact v_iret (pc := 6) E (⟨rfl, rfl⟩) (Nat.le_of_ble_eq_true rfl) (Nat.le_of_ble_eq_true rfl) dX4_throwing_6
set_option maxHeartbeats 4000000 in
set_option maxRecDepth 100000 in
theorem c_X4_thrown {g : GT} {G : Mem} : Ctr g yX4_thrown cX4_thrown 1 (some FieldType.int) (rmL 0 0 0) [vR g 106] G (RM (G 106 8) G) NoX := by
  refine ctr_of [some (vR g 106)] (by decide) (Nat.le_of_ble_eq_true rfl) rfl (fun γ E => ?_)
  show V γ g cX4_thrown 1 RX4 (rmL 0 0 0) G 0 0 0 [some (vR g 106)] []
  refine v_aload_n (pc := 0) rfl dX4_thrown_0 ?_
  refine v_get (pc := 1) 8 fd_X4_54 (rfl) (by decide) rfl rfl dX4_thrown_1 ?_
  exact v_iret (pc := 4) E (⟨rfl, rfl⟩) (Nat.le_of_ble_eq_true rfl) (Nat.le_of_ble_eq_true rfl) dX4_thrown_4
set_option maxHeartbeats 4000000 in
set_option maxRecDepth 100000 in
theorem c_X4_total {g : GT} {G : Mem} {z : Int} (h_z : 0 ≤ z ∧ z < 144) : Ctr g yX4_total cX4_total 2 (some FieldType.int) (rmL 0 0 0) [vR g 106, vI z] G (RM (G 107 z) (upd2 G 106 8 0)) NoX := by
  refine ctr_of [some (vR g 106), some (vI z)] (by decide) (Nat.le_of_ble_eq_true rfl) rfl (fun γ E => ?_)
  show V γ g cX4_total 2 RX4 (rmL 0 0 0) G 0 0 0 [some (vR g 106), some (vI z)] []
  refine v_aload_n (pc := 0) rfl dX4_total_0 ?_
  refine v_iconst (pc := 1) (z := 0) dX4_total_1 ?_
  refine v_put (pc := 2) 8 pd_X4_54 (rfl) (by decide) rfl rfl dX4_total_2 ?_
  refine v_aload_n (pc := 5) rfl dX4_total_5 ?_
  refine v_getR (pc := 6) (j := 107) fd_X4_9 (rfl) (by decide) rfl dX4_total_6 ?_
  refine v_iload_n (pc := 9) rfl dX4_total_9 ?_
  refine v_iald (pc := 10) (N := 144) rfl rfl (by decide) (by omega) (by decide) dX4_total_10 ?_
  refine v_top (b := G 107 z) (upd2_i (by decide)) ?_
  exact v_iret (pc := 11) E (⟨rfl, rfl⟩) (Nat.le_of_ble_eq_true rfl) (Nat.le_of_ble_eq_true rfl) dX4_total_11
set_option maxHeartbeats 4000000 in
set_option maxRecDepth 100000 in
theorem c_X4_dieCount {g : GT} {G : Mem} : Ctr g yX4_dieCount cX4_dieCount 1 (some FieldType.int) (rmL 1 0 0) [vR g 106] G (RM (G 107 0) (upd2 G 106 8 0)) NoX := by
  refine ctr_of [some (vR g 106)] (by decide) (Nat.le_of_ble_eq_true rfl) rfl (fun γ E => ?_)
  show V γ g cX4_dieCount 1 RX4 (rmL 1 0 0) G 0 0 0 [some (vR g 106)] []
  refine v_aload_n (pc := 0) rfl dX4_dieCount_0 ?_
  refine v_iconst (pc := 1) (z := 0) dX4_dieCount_1 ?_
  refine v_callV (pc := 2) (rest := []) (c_X4_total (by omega)) iok_X4_total wM_X4_162 (rfl) (by decide) (by decide) rfl (rmOk (by decide) (by decide)) ⟨Nat.le_of_ble_eq_true rfl, Nat.le_of_ble_eq_true rfl⟩ (Nat.le_of_ble_eq_true rfl) rfl dX4_dieCount_2 (fun v G' hq => ?_) (fun _ _ h => h.elim)
  obtain ⟨rfl, hG9⟩ := hq
  rw [hG9]
  refine v_stk (st' := [vI (G 107 0)]) rfl ?_
  exact v_iret (pc := 5) E (⟨rfl, rfl⟩) (Nat.le_of_ble_eq_true rfl) (Nat.le_of_ble_eq_true rfl) dX4_dieCount_5
set_option maxHeartbeats 4000000 in
set_option maxRecDepth 100000 in
theorem c_X4_leaves {g : GT} {G : Mem} : Ctr g yX4_leaves cX4_leaves 1 (some FieldType.int) (rmL 1 0 0) [vR g 106] G (RM (G 107 1) (upd2 G 106 8 0)) NoX := by
  refine ctr_of [some (vR g 106)] (by decide) (Nat.le_of_ble_eq_true rfl) rfl (fun γ E => ?_)
  show V γ g cX4_leaves 1 RX4 (rmL 1 0 0) G 0 0 0 [some (vR g 106)] []
  refine v_aload_n (pc := 0) rfl dX4_leaves_0 ?_
  refine v_iconst (pc := 1) (z := 1) dX4_leaves_1 ?_
  refine v_callV (pc := 2) (rest := []) (c_X4_total (by omega)) iok_X4_total wM_X4_162 (rfl) (by decide) (by decide) rfl (rmOk (by decide) (by decide)) ⟨Nat.le_of_ble_eq_true rfl, Nat.le_of_ble_eq_true rfl⟩ (Nat.le_of_ble_eq_true rfl) rfl dX4_leaves_2 (fun v G' hq => ?_) (fun _ _ h => h.elim)
  obtain ⟨rfl, hG9⟩ := hq
  rw [hG9]
  refine v_stk (st' := [vI (G 107 1)]) rfl ?_
  exact v_iret (pc := 5) E (⟨rfl, rfl⟩) (Nat.le_of_ble_eq_true rfl) (Nat.le_of_ble_eq_true rfl) dX4_leaves_5
set_option maxHeartbeats 4000000 in
set_option maxRecDepth 100000 in
theorem c_X4_year {g : GT} {G : Mem} : Ctr g yX4_year cX4_year 1 (some FieldType.int) (rmL 1 0 0) [vR g 106] G (RM (G 107 2) (upd2 G 106 8 0)) NoX := by
  refine ctr_of [some (vR g 106)] (by decide) (Nat.le_of_ble_eq_true rfl) rfl (fun γ E => ?_)
  show V γ g cX4_year 1 RX4 (rmL 1 0 0) G 0 0 0 [some (vR g 106)] []
  refine v_aload_n (pc := 0) rfl dX4_year_0 ?_
  refine v_iconst (pc := 1) (z := 2) dX4_year_1 ?_
  refine v_callV (pc := 2) (rest := []) (c_X4_total (by omega)) iok_X4_total wM_X4_162 (rfl) (by decide) (by decide) rfl (rmOk (by decide) (by decide)) ⟨Nat.le_of_ble_eq_true rfl, Nat.le_of_ble_eq_true rfl⟩ (Nat.le_of_ble_eq_true rfl) rfl dX4_year_2 (fun v G' hq => ?_) (fun _ _ h => h.elim)
  obtain ⟨rfl, hG9⟩ := hq
  rw [hG9]
  refine v_stk (st' := [vI (G 107 2)]) rfl ?_
  exact v_iret (pc := 5) E (⟨rfl, rfl⟩) (Nat.le_of_ble_eq_true rfl) (Nat.le_of_ble_eq_true rfl) dX4_year_5
set_option maxHeartbeats 4000000 in
set_option maxRecDepth 100000 in
theorem c_X4_vaultCoins {g : GT} {G : Mem} : Ctr g yX4_vaultCoins cX4_vaultCoins 1 (some FieldType.int) (rmL 1 0 0) [vR g 106] G (RM (G 107 3) (upd2 G 106 8 0)) NoX := by
  refine ctr_of [some (vR g 106)] (by decide) (Nat.le_of_ble_eq_true rfl) rfl (fun γ E => ?_)
  show V γ g cX4_vaultCoins 1 RX4 (rmL 1 0 0) G 0 0 0 [some (vR g 106)] []
  refine v_aload_n (pc := 0) rfl dX4_vaultCoins_0 ?_
  refine v_iconst (pc := 1) (z := 3) dX4_vaultCoins_1 ?_
  refine v_callV (pc := 2) (rest := []) (c_X4_total (by omega)) iok_X4_total wM_X4_162 (rfl) (by decide) (by decide) rfl (rmOk (by decide) (by decide)) ⟨Nat.le_of_ble_eq_true rfl, Nat.le_of_ble_eq_true rfl⟩ (Nat.le_of_ble_eq_true rfl) rfl dX4_vaultCoins_2 (fun v G' hq => ?_) (fun _ _ h => h.elim)
  obtain ⟨rfl, hG9⟩ := hq
  rw [hG9]
  refine v_stk (st' := [vI (G 107 3)]) rfl ?_
  exact v_iret (pc := 5) E (⟨rfl, rfl⟩) (Nat.le_of_ble_eq_true rfl) (Nat.le_of_ble_eq_true rfl) dX4_vaultCoins_5
set_option maxHeartbeats 4000000 in
set_option maxRecDepth 100000 in
theorem c_X4_struckTotal {g : GT} {G : Mem} : Ctr g yX4_struckTotal cX4_struckTotal 1 (some FieldType.int) (rmL 1 0 0) [vR g 106] G (RM (G 107 4) (upd2 G 106 8 0)) NoX := by
  refine ctr_of [some (vR g 106)] (by decide) (Nat.le_of_ble_eq_true rfl) rfl (fun γ E => ?_)
  show V γ g cX4_struckTotal 1 RX4 (rmL 1 0 0) G 0 0 0 [some (vR g 106)] []
  refine v_aload_n (pc := 0) rfl dX4_struckTotal_0 ?_
  refine v_iconst (pc := 1) (z := 4) dX4_struckTotal_1 ?_
  refine v_callV (pc := 2) (rest := []) (c_X4_total (by omega)) iok_X4_total wM_X4_162 (rfl) (by decide) (by decide) rfl (rmOk (by decide) (by decide)) ⟨Nat.le_of_ble_eq_true rfl, Nat.le_of_ble_eq_true rfl⟩ (Nat.le_of_ble_eq_true rfl) rfl dX4_struckTotal_2 (fun v G' hq => ?_) (fun _ _ h => h.elim)
  obtain ⟨rfl, hG9⟩ := hq
  rw [hG9]
  refine v_stk (st' := [vI (G 107 4)]) rfl ?_
  exact v_iret (pc := 5) E (⟨rfl, rfl⟩) (Nat.le_of_ble_eq_true rfl) (Nat.le_of_ble_eq_true rfl) dX4_struckTotal_5
set_option maxHeartbeats 4000000 in
set_option maxRecDepth 100000 in
theorem c_X4_paidTotal {g : GT} {G : Mem} : Ctr g yX4_paidTotal cX4_paidTotal 1 (some FieldType.int) (rmL 1 0 0) [vR g 106] G (RM (G 107 5) (upd2 G 106 8 0)) NoX := by
  refine ctr_of [some (vR g 106)] (by decide) (Nat.le_of_ble_eq_true rfl) rfl (fun γ E => ?_)
  show V γ g cX4_paidTotal 1 RX4 (rmL 1 0 0) G 0 0 0 [some (vR g 106)] []
  refine v_aload_n (pc := 0) rfl dX4_paidTotal_0 ?_
  refine v_iconst (pc := 1) (z := 5) dX4_paidTotal_1 ?_
  refine v_callV (pc := 2) (rest := []) (c_X4_total (by omega)) iok_X4_total wM_X4_162 (rfl) (by decide) (by decide) rfl (rmOk (by decide) (by decide)) ⟨Nat.le_of_ble_eq_true rfl, Nat.le_of_ble_eq_true rfl⟩ (Nat.le_of_ble_eq_true rfl) rfl dX4_paidTotal_2 (fun v G' hq => ?_) (fun _ _ h => h.elim)
  obtain ⟨rfl, hG9⟩ := hq
  rw [hG9]
  refine v_stk (st' := [vI (G 107 5)]) rfl ?_
  exact v_iret (pc := 5) E (⟨rfl, rfl⟩) (Nat.le_of_ble_eq_true rfl) (Nat.le_of_ble_eq_true rfl) dX4_paidTotal_5
set_option maxHeartbeats 4000000 in
set_option maxRecDepth 100000 in
theorem c_X4_paidWeight {g : GT} {G : Mem} : Ctr g yX4_paidWeight cX4_paidWeight 1 (some FieldType.int) (rmL 1 0 0) [vR g 106] G (RM (G 107 6) (upd2 G 106 8 0)) NoX := by
  refine ctr_of [some (vR g 106)] (by decide) (Nat.le_of_ble_eq_true rfl) rfl (fun γ E => ?_)
  show V γ g cX4_paidWeight 1 RX4 (rmL 1 0 0) G 0 0 0 [some (vR g 106)] []
  refine v_aload_n (pc := 0) rfl dX4_paidWeight_0 ?_
  refine v_bipush (pc := 1) (z := 6) rfl dX4_paidWeight_1 ?_
  refine v_callV (pc := 3) (rest := []) (c_X4_total (by omega)) iok_X4_total wM_X4_162 (rfl) (by decide) (by decide) rfl (rmOk (by decide) (by decide)) ⟨Nat.le_of_ble_eq_true rfl, Nat.le_of_ble_eq_true rfl⟩ (Nat.le_of_ble_eq_true rfl) rfl dX4_paidWeight_3 (fun v G' hq => ?_) (fun _ _ h => h.elim)
  obtain ⟨rfl, hG9⟩ := hq
  rw [hG9]
  refine v_stk (st' := [vI (G 107 6)]) rfl ?_
  exact v_iret (pc := 6) E (⟨rfl, rfl⟩) (Nat.le_of_ble_eq_true rfl) (Nat.le_of_ble_eq_true rfl) dX4_paidWeight_6
set_option maxHeartbeats 4000000 in
set_option maxRecDepth 100000 in
theorem c_X4_lostWeight {g : GT} {G : Mem} : Ctr g yX4_lostWeight cX4_lostWeight 1 (some FieldType.int) (rmL 1 0 0) [vR g 106] G (RM (G 107 7) (upd2 G 106 8 0)) NoX := by
  refine ctr_of [some (vR g 106)] (by decide) (Nat.le_of_ble_eq_true rfl) rfl (fun γ E => ?_)
  show V γ g cX4_lostWeight 1 RX4 (rmL 1 0 0) G 0 0 0 [some (vR g 106)] []
  refine v_aload_n (pc := 0) rfl dX4_lostWeight_0 ?_
  refine v_bipush (pc := 1) (z := 7) rfl dX4_lostWeight_1 ?_
  refine v_callV (pc := 3) (rest := []) (c_X4_total (by omega)) iok_X4_total wM_X4_162 (rfl) (by decide) (by decide) rfl (rmOk (by decide) (by decide)) ⟨Nat.le_of_ble_eq_true rfl, Nat.le_of_ble_eq_true rfl⟩ (Nat.le_of_ble_eq_true rfl) rfl dX4_lostWeight_3 (fun v G' hq => ?_) (fun _ _ h => h.elim)
  obtain ⟨rfl, hG9⟩ := hq
  rw [hG9]
  refine v_stk (st' := [vI (G 107 7)]) rfl ?_
  exact v_iret (pc := 6) E (⟨rfl, rfl⟩) (Nat.le_of_ble_eq_true rfl) (Nat.le_of_ble_eq_true rfl) dX4_lostWeight_6
set_option maxHeartbeats 4000000 in
set_option maxRecDepth 100000 in
theorem c_X4_addedWeight {g : GT} {G : Mem} : Ctr g yX4_addedWeight cX4_addedWeight 1 (some FieldType.int) (rmL 1 0 0) [vR g 106] G (RM (G 107 8) (upd2 G 106 8 0)) NoX := by
  refine ctr_of [some (vR g 106)] (by decide) (Nat.le_of_ble_eq_true rfl) rfl (fun γ E => ?_)
  show V γ g cX4_addedWeight 1 RX4 (rmL 1 0 0) G 0 0 0 [some (vR g 106)] []
  refine v_aload_n (pc := 0) rfl dX4_addedWeight_0 ?_
  refine v_bipush (pc := 1) (z := 8) rfl dX4_addedWeight_1 ?_
  refine v_callV (pc := 3) (rest := []) (c_X4_total (by omega)) iok_X4_total wM_X4_162 (rfl) (by decide) (by decide) rfl (rmOk (by decide) (by decide)) ⟨Nat.le_of_ble_eq_true rfl, Nat.le_of_ble_eq_true rfl⟩ (Nat.le_of_ble_eq_true rfl) rfl dX4_addedWeight_3 (fun v G' hq => ?_) (fun _ _ h => h.elim)
  obtain ⟨rfl, hG9⟩ := hq
  rw [hG9]
  refine v_stk (st' := [vI (G 107 8)]) rfl ?_
  exact v_iret (pc := 6) E (⟨rfl, rfl⟩) (Nat.le_of_ble_eq_true rfl) (Nat.le_of_ble_eq_true rfl) dX4_addedWeight_6
set_option maxHeartbeats 4000000 in
set_option maxRecDepth 100000 in
theorem c_X4_isDie {g : GT} {G : Mem} (hM : MoI (G 107)) {d : Int} (h_d : -2147483648 ≤ d ∧ d < 2147483648) : Ctr g yX4_isDie cX4_isDie 2 (some FieldType.boolean) (rmL 1 0 0) [vR g 106, vI d] G (RM (bI (0 ≤ d ∧ d < G 107 0)) G) NoX := by
  refine ctr_of [some (vR g 106), some (vI d)] (by decide) (Nat.le_of_ble_eq_true rfl) rfl (fun γ E => ?_)
  show V γ g cX4_isDie 2 RX4 (rmL 1 0 0) G 0 0 0 [some (vR g 106), some (vI d)] []
  have hn := MoI_n hM
  have hc := MoI_c hM
  have hy := MoI_y hM
  refine v_iload_n (pc := 0) rfl dX4_isDie_0 ?_
  refine v_i2l (pc := 1) (by omega) dX4_isDie_1 ?_
  refine v_lconst (pc := 2) (z := 0) rfl dX4_isDie_2 ?_
  refine v_aload_n (pc := 3) rfl dX4_isDie_3 ?_
  refine v_getR (pc := 4) (j := 107) fd_X4_9 (rfl) (by decide) rfl dX4_isDie_4 ?_
  refine v_iconst (pc := 7) (z := 0) dX4_isDie_7 ?_
  refine v_iald (pc := 8) (N := 144) rfl rfl (by decide) (by omega) (by decide) dX4_isDie_8 ?_
  refine v_iconst (pc := 9) (z := 1) dX4_isDie_9 ?_
  refine v_isub (pc := 10) dX4_isDie_10 ?_
  refine v_i2l (pc := 11) (by omega) dX4_isDie_11 ?_
  refine v_callS (pc := 12) (rest := []) (c_X4_in (by omega) (by omega) (by omega)) sok_X4_in wM_X4_60 (rmOk (by decide) (by decide)) ⟨Nat.le_of_ble_eq_true rfl, Nat.le_of_ble_eq_true rfl⟩ (Nat.le_of_ble_eq_true rfl) rfl dX4_isDie_12 (fun v G' hq => ?_) (fun _ _ h => h.elim)
  obtain ⟨rfl, hG9⟩ := hq
  rw [hG9]
  refine v_stk (st' := [vI (bI (0 ≤ d ∧ d ≤ (G 107 0) - 1))]) rfl ?_
  exact v_bret (pc := 15) E (by exact bI_rng _) (⟨by rw [show bI (0 ≤ d ∧ d ≤ G 107 0 - 1) = bI (0 ≤ d ∧ d < G 107 0) from bI_congr (by omega)], rfl⟩) (Nat.le_of_ble_eq_true rfl) (Nat.le_of_ble_eq_true rfl) dX4_isDie_15
set_option maxHeartbeats 4000000 in
set_option maxRecDepth 100000 in
theorem c_X4_ofDie {g : GT} {G : Mem} (hM : MoI (G 107)) {d : Int} (h_d : -2147483648 ≤ d ∧ d < 2147483648) {z : Int} (h_z : 0 ≤ z ∧ z ≤ 2) : Ctr g yX4_ofDie cX4_ofDie 3 (some FieldType.int) (rmL 2 0 0) [vR g 106, vI d, vI z] G (QR G (fun k r => (k = 0 ∧ (0 ≤ d ∧ d < G 107 0) ∧ r = G 107 (9 + 3 * d + z)) ∨ (k = 1 ∧ ¬ (0 ≤ d ∧ d < G 107 0)))) NoX := by
  refine ctr_of [some (vR g 106), some (vI d), some (vI z)] (by decide) (Nat.le_of_ble_eq_true rfl) rfl (fun γ E => ?_)
  show V γ g cX4_ofDie 3 RX4 (rmL 2 0 0) G 0 0 0 [some (vR g 106), some (vI d), some (vI z)] []
  have hn := MoI_n hM
  have hc := MoI_c hM
  have hy := MoI_y hM
  refine v_aload_n (pc := 0) rfl dX4_ofDie_0 ?_
  refine v_iconst (pc := 1) (z := 0) dX4_ofDie_1 ?_
  refine v_put (pc := 2) 8 pd_X4_54 (rfl) (by decide) rfl rfl dX4_ofDie_2 ?_
  refine v_aload_n (pc := 5) rfl dX4_ofDie_5 ?_
  refine v_iload_n (pc := 6) rfl dX4_ofDie_6 ?_
  refine v_callV (pc := 7) (rest := []) (c_X4_isDie (G := upd2 G 106 8 0) hM h_d) iok_X4_isDie wM_X4_96 (rfl) (by decide) (by decide) rfl (rmOk (by decide) (by decide)) ⟨Nat.le_of_ble_eq_true rfl, Nat.le_of_ble_eq_true rfl⟩ (Nat.le_of_ble_eq_true rfl) rfl dX4_ofDie_7 (fun v G' hq => ?_) (fun _ _ h => h.elim)
  obtain ⟨rfl, hG9⟩ := hq
  rw [hG9]
  refine v_stk (st' := [vI (bI (0 ≤ d ∧ d < G 107 0))]) rfl ?_
  refine v_if_eq (pc := 10) (tgt := 27) (bI_r _) dX4_ofDie_10 (by decide) (fun bq1 => ?_) (fun bq1 => ?_)
  · skip
    have bq1 := bI_eq0.mp bq1
    refine v_aload_n (pc := 27) rfl dX4_ofDie_27 ?_
    refine v_iconst (pc := 28) (z := 1) dX4_ofDie_28 ?_
    refine v_callV (pc := 29) (rest := []) (c_X4_throwing) iok_X4_throwing wM_X4_81 (rfl) (by decide) (by decide) rfl (rmOk (by decide) (by decide)) ⟨Nat.le_of_ble_eq_true rfl, Nat.le_of_ble_eq_true rfl⟩ (Nat.le_of_ble_eq_true rfl) rfl dX4_ofDie_29 (fun v G' hq => ?_) (fun _ _ h => h.elim)
    obtain ⟨rfl, hG9⟩ := hq
    rw [hG9]
    refine v_stk (st' := [vI (-1)]) rfl ?_
    exact v_iret (pc := 32) E (⟨_, 1, rfl, Or.inr ⟨rfl, by assumption⟩, by decide, upd2_u G 106 8 0 1⟩) (Nat.le_of_ble_eq_true rfl) (Nat.le_of_ble_eq_true rfl) dX4_ofDie_32
  · skip
    have bq1 := bI_n0 bq1
    refine v_aload_n (pc := 13) rfl dX4_ofDie_13 ?_
    refine v_getR (pc := 14) (j := 107) fd_X4_9 (rfl) (by decide) rfl dX4_ofDie_14 ?_
    refine v_iload_n (pc := 17) rfl dX4_ofDie_17 ?_
    refine v_callS (pc := 18) (rest := [vR g 107]) (c_X4_dieAt) sok_X4_dieAt wM_X4_64 (rmOk (by decide) (by decide)) ⟨Nat.le_of_ble_eq_true rfl, Nat.le_of_ble_eq_true rfl⟩ (Nat.le_of_ble_eq_true rfl) rfl dX4_ofDie_18 (fun v G' hq => ?_) (fun _ _ h => h.elim)
    obtain ⟨rfl, hG9⟩ := hq
    rw [hG9]
    refine v_stk (st' := [vI (9 + 3 * d), vR g 107]) rfl ?_
    refine v_iload_n (pc := 21) rfl dX4_ofDie_21 ?_
    refine v_iadd (pc := 22) dX4_ofDie_22 ?_
    refine v_iald (pc := 23) (N := 144) rfl rfl (by decide) (by omega) (by decide) dX4_ofDie_23 ?_
    refine v_top (b := G 107 ((9 + 3 * d) + z)) (upd2_i (by decide)) ?_
    refine v_goto (pc := 24) (tgt := 32) dX4_ofDie_24 (by decide) ?_
    exact v_iret (pc := 32) E (⟨_, 0, rfl, Or.inl ⟨rfl, by assumption, rfl⟩, by decide, rfl⟩) (Nat.le_of_ble_eq_true rfl) (Nat.le_of_ble_eq_true rfl) dX4_ofDie_32
set_option maxHeartbeats 4000000 in
set_option maxRecDepth 100000 in
theorem c_X4_dieValue {g : GT} {G : Mem} (hM : MoI (G 107)) {d : Int} (h_d : -2147483648 ≤ d ∧ d < 2147483648) : Ctr g yX4_dieValue cX4_dieValue 2 (some FieldType.int) (rmL 3 0 0) [vR g 106, vI d] G (QR G (fun k r => (k = 0 ∧ (0 ≤ d ∧ d < G 107 0) ∧ r = G 107 (9 + 3 * d)) ∨ (k = 1 ∧ ¬ (0 ≤ d ∧ d < G 107 0)))) NoX := by
  refine ctr_of [some (vR g 106), some (vI d)] (by decide) (Nat.le_of_ble_eq_true rfl) rfl (fun γ E => ?_)
  show V γ g cX4_dieValue 2 RX4 (rmL 3 0 0) G 0 0 0 [some (vR g 106), some (vI d)] []
  have hn := MoI_n hM
  have hc := MoI_c hM
  have hy := MoI_y hM
  refine v_aload_n (pc := 0) rfl dX4_dieValue_0 ?_
  refine v_iload_n (pc := 1) rfl dX4_dieValue_1 ?_
  refine v_iconst (pc := 2) (z := 0) dX4_dieValue_2 ?_
  refine v_callV (pc := 3) (rest := []) (c_X4_ofDie hM h_d (z := 0) (by omega)) iok_X4_ofDie wM_X4_165 (rfl) (by decide) (by decide) rfl (rmOk (by decide) (by decide)) ⟨Nat.le_of_ble_eq_true rfl, Nat.le_of_ble_eq_true rfl⟩ (Nat.le_of_ble_eq_true rfl) rfl dX4_dieValue_3 (fun v G' hq => ?_) (fun _ _ h => h.elim)
  obtain ⟨r9, k9, rfl, hq9, hk9, hG9⟩ := hq
  rw [hG9]
  refine v_stk (st' := [vI r9]) rfl ?_
  exact v_iret (pc := 6) E (⟨_, k9, rfl, by simpa using hq9, hk9, rfl⟩) (Nat.le_of_ble_eq_true rfl) (Nat.le_of_ble_eq_true rfl) dX4_dieValue_6
set_option maxHeartbeats 4000000 in
set_option maxRecDepth 100000 in
theorem c_X4_coinWeight {g : GT} {G : Mem} (hM : MoI (G 107)) {d : Int} (h_d : -2147483648 ≤ d ∧ d < 2147483648) : Ctr g yX4_coinWeight cX4_coinWeight 2 (some FieldType.int) (rmL 3 0 0) [vR g 106, vI d] G (QR G (fun k r => (k = 0 ∧ (0 ≤ d ∧ d < G 107 0) ∧ r = G 107 (9 + 3 * d + 1)) ∨ (k = 1 ∧ ¬ (0 ≤ d ∧ d < G 107 0)))) NoX := by
  refine ctr_of [some (vR g 106), some (vI d)] (by decide) (Nat.le_of_ble_eq_true rfl) rfl (fun γ E => ?_)
  show V γ g cX4_coinWeight 2 RX4 (rmL 3 0 0) G 0 0 0 [some (vR g 106), some (vI d)] []
  have hn := MoI_n hM
  have hc := MoI_c hM
  have hy := MoI_y hM
  refine v_aload_n (pc := 0) rfl dX4_coinWeight_0 ?_
  refine v_iload_n (pc := 1) rfl dX4_coinWeight_1 ?_
  refine v_iconst (pc := 2) (z := 1) dX4_coinWeight_2 ?_
  refine v_callV (pc := 3) (rest := []) (c_X4_ofDie hM h_d (z := 1) (by omega)) iok_X4_ofDie wM_X4_165 (rfl) (by decide) (by decide) rfl (rmOk (by decide) (by decide)) ⟨Nat.le_of_ble_eq_true rfl, Nat.le_of_ble_eq_true rfl⟩ (Nat.le_of_ble_eq_true rfl) rfl dX4_coinWeight_3 (fun v G' hq => ?_) (fun _ _ h => h.elim)
  obtain ⟨r9, k9, rfl, hq9, hk9, hG9⟩ := hq
  rw [hG9]
  refine v_stk (st' := [vI r9]) rfl ?_
  exact v_iret (pc := 6) E (⟨_, k9, rfl, by simpa using hq9, hk9, rfl⟩) (Nat.le_of_ble_eq_true rfl) (Nat.le_of_ble_eq_true rfl) dX4_coinWeight_6
set_option maxHeartbeats 4000000 in
set_option maxRecDepth 100000 in
theorem c_X4_wear {g : GT} {G : Mem} (hM : MoI (G 107)) {d : Int} (h_d : -2147483648 ≤ d ∧ d < 2147483648) : Ctr g yX4_wear cX4_wear 2 (some FieldType.int) (rmL 3 0 0) [vR g 106, vI d] G (QR G (fun k r => (k = 0 ∧ (0 ≤ d ∧ d < G 107 0) ∧ r = G 107 (9 + 3 * d + 2)) ∨ (k = 1 ∧ ¬ (0 ≤ d ∧ d < G 107 0)))) NoX := by
  refine ctr_of [some (vR g 106), some (vI d)] (by decide) (Nat.le_of_ble_eq_true rfl) rfl (fun γ E => ?_)
  show V γ g cX4_wear 2 RX4 (rmL 3 0 0) G 0 0 0 [some (vR g 106), some (vI d)] []
  have hn := MoI_n hM
  have hc := MoI_c hM
  have hy := MoI_y hM
  refine v_aload_n (pc := 0) rfl dX4_wear_0 ?_
  refine v_iload_n (pc := 1) rfl dX4_wear_1 ?_
  refine v_iconst (pc := 2) (z := 2) dX4_wear_2 ?_
  refine v_callV (pc := 3) (rest := []) (c_X4_ofDie hM h_d (z := 2) (by omega)) iok_X4_ofDie wM_X4_165 (rfl) (by decide) (by decide) rfl (rmOk (by decide) (by decide)) ⟨Nat.le_of_ble_eq_true rfl, Nat.le_of_ble_eq_true rfl⟩ (Nat.le_of_ble_eq_true rfl) rfl dX4_wear_3 (fun v G' hq => ?_) (fun _ _ h => h.elim)
  obtain ⟨r9, k9, rfl, hq9, hk9, hG9⟩ := hq
  rw [hG9]
  refine v_stk (st' := [vI r9]) rfl ?_
  exact v_iret (pc := 6) E (⟨_, k9, rfl, by simpa using hq9, hk9, rfl⟩) (Nat.le_of_ble_eq_true rfl) (Nat.le_of_ble_eq_true rfl) dX4_wear_6
set_option maxHeartbeats 4000000 in
set_option maxRecDepth 100000 in
theorem c_X4_dieOf {g : GT} {G : Mem} (hM : MoI (G 107)) {v : Int} (h_v : -2147483648 ≤ v ∧ v < 2147483648) : Ctr g yX4_dieOf cX4_dieOf 3 (some FieldType.int) (rmL 1 0 0) [vR g 106, vI v] G (RP (fun r G' => G' = G ∧ FstR (G 107 0) (fun i => G 107 (9 + 3 * i)) v r)) NoX := by
  refine ctr_of [some (vR g 106), some (vI v), none] (by decide) (Nat.le_of_ble_eq_true rfl) rfl (fun γ E => ?_)
  show V γ g cX4_dieOf 3 RX4 (rmL 1 0 0) G 0 0 0 [some (vR g 106), some (vI v), none] []
  have hn := MoI_n hM
  have hc := MoI_c hM
  have hy := MoI_y hM
  refine v_iconst (pc := 0) (z := 0) dX4_dieOf_0 ?_
  refine v_istore_n (pc := 1) (by decide) rfl dX4_dieOf_1 ?_
  have lp2 : ∀ (m2 : Nat) (i : Int), (0 ≤ i ∧ i ≤ G 107 0) → (∀ j, 0 ≤ j → j < i → G 107 (9 + 3 * j) ≠ v) → ((G 107 0 - i).toNat) < m2 → V γ g cX4_dieOf 3 RX4 (rmL 1 0 0) G 0 0 2 [some (vR g 106), some (vI v), some (vI i)] [] := by
    intro m2
    induction m2 with
    | zero => intro i; intros; omega
    | succ m2 ih2 =>
      intro i h0 hf hm2
      refine v_iload_n (pc := 2) rfl dX4_dieOf_2 ?_
      refine v_aload_n (pc := 3) rfl dX4_dieOf_3 ?_
      refine v_getR (pc := 4) (j := 107) fd_X4_9 (rfl) (by decide) rfl dX4_dieOf_4 ?_
      refine v_iconst (pc := 7) (z := 0) dX4_dieOf_7 ?_
      refine v_iald (pc := 8) (N := 144) rfl rfl (by decide) (by omega) (by decide) dX4_dieOf_8 ?_
      refine v_icmp_ge (pc := 9) (tgt := 33) (by omega) dX4_dieOf_9 (by decide) (fun bq1 => ?_) (fun bq1 => ?_)
      · skip
        refine v_iconst (pc := 33) (z := (-1)) dX4_dieOf_33 ?_
        exact v_iret (pc := 34) E (⟨_, rfl, rfl, Or.inl ⟨rfl, fun j a c => hf j a (by omega)⟩⟩) (Nat.le_of_ble_eq_true rfl) (Nat.le_of_ble_eq_true rfl) dX4_dieOf_34
      · skip
        refine v_aload_n (pc := 12) rfl dX4_dieOf_12 ?_
        refine v_getR (pc := 13) (j := 107) fd_X4_9 (rfl) (by decide) rfl dX4_dieOf_13 ?_
        refine v_iload_n (pc := 16) rfl dX4_dieOf_16 ?_
        refine v_callS (pc := 17) (rest := [vR g 107]) (c_X4_dieAt) sok_X4_dieAt wM_X4_64 (rmOk (by decide) (by decide)) ⟨Nat.le_of_ble_eq_true rfl, Nat.le_of_ble_eq_true rfl⟩ (Nat.le_of_ble_eq_true rfl) rfl dX4_dieOf_17 (fun v G' hq => ?_) (fun _ _ h => h.elim)
        obtain ⟨rfl, hG9⟩ := hq
        rw [hG9]
        refine v_stk (st' := [vI (9 + 3 * i), vR g 107]) rfl ?_
        refine v_iald (pc := 20) (N := 144) rfl rfl (by decide) (by omega) (by decide) dX4_dieOf_20 ?_
        have r2 := MoI_d hM (i := i) (by omega) (by omega)
        refine v_iload_n (pc := 21) rfl dX4_dieOf_21 ?_
        refine v_icmp_ne (pc := 22) (tgt := 27) (by omega) dX4_dieOf_22 (by decide) (fun bq3 => ?_) (fun bq3 => ?_)
        · skip
          refine v_iinc (pc := 27) (y := 1) rfl (by decide) rfl dX4_dieOf_27 ?_
          refine v_goto (pc := 30) (tgt := 2) dX4_dieOf_30 (by decide) ?_
          exact ih2 (i + 1) (by omega) (fun j a c => (Classical.em (j = i)).elim (fun e => by rw [e]; assumption) (fun e => hf j a (by omega))) (by omega)
        · skip
          refine v_iload_n (pc := 25) rfl dX4_dieOf_25 ?_
          exact v_iret (pc := 26) E (⟨_, rfl, rfl, Or.inr ⟨by omega, by omega, by assumption, hf⟩⟩) (Nat.le_of_ble_eq_true rfl) (Nat.le_of_ble_eq_true rfl) dX4_dieOf_26
  refine v_loc (L' := [some (vR g 106), some (vI v), some (vI 0)]) (⟨rfl, rfl, rfl, trivial⟩) ?_
  exact lp2 _ 0 (by omega) (fun j a c => absurd c (by omega)) (Nat.lt_succ_self _)
set_option maxHeartbeats 4000000 in
set_option maxRecDepth 100000 in
theorem c_X4_many {g : GT} {G : Mem} (hM : MoI (G 107)) {d : Int} (h_d : -2147483648 ≤ d ∧ d < 2147483648) : Ctr g yX4_many cX4_many 4 (some FieldType.int) (rmL 1 0 0) [vR g 106, vI d] G (RM (cntE (G 107 3) (fun k => G 107 (24 + 3 * k)) d) G) NoX := by
  refine ctr_of [some (vR g 106), some (vI d), none, none] (by decide) (Nat.le_of_ble_eq_true rfl) rfl (fun γ E => ?_)
  show V γ g cX4_many 4 RX4 (rmL 1 0 0) G 0 0 0 [some (vR g 106), some (vI d), none, none] []
  have hn := MoI_n hM
  have hc := MoI_c hM
  have hy := MoI_y hM
  refine v_iconst (pc := 0) (z := 0) dX4_many_0 ?_
  refine v_istore_n (pc := 1) (by decide) rfl dX4_many_1 ?_
  refine v_iconst (pc := 2) (z := 0) dX4_many_2 ?_
  refine v_istore_n (pc := 3) (by decide) rfl dX4_many_3 ?_
  have lp4 : ∀ (m4 : Nat) (i : Int) (c : Int), (0 ≤ i ∧ i ≤ G 107 3) → (c = sz i (fun k => if G 107 (24 + 3 * k) = d then 1 else 0)) → ((G 107 3 - i).toNat) < m4 → V γ g cX4_many 4 RX4 (rmL 1 0 0) G 0 0 4 [some (vR g 106), some (vI d), some (vI c), some (vI i)] [] := by
    intro m4
    induction m4 with
    | zero => intro i c; intros; omega
    | succ m4 ih4 =>
      intro i c h0 hs hm4
      refine v_iload_n (pc := 4) rfl dX4_many_4 ?_
      refine v_aload_n (pc := 5) rfl dX4_many_5 ?_
      refine v_getR (pc := 6) (j := 107) fd_X4_9 (rfl) (by decide) rfl dX4_many_6 ?_
      refine v_iconst (pc := 9) (z := 3) dX4_many_9 ?_
      refine v_iald (pc := 10) (N := 144) rfl rfl (by decide) (by omega) (by decide) dX4_many_10 ?_
      refine v_icmp_ge (pc := 11) (tgt := 41) (by omega) dX4_many_11 (by decide) (fun bq1 => ?_) (fun bq1 => ?_)
      · skip
        refine v_iload_n (pc := 41) rfl dX4_many_41 ?_
        exact v_iret (pc := 42) E (⟨by rw [hs, show i = G 107 3 by omega]; rfl, rfl⟩) (Nat.le_of_ble_eq_true rfl) (Nat.le_of_ble_eq_true rfl) dX4_many_42
      · skip
        refine v_iload_n (pc := 14) rfl dX4_many_14 ?_
        refine v_aload_n (pc := 15) rfl dX4_many_15 ?_
        refine v_getR (pc := 16) (j := 107) fd_X4_9 (rfl) (by decide) rfl dX4_many_16 ?_
        refine v_iload_n (pc := 19) rfl dX4_many_19 ?_
        refine v_callS (pc := 20) (rest := [vR g 107, vI c]) (c_X4_coinAt) sok_X4_coinAt wM_X4_68 (rmOk (by decide) (by decide)) ⟨Nat.le_of_ble_eq_true rfl, Nat.le_of_ble_eq_true rfl⟩ (Nat.le_of_ble_eq_true rfl) rfl dX4_many_20 (fun v G' hq => ?_) (fun _ _ h => h.elim)
        obtain ⟨rfl, hG9⟩ := hq
        rw [hG9]
        refine v_stk (st' := [vI (24 + 3 * i), vR g 107, vI c]) rfl ?_
        refine v_iald (pc := 23) (N := 144) rfl rfl (by decide) (by omega) (by decide) dX4_many_23 ?_
        have r2 := MoI_k hM (k := i) (by omega) (by omega)
        refine v_iload_n (pc := 24) rfl dX4_many_24 ?_
        refine v_icmp_ne (pc := 25) (tgt := 32) (by omega) dX4_many_25 (by decide) (fun bq3 => ?_) (fun bq3 => ?_)
        · skip
          refine v_iconst (pc := 32) (z := 0) dX4_many_32 ?_
          refine v_iadd (pc := 33) dX4_many_33 ?_
          refine v_istore_n (pc := 34) (by decide) rfl dX4_many_34 ?_
          refine v_iinc (pc := 35) (y := 1) rfl (by decide) rfl dX4_many_35 ?_
          refine v_goto (pc := 38) (tgt := 4) dX4_many_38 (by decide) ?_
          exact ih4 (i + 1) (c + 0) (by omega) (by rw [sz_s (by omega)]; first | (rw [if_pos (by omega)]; omega) | (rw [if_neg (by omega)]; omega) | omega) (by omega)
        · skip
          refine v_iconst (pc := 28) (z := 1) dX4_many_28 ?_
          refine v_goto (pc := 29) (tgt := 33) dX4_many_29 (by decide) ?_
          refine v_iadd (pc := 33) dX4_many_33 ?_
          refine v_istore_n (pc := 34) (by decide) rfl dX4_many_34 ?_
          refine v_iinc (pc := 35) (y := 1) rfl (by decide) rfl dX4_many_35 ?_
          refine v_goto (pc := 38) (tgt := 4) dX4_many_38 (by decide) ?_
          exact ih4 (i + 1) (c + 1) (by omega) (by rw [sz_s (by omega)]; first | (rw [if_pos (by omega)]; omega) | (rw [if_neg (by omega)]; omega) | omega) (by omega)
  refine v_loc (L' := [some (vR g 106), some (vI d), some (vI 0), some (vI 0)]) (⟨rfl, rfl, rfl, rfl, trivial⟩) ?_
  exact lp4 _ 0 0 (by omega) rfl (Nat.lt_succ_self _)
set_option maxHeartbeats 4000000 in
set_option maxRecDepth 100000 in
theorem c_X4_manyOfYear {g : GT} {G : Mem} (hM : MoI (G 107)) {d : Int} (h_d : -2147483648 ≤ d ∧ d < 2147483648) : Ctr g yX4_manyOfYear cX4_manyOfYear 4 (some FieldType.int) (rmL 1 0 0) [vR g 106, vI d] G (RM (cntE (G 107 3) (fun k => G 107 (24 + 3 * k + 1)) d) G) NoX := by
  refine ctr_of [some (vR g 106), some (vI d), none, none] (by decide) (Nat.le_of_ble_eq_true rfl) rfl (fun γ E => ?_)
  show V γ g cX4_manyOfYear 4 RX4 (rmL 1 0 0) G 0 0 0 [some (vR g 106), some (vI d), none, none] []
  have hn := MoI_n hM
  have hc := MoI_c hM
  have hy := MoI_y hM
  refine v_iconst (pc := 0) (z := 0) dX4_manyOfYear_0 ?_
  refine v_istore_n (pc := 1) (by decide) rfl dX4_manyOfYear_1 ?_
  refine v_iconst (pc := 2) (z := 0) dX4_manyOfYear_2 ?_
  refine v_istore_n (pc := 3) (by decide) rfl dX4_manyOfYear_3 ?_
  have lp4 : ∀ (m4 : Nat) (i : Int) (c : Int), (0 ≤ i ∧ i ≤ G 107 3) → (c = sz i (fun k => if G 107 (24 + 3 * k + 1) = d then 1 else 0)) → ((G 107 3 - i).toNat) < m4 → V γ g cX4_manyOfYear 4 RX4 (rmL 1 0 0) G 0 0 4 [some (vR g 106), some (vI d), some (vI c), some (vI i)] [] := by
    intro m4
    induction m4 with
    | zero => intro i c; intros; omega
    | succ m4 ih4 =>
      intro i c h0 hs hm4
      refine v_iload_n (pc := 4) rfl dX4_manyOfYear_4 ?_
      refine v_aload_n (pc := 5) rfl dX4_manyOfYear_5 ?_
      refine v_getR (pc := 6) (j := 107) fd_X4_9 (rfl) (by decide) rfl dX4_manyOfYear_6 ?_
      refine v_iconst (pc := 9) (z := 3) dX4_manyOfYear_9 ?_
      refine v_iald (pc := 10) (N := 144) rfl rfl (by decide) (by omega) (by decide) dX4_manyOfYear_10 ?_
      refine v_icmp_ge (pc := 11) (tgt := 43) (by omega) dX4_manyOfYear_11 (by decide) (fun bq1 => ?_) (fun bq1 => ?_)
      · skip
        refine v_iload_n (pc := 43) rfl dX4_manyOfYear_43 ?_
        exact v_iret (pc := 44) E (⟨by rw [hs, show i = G 107 3 by omega]; rfl, rfl⟩) (Nat.le_of_ble_eq_true rfl) (Nat.le_of_ble_eq_true rfl) dX4_manyOfYear_44
      · skip
        refine v_iload_n (pc := 14) rfl dX4_manyOfYear_14 ?_
        refine v_aload_n (pc := 15) rfl dX4_manyOfYear_15 ?_
        refine v_getR (pc := 16) (j := 107) fd_X4_9 (rfl) (by decide) rfl dX4_manyOfYear_16 ?_
        refine v_iload_n (pc := 19) rfl dX4_manyOfYear_19 ?_
        refine v_callS (pc := 20) (rest := [vR g 107, vI c]) (c_X4_coinAt) sok_X4_coinAt wM_X4_68 (rmOk (by decide) (by decide)) ⟨Nat.le_of_ble_eq_true rfl, Nat.le_of_ble_eq_true rfl⟩ (Nat.le_of_ble_eq_true rfl) rfl dX4_manyOfYear_20 (fun v G' hq => ?_) (fun _ _ h => h.elim)
        obtain ⟨rfl, hG9⟩ := hq
        rw [hG9]
        refine v_stk (st' := [vI (24 + 3 * i), vR g 107, vI c]) rfl ?_
        refine v_iconst (pc := 23) (z := 1) dX4_manyOfYear_23 ?_
        refine v_iadd (pc := 24) dX4_manyOfYear_24 ?_
        refine v_iald (pc := 25) (N := 144) rfl rfl (by decide) (by omega) (by decide) dX4_manyOfYear_25 ?_
        have r2 := MoI_k hM (k := i) (by omega) (by omega)
        refine v_iload_n (pc := 26) rfl dX4_manyOfYear_26 ?_
        refine v_icmp_ne (pc := 27) (tgt := 34) (by omega) dX4_manyOfYear_27 (by decide) (fun bq3 => ?_) (fun bq3 => ?_)
        · skip
          refine v_iconst (pc := 34) (z := 0) dX4_manyOfYear_34 ?_
          refine v_iadd (pc := 35) dX4_manyOfYear_35 ?_
          refine v_istore_n (pc := 36) (by decide) rfl dX4_manyOfYear_36 ?_
          refine v_iinc (pc := 37) (y := 1) rfl (by decide) rfl dX4_manyOfYear_37 ?_
          refine v_goto (pc := 40) (tgt := 4) dX4_manyOfYear_40 (by decide) ?_
          exact ih4 (i + 1) (c + 0) (by omega) (by rw [sz_s (by omega)]; first | (rw [if_pos (by omega)]; omega) | (rw [if_neg (by omega)]; omega) | omega) (by omega)
        · skip
          refine v_iconst (pc := 30) (z := 1) dX4_manyOfYear_30 ?_
          refine v_goto (pc := 31) (tgt := 35) dX4_manyOfYear_31 (by decide) ?_
          refine v_iadd (pc := 35) dX4_manyOfYear_35 ?_
          refine v_istore_n (pc := 36) (by decide) rfl dX4_manyOfYear_36 ?_
          refine v_iinc (pc := 37) (y := 1) rfl (by decide) rfl dX4_manyOfYear_37 ?_
          refine v_goto (pc := 40) (tgt := 4) dX4_manyOfYear_40 (by decide) ?_
          exact ih4 (i + 1) (c + 1) (by omega) (by rw [sz_s (by omega)]; first | (rw [if_pos (by omega)]; omega) | (rw [if_neg (by omega)]; omega) | omega) (by omega)
  refine v_loc (L' := [some (vR g 106), some (vI d), some (vI 0), some (vI 0)]) (⟨rfl, rfl, rfl, rfl, trivial⟩) ?_
  exact lp4 _ 0 0 (by omega) rfl (Nat.lt_succ_self _)
set_option maxHeartbeats 4000000 in
set_option maxRecDepth 100000 in
theorem c_X4_manyOfGrade {g : GT} {G : Mem} (hM : MoI (G 107)) {d : Int} (h_d : 0 ≤ d ∧ d < 65536) : Ctr g yX4_manyOfGrade cX4_manyOfGrade 4 (some FieldType.int) (rmL 1 0 0) [vR g 106, vI d] G (RM (cntE (G 107 3) (fun k => G 107 (24 + 3 * k + 2)) (d - 65)) G) NoX := by
  refine ctr_of [some (vR g 106), some (vI d), none, none] (by decide) (Nat.le_of_ble_eq_true rfl) rfl (fun γ E => ?_)
  show V γ g cX4_manyOfGrade 4 RX4 (rmL 1 0 0) G 0 0 0 [some (vR g 106), some (vI d), none, none] []
  have hn := MoI_n hM
  have hc := MoI_c hM
  have hy := MoI_y hM
  refine v_iconst (pc := 0) (z := 0) dX4_manyOfGrade_0 ?_
  refine v_istore_n (pc := 1) (by decide) rfl dX4_manyOfGrade_1 ?_
  refine v_iconst (pc := 2) (z := 0) dX4_manyOfGrade_2 ?_
  refine v_istore_n (pc := 3) (by decide) rfl dX4_manyOfGrade_3 ?_
  have lp4 : ∀ (m4 : Nat) (i : Int) (c : Int), (0 ≤ i ∧ i ≤ G 107 3) → (c = sz i (fun k => if G 107 (24 + 3 * k + 2) = d - 65 then 1 else 0)) → ((G 107 3 - i).toNat) < m4 → V γ g cX4_manyOfGrade 4 RX4 (rmL 1 0 0) G 0 0 4 [some (vR g 106), some (vI d), some (vI c), some (vI i)] [] := by
    intro m4
    induction m4 with
    | zero => intro i c; intros; omega
    | succ m4 ih4 =>
      intro i c h0 hs hm4
      refine v_iload_n (pc := 4) rfl dX4_manyOfGrade_4 ?_
      refine v_aload_n (pc := 5) rfl dX4_manyOfGrade_5 ?_
      refine v_getR (pc := 6) (j := 107) fd_X4_9 (rfl) (by decide) rfl dX4_manyOfGrade_6 ?_
      refine v_iconst (pc := 9) (z := 3) dX4_manyOfGrade_9 ?_
      refine v_iald (pc := 10) (N := 144) rfl rfl (by decide) (by omega) (by decide) dX4_manyOfGrade_10 ?_
      refine v_icmp_ge (pc := 11) (tgt := 46) (by omega) dX4_manyOfGrade_11 (by decide) (fun bq1 => ?_) (fun bq1 => ?_)
      · skip
        refine v_iload_n (pc := 46) rfl dX4_manyOfGrade_46 ?_
        exact v_iret (pc := 47) E (⟨by rw [hs, show i = G 107 3 by omega]; rfl, rfl⟩) (Nat.le_of_ble_eq_true rfl) (Nat.le_of_ble_eq_true rfl) dX4_manyOfGrade_47
      · skip
        refine v_iload_n (pc := 14) rfl dX4_manyOfGrade_14 ?_
        refine v_aload_n (pc := 15) rfl dX4_manyOfGrade_15 ?_
        refine v_getR (pc := 16) (j := 107) fd_X4_9 (rfl) (by decide) rfl dX4_manyOfGrade_16 ?_
        refine v_iload_n (pc := 19) rfl dX4_manyOfGrade_19 ?_
        refine v_callS (pc := 20) (rest := [vR g 107, vI c]) (c_X4_coinAt) sok_X4_coinAt wM_X4_68 (rmOk (by decide) (by decide)) ⟨Nat.le_of_ble_eq_true rfl, Nat.le_of_ble_eq_true rfl⟩ (Nat.le_of_ble_eq_true rfl) rfl dX4_manyOfGrade_20 (fun v G' hq => ?_) (fun _ _ h => h.elim)
        obtain ⟨rfl, hG9⟩ := hq
        rw [hG9]
        refine v_stk (st' := [vI (24 + 3 * i), vR g 107, vI c]) rfl ?_
        refine v_iconst (pc := 23) (z := 2) dX4_manyOfGrade_23 ?_
        refine v_iadd (pc := 24) dX4_manyOfGrade_24 ?_
        refine v_iald (pc := 25) (N := 144) rfl rfl (by decide) (by omega) (by decide) dX4_manyOfGrade_25 ?_
        have r2 := MoI_k hM (k := i) (by omega) (by omega)
        refine v_iload_n (pc := 26) rfl dX4_manyOfGrade_26 ?_
        refine v_bipush (pc := 27) (z := 65) rfl dX4_manyOfGrade_27 ?_
        refine v_isub (pc := 29) dX4_manyOfGrade_29 ?_
        refine v_icmp_ne (pc := 30) (tgt := 37) (by omega) dX4_manyOfGrade_30 (by decide) (fun bq3 => ?_) (fun bq3 => ?_)
        · skip
          refine v_iconst (pc := 37) (z := 0) dX4_manyOfGrade_37 ?_
          refine v_iadd (pc := 38) dX4_manyOfGrade_38 ?_
          refine v_istore_n (pc := 39) (by decide) rfl dX4_manyOfGrade_39 ?_
          refine v_iinc (pc := 40) (y := 1) rfl (by decide) rfl dX4_manyOfGrade_40 ?_
          refine v_goto (pc := 43) (tgt := 4) dX4_manyOfGrade_43 (by decide) ?_
          exact ih4 (i + 1) (c + 0) (by omega) (by rw [sz_s (by omega)]; first | (rw [if_pos (by omega)]; omega) | (rw [if_neg (by omega)]; omega) | omega) (by omega)
        · skip
          refine v_iconst (pc := 33) (z := 1) dX4_manyOfGrade_33 ?_
          refine v_goto (pc := 34) (tgt := 38) dX4_manyOfGrade_34 (by decide) ?_
          refine v_iadd (pc := 38) dX4_manyOfGrade_38 ?_
          refine v_istore_n (pc := 39) (by decide) rfl dX4_manyOfGrade_39 ?_
          refine v_iinc (pc := 40) (y := 1) rfl (by decide) rfl dX4_manyOfGrade_40 ?_
          refine v_goto (pc := 43) (tgt := 4) dX4_manyOfGrade_43 (by decide) ?_
          exact ih4 (i + 1) (c + 1) (by omega) (by rw [sz_s (by omega)]; first | (rw [if_pos (by omega)]; omega) | (rw [if_neg (by omega)]; omega) | omega) (by omega)
  refine v_loc (L' := [some (vR g 106), some (vI d), some (vI 0), some (vI 0)]) (⟨rfl, rfl, rfl, rfl, trivial⟩) ?_
  exact lp4 _ 0 0 (by omega) rfl (Nat.lt_succ_self _)
set_option maxHeartbeats 4000000 in
set_option maxRecDepth 100000 in
theorem c_X4_weightOfCoin {g : GT} {G : Mem} (hM : MoI (G 107)) {k : Int} (h_k : 0 ≤ k ∧ k < G 107 3) : Ctr g yX4_weightOfCoin cX4_weightOfCoin 2 (some FieldType.int) (rmL 1 0 0) [vR g 106, vI k] G (RM (G 107 (9 + 3 * G 107 (24 + 3 * k) + 1)) G) NoX := by
  refine ctr_of [some (vR g 106), some (vI k)] (by decide) (Nat.le_of_ble_eq_true rfl) rfl (fun γ E => ?_)
  show V γ g cX4_weightOfCoin 2 RX4 (rmL 1 0 0) G 0 0 0 [some (vR g 106), some (vI k)] []
  have hn := MoI_n hM
  have hc := MoI_c hM
  have hy := MoI_y hM
  refine v_aload_n (pc := 0) rfl dX4_weightOfCoin_0 ?_
  refine v_getR (pc := 1) (j := 107) fd_X4_9 (rfl) (by decide) rfl dX4_weightOfCoin_1 ?_
  refine v_aload_n (pc := 4) rfl dX4_weightOfCoin_4 ?_
  refine v_getR (pc := 5) (j := 107) fd_X4_9 (rfl) (by decide) rfl dX4_weightOfCoin_5 ?_
  refine v_iload_n (pc := 8) rfl dX4_weightOfCoin_8 ?_
  refine v_callS (pc := 9) (rest := [vR g 107, vR g 107]) (c_X4_coinAt) sok_X4_coinAt wM_X4_68 (rmOk (by decide) (by decide)) ⟨Nat.le_of_ble_eq_true rfl, Nat.le_of_ble_eq_true rfl⟩ (Nat.le_of_ble_eq_true rfl) rfl dX4_weightOfCoin_9 (fun v G' hq => ?_) (fun _ _ h => h.elim)
  obtain ⟨rfl, hG9⟩ := hq
  rw [hG9]
  refine v_stk (st' := [vI (24 + 3 * k), vR g 107, vR g 107]) rfl ?_
  refine v_iald (pc := 12) (N := 144) rfl rfl (by decide) (by omega) (by decide) dX4_weightOfCoin_12 ?_
  have r1 := MoI_k hM (k := k) (by omega) (by omega)
  refine v_callS (pc := 13) (rest := [vR g 107]) (c_X4_dieAt) sok_X4_dieAt wM_X4_64 (rmOk (by decide) (by decide)) ⟨Nat.le_of_ble_eq_true rfl, Nat.le_of_ble_eq_true rfl⟩ (Nat.le_of_ble_eq_true rfl) rfl dX4_weightOfCoin_13 (fun v G' hq => ?_) (fun _ _ h => h.elim)
  obtain ⟨rfl, hG9⟩ := hq
  rw [hG9]
  refine v_stk (st' := [vI (9 + 3 * (G 107 (24 + 3 * k))), vR g 107]) rfl ?_
  refine v_iconst (pc := 16) (z := 1) dX4_weightOfCoin_16 ?_
  refine v_iadd (pc := 17) dX4_weightOfCoin_17 ?_
  refine v_iald (pc := 18) (N := 144) rfl rfl (by decide) (by omega) (by decide) dX4_weightOfCoin_18 ?_
  have r2 := MoI_d hM (i := (G 107 (24 + 3 * k))) (by omega) (by omega)
  exact v_iret (pc := 19) E (⟨rfl, rfl⟩) (Nat.le_of_ble_eq_true rfl) (Nat.le_of_ble_eq_true rfl) dX4_weightOfCoin_19
set_option maxHeartbeats 4000000 in
set_option maxRecDepth 100000 in
theorem c_X4_valueOfCoin {g : GT} {G : Mem} (hM : MoI (G 107)) {k : Int} (h_k : 0 ≤ k ∧ k < G 107 3) : Ctr g yX4_valueOfCoin cX4_valueOfCoin 2 (some FieldType.int) (rmL 1 0 0) [vR g 106, vI k] G (RM (G 107 (9 + 3 * G 107 (24 + 3 * k))) G) NoX := by
  refine ctr_of [some (vR g 106), some (vI k)] (by decide) (Nat.le_of_ble_eq_true rfl) rfl (fun γ E => ?_)
  show V γ g cX4_valueOfCoin 2 RX4 (rmL 1 0 0) G 0 0 0 [some (vR g 106), some (vI k)] []
  have hn := MoI_n hM
  have hc := MoI_c hM
  have hy := MoI_y hM
  refine v_aload_n (pc := 0) rfl dX4_valueOfCoin_0 ?_
  refine v_getR (pc := 1) (j := 107) fd_X4_9 (rfl) (by decide) rfl dX4_valueOfCoin_1 ?_
  refine v_aload_n (pc := 4) rfl dX4_valueOfCoin_4 ?_
  refine v_getR (pc := 5) (j := 107) fd_X4_9 (rfl) (by decide) rfl dX4_valueOfCoin_5 ?_
  refine v_iload_n (pc := 8) rfl dX4_valueOfCoin_8 ?_
  refine v_callS (pc := 9) (rest := [vR g 107, vR g 107]) (c_X4_coinAt) sok_X4_coinAt wM_X4_68 (rmOk (by decide) (by decide)) ⟨Nat.le_of_ble_eq_true rfl, Nat.le_of_ble_eq_true rfl⟩ (Nat.le_of_ble_eq_true rfl) rfl dX4_valueOfCoin_9 (fun v G' hq => ?_) (fun _ _ h => h.elim)
  obtain ⟨rfl, hG9⟩ := hq
  rw [hG9]
  refine v_stk (st' := [vI (24 + 3 * k), vR g 107, vR g 107]) rfl ?_
  refine v_iald (pc := 12) (N := 144) rfl rfl (by decide) (by omega) (by decide) dX4_valueOfCoin_12 ?_
  have r1 := MoI_k hM (k := k) (by omega) (by omega)
  refine v_callS (pc := 13) (rest := [vR g 107]) (c_X4_dieAt) sok_X4_dieAt wM_X4_64 (rmOk (by decide) (by decide)) ⟨Nat.le_of_ble_eq_true rfl, Nat.le_of_ble_eq_true rfl⟩ (Nat.le_of_ble_eq_true rfl) rfl dX4_valueOfCoin_13 (fun v G' hq => ?_) (fun _ _ h => h.elim)
  obtain ⟨rfl, hG9⟩ := hq
  rw [hG9]
  refine v_stk (st' := [vI (9 + 3 * (G 107 (24 + 3 * k))), vR g 107]) rfl ?_
  refine v_iald (pc := 16) (N := 144) rfl rfl (by decide) (by omega) (by decide) dX4_valueOfCoin_16 ?_
  have r2 := MoI_d hM (i := (G 107 (24 + 3 * k))) (by omega) (by omega)
  exact v_iret (pc := 17) E (⟨rfl, rfl⟩) (Nat.le_of_ble_eq_true rfl) (Nat.le_of_ble_eq_true rfl) dX4_valueOfCoin_17
set_option maxHeartbeats 4000000 in
set_option maxRecDepth 100000 in
theorem c_X4_grams {g : GT} {G : Mem} (hM : MoI (G 107)) {k : Int} (h_k : 0 ≤ k ∧ k < G 107 3) : Ctr g yX4_grams cX4_grams 2 (some FieldType.int) (rmL 2 0 0) [vR g 106, vI k] G (RM (mxI 0 (G 107 (9 + 3 * G 107 (24 + 3 * k) + 1) - G 107 (24 + 3 * k + 2))) G) NoX := by
  refine ctr_of [some (vR g 106), some (vI k)] (by decide) (Nat.le_of_ble_eq_true rfl) rfl (fun γ E => ?_)
  show V γ g cX4_grams 2 RX4 (rmL 2 0 0) G 0 0 0 [some (vR g 106), some (vI k)] []
  have hn := MoI_n hM
  have hc := MoI_c hM
  have hy := MoI_y hM
  refine v_iconst (pc := 0) (z := 0) dX4_grams_0 ?_
  refine v_aload_n (pc := 1) rfl dX4_grams_1 ?_
  refine v_iload_n (pc := 2) rfl dX4_grams_2 ?_
  refine v_callV (pc := 3) (rest := [vI 0]) (c_X4_weightOfCoin hM h_k) iok_X4_weightOfCoin wM_X4_119 (rfl) (by decide) (by decide) rfl (rmOk (by decide) (by decide)) ⟨Nat.le_of_ble_eq_true rfl, Nat.le_of_ble_eq_true rfl⟩ (Nat.le_of_ble_eq_true rfl) rfl dX4_grams_3 (fun v G' hq => ?_) (fun _ _ h => h.elim)
  obtain ⟨rfl, hG9⟩ := hq
  rw [hG9]
  refine v_stk (st' := [vI (G 107 (9 + 3 * G 107 (24 + 3 * k) + 1)), vI 0]) rfl ?_
  have r1 := MoI_k hM h_k.1 h_k.2
  have r2 := MoI_d hM r1.1.1 r1.1.2
  refine v_aload_n (pc := 6) rfl dX4_grams_6 ?_
  refine v_getR (pc := 7) (j := 107) fd_X4_9 (rfl) (by decide) rfl dX4_grams_7 ?_
  refine v_iload_n (pc := 10) rfl dX4_grams_10 ?_
  refine v_callS (pc := 11) (rest := [vR g 107, vI (G 107 (9 + 3 * G 107 (24 + 3 * k) + 1)), vI 0]) (c_X4_coinAt) sok_X4_coinAt wM_X4_68 (rmOk (by decide) (by decide)) ⟨Nat.le_of_ble_eq_true rfl, Nat.le_of_ble_eq_true rfl⟩ (Nat.le_of_ble_eq_true rfl) rfl dX4_grams_11 (fun v G' hq => ?_) (fun _ _ h => h.elim)
  obtain ⟨rfl, hG9⟩ := hq
  rw [hG9]
  refine v_stk (st' := [vI (24 + 3 * k), vR g 107, vI (G 107 (9 + 3 * G 107 (24 + 3 * k) + 1)), vI 0]) rfl ?_
  refine v_iconst (pc := 14) (z := 2) dX4_grams_14 ?_
  refine v_iadd (pc := 15) dX4_grams_15 ?_
  refine v_iald (pc := 16) (N := 144) rfl rfl (by decide) (by omega) (by decide) dX4_grams_16 ?_
  have r1 := MoI_k hM (k := k) (by omega) (by omega)
  refine v_isub (pc := 17) dX4_grams_17 ?_
  refine v_mmax (pc := 18) (by omega) wM_X4_122 (Nat.le_of_ble_eq_true rfl) (Nat.le_of_ble_eq_true rfl) (Nat.le_of_ble_eq_true rfl) (Nat.le_of_ble_eq_true rfl) (Nat.le_of_ble_eq_true rfl) dX4_grams_18 ?_
  exact v_iret (pc := 21) E (⟨rfl, rfl⟩) (Nat.le_of_ble_eq_true rfl) (Nat.le_of_ble_eq_true rfl) dX4_grams_21
set_option maxHeartbeats 4000000 in
set_option maxRecDepth 100000 in
theorem c_X4_vaultValue {g : GT} {G : Mem} (hM : MoI (G 107)) : Ctr g yX4_vaultValue cX4_vaultValue 3 (some FieldType.int) (rmL 2 0 0) [vR g 106] G (RM (sz (G 107 3) (fun k => G 107 (9 + 3 * G 107 (24 + 3 * k)))) (upd2 G 106 8 0)) NoX := by
  refine ctr_of [some (vR g 106), none, none] (by decide) (Nat.le_of_ble_eq_true rfl) rfl (fun γ E => ?_)
  show V γ g cX4_vaultValue 3 RX4 (rmL 2 0 0) G 0 0 0 [some (vR g 106), none, none] []
  have hn := MoI_n hM
  have hc := MoI_c hM
  have hy := MoI_y hM
  refine v_aload_n (pc := 0) rfl dX4_vaultValue_0 ?_
  refine v_iconst (pc := 1) (z := 0) dX4_vaultValue_1 ?_
  refine v_put (pc := 2) 8 pd_X4_54 (rfl) (by decide) rfl rfl dX4_vaultValue_2 ?_
  refine v_iconst (pc := 5) (z := 0) dX4_vaultValue_5 ?_
  refine v_istore_n (pc := 6) (by decide) rfl dX4_vaultValue_6 ?_
  refine v_iconst (pc := 7) (z := 0) dX4_vaultValue_7 ?_
  refine v_istore_n (pc := 8) (by decide) rfl dX4_vaultValue_8 ?_
  have lp9 : ∀ (m9 : Nat) (i : Int) (s : Int), (0 ≤ i ∧ i ≤ G 107 3) → (s = sz i (fun k => G 107 (9 + 3 * G 107 (24 + 3 * k)))) → ((G 107 3 - i).toNat) < m9 → V γ g cX4_vaultValue 3 RX4 (rmL 2 0 0) (upd2 G 106 8 0) 0 0 9 [some (vR g 106), some (vI s), some (vI i)] [] := by
    intro m9
    induction m9 with
    | zero => intro i s; intros; omega
    | succ m9 ih9 =>
      intro i s h0 hs hm9
      refine v_iload_n (pc := 9) rfl dX4_vaultValue_9 ?_
      refine v_aload_n (pc := 10) rfl dX4_vaultValue_10 ?_
      refine v_getR (pc := 11) (j := 107) fd_X4_9 (rfl) (by decide) rfl dX4_vaultValue_11 ?_
      refine v_iconst (pc := 14) (z := 3) dX4_vaultValue_14 ?_
      refine v_iald (pc := 15) (N := 144) rfl rfl (by decide) (by omega) (by decide) dX4_vaultValue_15 ?_
      refine v_top (b := G 107 3) (upd2_i (by decide)) ?_
      refine v_icmp_ge (pc := 16) (tgt := 33) (by omega) dX4_vaultValue_16 (by decide) (fun bq1 => ?_) (fun bq1 => ?_)
      · skip
        refine v_iload_n (pc := 33) rfl dX4_vaultValue_33 ?_
        exact v_iret (pc := 34) E (⟨by rw [hs, show i = G 107 3 by omega], rfl⟩) (Nat.le_of_ble_eq_true rfl) (Nat.le_of_ble_eq_true rfl) dX4_vaultValue_34
      · skip
        refine v_iload_n (pc := 19) rfl dX4_vaultValue_19 ?_
        refine v_aload_n (pc := 20) rfl dX4_vaultValue_20 ?_
        refine v_iload_n (pc := 21) rfl dX4_vaultValue_21 ?_
        refine v_callV (pc := 22) (rest := [vI s]) (c_X4_valueOfCoin (G := upd2 G 106 8 0) hM (k := i) (by show 0 ≤ i ∧ i < G 107 3; omega)) iok_X4_valueOfCoin wM_X4_168 (rfl) (by decide) (by decide) rfl (rmOk (by decide) (by decide)) ⟨Nat.le_of_ble_eq_true rfl, Nat.le_of_ble_eq_true rfl⟩ (Nat.le_of_ble_eq_true rfl) rfl dX4_vaultValue_22 (fun v G' hq => ?_) (fun _ _ h => h.elim)
        obtain ⟨rfl, hG9⟩ := hq
        rw [hG9]
        refine v_stk (st' := [vI (G 107 (9 + 3 * G 107 (24 + 3 * i))), vI s]) rfl ?_
        refine v_iadd (pc := 25) dX4_vaultValue_25 ?_
        refine v_istore_n (pc := 26) (by decide) rfl dX4_vaultValue_26 ?_
        refine v_iinc (pc := 27) (y := 1) rfl (by decide) rfl dX4_vaultValue_27 ?_
        refine v_goto (pc := 30) (tgt := 9) dX4_vaultValue_30 (by decide) ?_
        exact ih9 (i + 1) (s + (G 107 (9 + 3 * G 107 (24 + 3 * i)))) (by omega) (by rw [sz_s (by omega), hs]) (by omega)
  refine v_loc (L' := [some (vR g 106), some (vI 0), some (vI 0)]) (⟨rfl, rfl, rfl, trivial⟩) ?_
  exact lp9 _ 0 0 (by omega) rfl (Nat.lt_succ_self _)
set_option maxHeartbeats 4000000 in
set_option maxRecDepth 100000 in
theorem c_X4_vaultWeight {g : GT} {G : Mem} (hM : MoI (G 107)) : Ctr g yX4_vaultWeight cX4_vaultWeight 3 (some FieldType.int) (rmL 2 0 0) [vR g 106] G (RM (sz (G 107 3) (fun k => G 107 (9 + 3 * G 107 (24 + 3 * k) + 1))) (upd2 G 106 8 0)) NoX := by
  refine ctr_of [some (vR g 106), none, none] (by decide) (Nat.le_of_ble_eq_true rfl) rfl (fun γ E => ?_)
  show V γ g cX4_vaultWeight 3 RX4 (rmL 2 0 0) G 0 0 0 [some (vR g 106), none, none] []
  have hn := MoI_n hM
  have hc := MoI_c hM
  have hy := MoI_y hM
  refine v_aload_n (pc := 0) rfl dX4_vaultWeight_0 ?_
  refine v_iconst (pc := 1) (z := 0) dX4_vaultWeight_1 ?_
  refine v_put (pc := 2) 8 pd_X4_54 (rfl) (by decide) rfl rfl dX4_vaultWeight_2 ?_
  refine v_iconst (pc := 5) (z := 0) dX4_vaultWeight_5 ?_
  refine v_istore_n (pc := 6) (by decide) rfl dX4_vaultWeight_6 ?_
  refine v_iconst (pc := 7) (z := 0) dX4_vaultWeight_7 ?_
  refine v_istore_n (pc := 8) (by decide) rfl dX4_vaultWeight_8 ?_
  have lp9 : ∀ (m9 : Nat) (i : Int) (s : Int), (0 ≤ i ∧ i ≤ G 107 3) → (s = sz i (fun k => G 107 (9 + 3 * G 107 (24 + 3 * k) + 1))) → ((G 107 3 - i).toNat) < m9 → V γ g cX4_vaultWeight 3 RX4 (rmL 2 0 0) (upd2 G 106 8 0) 0 0 9 [some (vR g 106), some (vI s), some (vI i)] [] := by
    intro m9
    induction m9 with
    | zero => intro i s; intros; omega
    | succ m9 ih9 =>
      intro i s h0 hs hm9
      refine v_iload_n (pc := 9) rfl dX4_vaultWeight_9 ?_
      refine v_aload_n (pc := 10) rfl dX4_vaultWeight_10 ?_
      refine v_getR (pc := 11) (j := 107) fd_X4_9 (rfl) (by decide) rfl dX4_vaultWeight_11 ?_
      refine v_iconst (pc := 14) (z := 3) dX4_vaultWeight_14 ?_
      refine v_iald (pc := 15) (N := 144) rfl rfl (by decide) (by omega) (by decide) dX4_vaultWeight_15 ?_
      refine v_top (b := G 107 3) (upd2_i (by decide)) ?_
      refine v_icmp_ge (pc := 16) (tgt := 33) (by omega) dX4_vaultWeight_16 (by decide) (fun bq1 => ?_) (fun bq1 => ?_)
      · skip
        refine v_iload_n (pc := 33) rfl dX4_vaultWeight_33 ?_
        exact v_iret (pc := 34) E (⟨by rw [hs, show i = G 107 3 by omega], rfl⟩) (Nat.le_of_ble_eq_true rfl) (Nat.le_of_ble_eq_true rfl) dX4_vaultWeight_34
      · skip
        refine v_iload_n (pc := 19) rfl dX4_vaultWeight_19 ?_
        refine v_aload_n (pc := 20) rfl dX4_vaultWeight_20 ?_
        refine v_iload_n (pc := 21) rfl dX4_vaultWeight_21 ?_
        refine v_callV (pc := 22) (rest := [vI s]) (c_X4_weightOfCoin (G := upd2 G 106 8 0) hM (k := i) (by show 0 ≤ i ∧ i < G 107 3; omega)) iok_X4_weightOfCoin wM_X4_119 (rfl) (by decide) (by decide) rfl (rmOk (by decide) (by decide)) ⟨Nat.le_of_ble_eq_true rfl, Nat.le_of_ble_eq_true rfl⟩ (Nat.le_of_ble_eq_true rfl) rfl dX4_vaultWeight_22 (fun v G' hq => ?_) (fun _ _ h => h.elim)
        obtain ⟨rfl, hG9⟩ := hq
        rw [hG9]
        refine v_stk (st' := [vI (G 107 (9 + 3 * G 107 (24 + 3 * i) + 1)), vI s]) rfl ?_
        refine v_iadd (pc := 25) dX4_vaultWeight_25 ?_
        refine v_istore_n (pc := 26) (by decide) rfl dX4_vaultWeight_26 ?_
        refine v_iinc (pc := 27) (y := 1) rfl (by decide) rfl dX4_vaultWeight_27 ?_
        refine v_goto (pc := 30) (tgt := 9) dX4_vaultWeight_30 (by decide) ?_
        exact ih9 (i + 1) (s + (G 107 (9 + 3 * G 107 (24 + 3 * i) + 1))) (by omega) (by rw [sz_s (by omega), hs]) (by omega)
  refine v_loc (L' := [some (vR g 106), some (vI 0), some (vI 0)]) (⟨rfl, rfl, rfl, trivial⟩) ?_
  exact lp9 _ 0 0 (by omega) rfl (Nat.lt_succ_self _)
set_option maxHeartbeats 4000000 in
set_option maxRecDepth 100000 in
theorem c_X4_vaultValueByDies {g : GT} {G : Mem} (hM : MoI (G 107)) : Ctr g yX4_vaultValueByDies cX4_vaultValueByDies 1 (some FieldType.int) (rmL 3 0 0) [vR g 106] G (RM (sz (G 107 3) (fun k => G 107 (9 + 3 * G 107 (24 + 3 * k)))) (upd2 G 106 8 0)) NoX := by
  refine ctr_of [some (vR g 106)] (by decide) (Nat.le_of_ble_eq_true rfl) rfl (fun γ E => ?_)
  show V γ g cX4_vaultValueByDies 1 RX4 (rmL 3 0 0) G 0 0 0 [some (vR g 106)] []
  have hn := MoI_n hM
  have hc := MoI_c hM
  have hy := MoI_y hM
  refine v_aload_n (pc := 0) rfl dX4_vaultValueByDies_0 ?_
  refine v_callV (pc := 1) (rest := []) (c_X4_vaultValue hM) iok_X4_vaultValue wM_X4_171 (rfl) (by decide) (by decide) rfl (rmOk (by decide) (by decide)) ⟨Nat.le_of_ble_eq_true rfl, Nat.le_of_ble_eq_true rfl⟩ (Nat.le_of_ble_eq_true rfl) rfl dX4_vaultValueByDies_1 (fun v G' hq => ?_) (fun _ _ h => h.elim)
  obtain ⟨rfl, hG9⟩ := hq
  rw [hG9]
  refine v_stk (st' := [vI (sz (G 107 3) (fun k => G 107 (9 + 3 * G 107 (24 + 3 * k))))]) rfl ?_
  exact v_iret (pc := 4) E (⟨rfl, rfl⟩) (Nat.le_of_ble_eq_true rfl) (Nat.le_of_ble_eq_true rfl) dX4_vaultValueByDies_4
set_option maxHeartbeats 4000000 in
set_option maxRecDepth 100000 in
theorem c_X4_coinsOfYear {g : GT} {G : Mem} (hM : MoI (G 107)) {d : Int} (h_d : -2147483648 ≤ d ∧ d < 2147483648) : Ctr g yX4_coinsOfYear cX4_coinsOfYear 2 (some FieldType.int) (rmL 2 0 0) [vR g 106, vI d] G (RM (cntE (G 107 3) (fun k => G 107 (24 + 3 * k + 1)) d) (upd2 G 106 8 0)) NoX := by
  refine ctr_of [some (vR g 106), some (vI d)] (by decide) (Nat.le_of_ble_eq_true rfl) rfl (fun γ E => ?_)
  show V γ g cX4_coinsOfYear 2 RX4 (rmL 2 0 0) G 0 0 0 [some (vR g 106), some (vI d)] []
  have hn := MoI_n hM
  have hc := MoI_c hM
  have hy := MoI_y hM
  refine v_aload_n (pc := 0) rfl dX4_coinsOfYear_0 ?_
  refine v_iconst (pc := 1) (z := 0) dX4_coinsOfYear_1 ?_
  refine v_put (pc := 2) 8 pd_X4_54 (rfl) (by decide) rfl rfl dX4_coinsOfYear_2 ?_
  refine v_aload_n (pc := 5) rfl dX4_coinsOfYear_5 ?_
  refine v_iload_n (pc := 6) rfl dX4_coinsOfYear_6 ?_
  refine v_callV (pc := 7) (rest := []) (c_X4_manyOfYear (G := upd2 G 106 8 0) hM h_d) iok_X4_manyOfYear wM_X4_125 (rfl) (by decide) (by decide) rfl (rmOk (by decide) (by decide)) ⟨Nat.le_of_ble_eq_true rfl, Nat.le_of_ble_eq_true rfl⟩ (Nat.le_of_ble_eq_true rfl) rfl dX4_coinsOfYear_7 (fun v G' hq => ?_) (fun _ _ h => h.elim)
  obtain ⟨rfl, hG9⟩ := hq
  rw [hG9]
  refine v_stk (st' := [vI (cntE (G 107 3) (fun k => G 107 (24 + 3 * k + 1)) d)]) rfl ?_
  exact v_iret (pc := 10) E (⟨rfl, rfl⟩) (Nat.le_of_ble_eq_true rfl) (Nat.le_of_ble_eq_true rfl) dX4_coinsOfYear_10
set_option maxHeartbeats 4000000 in
set_option maxRecDepth 100000 in
theorem c_X4_isConsistent {g : GT} {G : Mem} : Ctr g yX4_isConsistent cX4_isConsistent 1 (some FieldType.boolean) (rmL 0 0 0) [vR g 106] G (RM 1 (upd2 G 106 8 0)) NoX := by
  refine ctr_of [some (vR g 106)] (by decide) (Nat.le_of_ble_eq_true rfl) rfl (fun γ E => ?_)
  show V γ g cX4_isConsistent 1 RX4 (rmL 0 0 0) G 0 0 0 [some (vR g 106)] []
  refine v_aload_n (pc := 0) rfl dX4_isConsistent_0 ?_
  refine v_iconst (pc := 1) (z := 0) dX4_isConsistent_1 ?_
  refine v_put (pc := 2) 8 pd_X4_54 (rfl) (by decide) rfl rfl dX4_isConsistent_2 ?_
  refine v_iconst (pc := 5) (z := 1) dX4_isConsistent_5 ?_
  exact v_bret (pc := 6) E (by decide) (⟨rfl, rfl⟩) (Nat.le_of_ble_eq_true rfl) (Nat.le_of_ble_eq_true rfl) dX4_isConsistent_6
