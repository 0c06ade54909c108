-- the model reads a script: the text is the row 111, of length 106.21; it stands at 106.20; 106.22: wrong
def Mc (G : Mem) (S : Int → Int) (n p w : Int) : Prop := G 111 = S ∧ G 106 21 = n ∧ G 106 20 = p ∧ G 106 22 = w ∧ (0 ≤ p ∧ p ≤ n ∧ n ≤ 60 ∧ 0 ≤ w ∧ w ≤ 1) ∧ ∀ j, 0 ≤ j → j < n → 32 ≤ S j ∧ S j ≤ 126
theorem Mc_w {G : Mem} {S : Int → Int} {n p w e u : Int} (h : Mc G S n p w) (he : 0 ≤ e ∧ e ≤ n) (hu : 0 ≤ u ∧ u ≤ 1) : Mc (upd2 (upd2 G 106 22 u) 106 20 e) S n e u := by
  obtain ⟨h1, h2, h3, h4, h5, h6⟩ := h
  refine ⟨?_, ?_, upd2_s _ _ _ _, ?_, by omega, h6⟩
  · rw [← h1]; exact funext fun z => by rw [upd2_i (by decide), upd2_i (by decide)]
  · rw [← h2, upd2_z (by decide), upd2_z (by decide)]
  · rw [upd2_z (by decide), upd2_s]
theorem Mc_o {G G' : Mem} {S : Int → Int} {n p w : Int} (h : Mc G S n p w) (hF : ∀ i z, i = 111 ∨ (i = 106 ∧ (z = 20 ∨ z = 21 ∨ z = 22)) → G' i z = G i z) : Mc G' S n p w := by
  obtain ⟨h1, h2, h3, h4, h5, h6⟩ := h
  exact ⟨by rw [← h1]; exact funext fun z => hF 111 z (Or.inl rfl), by rw [← h2]; exact hF 106 21 (by omega), by rw [← h3]; exact hF 106 20 (by omega), by rw [← h4]; exact hF 106 22 (by omega), h5, h6⟩
theorem MW_2 (G : Mem) (a b c d : Int) : upd2 (upd2 (upd2 (upd2 G 106 22 a) 106 20 b) 106 22 c) 106 20 d = upd2 (upd2 G 106 22 c) 106 20 d := by
  funext j z
  unfold upd2
  by_cases h1 : j = 106 ∧ z = 20
  · rw [if_pos h1, if_pos h1]
  · rw [if_neg h1, if_neg h1]
    by_cases h2 : j = 106 ∧ z = 22
    · rw [if_pos h2, if_pos h2, if_neg h1]
    · rw [if_neg h2, if_neg h2, if_neg h1, if_neg h2]

set_option maxHeartbeats 4000000 in
set_option maxRecDepth 100000 in
theorem c_X4_here {g : GT} {G : Mem} (hp : 0 ≤ G 106 20 ∧ G 106 20 ≤ 60) (hn : 0 ≤ G 106 21 ∧ G 106 21 ≤ 60) : Ctr g yX4_here cX4_here 1 (some FieldType.int) (rmL 0 0 0) [vR g 106] G (RM (if G 106 20 < G 106 21 then G 111 (G 106 20) else -1) G) NoX := by
  refine ctr_of [some (vR g 106)] (by decide) (Nat.le_of_ble_eq_true rfl) rfl (fun γ E => ?_)
  show V γ g cX4_here 1 RX4 (rmL 0 0 0) G 0 0 0 [some (vR g 106)] []
  refine v_aload_n (pc := 0) rfl dX4_here_0 ?_
  refine v_get (pc := 1) 20 fd_X4_201 (rfl) (by decide) rfl rfl dX4_here_1 ?_
  refine v_aload_n (pc := 4) rfl dX4_here_4 ?_
  refine v_get (pc := 5) 21 fd_X4_204 (rfl) (by decide) rfl rfl dX4_here_5 ?_
  refine v_icmp_ge (pc := 8) (tgt := 23) (by omega) dX4_here_8 (by decide) (fun bq1 => ?_) (fun bq1 => ?_)
  · skip
    refine v_iconst (pc := 23) (z := (-1)) dX4_here_23 ?_
    exact v_iret (pc := 24) E (⟨by rw [if_neg (by omega)], rfl⟩) (Nat.le_of_ble_eq_true rfl) (Nat.le_of_ble_eq_true rfl) dX4_here_24
  · skip
    refine v_aload_n (pc := 11) rfl dX4_here_11 ?_
    refine v_getR (pc := 12) (j := 111) fd_X4_29 (rfl) (by decide) rfl dX4_here_12 ?_
    refine v_aload_n (pc := 15) rfl dX4_here_15 ?_
    refine v_get (pc := 16) 20 fd_X4_201 (rfl) (by decide) rfl rfl dX4_here_16 ?_
    refine v_iald (pc := 19) (N := 60) rfl rfl (by decide) (by omega) (by decide) dX4_here_19 ?_
    refine v_goto (pc := 20) (tgt := 24) dX4_here_20 (by decide) ?_
    exact v_iret (pc := 24) E (⟨by rw [if_pos (by omega)], rfl⟩) (Nat.le_of_ble_eq_true rfl) (Nat.le_of_ble_eq_true rfl) dX4_here_24
set_option maxHeartbeats 4000000 in
set_option maxRecDepth 100000 in
theorem c_X4_expects {g : GT} {G : Mem} {S : Int → Int} {n p w : Int} (h : Mc G S n p w) {c : Int} (h_c : 0 ≤ c ∧ c ≤ 126) : Ctr g yX4_expects cX4_expects 2 (none : Option FieldType) (rmL 1 0 0) [vR g 106, vI c] G (VM (upd2 (upd2 G 106 22 (if w = 0 ∧ sg S n p c then 0 else 1)) 106 20 (if w = 0 ∧ sg S n p c then p + 1 else p))) NoX := by
  refine ctr_of [some (vR g 106), some (vI c)] (by decide) (Nat.le_of_ble_eq_true rfl) rfl (fun γ E => ?_)
  show V γ g cX4_expects 2 RX4 (rmL 1 0 0) G 0 0 0 [some (vR g 106), some (vI c)] []
  have hMc := h
  obtain ⟨rfl, rfl, rfl, rfl, hb, hS⟩ := h
  refine v_aload_n (pc := 0) rfl dX4_expects_0 ?_
  refine v_aload_n (pc := 1) rfl dX4_expects_1 ?_
  refine v_get (pc := 2) 22 fd_X4_207 (rfl) (by decide) rfl rfl dX4_expects_2 ?_
  refine v_if_ne (pc := 5) (tgt := 16) (by omega) dX4_expects_5 (by decide) (fun bq1 => ?_) (fun bq1 => ?_)
  · skip
    refine v_iconst (pc := 16) (z := 1) dX4_expects_16 ?_
    refine v_goto (pc := 17) (tgt := 21) dX4_expects_17 (by decide) ?_
    refine v_putZ (pc := 21) 22 (by decide) pd_X4_207 (rfl) (by decide) rfl rfl dX4_expects_21 ?_
    refine v_aload_n (pc := 24) rfl dX4_expects_24 ?_
    refine v_dup (pc := 25) rfl dX4_expects_25 ?_
    refine v_get (pc := 26) 20 fd_X4_201 (rfl) (by decide) rfl rfl dX4_expects_26 ?_
    refine v_top (b := G 106 20) (upd2_z (by decide)) ?_
    refine v_aload_n (pc := 29) rfl dX4_expects_29 ?_
    refine v_get (pc := 30) 22 fd_X4_207 (rfl) (by decide) rfl rfl dX4_expects_30 ?_
    refine v_top (b := 1) (upd2_s _ _ _ _) ?_
    refine v_if_eq (pc := 33) (tgt := 40) (by omega) dX4_expects_33 (by decide) (fun bq2 => absurd bq2 (by decide)) (fun _ => ?_)
    refine v_iconst (pc := 36) (z := 0) dX4_expects_36 ?_
    refine v_goto (pc := 37) (tgt := 41) dX4_expects_37 (by decide) ?_
    refine v_iadd (pc := 41) dX4_expects_41 ?_
    refine v_put (pc := 42) 20 pd_X4_201 (rfl) (by decide) rfl rfl dX4_expects_42 ?_
    exact v_vret (pc := 45) E (⟨rfl, by rw [if_neg (by omega), if_neg (by omega), Int.add_zero]⟩) (Nat.le_of_ble_eq_true rfl) (Nat.le_of_ble_eq_true rfl) dX4_expects_45
  · skip
    refine v_aload_n (pc := 8) rfl dX4_expects_8 ?_
    refine v_callV (pc := 9) (rest := [vR g 106]) (c_X4_here (G := G) (by first | omega | (show 0 ≤ G 106 20 ∧ G 106 20 ≤ 60; omega)) (by first | omega | (show 0 ≤ G 106 21 ∧ G 106 21 ≤ 60; omega))) iok_X4_here wM_X4_211 (rfl) (by decide) (by decide) rfl (rmOk (by decide) (by decide)) ⟨Nat.le_of_ble_eq_true rfl, Nat.le_of_ble_eq_true rfl⟩ (Nat.le_of_ble_eq_true rfl) rfl dX4_expects_9 (fun v G' hq => ?_) (fun _ _ h => h.elim)
    obtain ⟨rfl, hG9⟩ := hq
    rw [hG9]
    obtain ⟨x, h_x⟩ : ∃ w9, w9 = (if G 106 20 < G 106 21 then G 111 (G 106 20) else -1) := ⟨_, rfl⟩
    refine v_stk (st' := [vI x, vR g 106]) (by rw [h_x]; rfl) ?_
    have hx_x : (G 106 20 < G 106 21 ∧ x = G 111 (G 106 20)) ∨ (¬ G 106 20 < G 106 21 ∧ x = -1) := by
      rw [h_x]
      by_cases q : G 106 20 < G 106 21
      · exact Or.inl ⟨q, if_pos q⟩
      · exact Or.inr ⟨q, if_neg q⟩
    have hr_x : -1 ≤ x ∧ x ≤ 126 := by
      rcases hx_x with q | q
      · have := hS (G 106 20) (by omega) q.1
        omega
      · omega
    refine v_iload_n (pc := 12) rfl dX4_expects_12 ?_
    refine v_icmp_eq (pc := 13) (tgt := 20) (by omega) dX4_expects_13 (by decide) (fun bq3 => ?_) (fun bq3 => ?_)
    · skip
      refine v_iconst (pc := 20) (z := 0) dX4_expects_20 ?_
      refine v_putZ (pc := 21) 22 (by decide) pd_X4_207 (rfl) (by decide) rfl rfl dX4_expects_21 ?_
      refine v_aload_n (pc := 24) rfl dX4_expects_24 ?_
      refine v_dup (pc := 25) rfl dX4_expects_25 ?_
      refine v_get (pc := 26) 20 fd_X4_201 (rfl) (by decide) rfl rfl dX4_expects_26 ?_
      refine v_top (b := G 106 20) (upd2_z (by decide)) ?_
      refine v_aload_n (pc := 29) rfl dX4_expects_29 ?_
      refine v_get (pc := 30) 22 fd_X4_207 (rfl) (by decide) rfl rfl dX4_expects_30 ?_
      refine v_top (b := 0) (upd2_s _ _ _ _) ?_
      refine v_if_eq (pc := 33) (tgt := 40) (by omega) dX4_expects_33 (by decide) (fun _ => ?_) (fun bq4 => absurd bq4 (by decide))
      refine v_iconst (pc := 40) (z := 1) dX4_expects_40 ?_
      refine v_iadd (pc := 41) dX4_expects_41 ?_
      refine v_put (pc := 42) 20 pd_X4_201 (rfl) (by decide) rfl rfl dX4_expects_42 ?_
      exact v_vret (pc := 45) E (⟨rfl, by rw [if_pos (by omega), if_pos (by omega)]⟩) (Nat.le_of_ble_eq_true rfl) (Nat.le_of_ble_eq_true rfl) dX4_expects_45
    · skip
      refine v_iconst (pc := 16) (z := 1) dX4_expects_16 ?_
      refine v_goto (pc := 17) (tgt := 21) dX4_expects_17 (by decide) ?_
      refine v_putZ (pc := 21) 22 (by decide) pd_X4_207 (rfl) (by decide) rfl rfl dX4_expects_21 ?_
      refine v_aload_n (pc := 24) rfl dX4_expects_24 ?_
      refine v_dup (pc := 25) rfl dX4_expects_25 ?_
      refine v_get (pc := 26) 20 fd_X4_201 (rfl) (by decide) rfl rfl dX4_expects_26 ?_
      refine v_top (b := G 106 20) (upd2_z (by decide)) ?_
      refine v_aload_n (pc := 29) rfl dX4_expects_29 ?_
      refine v_get (pc := 30) 22 fd_X4_207 (rfl) (by decide) rfl rfl dX4_expects_30 ?_
      refine v_top (b := 1) (upd2_s _ _ _ _) ?_
      refine v_if_eq (pc := 33) (tgt := 40) (by omega) dX4_expects_33 (by decide) (fun bq5 => absurd bq5 (by decide)) (fun _ => ?_)
      refine v_iconst (pc := 36) (z := 0) dX4_expects_36 ?_
      refine v_goto (pc := 37) (tgt := 41) dX4_expects_37 (by decide) ?_
      refine v_iadd (pc := 41) dX4_expects_41 ?_
      refine v_put (pc := 42) 20 pd_X4_201 (rfl) (by decide) rfl rfl dX4_expects_42 ?_
      exact v_vret (pc := 45) E (⟨rfl, by rw [if_neg (by omega), if_neg (by omega), Int.add_zero]⟩) (Nat.le_of_ble_eq_true rfl) (Nat.le_of_ble_eq_true rfl) dX4_expects_45
theorem c_X4_expects_t {g : GT} {G : Mem} {S : Int → Int} {n p w : Int} (h : Mc G S n p w) {c : Int} (h_c : 0 ≤ c ∧ c ≤ 126) (hc : w = 0 ∧ sg S n p c) : Ctr g yX4_expects cX4_expects 2 (none : Option FieldType) (rmL 1 0 0) [vR g 106, vI c] G  (VM (upd2 (upd2 G 106 22 0) 106 20 (p + 1))) NoX := by
  have q := c_X4_expects (g := g) h h_c
  simp only [if_pos hc] at q
  exact q
theorem c_X4_expects_f {g : GT} {G : Mem} {S : Int → Int} {n p w : Int} (h : Mc G S n p w) {c : Int} (h_c : 0 ≤ c ∧ c ≤ 126) (hc : ¬ (w = 0 ∧ sg S n p c)) : Ctr g yX4_expects cX4_expects 2 (none : Option FieldType) (rmL 1 0 0) [vR g 106, vI c] G  (VM (upd2 (upd2 G 106 22 1) 106 20 p)) NoX := by
  have q := c_X4_expects (g := g) h h_c
  simp only [if_neg hc] at q
  exact q
set_option maxHeartbeats 4000000 in
set_option maxRecDepth 100000 in
theorem c_X4_digit {g : GT} {G : Mem} {S : Int → Int} {n p w : Int} (h : Mc G S n p w) : Ctr g yX4_digit cX4_digit 2 (some FieldType.int) (rmL 1 0 0) [vR g 106] G (RM (if w = 0 ∧ dg S n p then S p - 48 else 0) (upd2 (upd2 G 106 22 (if w = 0 ∧ dg S n p then 0 else 1)) 106 20 (if w = 0 ∧ dg S n p then p + 1 else p))) NoX := by
  refine ctr_of [some (vR g 106), none] (by decide) (Nat.le_of_ble_eq_true rfl) rfl (fun γ E => ?_)
  show V γ g cX4_digit 2 RX4 (rmL 1 0 0) G 0 0 0 [some (vR g 106), none] []
  have hMc := h
  obtain ⟨rfl, rfl, rfl, rfl, hb, hS⟩ := h
  refine v_aload_n (pc := 0) rfl dX4_digit_0 ?_
  refine v_aload_n (pc := 1) rfl dX4_digit_1 ?_
  refine v_get (pc := 2) 22 fd_X4_207 (rfl) (by decide) rfl rfl dX4_digit_2 ?_
  refine v_if_ne (pc := 5) (tgt := 25) (by omega) dX4_digit_5 (by decide) (fun bq1 => ?_) (fun bq1 => ?_)
  · skip
    refine v_iconst (pc := 25) (z := 1) dX4_digit_25 ?_
    refine v_goto (pc := 26) (tgt := 30) dX4_digit_26 (by decide) ?_
    refine v_putZ (pc := 30) 22 (by decide) pd_X4_207 (rfl) (by decide) rfl rfl dX4_digit_30 ?_
    refine v_aload_n (pc := 33) rfl dX4_digit_33 ?_
    refine v_get (pc := 34) 22 fd_X4_207 (rfl) (by decide) rfl rfl dX4_digit_34 ?_
    refine v_top (b := 1) (upd2_s _ _ _ _) ?_
    refine v_if_eq (pc := 37) (tgt := 44) (by omega) dX4_digit_37 (by decide) (fun bq2 => absurd bq2 (by decide)) (fun _ => ?_)
    refine v_iconst (pc := 40) (z := 0) dX4_digit_40 ?_
    refine v_goto (pc := 41) (tgt := 51) dX4_digit_41 (by decide) ?_
    refine v_istore_n (pc := 51) (by decide) rfl dX4_digit_51 ?_
    refine v_aload_n (pc := 52) rfl dX4_digit_52 ?_
    refine v_dup (pc := 53) rfl dX4_digit_53 ?_
    refine v_get (pc := 54) 20 fd_X4_201 (rfl) (by decide) rfl rfl dX4_digit_54 ?_
    refine v_top (b := G 106 20) (upd2_z (by decide)) ?_
    refine v_aload_n (pc := 57) rfl dX4_digit_57 ?_
    refine v_get (pc := 58) 22 fd_X4_207 (rfl) (by decide) rfl rfl dX4_digit_58 ?_
    refine v_top (b := 1) (upd2_s _ _ _ _) ?_
    refine v_if_eq (pc := 61) (tgt := 68) (by omega) dX4_digit_61 (by decide) (fun bq3 => absurd bq3 (by decide)) (fun _ => ?_)
    refine v_iconst (pc := 64) (z := 0) dX4_digit_64 ?_
    refine v_goto (pc := 65) (tgt := 69) dX4_digit_65 (by decide) ?_
    refine v_iadd (pc := 69) dX4_digit_69 ?_
    refine v_put (pc := 70) 20 pd_X4_201 (rfl) (by decide) rfl rfl dX4_digit_70 ?_
    refine v_iload_n (pc := 73) rfl dX4_digit_73 ?_
    exact v_iret (pc := 74) E (⟨by rw [if_neg (by omega)], by rw [if_neg (by omega), if_neg (by omega), Int.add_zero]⟩) (Nat.le_of_ble_eq_true rfl) (Nat.le_of_ble_eq_true rfl) dX4_digit_74
  · skip
    refine v_aload_n (pc := 8) rfl dX4_digit_8 ?_
    refine v_callV (pc := 9) (rest := [vR g 106]) (c_X4_here (G := G) (by first | omega | (show 0 ≤ G 106 20 ∧ G 106 20 ≤ 60; omega)) (by first | omega | (show 0 ≤ G 106 21 ∧ G 106 21 ≤ 60; omega))) iok_X4_here wM_X4_211 (rfl) (by decide) (by decide) rfl (rmOk (by decide) (by decide)) ⟨Nat.le_of_ble_eq_true rfl, Nat.le_of_ble_eq_true rfl⟩ (Nat.le_of_ble_eq_true rfl) rfl dX4_digit_9 (fun v G' hq => ?_) (fun _ _ h => h.elim)
    obtain ⟨rfl, hG9⟩ := hq
    rw [hG9]
    obtain ⟨x, h_x⟩ : ∃ w9, w9 = (if G 106 20 < G 106 21 then G 111 (G 106 20) else -1) := ⟨_, rfl⟩
    refine v_stk (st' := [vI x, vR g 106]) (by rw [h_x]; rfl) ?_
    have hx_x : (G 106 20 < G 106 21 ∧ x = G 111 (G 106 20)) ∨ (¬ G 106 20 < G 106 21 ∧ x = -1) := by
      rw [h_x]
      by_cases q : G 106 20 < G 106 21
      · exact Or.inl ⟨q, if_pos q⟩
      · exact Or.inr ⟨q, if_neg q⟩
    have hr_x : -1 ≤ x ∧ x ≤ 126 := by
      rcases hx_x with q | q
      · have := hS (G 106 20) (by omega) q.1
        omega
      · omega
    refine v_i2l (pc := 12) (by omega) dX4_digit_12 ?_
    refine v_ldc2 (pc := 13) (z := 48) wG_X4_214 (by decide) dX4_digit_13 ?_
    refine v_ldc2 (pc := 16) (z := 57) wG_X4_216 (by decide) dX4_digit_16 ?_
    refine v_callS (pc := 19) (rest := [vR g 106]) (c_X4_in (by omega) (by omega) (by omega)) sok_X4_in wM_X4_60 (rmOk (by decide) (by decide)) ⟨Nat.le_of_ble_eq_true rfl, Nat.le_of_ble_eq_true rfl⟩ (Nat.le_of_ble_eq_true rfl) rfl dX4_digit_19 (fun v G' hq => ?_) (fun _ _ h => h.elim)
    obtain ⟨rfl, hG9⟩ := hq
    rw [hG9]
    refine v_stk (st' := [vI (bI (48 ≤ x ∧ x ≤ 57)), vR g 106]) rfl ?_
    refine v_if_ne (pc := 22) (tgt := 29) (bI_r _) dX4_digit_22 (by decide) (fun bq4 => ?_) (fun bq4 => ?_)
    · skip
      have bq4 := bI_n0 bq4
      refine v_iconst (pc := 29) (z := 0) dX4_digit_29 ?_
      refine v_putZ (pc := 30) 22 (by decide) pd_X4_207 (rfl) (by decide) rfl rfl dX4_digit_30 ?_
      refine v_aload_n (pc := 33) rfl dX4_digit_33 ?_
      refine v_get (pc := 34) 22 fd_X4_207 (rfl) (by decide) rfl rfl dX4_digit_34 ?_
      refine v_top (b := 0) (upd2_s _ _ _ _) ?_
      refine v_if_eq (pc := 37) (tgt := 44) (by omega) dX4_digit_37 (by decide) (fun _ => ?_) (fun bq5 => absurd bq5 (by decide))
      refine v_aload_n (pc := 44) rfl dX4_digit_44 ?_
      refine v_callV (pc := 45) (rest := []) (c_X4_here (G := upd2 G 106 22 0) (by first | omega | (show 0 ≤ G 106 20 ∧ G 106 20 ≤ 60; omega)) (by first | omega | (show 0 ≤ G 106 21 ∧ G 106 21 ≤ 60; omega))) iok_X4_here wM_X4_211 (rfl) (by decide) (by decide) rfl (rmOk (by decide) (by decide)) ⟨Nat.le_of_ble_eq_true rfl, Nat.le_of_ble_eq_true rfl⟩ (Nat.le_of_ble_eq_true rfl) rfl dX4_digit_45 (fun v G' hq => ?_) (fun _ _ h => h.elim)
      obtain ⟨rfl, hG9⟩ := hq
      rw [hG9]
      obtain ⟨y, h_y⟩ : ∃ w9, w9 = (if G 106 20 < G 106 21 then G 111 (G 106 20) else -1) := ⟨_, rfl⟩
      refine v_stk (st' := [vI y]) (by rw [h_y]; rfl) ?_
      have hx_y : (G 106 20 < G 106 21 ∧ y = G 111 (G 106 20)) ∨ (¬ G 106 20 < G 106 21 ∧ y = -1) := by
        rw [h_y]
        by_cases q : G 106 20 < G 106 21
        · exact Or.inl ⟨q, if_pos q⟩
        · exact Or.inr ⟨q, if_neg q⟩
      have hr_y : -1 ≤ y ∧ y ≤ 126 := by
        rcases hx_y with q | q
        · have := hS (G 106 20) (by omega) q.1
          omega
        · omega
      refine v_bipush (pc := 48) (z := 48) rfl dX4_digit_48 ?_
      refine v_isub (pc := 50) dX4_digit_50 ?_
      refine v_istore_n (pc := 51) (by decide) rfl dX4_digit_51 ?_
      refine v_aload_n (pc := 52) rfl dX4_digit_52 ?_
      refine v_dup (pc := 53) rfl dX4_digit_53 ?_
      refine v_get (pc := 54) 20 fd_X4_201 (rfl) (by decide) rfl rfl dX4_digit_54 ?_
      refine v_top (b := G 106 20) (upd2_z (by decide)) ?_
      refine v_aload_n (pc := 57) rfl dX4_digit_57 ?_
      refine v_get (pc := 58) 22 fd_X4_207 (rfl) (by decide) rfl rfl dX4_digit_58 ?_
      refine v_top (b := 0) (upd2_s _ _ _ _) ?_
      refine v_if_eq (pc := 61) (tgt := 68) (by omega) dX4_digit_61 (by decide) (fun _ => ?_) (fun bq6 => absurd bq6 (by decide))
      refine v_iconst (pc := 68) (z := 1) dX4_digit_68 ?_
      refine v_iadd (pc := 69) dX4_digit_69 ?_
      refine v_put (pc := 70) 20 pd_X4_201 (rfl) (by decide) rfl rfl dX4_digit_70 ?_
      refine v_iload_n (pc := 73) rfl dX4_digit_73 ?_
      exact v_iret (pc := 74) E (⟨by rw [if_pos (by omega), show y = G 111 (G 106 20) by omega], by rw [if_pos (by omega), if_pos (by omega)]⟩) (Nat.le_of_ble_eq_true rfl) (Nat.le_of_ble_eq_true rfl) dX4_digit_74
    · skip
      have bq4 := bI_eq0.mp bq4
      refine v_iconst (pc := 25) (z := 1) dX4_digit_25 ?_
      refine v_goto (pc := 26) (tgt := 30) dX4_digit_26 (by decide) ?_
      refine v_putZ (pc := 30) 22 (by decide) pd_X4_207 (rfl) (by decide) rfl rfl dX4_digit_30 ?_
      refine v_aload_n (pc := 33) rfl dX4_digit_33 ?_
      refine v_get (pc := 34) 22 fd_X4_207 (rfl) (by decide) rfl rfl dX4_digit_34 ?_
      refine v_top (b := 1) (upd2_s _ _ _ _) ?_
      refine v_if_eq (pc := 37) (tgt := 44) (by omega) dX4_digit_37 (by decide) (fun bq7 => absurd bq7 (by decide)) (fun _ => ?_)
      refine v_iconst (pc := 40) (z := 0) dX4_digit_40 ?_
      refine v_goto (pc := 41) (tgt := 51) dX4_digit_41 (by decide) ?_
      refine v_istore_n (pc := 51) (by decide) rfl dX4_digit_51 ?_
      refine v_aload_n (pc := 52) rfl dX4_digit_52 ?_
      refine v_dup (pc := 53) rfl dX4_digit_53 ?_
      refine v_get (pc := 54) 20 fd_X4_201 (rfl) (by decide) rfl rfl dX4_digit_54 ?_
      refine v_top (b := G 106 20) (upd2_z (by decide)) ?_
      refine v_aload_n (pc := 57) rfl dX4_digit_57 ?_
      refine v_get (pc := 58) 22 fd_X4_207 (rfl) (by decide) rfl rfl dX4_digit_58 ?_
      refine v_top (b := 1) (upd2_s _ _ _ _) ?_
      refine v_if_eq (pc := 61) (tgt := 68) (by omega) dX4_digit_61 (by decide) (fun bq8 => absurd bq8 (by decide)) (fun _ => ?_)
      refine v_iconst (pc := 64) (z := 0) dX4_digit_64 ?_
      refine v_goto (pc := 65) (tgt := 69) dX4_digit_65 (by decide) ?_
      refine v_iadd (pc := 69) dX4_digit_69 ?_
      refine v_put (pc := 70) 20 pd_X4_201 (rfl) (by decide) rfl rfl dX4_digit_70 ?_
      refine v_iload_n (pc := 73) rfl dX4_digit_73 ?_
      exact v_iret (pc := 74) E (⟨by rw [if_neg (by omega)], by rw [if_neg (by omega), if_neg (by omega), Int.add_zero]⟩) (Nat.le_of_ble_eq_true rfl) (Nat.le_of_ble_eq_true rfl) dX4_digit_74
theorem c_X4_digit_t {g : GT} {G : Mem} {S : Int → Int} {n p w : Int} (h : Mc G S n p w) (hc : w = 0 ∧ dg S n p) : Ctr g yX4_digit cX4_digit 2 (some FieldType.int) (rmL 1 0 0) [vR g 106] G  (RM (S p - 48) (upd2 (upd2 G 106 22 0) 106 20 (p + 1))) NoX := by
  have q := c_X4_digit (g := g) h
  simp only [if_pos hc] at q
  exact q
theorem c_X4_digit_f {g : GT} {G : Mem} {S : Int → Int} {n p w : Int} (h : Mc G S n p w) (hc : ¬ (w = 0 ∧ dg S n p)) : Ctr g yX4_digit cX4_digit 2 (some FieldType.int) (rmL 1 0 0) [vR g 106] G  (RM 0 (upd2 (upd2 G 106 22 1) 106 20 p)) NoX := by
  have q := c_X4_digit (g := g) h
  simp only [if_neg hc] at q
  exact q
set_option maxHeartbeats 4000000 in
set_option maxRecDepth 100000 in
theorem c_X4_number {g : GT} {G : Mem} {S : Int → Int} {n p w : Int} (h : Mc G S n p w) : Ctr g yX4_number cX4_number 2 (some FieldType.int) (rmL 2 0 0) [vR g 106] G (RM (if w = 0 ∧ dg S n p then nV S n p else 0) (upd2 (upd2 G 106 22 (if w = 0 ∧ dg S n p then 0 else 1)) 106 20 (if w = 0 ∧ dg S n p then nE S n p else p))) NoX := by
  refine ctr_of [some (vR g 106), none] (by decide) (Nat.le_of_ble_eq_true rfl) rfl (fun γ E => ?_)
  show V γ g cX4_number 2 RX4 (rmL 2 0 0) G 0 0 0 [some (vR g 106), none] []
  have hMc := h
  obtain ⟨rfl, rfl, rfl, rfl, hb, hS⟩ := h
  refine v_aload_n (pc := 0) rfl dX4_number_0 ?_
  by_cases hd1 : G 106 22 = 0 ∧ dg (G 111) (G 106 21) (G 106 20)
  · skip
    refine v_callV (pc := 1) (rest := []) (c_X4_digit_t hMc hd1) iok_X4_digit wM_X4_218 (rfl) (by decide) (by decide) rfl (rmOk (by decide) (by decide)) ⟨Nat.le_of_ble_eq_true rfl, Nat.le_of_ble_eq_true rfl⟩ (Nat.le_of_ble_eq_true rfl) rfl dX4_number_1 (fun v G' hq => ?_) (fun _ _ h => h.elim)
    obtain ⟨rfl, hG9⟩ := hq
    rw [hG9]
    refine v_stk (st' := [vI (G 111 (G 106 20) - 48)]) rfl ?_
    refine v_istore_n (pc := 4) (by decide) rfl dX4_number_4 ?_
    refine v_aload_n (pc := 5) rfl dX4_number_5 ?_
    refine v_get (pc := 6) 22 fd_X4_207 (rfl) (by decide) rfl rfl dX4_number_6 ?_
    refine v_top (b := 0) ((upd2_z (by decide)).trans (upd2_s _ _ _ _)) ?_
    refine v_if_ne (pc := 9) (tgt := 41) (by omega) dX4_number_9 (by decide) (fun bq2 => absurd bq2 (by decide)) (fun _ => ?_)
    refine v_aload_n (pc := 12) rfl dX4_number_12 ?_
    have hp1 := hS (G 106 20) (by omega) (by omega)
    have hMc1 := Mc_w hMc (e := G 106 20 + 1) (u := 0) (by omega) (by decide)
    refine v_callV (pc := 13) (rest := []) (c_X4_here (G := upd2 (upd2 G 106 22 0) 106 20 (G 106 20 + 1)) (by show 0 ≤ G 106 20 + 1 ∧ G 106 20 + 1 ≤ 60; omega) (by show 0 ≤ G 106 21 ∧ G 106 21 ≤ 60; omega)) iok_X4_here wM_X4_211 (rfl) (by decide) (by decide) rfl (rmOk (by decide) (by decide)) ⟨Nat.le_of_ble_eq_true rfl, Nat.le_of_ble_eq_true rfl⟩ (Nat.le_of_ble_eq_true rfl) rfl dX4_number_13 (fun v G' hq => ?_) (fun _ _ h => h.elim)
    obtain ⟨rfl, hG9⟩ := hq
    rw [hG9]
    obtain ⟨x, h_x⟩ : ∃ w9, w9 = (if G 106 20 + 1 < G 106 21 then G 111 (G 106 20 + 1) else -1) := ⟨_, rfl⟩
    refine v_stk (st' := [vI x]) (by rw [h_x]; rfl) ?_
    have hx : (G 106 20 + 1 < G 106 21 ∧ x = G 111 (G 106 20 + 1)) ∨ (¬ G 106 20 + 1 < G 106 21 ∧ x = -1) := by
      rw [h_x]
      by_cases q : G 106 20 + 1 < G 106 21
      · exact Or.inl ⟨q, if_pos q⟩
      · exact Or.inr ⟨q, if_neg q⟩
    have hr : -1 ≤ x ∧ x ≤ 126 := by
      rcases hx with q | q
      · have := hS (G 106 20 + 1) (by omega) q.1
        omega
      · omega
    refine v_i2l (pc := 16) (by omega) dX4_number_16 ?_
    refine v_ldc2 (pc := 17) (z := 48) wG_X4_214 (by decide) dX4_number_17 ?_
    refine v_ldc2 (pc := 20) (z := 57) wG_X4_216 (by decide) dX4_number_20 ?_
    refine v_callS (pc := 23) (rest := []) (c_X4_in (by omega) (by omega) (by omega)) sok_X4_in wM_X4_60 (rmOk (by decide) (by decide)) ⟨Nat.le_of_ble_eq_true rfl, Nat.le_of_ble_eq_true rfl⟩ (Nat.le_of_ble_eq_true rfl) rfl dX4_number_23 (fun v G' hq => ?_) (fun _ _ h => h.elim)
    obtain ⟨rfl, hG9⟩ := hq
    rw [hG9]
    refine v_stk (st' := [vI (bI (48 ≤ x ∧ x ≤ 57))]) rfl ?_
    refine v_if_eq (pc := 26) (tgt := 41) (bI_r _) dX4_number_26 (by decide) (fun bq3 => ?_) (fun bq3 => ?_)
    · skip
      have bq3 := bI_eq0.mp bq3
      refine v_iload_n (pc := 41) rfl dX4_number_41 ?_
      exact v_iret (pc := 42) E (⟨by rw [if_pos (by assumption)]; unfold nV; rw [if_neg (by omega)], by rw [if_pos (by assumption), if_pos (by assumption)]; unfold nE; rw [if_pos (by omega), if_neg (by omega)]⟩) (Nat.le_of_ble_eq_true rfl) (Nat.le_of_ble_eq_true rfl) dX4_number_42
    · skip
      have bq3 := bI_n0 bq3
      have hd2 : dg (G 111) (G 106 21) (G 106 20 + 1) := by refine ⟨?_, ?_, ?_⟩ <;> omega
      refine v_bipush (pc := 29) (z := 10) rfl dX4_number_29 ?_
      refine v_iload_n (pc := 31) rfl dX4_number_31 ?_
      refine v_imul (pc := 32) dX4_number_32 ?_
      refine v_aload_n (pc := 33) rfl dX4_number_33 ?_
      refine v_callV (pc := 34) (rest := [vI (10 * (G 111 (G 106 20) - 48))]) (c_X4_digit_t hMc1 ⟨rfl, hd2⟩) iok_X4_digit wM_X4_218 (rfl) (by decide) (by decide) rfl (rmOk (by decide) (by decide)) ⟨Nat.le_of_ble_eq_true rfl, Nat.le_of_ble_eq_true rfl⟩ (Nat.le_of_ble_eq_true rfl) rfl dX4_number_34 (fun v G' hq => ?_) (fun _ _ h => h.elim)
      obtain ⟨rfl, hG9⟩ := hq
      rw [hG9]
      refine v_stk (st' := [vI (G 111 (G 106 20 + 1) - 48), vI (10 * (G 111 (G 106 20) - 48))]) rfl ?_
      refine v_iadd (pc := 37) dX4_number_37 ?_
      refine v_goto (pc := 38) (tgt := 42) dX4_number_38 (by decide) ?_
      exact v_iret (pc := 42) E (⟨by rw [if_pos (by assumption)]; unfold nV; rw [if_pos hd2], by rw [MW_2, if_pos (by assumption), if_pos (by assumption)]; unfold nE; rw [if_pos (by omega), if_pos hd2]; rw [show G 106 20 + 1 + 1 = G 106 20 + 2 by omega]⟩) (Nat.le_of_ble_eq_true rfl) (Nat.le_of_ble_eq_true rfl) dX4_number_42
  · skip
    refine v_callV (pc := 1) (rest := []) (c_X4_digit_f hMc hd1) iok_X4_digit wM_X4_218 (rfl) (by decide) (by decide) rfl (rmOk (by decide) (by decide)) ⟨Nat.le_of_ble_eq_true rfl, Nat.le_of_ble_eq_true rfl⟩ (Nat.le_of_ble_eq_true rfl) rfl dX4_number_1 (fun v G' hq => ?_) (fun _ _ h => h.elim)
    obtain ⟨rfl, hG9⟩ := hq
    rw [hG9]
    refine v_stk (st' := [vI 0]) rfl ?_
    refine v_istore_n (pc := 4) (by decide) rfl dX4_number_4 ?_
    refine v_aload_n (pc := 5) rfl dX4_number_5 ?_
    refine v_get (pc := 6) 22 fd_X4_207 (rfl) (by decide) rfl rfl dX4_number_6 ?_
    refine v_top (b := 1) ((upd2_z (by decide)).trans (upd2_s _ _ _ _)) ?_
    refine v_if_ne (pc := 9) (tgt := 41) (by omega) dX4_number_9 (by decide) (fun _ => ?_) (fun bq4 => absurd bq4 (by decide))
    refine v_iload_n (pc := 41) rfl dX4_number_41 ?_
    exact v_iret (pc := 42) E (⟨by rw [if_neg (by assumption)], by rw [if_neg (by assumption), if_neg (by assumption)]⟩) (Nat.le_of_ble_eq_true rfl) (Nat.le_of_ble_eq_true rfl) dX4_number_42
theorem c_X4_number_t {g : GT} {G : Mem} {S : Int → Int} {n p w : Int} (h : Mc G S n p w) (hc : w = 0 ∧ dg S n p) : Ctr g yX4_number cX4_number 2 (some FieldType.int) (rmL 2 0 0) [vR g 106] G  (RM (nV S n p) (upd2 (upd2 G 106 22 0) 106 20 (nE S n p))) NoX := by
  have q := c_X4_number (g := g) h
  simp only [if_pos hc] at q
  exact q
theorem c_X4_number_f {g : GT} {G : Mem} {S : Int → Int} {n p w : Int} (h : Mc G S n p w) (hc : ¬ (w = 0 ∧ dg S n p)) : Ctr g yX4_number cX4_number 2 (some FieldType.int) (rmL 2 0 0) [vR g 106] G  (RM 0 (upd2 (upd2 G 106 22 1) 106 20 p)) NoX := by
  have q := c_X4_number (g := g) h
  simp only [if_neg hc] at q
  exact q
set_option maxHeartbeats 4000000 in
set_option maxRecDepth 100000 in
theorem c_X4_digitBehind {g : GT} {G : Mem} {S : Int → Int} {n p w : Int} (h : Mc G S n p w) : Ctr g yX4_digitBehind cX4_digitBehind 1 (some FieldType.int) (rmL 2 0 0) [vR g 106] G (RM (if w = 0 ∧ sg S n p 32 ∧ dg S n (p + 1) then S (p + 1) - 48 else 0) (upd2 (upd2 G 106 22 (if w = 0 ∧ sg S n p 32 ∧ dg S n (p + 1) then 0 else 1)) 106 20 (if w = 0 ∧ sg S n p 32 ∧ dg S n (p + 1) then (p + 1 + 1) else if w = 0 ∧ sg S n p 32 then p + 1 else p))) NoX := by
  refine ctr_of [some (vR g 106)] (by decide) (Nat.le_of_ble_eq_true rfl) rfl (fun γ E => ?_)
  show V γ g cX4_digitBehind 1 RX4 (rmL 2 0 0) G 0 0 0 [some (vR g 106)] []
  have hMc := h
  obtain ⟨rfl, rfl, rfl, rfl, hb, hS⟩ := h
  refine v_aload_n (pc := 0) rfl dX4_digitBehind_0 ?_
  refine v_bipush (pc := 1) (z := 32) rfl dX4_digitBehind_1 ?_
  by_cases hd1 : G 106 22 = 0 ∧ sg (G 111) (G 106 21) (G 106 20) 32
  · skip
    refine v_callV (pc := 3) (rest := []) (c_X4_expects_t (c := 32) hMc (by decide) hd1) iok_X4_expects wM_X4_221 (rfl) (by decide) (by decide) rfl (rmOk (by decide) (by decide)) ⟨Nat.le_of_ble_eq_true rfl, Nat.le_of_ble_eq_true rfl⟩ (Nat.le_of_ble_eq_true rfl) rfl dX4_digitBehind_3 (fun v G' hq => ?_) (fun _ _ h => h.elim)
    obtain ⟨rfl, hG9⟩ := hq
    rw [hG9]
    refine v_stk (st' := []) rfl ?_
    have hMc1 := Mc_w hMc (e := G 106 20 + 1) (u := 0) (by omega) (by decide)
    have hE1 := hd1
    refine v_aload_n (pc := 6) rfl dX4_digitBehind_6 ?_
    by_cases hd2 : (0 : Int) = 0 ∧ dg (G 111) (G 106 21) (G 106 20 + 1)
    · skip
      refine v_callV (pc := 7) (rest := []) (c_X4_digit_t hMc1 hd2) iok_X4_digit wM_X4_218 (rfl) (by decide) (by decide) rfl (rmOk (by decide) (by decide)) ⟨Nat.le_of_ble_eq_true rfl, Nat.le_of_ble_eq_true rfl⟩ (Nat.le_of_ble_eq_true rfl) rfl dX4_digitBehind_7 (fun v G' hq => ?_) (fun _ _ h => h.elim)
      obtain ⟨rfl, hG9⟩ := hq
      rw [hG9]
      refine v_stk (st' := [vI (G 111 (G 106 20 + 1) - 48)]) rfl ?_
      exact v_iret (pc := 10) E (⟨by rw [if_pos (by omega)], by rw [MW_2, if_pos (by omega), if_pos (by omega)]⟩) (Nat.le_of_ble_eq_true rfl) (Nat.le_of_ble_eq_true rfl) dX4_digitBehind_10
    · skip
      refine v_callV (pc := 7) (rest := []) (c_X4_digit_f hMc1 hd2) iok_X4_digit wM_X4_218 (rfl) (by decide) (by decide) rfl (rmOk (by decide) (by decide)) ⟨Nat.le_of_ble_eq_true rfl, Nat.le_of_ble_eq_true rfl⟩ (Nat.le_of_ble_eq_true rfl) rfl dX4_digitBehind_7 (fun v G' hq => ?_) (fun _ _ h => h.elim)
      obtain ⟨rfl, hG9⟩ := hq
      rw [hG9]
      refine v_stk (st' := [vI 0]) rfl ?_
      exact v_iret (pc := 10) E (⟨by rw [if_neg (by omega)], by rw [MW_2, if_neg (by omega), if_neg (by omega), if_pos hE1]⟩) (Nat.le_of_ble_eq_true rfl) (Nat.le_of_ble_eq_true rfl) dX4_digitBehind_10
  · skip
    refine v_callV (pc := 3) (rest := []) (c_X4_expects_f (c := 32) hMc (by decide) hd1) iok_X4_expects wM_X4_221 (rfl) (by decide) (by decide) rfl (rmOk (by decide) (by decide)) ⟨Nat.le_of_ble_eq_true rfl, Nat.le_of_ble_eq_true rfl⟩ (Nat.le_of_ble_eq_true rfl) rfl dX4_digitBehind_3 (fun v G' hq => ?_) (fun _ _ h => h.elim)
    obtain ⟨rfl, hG9⟩ := hq
    rw [hG9]
    refine v_stk (st' := []) rfl ?_
    have hMc1 := Mc_w hMc (e := G 106 20) (u := 1) (by omega) (by decide)
    have hE1 := hd1
    refine v_aload_n (pc := 6) rfl dX4_digitBehind_6 ?_
    refine v_callV (pc := 7) (rest := []) (c_X4_digit_f hMc1 (fun q => absurd q.1 (by decide))) iok_X4_digit wM_X4_218 (rfl) (by decide) (by decide) rfl (rmOk (by decide) (by decide)) ⟨Nat.le_of_ble_eq_true rfl, Nat.le_of_ble_eq_true rfl⟩ (Nat.le_of_ble_eq_true rfl) rfl dX4_digitBehind_7 (fun v G' hq => ?_) (fun _ _ h => h.elim)
    obtain ⟨rfl, hG9⟩ := hq
    rw [hG9]
    refine v_stk (st' := [vI 0]) rfl ?_
    exact v_iret (pc := 10) E (⟨by rw [if_neg (by omega)], by rw [MW_2, if_neg (by omega), if_neg (by omega), if_neg hE1]⟩) (Nat.le_of_ble_eq_true rfl) (Nat.le_of_ble_eq_true rfl) dX4_digitBehind_10
theorem c_X4_digitBehind_t {g : GT} {G : Mem} {S : Int → Int} {n p w : Int} (h : Mc G S n p w) (hc : w = 0 ∧ sg S n p 32 ∧ dg S n (p + 1)) : Ctr g yX4_digitBehind cX4_digitBehind 1 (some FieldType.int) (rmL 2 0 0) [vR g 106] G  (RM (S (p + 1) - 48) (upd2 (upd2 G 106 22 0) 106 20 (p + 1 + 1))) NoX := by
  have q := c_X4_digitBehind (g := g) h
  simp only [if_pos hc] at q
  exact q
theorem c_X4_digitBehind_f {g : GT} {G : Mem} {S : Int → Int} {n p w : Int} (h : Mc G S n p w) (hc : ¬ (w = 0 ∧ sg S n p 32 ∧ dg S n (p + 1))) : Ctr g yX4_digitBehind cX4_digitBehind 1 (some FieldType.int) (rmL 2 0 0) [vR g 106] G  (RM 0 (upd2 (upd2 G 106 22 1) 106 20 (if w = 0 ∧ sg S n p 32 then p + 1 else p))) NoX := by
  have q := c_X4_digitBehind (g := g) h
  simp only [if_neg hc] at q
  exact q
set_option maxHeartbeats 4000000 in
set_option maxRecDepth 100000 in
theorem c_X4_numberBehind {g : GT} {G : Mem} {S : Int → Int} {n p w : Int} (h : Mc G S n p w) : Ctr g yX4_numberBehind cX4_numberBehind 1 (some FieldType.int) (rmL 3 0 0) [vR g 106] G (RM (if w = 0 ∧ sg S n p 32 ∧ dg S n (p + 1) then nV S n (p + 1) else 0) (upd2 (upd2 G 106 22 (if w = 0 ∧ sg S n p 32 ∧ dg S n (p + 1) then 0 else 1)) 106 20 (if w = 0 ∧ sg S n p 32 ∧ dg S n (p + 1) then (nE S n (p + 1)) else if w = 0 ∧ sg S n p 32 then p + 1 else p))) NoX := by
  refine ctr_of [some (vR g 106)] (by decide) (Nat.le_of_ble_eq_true rfl) rfl (fun γ E => ?_)
  show V γ g cX4_numberBehind 1 RX4 (rmL 3 0 0) G 0 0 0 [some (vR g 106)] []
  have hMc := h
  obtain ⟨rfl, rfl, rfl, rfl, hb, hS⟩ := h
  refine v_aload_n (pc := 0) rfl dX4_numberBehind_0 ?_
  refine v_bipush (pc := 1) (z := 32) rfl dX4_numberBehind_1 ?_
  by_cases hd1 : G 106 22 = 0 ∧ sg (G 111) (G 106 21) (G 106 20) 32
  · skip
    refine v_callV (pc := 3) (rest := []) (c_X4_expects_t (c := 32) hMc (by decide) hd1) iok_X4_expects wM_X4_221 (rfl) (by decide) (by decide) rfl (rmOk (by decide) (by decide)) ⟨Nat.le_of_ble_eq_true rfl, Nat.le_of_ble_eq_true rfl⟩ (Nat.le_of_ble_eq_true rfl) rfl dX4_numberBehind_3 (fun v G' hq => ?_) (fun _ _ h => h.elim)
    obtain ⟨rfl, hG9⟩ := hq
    rw [hG9]
    refine v_stk (st' := []) rfl ?_
    have hMc1 := Mc_w hMc (e := G 106 20 + 1) (u := 0) (by omega) (by decide)
    have hE1 := hd1
    refine v_aload_n (pc := 6) rfl dX4_numberBehind_6 ?_
    by_cases hd2 : (0 : Int) = 0 ∧ dg (G 111) (G 106 21) (G 106 20 + 1)
    · skip
      refine v_callV (pc := 7) (rest := []) (c_X4_number_t hMc1 hd2) iok_X4_number wM_X4_224 (rfl) (by decide) (by decide) rfl (rmOk (by decide) (by decide)) ⟨Nat.le_of_ble_eq_true rfl, Nat.le_of_ble_eq_true rfl⟩ (Nat.le_of_ble_eq_true rfl) rfl dX4_numberBehind_7 (fun v G' hq => ?_) (fun _ _ h => h.elim)
      obtain ⟨rfl, hG9⟩ := hq
      rw [hG9]
      refine v_stk (st' := [vI (nV (G 111) (G 106 21) (G 106 20 + 1))]) rfl ?_
      exact v_iret (pc := 10) E (⟨by rw [if_pos (by omega)], by rw [MW_2, if_pos (by omega), if_pos (by omega)]⟩) (Nat.le_of_ble_eq_true rfl) (Nat.le_of_ble_eq_true rfl) dX4_numberBehind_10
    · skip
      refine v_callV (pc := 7) (rest := []) (c_X4_number_f hMc1 hd2) iok_X4_number wM_X4_224 (rfl) (by decide) (by decide) rfl (rmOk (by decide) (by decide)) ⟨Nat.le_of_ble_eq_true rfl, Nat.le_of_ble_eq_true rfl⟩ (Nat.le_of_ble_eq_true rfl) rfl dX4_numberBehind_7 (fun v G' hq => ?_) (fun _ _ h => h.elim)
      obtain ⟨rfl, hG9⟩ := hq
      rw [hG9]
      refine v_stk (st' := [vI 0]) rfl ?_
      exact v_iret (pc := 10) E (⟨by rw [if_neg (by omega)], by rw [MW_2, if_neg (by omega), if_neg (by omega), if_pos hE1]⟩) (Nat.le_of_ble_eq_true rfl) (Nat.le_of_ble_eq_true rfl) dX4_numberBehind_10
  · skip
    refine v_callV (pc := 3) (rest := []) (c_X4_expects_f (c := 32) hMc (by decide) hd1) iok_X4_expects wM_X4_221 (rfl) (by decide) (by decide) rfl (rmOk (by decide) (by decide)) ⟨Nat.le_of_ble_eq_true rfl, Nat.le_of_ble_eq_true rfl⟩ (Nat.le_of_ble_eq_true rfl) rfl dX4_numberBehind_3 (fun v G' hq => ?_) (fun _ _ h => h.elim)
    obtain ⟨rfl, hG9⟩ := hq
    rw [hG9]
    refine v_stk (st' := []) rfl ?_
    have hMc1 := Mc_w hMc (e := G 106 20) (u := 1) (by omega) (by decide)
    have hE1 := hd1
    refine v_aload_n (pc := 6) rfl dX4_numberBehind_6 ?_
    refine v_callV (pc := 7) (rest := []) (c_X4_number_f hMc1 (fun q => absurd q.1 (by decide))) iok_X4_number wM_X4_224 (rfl) (by decide) (by decide) rfl (rmOk (by decide) (by decide)) ⟨Nat.le_of_ble_eq_true rfl, Nat.le_of_ble_eq_true rfl⟩ (Nat.le_of_ble_eq_true rfl) rfl dX4_numberBehind_7 (fun v G' hq => ?_) (fun _ _ h => h.elim)
    obtain ⟨rfl, hG9⟩ := hq
    rw [hG9]
    refine v_stk (st' := [vI 0]) rfl ?_
    exact v_iret (pc := 10) E (⟨by rw [if_neg (by omega)], by rw [MW_2, if_neg (by omega), if_neg (by omega), if_neg hE1]⟩) (Nat.le_of_ble_eq_true rfl) (Nat.le_of_ble_eq_true rfl) dX4_numberBehind_10
theorem c_X4_numberBehind_t {g : GT} {G : Mem} {S : Int → Int} {n p w : Int} (h : Mc G S n p w) (hc : w = 0 ∧ sg S n p 32 ∧ dg S n (p + 1)) : Ctr g yX4_numberBehind cX4_numberBehind 1 (some FieldType.int) (rmL 3 0 0) [vR g 106] G  (RM (nV S n (p + 1)) (upd2 (upd2 G 106 22 0) 106 20 (nE S n (p + 1)))) NoX := by
  have q := c_X4_numberBehind (g := g) h
  simp only [if_pos hc] at q
  exact q
theorem c_X4_numberBehind_f {g : GT} {G : Mem} {S : Int → Int} {n p w : Int} (h : Mc G S n p w) (hc : ¬ (w = 0 ∧ sg S n p 32 ∧ dg S n (p + 1))) : Ctr g yX4_numberBehind cX4_numberBehind 1 (some FieldType.int) (rmL 3 0 0) [vR g 106] G  (RM 0 (upd2 (upd2 G 106 22 1) 106 20 (if w = 0 ∧ sg S n p 32 then p + 1 else p))) NoX := by
  have q := c_X4_numberBehind (g := g) h
  simp only [if_neg hc] at q
  exact q
