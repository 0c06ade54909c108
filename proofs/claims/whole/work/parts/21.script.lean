-- the script's text: digits, signs, numbers
abbrev dg (S : Int → Int) (n p : Int) : Prop := p < n ∧ 48 ≤ S p ∧ S p ≤ 57
abbrev sg (S : Int → Int) (n p c : Int) : Prop := p < n ∧ S p = c
def nE (S : Int → Int) (n p : Int) : Int := if dg S n p then (if dg S n (p + 1) then p + 2 else p + 1) else p
def nV (S : Int → Int) (n p : Int) : Int := if dg S n (p + 1) then 10 * (S p - 48) + (S (p + 1) - 48) else S p - 48
/-- the Script stands at p of the text S of length n, at the command c -/
def Sc (G : Mem) (S : Int → Int) (n p c : Int) : Prop := G 102 = S ∧ G 2 1 = n ∧ G 2 2 = p ∧ G 2 3 = c ∧ (0 ≤ p ∧ p ≤ n ∧ n ≤ 60 ∧ 0 ≤ c ∧ c < 60) ∧ ∀ j, 0 ≤ j → j < n → 32 ≤ S j ∧ S j ≤ 126
theorem Sc_pos {G : Mem} {S : Int → Int} {n p c e : Int} (h : Sc G S n p c) (he : 0 ≤ e ∧ e ≤ n) : Sc (upd2 G 2 2 e) S n e c := by
  obtain ⟨h1, h2, h3, h4, h5, h6⟩ := h
  refine ⟨?_, ?_, upd2_s _ _ _ _, ?_, by omega, h6⟩
  · rw [← h1]; exact funext fun z => upd2_i (by decide)
  · rw [← h2]; exact upd2_z (by decide)
  · rw [← h4]; exact upd2_z (by decide)
theorem Sc_row {G : Mem} {S : Int → Int} {n p c z v : Int} {i : Nat} (h : Sc G S n p c) (hi : 103 ≤ i) : Sc (upd2 G i z v) S n p c := by
  obtain ⟨h1, h2, h3, h4, h5, h6⟩ := h
  refine ⟨?_, ?_, ?_, ?_, h5, h6⟩
  · rw [← h1]; exact funext fun z => upd2_i (by omega)
  · rw [← h2]; exact upd2_i (by omega)
  · rw [← h3]; exact upd2_i (by omega)
  · rw [← h4]; exact upd2_i (by omega)
theorem Sc_fr {G G' : Mem} {S : Int → Int} {n p c e : Int} (h : Sc G S n p c) (he : 0 ≤ e ∧ e ≤ n) (h2 : G' 2 2 = e) (hF : ∀ i z, ¬ (i = 2 ∧ z = 2) → ¬ (103 ≤ i ∧ i ≤ 105 ∧ z = c) → G' i z = G i z) : Sc G' S n e c := by
  obtain ⟨h1, h3, -, h4, h5, h6⟩ := h
  refine ⟨?_, ?_, h2, ?_, by omega, h6⟩
  · rw [← h1]; exact funext fun z => hF 102 z (by omega) (by omega)
  · rw [← h3]; exact hF 2 1 (by omega) (by omega)
  · rw [← h4]; exact hF 2 3 (by omega) (by omega)

set_option maxHeartbeats 4000000 in
set_option maxRecDepth 100000 in
theorem c_X1_append {g : GT} {G : Mem} {x : Int} (h_x : 0 ≤ x ∧ x < 65536) (hn : 0 ≤ G 2 1 ∧ G 2 1 < 60) : Ctr g yX1_append cX1_append 2 (none : Option FieldType) (rmL 0 0 0) [vR g 2, vI x] G (VM (upd2 (upd2 G 102 (G 2 1) x) 2 1 (G 2 1 + 1))) NoX := by
  refine ctr_of [some (vR g 2), some (vI x)] (by decide) (Nat.le_of_ble_eq_true rfl) rfl (fun γ E => ?_)
  show V γ g cX1_append 2 RX1 (rmL 0 0 0) G 0 0 0 [some (vR g 2), some (vI x)] []
  refine v_aload_n (pc := 0) rfl dX1_append_0 ?_
  refine v_getR (pc := 1) (j := 102) fd_X1_9 (rfl) (by decide) rfl dX1_append_1 ?_
  refine v_aload_n (pc := 4) rfl dX1_append_4 ?_
  refine v_get (pc := 5) 1 fd_X1_25 (rfl) (by decide) rfl rfl dX1_append_5 ?_
  refine v_iload_n (pc := 8) rfl dX1_append_8 ?_
  refine v_cast (pc := 9) (N := 60) rfl rfl (by decide) (by omega) (by decide) (by omega) dX1_append_9 ?_
  refine v_aload_n (pc := 10) rfl dX1_append_10 ?_
  refine v_dup (pc := 11) rfl dX1_append_11 ?_
  refine v_get (pc := 12) 1 fd_X1_25 (rfl) (by decide) rfl rfl dX1_append_12 ?_
  refine v_top (b := G 2 1) (upd2_i (by decide)) ?_
  refine v_iconst (pc := 15) (z := 1) dX1_append_15 ?_
  refine v_iadd (pc := 16) dX1_append_16 ?_
  refine v_put (pc := 17) 1 pd_X1_25 (rfl) (by decide) rfl rfl dX1_append_17 ?_
  exact v_vret (pc := 20) E (⟨rfl, rfl⟩) (Nat.le_of_ble_eq_true rfl) (Nat.le_of_ble_eq_true rfl) dX1_append_20
set_option maxHeartbeats 4000000 in
set_option maxRecDepth 100000 in
theorem c_X1_isAtDigit {g : GT} {G : Mem} {S : Int → Int} {n p c : Int} (h : Sc G S n p c) : Ctr g yX1_isAtDigit cX1_isAtDigit 1 (some FieldType.boolean) (rmL 0 0 0) [vR g 2] G (RM (bI (dg S n p)) G) NoX := by
  refine ctr_of [some (vR g 2)] (by decide) (Nat.le_of_ble_eq_true rfl) rfl (fun γ E => ?_)
  show V γ g cX1_isAtDigit 1 RX1 (rmL 0 0 0) G 0 0 0 [some (vR g 2)] []
  have hSc := h
  obtain ⟨rfl, rfl, rfl, rfl, hb, hS⟩ := h
  refine v_aload_n (pc := 0) rfl dX1_isAtDigit_0 ?_
  refine v_get (pc := 1) 2 fd_X1_29 (rfl) (by decide) rfl rfl dX1_isAtDigit_1 ?_
  refine v_aload_n (pc := 4) rfl dX1_isAtDigit_4 ?_
  refine v_get (pc := 5) 1 fd_X1_25 (rfl) (by decide) rfl rfl dX1_isAtDigit_5 ?_
  refine v_icmp_ge (pc := 8) (tgt := 43) (by omega) dX1_isAtDigit_8 (by decide) (fun h1 => ?_) (fun h1 => ?_)
  · skip
    refine v_iconst (pc := 43) (z := 0) dX1_isAtDigit_43 ?_
    exact v_bret (pc := 44) E (by decide) (⟨by rw [bI_f (by omega)], rfl⟩) (Nat.le_of_ble_eq_true rfl) (Nat.le_of_ble_eq_true rfl) dX1_isAtDigit_44
  · skip
    refine v_aload_n (pc := 11) rfl dX1_isAtDigit_11 ?_
    refine v_getR (pc := 12) (j := 102) fd_X1_9 (rfl) (by decide) rfl dX1_isAtDigit_12 ?_
    refine v_aload_n (pc := 15) rfl dX1_isAtDigit_15 ?_
    refine v_get (pc := 16) 2 fd_X1_29 (rfl) (by decide) rfl rfl dX1_isAtDigit_16 ?_
    refine v_cald (pc := 19) (N := 60) rfl rfl (by decide) (by omega) (by decide) dX1_isAtDigit_19 ?_
    have r2 := hS (G 2 2) (by omega) (by omega)
    refine v_bipush (pc := 20) (z := 48) rfl dX1_isAtDigit_20 ?_
    refine v_icmp_lt (pc := 22) (tgt := 43) (by omega) dX1_isAtDigit_22 (by decide) (fun h3 => ?_) (fun h3 => ?_)
    · skip
      refine v_iconst (pc := 43) (z := 0) dX1_isAtDigit_43 ?_
      exact v_bret (pc := 44) E (by decide) (⟨by rw [bI_f (by omega)], rfl⟩) (Nat.le_of_ble_eq_true rfl) (Nat.le_of_ble_eq_true rfl) dX1_isAtDigit_44
    · skip
      refine v_aload_n (pc := 25) rfl dX1_isAtDigit_25 ?_
      refine v_getR (pc := 26) (j := 102) fd_X1_9 (rfl) (by decide) rfl dX1_isAtDigit_26 ?_
      refine v_aload_n (pc := 29) rfl dX1_isAtDigit_29 ?_
      refine v_get (pc := 30) 2 fd_X1_29 (rfl) (by decide) rfl rfl dX1_isAtDigit_30 ?_
      refine v_cald (pc := 33) (N := 60) rfl rfl (by decide) (by omega) (by decide) dX1_isAtDigit_33 ?_
      have r4 := hS (G 2 2) (by omega) (by omega)
      refine v_bipush (pc := 34) (z := 57) rfl dX1_isAtDigit_34 ?_
      refine v_icmp_gt (pc := 36) (tgt := 43) (by omega) dX1_isAtDigit_36 (by decide) (fun h5 => ?_) (fun h5 => ?_)
      · skip
        refine v_iconst (pc := 43) (z := 0) dX1_isAtDigit_43 ?_
        exact v_bret (pc := 44) E (by decide) (⟨by rw [bI_f (by omega)], rfl⟩) (Nat.le_of_ble_eq_true rfl) (Nat.le_of_ble_eq_true rfl) dX1_isAtDigit_44
      · skip
        refine v_iconst (pc := 39) (z := 1) dX1_isAtDigit_39 ?_
        refine v_goto (pc := 40) (tgt := 44) dX1_isAtDigit_40 (by decide) ?_
        exact v_bret (pc := 44) E (by decide) (⟨by rw [bI_t (by omega)], rfl⟩) (Nat.le_of_ble_eq_true rfl) (Nat.le_of_ble_eq_true rfl) dX1_isAtDigit_44
theorem c_X1_isAtDigit_t {g : GT} {G : Mem} {S : Int → Int} {n p c : Int} (h : Sc G S n p c) (hc : dg S n p) : Ctr g yX1_isAtDigit cX1_isAtDigit 1 (some FieldType.boolean) (rmL 0 0 0) [vR g 2] G (RM 1 G) NoX := by
  have q := c_X1_isAtDigit (g := g) h
  rw [bI_t hc] at q
  exact q
theorem c_X1_isAtDigit_f {g : GT} {G : Mem} {S : Int → Int} {n p c : Int} (h : Sc G S n p c) (hc : ¬ (dg S n p)) : Ctr g yX1_isAtDigit cX1_isAtDigit 1 (some FieldType.boolean) (rmL 0 0 0) [vR g 2] G (RM 0 G) NoX := by
  have q := c_X1_isAtDigit (g := g) h
  rw [bI_f hc] at q
  exact q
set_option maxHeartbeats 4000000 in
set_option maxRecDepth 100000 in
theorem c_X1_takeDigit {g : GT} {G : Mem} {S : Int → Int} {n p c : Int} (h : Sc G S n p c) (hd : dg S n p) : Ctr g yX1_takeDigit cX1_takeDigit 2 (some FieldType.int) (rmL 0 0 0) [vR g 2] G (RM (S p - 48) (upd2 G 2 2 (p + 1))) NoX := by
  refine ctr_of [some (vR g 2), none] (by decide) (Nat.le_of_ble_eq_true rfl) rfl (fun γ E => ?_)
  show V γ g cX1_takeDigit 2 RX1 (rmL 0 0 0) G 0 0 0 [some (vR g 2), none] []
  have hSc := h
  obtain ⟨rfl, rfl, rfl, rfl, hb, hS⟩ := h
  refine v_aload_n (pc := 0) rfl dX1_takeDigit_0 ?_
  refine v_getR (pc := 1) (j := 102) fd_X1_9 (rfl) (by decide) rfl dX1_takeDigit_1 ?_
  refine v_aload_n (pc := 4) rfl dX1_takeDigit_4 ?_
  refine v_get (pc := 5) 2 fd_X1_29 (rfl) (by decide) rfl rfl dX1_takeDigit_5 ?_
  refine v_cald (pc := 8) (N := 60) rfl rfl (by decide) (by omega) (by decide) dX1_takeDigit_8 ?_
  have r1 := hS (G 2 2) (by omega) (by omega)
  refine v_bipush (pc := 9) (z := 48) rfl dX1_takeDigit_9 ?_
  refine v_isub (pc := 11) dX1_takeDigit_11 ?_
  refine v_istore_n (pc := 12) (by decide) rfl dX1_takeDigit_12 ?_
  refine v_aload_n (pc := 13) rfl dX1_takeDigit_13 ?_
  refine v_dup (pc := 14) rfl dX1_takeDigit_14 ?_
  refine v_get (pc := 15) 2 fd_X1_29 (rfl) (by decide) rfl rfl dX1_takeDigit_15 ?_
  refine v_iconst (pc := 18) (z := 1) dX1_takeDigit_18 ?_
  refine v_iadd (pc := 19) dX1_takeDigit_19 ?_
  refine v_put (pc := 20) 2 pd_X1_29 (rfl) (by decide) rfl rfl dX1_takeDigit_20 ?_
  refine v_iload_n (pc := 23) rfl dX1_takeDigit_23 ?_
  exact v_iret (pc := 24) E (⟨rfl, rfl⟩) (Nat.le_of_ble_eq_true rfl) (Nat.le_of_ble_eq_true rfl) dX1_takeDigit_24
set_option maxHeartbeats 4000000 in
set_option maxRecDepth 100000 in
theorem c_X1_readSign {g : GT} {G : Mem} {S : Int → Int} {n p c : Int} (h : Sc G S n p c) {x : Int} (h_x : 0 ≤ x ∧ x < 65536) : Ctr g yX1_readSign cX1_readSign 2 (some FieldType.boolean) (rmL 0 0 0) [vR g 2, vI x] G (RM (bI (sg S n p x)) (if sg S n p x then upd2 G 2 2 (p + 1) else G)) NoX := by
  refine ctr_of [some (vR g 2), some (vI x)] (by decide) (Nat.le_of_ble_eq_true rfl) rfl (fun γ E => ?_)
  show V γ g cX1_readSign 2 RX1 (rmL 0 0 0) G 0 0 0 [some (vR g 2), some (vI x)] []
  have hSc := h
  obtain ⟨rfl, rfl, rfl, rfl, hb, hS⟩ := h
  refine v_aload_n (pc := 0) rfl dX1_readSign_0 ?_
  refine v_get (pc := 1) 2 fd_X1_29 (rfl) (by decide) rfl rfl dX1_readSign_1 ?_
  refine v_aload_n (pc := 4) rfl dX1_readSign_4 ?_
  refine v_get (pc := 5) 1 fd_X1_25 (rfl) (by decide) rfl rfl dX1_readSign_5 ?_
  refine v_icmp_ge (pc := 8) (tgt := 24) (by omega) dX1_readSign_8 (by decide) (fun h1 => ?_) (fun h1 => ?_)
  · skip
    refine v_iconst (pc := 24) (z := 0) dX1_readSign_24 ?_
    exact v_bret (pc := 25) E (by decide) (⟨by rw [bI_f (by omega)], by rw [if_neg (by omega)]⟩) (Nat.le_of_ble_eq_true rfl) (Nat.le_of_ble_eq_true rfl) dX1_readSign_25
  · skip
    refine v_aload_n (pc := 11) rfl dX1_readSign_11 ?_
    refine v_getR (pc := 12) (j := 102) fd_X1_9 (rfl) (by decide) rfl dX1_readSign_12 ?_
    refine v_aload_n (pc := 15) rfl dX1_readSign_15 ?_
    refine v_get (pc := 16) 2 fd_X1_29 (rfl) (by decide) rfl rfl dX1_readSign_16 ?_
    refine v_cald (pc := 19) (N := 60) rfl rfl (by decide) (by omega) (by decide) dX1_readSign_19 ?_
    have r2 := hS (G 2 2) (by omega) (by omega)
    refine v_iload_n (pc := 20) rfl dX1_readSign_20 ?_
    refine v_icmp_eq (pc := 21) (tgt := 26) (by omega) dX1_readSign_21 (by decide) (fun h3 => ?_) (fun h3 => ?_)
    · skip
      refine v_aload_n (pc := 26) rfl dX1_readSign_26 ?_
      refine v_dup (pc := 27) rfl dX1_readSign_27 ?_
      refine v_get (pc := 28) 2 fd_X1_29 (rfl) (by decide) rfl rfl dX1_readSign_28 ?_
      refine v_iconst (pc := 31) (z := 1) dX1_readSign_31 ?_
      refine v_iadd (pc := 32) dX1_readSign_32 ?_
      refine v_put (pc := 33) 2 pd_X1_29 (rfl) (by decide) rfl rfl dX1_readSign_33 ?_
      refine v_iconst (pc := 36) (z := 1) dX1_readSign_36 ?_
      exact v_bret (pc := 37) E (by decide) (⟨by rw [bI_t (by omega)], by rw [if_pos (by omega)]⟩) (Nat.le_of_ble_eq_true rfl) (Nat.le_of_ble_eq_true rfl) dX1_readSign_37
    · skip
      refine v_iconst (pc := 24) (z := 0) dX1_readSign_24 ?_
      exact v_bret (pc := 25) E (by decide) (⟨by rw [bI_f (by omega)], by rw [if_neg (by omega)]⟩) (Nat.le_of_ble_eq_true rfl) (Nat.le_of_ble_eq_true rfl) dX1_readSign_25
theorem c_X1_readSign_t {g : GT} {G : Mem} {S : Int → Int} {n p c : Int} (h : Sc G S n p c) {x : Int} (h_x : 0 ≤ x ∧ x < 65536) (hc : sg S n p x) : Ctr g yX1_readSign cX1_readSign 2 (some FieldType.boolean) (rmL 0 0 0) [vR g 2, vI x] G  (RM 1 (upd2 G 2 2 (p + 1))) NoX := by
  have q := c_X1_readSign (g := g) h h_x
  rw [bI_t hc, if_pos hc] at q
  exact q
theorem c_X1_readSign_f {g : GT} {G : Mem} {S : Int → Int} {n p c : Int} (h : Sc G S n p c) {x : Int} (h_x : 0 ≤ x ∧ x < 65536) (hc : ¬ (sg S n p x)) : Ctr g yX1_readSign cX1_readSign 2 (some FieldType.boolean) (rmL 0 0 0) [vR g 2, vI x] G  (RM 0 G) NoX := by
  have q := c_X1_readSign (g := g) h h_x
  rw [bI_f hc, if_neg hc] at q
  exact q
set_option maxHeartbeats 4000000 in
set_option maxRecDepth 100000 in
theorem c_X1_readDigit {g : GT} {G : Mem} {S : Int → Int} {n p c : Int} (h : Sc G S n p c) : Ctr g yX1_readDigit cX1_readDigit 1 (some FieldType.boolean) (rmL 1 0 0) [vR g 2] G (RM (bI (dg S n p)) (if dg S n p then upd2 (upd2 G 2 2 (p + 1)) 104 c (S p - 48) else G)) NoX := by
  refine ctr_of [some (vR g 2)] (by decide) (Nat.le_of_ble_eq_true rfl) rfl (fun γ E => ?_)
  show V γ g cX1_readDigit 1 RX1 (rmL 1 0 0) G 0 0 0 [some (vR g 2)] []
  have hSc := h
  obtain ⟨rfl, rfl, rfl, rfl, hb, hS⟩ := h
  refine v_aload_n (pc := 0) rfl dX1_readDigit_0 ?_
  by_cases hd1 : dg (G 102) (G 2 1) (G 2 2)
  · skip
    refine v_callV (pc := 1) (rest := []) (c_X1_isAtDigit_t hSc hd1) iok_X1_isAtDigit wM_X1_95 (rfl) (by decide) (by decide) rfl (rmOk (by decide) (by decide)) ⟨Nat.le_of_ble_eq_true rfl, Nat.le_of_ble_eq_true rfl⟩ (Nat.le_of_ble_eq_true rfl) rfl dX1_readDigit_1 (fun v G' hq => ?_) (fun _ _ h => h.elim)
    obtain ⟨rfl, hG9⟩ := hq
    rw [hG9]
    refine v_stk (st' := [vI 1]) rfl ?_
    refine v_if_ne (pc := 4) (tgt := 9) (by omega) dX1_readDigit_4 (by decide) (fun _ => ?_) (fun h2 => absurd h2 (by decide))
    refine v_aload_n (pc := 9) rfl dX1_readDigit_9 ?_
    refine v_getR (pc := 10) (j := 104) fd_X1_19 (rfl) (by decide) rfl dX1_readDigit_10 ?_
    refine v_aload_n (pc := 13) rfl dX1_readDigit_13 ?_
    refine v_get (pc := 14) 3 fd_X1_32 (rfl) (by decide) rfl rfl dX1_readDigit_14 ?_
    refine v_aload_n (pc := 17) rfl dX1_readDigit_17 ?_
    refine v_callV (pc := 18) (rest := [vI (G 2 3), vR g 104]) (c_X1_takeDigit hSc (by assumption)) iok_X1_takeDigit wM_X1_98 (rfl) (by decide) (by decide) rfl (rmOk (by decide) (by decide)) ⟨Nat.le_of_ble_eq_true rfl, Nat.le_of_ble_eq_true rfl⟩ (Nat.le_of_ble_eq_true rfl) rfl dX1_readDigit_18 (fun v G' hq => ?_) (fun _ _ h => h.elim)
    obtain ⟨rfl, hG9⟩ := hq
    rw [hG9]
    refine v_stk (st' := [vI (G 102 (G 2 2) - 48), vI (G 2 3), vR g 104]) rfl ?_
    refine v_iast (pc := 21) (N := 60) rfl rfl (by decide) (by omega) (by decide) dX1_readDigit_21 ?_
    refine v_iconst (pc := 22) (z := 1) dX1_readDigit_22 ?_
    exact v_bret (pc := 23) E (by decide) (⟨by rw [bI_t (by assumption)], by rw [if_pos (by assumption)]⟩) (Nat.le_of_ble_eq_true rfl) (Nat.le_of_ble_eq_true rfl) dX1_readDigit_23
  · skip
    refine v_callV (pc := 1) (rest := []) (c_X1_isAtDigit_f hSc hd1) iok_X1_isAtDigit wM_X1_95 (rfl) (by decide) (by decide) rfl (rmOk (by decide) (by decide)) ⟨Nat.le_of_ble_eq_true rfl, Nat.le_of_ble_eq_true rfl⟩ (Nat.le_of_ble_eq_true rfl) rfl dX1_readDigit_1 (fun v G' hq => ?_) (fun _ _ h => h.elim)
    obtain ⟨rfl, hG9⟩ := hq
    rw [hG9]
    refine v_stk (st' := [vI 0]) rfl ?_
    refine v_if_ne (pc := 4) (tgt := 9) (by omega) dX1_readDigit_4 (by decide) (fun h3 => absurd h3 (by decide)) (fun _ => ?_)
    refine v_iconst (pc := 7) (z := 0) dX1_readDigit_7 ?_
    exact v_bret (pc := 8) E (by decide) (⟨by rw [bI_f (by assumption)], by rw [if_neg (by assumption)]⟩) (Nat.le_of_ble_eq_true rfl) (Nat.le_of_ble_eq_true rfl) dX1_readDigit_8
theorem c_X1_readDigit_t {g : GT} {G : Mem} {S : Int → Int} {n p c : Int} (h : Sc G S n p c) (hc : dg S n p) : Ctr g yX1_readDigit cX1_readDigit 1 (some FieldType.boolean) (rmL 1 0 0) [vR g 2] G  (RM 1 (upd2 (upd2 G 2 2 (p + 1)) 104 c (S p - 48))) NoX := by
  have q := c_X1_readDigit (g := g) h
  rw [bI_t hc, if_pos hc] at q
  exact q
theorem c_X1_readDigit_f {g : GT} {G : Mem} {S : Int → Int} {n p c : Int} (h : Sc G S n p c) (hc : ¬ (dg S n p)) : Ctr g yX1_readDigit cX1_readDigit 1 (some FieldType.boolean) (rmL 1 0 0) [vR g 2] G  (RM 0 G) NoX := by
  have q := c_X1_readDigit (g := g) h
  rw [bI_f hc, if_neg hc] at q
  exact q
set_option maxHeartbeats 4000000 in
set_option maxRecDepth 100000 in
theorem c_X1_readSecond {g : GT} {G : Mem} {S : Int → Int} {n p c : Int} (h : Sc G S n p c) : Ctr g yX1_readSecond cX1_readSecond 1 (some FieldType.boolean) (rmL 1 0 0) [vR g 2] G (RM (bI (dg S n p)) (if dg S n p then upd2 (upd2 G 2 2 (p + 1)) 105 c (S p - 48) else G)) NoX := by
  refine ctr_of [some (vR g 2)] (by decide) (Nat.le_of_ble_eq_true rfl) rfl (fun γ E => ?_)
  show V γ g cX1_readSecond 1 RX1 (rmL 1 0 0) G 0 0 0 [some (vR g 2)] []
  have hSc := h
  obtain ⟨rfl, rfl, rfl, rfl, hb, hS⟩ := h
  refine v_aload_n (pc := 0) rfl dX1_readSecond_0 ?_
  by_cases hd1 : dg (G 102) (G 2 1) (G 2 2)
  · skip
    refine v_callV (pc := 1) (rest := []) (c_X1_isAtDigit_t hSc hd1) iok_X1_isAtDigit wM_X1_95 (rfl) (by decide) (by decide) rfl (rmOk (by decide) (by decide)) ⟨Nat.le_of_ble_eq_true rfl, Nat.le_of_ble_eq_true rfl⟩ (Nat.le_of_ble_eq_true rfl) rfl dX1_readSecond_1 (fun v G' hq => ?_) (fun _ _ h => h.elim)
    obtain ⟨rfl, hG9⟩ := hq
    rw [hG9]
    refine v_stk (st' := [vI 1]) rfl ?_
    refine v_if_ne (pc := 4) (tgt := 9) (by omega) dX1_readSecond_4 (by decide) (fun _ => ?_) (fun h2 => absurd h2 (by decide))
    refine v_aload_n (pc := 9) rfl dX1_readSecond_9 ?_
    refine v_getR (pc := 10) (j := 105) fd_X1_22 (rfl) (by decide) rfl dX1_readSecond_10 ?_
    refine v_aload_n (pc := 13) rfl dX1_readSecond_13 ?_
    refine v_get (pc := 14) 3 fd_X1_32 (rfl) (by decide) rfl rfl dX1_readSecond_14 ?_
    refine v_aload_n (pc := 17) rfl dX1_readSecond_17 ?_
    refine v_callV (pc := 18) (rest := [vI (G 2 3), vR g 105]) (c_X1_takeDigit hSc (by assumption)) iok_X1_takeDigit wM_X1_98 (rfl) (by decide) (by decide) rfl (rmOk (by decide) (by decide)) ⟨Nat.le_of_ble_eq_true rfl, Nat.le_of_ble_eq_true rfl⟩ (Nat.le_of_ble_eq_true rfl) rfl dX1_readSecond_18 (fun v G' hq => ?_) (fun _ _ h => h.elim)
    obtain ⟨rfl, hG9⟩ := hq
    rw [hG9]
    refine v_stk (st' := [vI (G 102 (G 2 2) - 48), vI (G 2 3), vR g 105]) rfl ?_
    refine v_iast (pc := 21) (N := 60) rfl rfl (by decide) (by omega) (by decide) dX1_readSecond_21 ?_
    refine v_iconst (pc := 22) (z := 1) dX1_readSecond_22 ?_
    exact v_bret (pc := 23) E (by decide) (⟨by rw [bI_t (by assumption)], by rw [if_pos (by assumption)]⟩) (Nat.le_of_ble_eq_true rfl) (Nat.le_of_ble_eq_true rfl) dX1_readSecond_23
  · skip
    refine v_callV (pc := 1) (rest := []) (c_X1_isAtDigit_f hSc hd1) iok_X1_isAtDigit wM_X1_95 (rfl) (by decide) (by decide) rfl (rmOk (by decide) (by decide)) ⟨Nat.le_of_ble_eq_true rfl, Nat.le_of_ble_eq_true rfl⟩ (Nat.le_of_ble_eq_true rfl) rfl dX1_readSecond_1 (fun v G' hq => ?_) (fun _ _ h => h.elim)
    obtain ⟨rfl, hG9⟩ := hq
    rw [hG9]
    refine v_stk (st' := [vI 0]) rfl ?_
    refine v_if_ne (pc := 4) (tgt := 9) (by omega) dX1_readSecond_4 (by decide) (fun h3 => absurd h3 (by decide)) (fun _ => ?_)
    refine v_iconst (pc := 7) (z := 0) dX1_readSecond_7 ?_
    exact v_bret (pc := 8) E (by decide) (⟨by rw [bI_f (by assumption)], by rw [if_neg (by assumption)]⟩) (Nat.le_of_ble_eq_true rfl) (Nat.le_of_ble_eq_true rfl) dX1_readSecond_8
theorem c_X1_readSecond_t {g : GT} {G : Mem} {S : Int → Int} {n p c : Int} (h : Sc G S n p c) (hc : dg S n p) : Ctr g yX1_readSecond cX1_readSecond 1 (some FieldType.boolean) (rmL 1 0 0) [vR g 2] G  (RM 1 (upd2 (upd2 G 2 2 (p + 1)) 105 c (S p - 48))) NoX := by
  have q := c_X1_readSecond (g := g) h
  rw [bI_t hc, if_pos hc] at q
  exact q
theorem c_X1_readSecond_f {g : GT} {G : Mem} {S : Int → Int} {n p c : Int} (h : Sc G S n p c) (hc : ¬ (dg S n p)) : Ctr g yX1_readSecond cX1_readSecond 1 (some FieldType.boolean) (rmL 1 0 0) [vR g 2] G  (RM 0 G) NoX := by
  have q := c_X1_readSecond (g := g) h
  rw [bI_f hc, if_neg hc] at q
  exact q
