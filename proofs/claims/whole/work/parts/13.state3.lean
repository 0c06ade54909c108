/-- the grade of a coin by its die's wear -/
def gow (w : Int) : Int := if w < 10 then 0 else if w < 20 then 1 else 2
theorem gow_r (w : Int) : 0 ≤ gow w ∧ gow w ≤ 2 := by
  unfold gow
  split
  · omega
  · split <;> omega
def FltDie (n : Int) (dv : Int → Int) (v w r : Int) : Prop := (¬ (1 ≤ v ∧ v ≤ 50 ∧ 1 ≤ w ∧ w ≤ 9) ∧ r = 2) ∨ ((1 ≤ v ∧ v ≤ 50 ∧ 1 ≤ w ∧ w ≤ 9) ∧ ((5 ≤ n ∧ r = 3) ∨ (n < 5 ∧ (((∃ i, 0 ≤ i ∧ i < n ∧ dv i = v) ∧ r = 4) ∨ ((∀ i, 0 ≤ i → i < n → dv i ≠ v) ∧ r = 0)))))
def FltSh (n : Int) (we : Int → Int) (d r : Int) : Prop := (¬ (0 ≤ d ∧ d < n) ∧ r = 1) ∨ ((0 ≤ d ∧ d < n) ∧ ((we d = 0 ∧ r = 3) ∨ (we d ≠ 0 ∧ r = 0)))
def FltLf (lv z r : Int) : Prop := (¬ (1 ≤ z ∧ z ≤ 99) ∧ r = 2) ∨ ((1 ≤ z ∧ z ≤ 99) ∧ ((999 < lv + z ∧ r = 3) ∨ (lv + z ≤ 999 ∧ r = 0)))
def FltSt (n c lv : Int) (wt we : Int → Int) (d z r : Int) : Prop := (¬ (0 ≤ d ∧ d < n) ∧ r = 1) ∨ ((0 ≤ d ∧ d < n) ∧ ((¬ (1 ≤ z ∧ z ≤ 9) ∧ r = 2) ∨ ((1 ≤ z ∧ z ≤ 9) ∧ (((lv < z * wt d ∨ 40 < c + z) ∧ r = 3) ∨ ((z * wt d ≤ lv ∧ c + z ≤ 40) ∧ ((30 < we d + z ∧ r = 4) ∨ (we d + z ≤ 30 ∧ r = 0)))))))
def FltMl (y n : Int) (cy : Int → Int) (z r : Int) : Prop := (¬ (0 ≤ z ∧ z ≤ y) ∧ r = 2) ∨ ((0 ≤ z ∧ z ≤ y) ∧ ((cntE n cy z = 0 ∧ r = 5) ∨ (cntE n cy z ≠ 0 ∧ r = 0)))
theorem agd_s {i y cy cg : Int} (h : 0 ≤ i) : agd (i + 1).toNat y cy cg = agd i.toNat y cy cg + lwr1 (y + i + 1) cy (agd i.toNat y cy cg) := by
  have e : (i + 1).toNat = i.toNat + 1 := by omega
  rw [e]
  show _ + lwr1 (y + ((i.toNat : Nat) : Int) + 1) cy _ = _
  rw [show ((i.toNat : Nat) : Int) = i by omega]
theorem StI_age {G G1 : Mem} {b : Nat} (hI : StI G b) (hy : G b 10 ≤ G1 b 10 ∧ G1 b 10 ≤ 1000000) (hgr : ∀ k, 0 ≤ k → k < G b 5 → 0 ≤ G1 (b + 7) k ∧ G1 (b + 7) k ≤ 2) (hG : ∀ i z, i ≠ b + 7 → ¬ (i = b ∧ z = 10) → G1 i z = G i z) : StI G1 b := by
  have e5 := hG b 5 (by omega) (by omega)
  have e0 := hG b 0 (by omega) (by omega)
  have hY := StI_y hI
  refine StI_coins hI ⟨by rw [e5]; exact StI_c hI, fun k k0 k1 => ?_⟩ e0 (by omega) (fun z z0 z1 => ?_)
  · rw [e5] at k1
    have q := StI_k hI k0 k1
    have q2 := hgr k k0 k1
    rw [hG (b + 5) k (by omega) (by omega), hG (b + 6) k (by omega) (by omega), e0]
    exact ⟨q.1, by omega, q2⟩
  · rw [hG (b + 1) z (by omega) (by omega), hG (b + 2) z (by omega) (by omega), hG (b + 3) z (by omega) (by omega), hG (b + 4) z (by omega) (by omega)]
    exact ⟨rfl, rfl, (StI_d hI z0 z1).2.2, rfl⟩

set_option maxHeartbeats 4000000 in
set_option maxRecDepth 100000 in
theorem c_X3_gradeOfWear {g : GT} {G : Mem} {w : Int} (hw : -2147483648 ≤ w ∧ w < 2147483648) : Ctr g yX3_gradeOfWear cX3_gradeOfWear 1 (some FieldType.int) (rmL 0 0 0) [vI w] G (RM (gow w) G) NoX := by
  refine ctr_of [some (vI w)] (by decide) (Nat.le_of_ble_eq_true rfl) rfl (fun γ E => ?_)
  show V γ g cX3_gradeOfWear 1 RX3 (rmL 0 0 0) G 0 0 0 [some (vI w)] []
  refine v_iload_n (pc := 0) rfl dX3_gradeOfWear_0 ?_
  refine v_bipush (pc := 1) (z := 10) rfl dX3_gradeOfWear_1 ?_
  refine v_icmp_ge (pc := 3) (tgt := 8) (by omega) dX3_gradeOfWear_3 (by decide) (fun h1 => ?_) (fun h1 => ?_)
  · skip
    refine v_iload_n (pc := 8) rfl dX3_gradeOfWear_8 ?_
    refine v_bipush (pc := 9) (z := 20) rfl dX3_gradeOfWear_9 ?_
    refine v_icmp_ge (pc := 11) (tgt := 18) (by omega) dX3_gradeOfWear_11 (by decide) (fun h2 => ?_) (fun h2 => ?_)
    · skip
      refine v_iconst (pc := 18) (z := 2) dX3_gradeOfWear_18 ?_
      exact v_iret (pc := 19) E (⟨by unfold gow; first | rw [if_pos (by omega)] | rw [if_neg (by omega), if_pos (by omega)] | rw [if_neg (by omega), if_neg (by omega)], rfl⟩) (Nat.le_of_ble_eq_true rfl) (Nat.le_of_ble_eq_true rfl) dX3_gradeOfWear_19
    · skip
      refine v_iconst (pc := 14) (z := 1) dX3_gradeOfWear_14 ?_
      refine v_goto (pc := 15) (tgt := 19) dX3_gradeOfWear_15 (by decide) ?_
      exact v_iret (pc := 19) E (⟨by unfold gow; first | rw [if_pos (by omega)] | rw [if_neg (by omega), if_pos (by omega)] | rw [if_neg (by omega), if_neg (by omega)], rfl⟩) (Nat.le_of_ble_eq_true rfl) (Nat.le_of_ble_eq_true rfl) dX3_gradeOfWear_19
  · skip
    refine v_iconst (pc := 6) (z := 0) dX3_gradeOfWear_6 ?_
    exact v_iret (pc := 7) E (⟨by unfold gow; first | rw [if_pos (by omega)] | rw [if_neg (by omega), if_pos (by omega)] | rw [if_neg (by omega), if_neg (by omega)], rfl⟩) (Nat.le_of_ble_eq_true rfl) (Nat.le_of_ble_eq_true rfl) dX3_gradeOfWear_7
set_option maxHeartbeats 4000000 in
set_option maxRecDepth 100000 in
theorem c_X2_faultOfNewDie {g : GT} {b : Nat} {G : Mem} (hb : isS b) (hI : StI G b) {v : Int} (h_v : -2147483648 ≤ v ∧ v < 2147483648) {w : Int} (h_w : -2147483648 ≤ w ∧ w < 2147483648) : Ctr g yX2_faultOfNewDie cX2_faultOfNewDie 3 (some FieldType.int) (rmL 1 0 0) [vR g b, vI v, vI w] G (RP (fun r G' => G' = G ∧ FltDie (G b 0) (G (b + 1)) v w r)) NoX := by
  refine ctr_of [some (vR g b), some (vI v), some (vI w)] (by decide) (Nat.le_of_ble_eq_true rfl) rfl (fun γ E => ?_)
  show V γ g cX2_faultOfNewDie 3 RX2 (rmL 1 0 0) G 0 0 0 [some (vR g b), some (vI v), some (vI w)] []
  have hn := StI_n hI
  have hc := StI_c hI
  have hy := StI_y hI
  refine v_iload_n (pc := 0) rfl dX2_faultOfNewDie_0 ?_
  refine v_iconst (pc := 1) (z := 1) dX2_faultOfNewDie_1 ?_
  refine v_icmp_lt (pc := 2) (tgt := 22) (by omega) dX2_faultOfNewDie_2 (by decide) (fun h1 => ?_) (fun h1 => ?_)
  · skip
    refine v_iconst (pc := 22) (z := 2) dX2_faultOfNewDie_22 ?_
    exact v_iret (pc := 23) E (⟨_, rfl, rfl, Or.inl ⟨by omega, rfl⟩⟩) (Nat.le_of_ble_eq_true rfl) (Nat.le_of_ble_eq_true rfl) dX2_faultOfNewDie_23
  · skip
    refine v_iload_n (pc := 5) rfl dX2_faultOfNewDie_5 ?_
    refine v_bipush (pc := 6) (z := 50) rfl dX2_faultOfNewDie_6 ?_
    refine v_icmp_gt (pc := 8) (tgt := 22) (by omega) dX2_faultOfNewDie_8 (by decide) (fun h2 => ?_) (fun h2 => ?_)
    · skip
      refine v_iconst (pc := 22) (z := 2) dX2_faultOfNewDie_22 ?_
      exact v_iret (pc := 23) E (⟨_, rfl, rfl, Or.inl ⟨by omega, rfl⟩⟩) (Nat.le_of_ble_eq_true rfl) (Nat.le_of_ble_eq_true rfl) dX2_faultOfNewDie_23
    · skip
      refine v_iload_n (pc := 11) rfl dX2_faultOfNewDie_11 ?_
      refine v_iconst (pc := 12) (z := 1) dX2_faultOfNewDie_12 ?_
      refine v_icmp_lt (pc := 13) (tgt := 22) (by omega) dX2_faultOfNewDie_13 (by decide) (fun h3 => ?_) (fun h3 => ?_)
      · skip
        refine v_iconst (pc := 22) (z := 2) dX2_faultOfNewDie_22 ?_
        exact v_iret (pc := 23) E (⟨_, rfl, rfl, Or.inl ⟨by omega, rfl⟩⟩) (Nat.le_of_ble_eq_true rfl) (Nat.le_of_ble_eq_true rfl) dX2_faultOfNewDie_23
      · skip
        refine v_iload_n (pc := 16) rfl dX2_faultOfNewDie_16 ?_
        refine v_bipush (pc := 17) (z := 9) rfl dX2_faultOfNewDie_17 ?_
        refine v_icmp_le (pc := 19) (tgt := 24) (by omega) dX2_faultOfNewDie_19 (by decide) (fun h4 => ?_) (fun h4 => ?_)
        · skip
          refine v_aload_n (pc := 24) rfl dX2_faultOfNewDie_24 ?_
          refine v_get (pc := 25) 0 fd_X2_33 (kdS hb) (ltS hb 0 (by decide)) (tgS hb 0 none rfl) rfl dX2_faultOfNewDie_25 ?_
          refine v_iconst (pc := 28) (z := 5) dX2_faultOfNewDie_28 ?_
          refine v_icmp_lt (pc := 29) (tgt := 34) (by omega) dX2_faultOfNewDie_29 (by decide) (fun h5 => ?_) (fun h5 => ?_)
          · skip
            refine v_aload_n (pc := 34) rfl dX2_faultOfNewDie_34 ?_
            refine v_iload_n (pc := 35) rfl dX2_faultOfNewDie_35 ?_
            refine v_callV (pc := 36) (rest := []) (c_X2_dieWithValue hb hI h_v) iok_X2_dieWithValue wM_X2_73 (kdS hb) (by decide) (ltS hb 0 (by decide)) rfl (rmOk (by decide) (by decide)) ⟨Nat.le_of_ble_eq_true rfl, Nat.le_of_ble_eq_true rfl⟩ (Nat.le_of_ble_eq_true rfl) rfl dX2_faultOfNewDie_36 (fun v G' hq => ?_) (fun _ _ h => h.elim)
            obtain ⟨r1, rfl, hq⟩ := hq
            refine v_stk (st' := [vI r1]) rfl ?_
            obtain ⟨hG9, hf⟩ := hq
            rw [hG9]
            have hr1 : -1 ≤ r1 ∧ r1 < 5 := by rcases hf with q | q <;> omega
            refine v_iconst (pc := 39) (z := (-1)) dX2_faultOfNewDie_39 ?_
            refine v_icmp_ne (pc := 40) (tgt := 47) (by omega) dX2_faultOfNewDie_40 (by decide) (fun h6 => ?_) (fun h6 => ?_)
            · skip
              refine v_iconst (pc := 47) (z := 4) dX2_faultOfNewDie_47 ?_
              exact v_iret (pc := 48) E (⟨_, rfl, rfl, Or.inr ⟨by omega, Or.inr ⟨by omega, Or.inl ⟨(hf.resolve_left (fun q => by omega)).elim (fun q0 q => ⟨_, q0, q.1, q.2.1⟩), rfl⟩⟩⟩⟩) (Nat.le_of_ble_eq_true rfl) (Nat.le_of_ble_eq_true rfl) dX2_faultOfNewDie_48
            · skip
              refine v_iconst (pc := 43) (z := 0) dX2_faultOfNewDie_43 ?_
              refine v_goto (pc := 44) (tgt := 48) dX2_faultOfNewDie_44 (by decide) ?_
              exact v_iret (pc := 48) E (⟨_, rfl, rfl, Or.inr ⟨by omega, Or.inr ⟨by omega, Or.inr ⟨(hf.resolve_right (fun q => by omega)).2, rfl⟩⟩⟩⟩) (Nat.le_of_ble_eq_true rfl) (Nat.le_of_ble_eq_true rfl) dX2_faultOfNewDie_48
          · skip
            refine v_iconst (pc := 32) (z := 3) dX2_faultOfNewDie_32 ?_
            exact v_iret (pc := 33) E (⟨_, rfl, rfl, Or.inr ⟨by omega, Or.inl ⟨by omega, rfl⟩⟩⟩) (Nat.le_of_ble_eq_true rfl) (Nat.le_of_ble_eq_true rfl) dX2_faultOfNewDie_33
        · skip
          refine v_iconst (pc := 22) (z := 2) dX2_faultOfNewDie_22 ?_
          exact v_iret (pc := 23) E (⟨_, rfl, rfl, Or.inl ⟨by omega, rfl⟩⟩) (Nat.le_of_ble_eq_true rfl) (Nat.le_of_ble_eq_true rfl) dX2_faultOfNewDie_23
set_option maxHeartbeats 4000000 in
set_option maxRecDepth 100000 in
theorem c_X2_faultOfSharpening {g : GT} {b : Nat} {G : Mem} (hb : isS b) (hI : StI G b) {d : Int} (h_d : -2147483648 ≤ d ∧ d < 2147483648) : Ctr g yX2_faultOfSharpening cX2_faultOfSharpening 2 (some FieldType.int) (rmL 1 0 0) [vR g b, vI d] G (RP (fun r G' => G' = G ∧ FltSh (G b 0) (G (b + 3)) d r)) NoX := by
  refine ctr_of [some (vR g b), some (vI d)] (by decide) (Nat.le_of_ble_eq_true rfl) rfl (fun γ E => ?_)
  show V γ g cX2_faultOfSharpening 2 RX2 (rmL 1 0 0) G 0 0 0 [some (vR g b), some (vI d)] []
  have hn := StI_n hI
  have hc := StI_c hI
  have hy := StI_y hI
  refine v_aload_n (pc := 0) rfl dX2_faultOfSharpening_0 ?_
  refine v_iload_n (pc := 1) rfl dX2_faultOfSharpening_1 ?_
  refine v_callV (pc := 2) (rest := []) (c_X2_hasDie hb hI h_d) iok_X2_hasDie wM_X2_77 (kdS hb) (by decide) (ltS hb 0 (by decide)) rfl (rmOk (by decide) (by decide)) ⟨Nat.le_of_ble_eq_true rfl, Nat.le_of_ble_eq_true rfl⟩ (Nat.le_of_ble_eq_true rfl) rfl dX2_faultOfSharpening_2 (fun v G' hq => ?_) (fun _ _ h => h.elim)
  obtain ⟨rfl, hG9⟩ := hq
  rw [hG9]
  refine v_stk (st' := [vI (bI (0 ≤ d ∧ d < G b 0))]) rfl ?_
  refine v_if_ne (pc := 5) (tgt := 10) (bI_r _) dX2_faultOfSharpening_5 (by decide) (fun h1 => ?_) (fun h1 => ?_)
  · skip
    have h1 := bI_n0 h1
    refine v_aload_n (pc := 10) rfl dX2_faultOfSharpening_10 ?_
    refine v_getR (pc := 11) (j := b + 3) fd_X2_18 (kdS hb) (ltS hb 0 (by decide)) (tgS hb 3 _ rfl) dX2_faultOfSharpening_11 ?_
    refine v_iload_n (pc := 14) rfl dX2_faultOfSharpening_14 ?_
    refine v_iald (pc := 15) (N := 5) (kdS_i hb 3 (by decide)) (lnS_5 hb 3 (by decide)) (ltS hb 3 (by decide)) (by omega) (by decide) dX2_faultOfSharpening_15 ?_
    have r2 := StI_d hI (i := d) (by omega) (by omega)
    refine v_if_ne (pc := 16) (tgt := 23) (by omega) dX2_faultOfSharpening_16 (by decide) (fun h3 => ?_) (fun h3 => ?_)
    · skip
      refine v_iconst (pc := 23) (z := 0) dX2_faultOfSharpening_23 ?_
      exact v_iret (pc := 24) E (⟨_, rfl, rfl, by unfold FltSh; omega⟩) (Nat.le_of_ble_eq_true rfl) (Nat.le_of_ble_eq_true rfl) dX2_faultOfSharpening_24
    · skip
      refine v_iconst (pc := 19) (z := 3) dX2_faultOfSharpening_19 ?_
      refine v_goto (pc := 20) (tgt := 24) dX2_faultOfSharpening_20 (by decide) ?_
      exact v_iret (pc := 24) E (⟨_, rfl, rfl, by unfold FltSh; omega⟩) (Nat.le_of_ble_eq_true rfl) (Nat.le_of_ble_eq_true rfl) dX2_faultOfSharpening_24
  · skip
    have h1 := bI_eq0.mp h1
    refine v_iconst (pc := 8) (z := 1) dX2_faultOfSharpening_8 ?_
    exact v_iret (pc := 9) E (⟨_, rfl, rfl, by unfold FltSh; omega⟩) (Nat.le_of_ble_eq_true rfl) (Nat.le_of_ble_eq_true rfl) dX2_faultOfSharpening_9
set_option maxHeartbeats 4000000 in
set_option maxRecDepth 100000 in
theorem c_X2_faultOfLeaves {g : GT} {b : Nat} {G : Mem} (hb : isS b) (hI : StI G b) {z : Int} (h_z : -2147483648 ≤ z ∧ z < 2147483648) (hlv : 0 ≤ G b 9 ∧ G b 9 ≤ 100000) : Ctr g yX2_faultOfLeaves cX2_faultOfLeaves 2 (some FieldType.int) (rmL 0 0 0) [vR g b, vI z] G (RP (fun r G' => G' = G ∧ FltLf (G b 9) z r)) NoX := by
  refine ctr_of [some (vR g b), some (vI z)] (by decide) (Nat.le_of_ble_eq_true rfl) rfl (fun γ E => ?_)
  show V γ g cX2_faultOfLeaves 2 RX2 (rmL 0 0 0) G 0 0 0 [some (vR g b), some (vI z)] []
  have hn := StI_n hI
  have hc := StI_c hI
  have hy := StI_y hI
  refine v_iload_n (pc := 0) rfl dX2_faultOfLeaves_0 ?_
  refine v_iconst (pc := 1) (z := 1) dX2_faultOfLeaves_1 ?_
  refine v_icmp_lt (pc := 2) (tgt := 11) (by omega) dX2_faultOfLeaves_2 (by decide) (fun h1 => ?_) (fun h1 => ?_)
  · skip
    refine v_iconst (pc := 11) (z := 2) dX2_faultOfLeaves_11 ?_
    exact v_iret (pc := 12) E (⟨_, rfl, rfl, by unfold FltLf; omega⟩) (Nat.le_of_ble_eq_true rfl) (Nat.le_of_ble_eq_true rfl) dX2_faultOfLeaves_12
  · skip
    refine v_iload_n (pc := 5) rfl dX2_faultOfLeaves_5 ?_
    refine v_bipush (pc := 6) (z := 99) rfl dX2_faultOfLeaves_6 ?_
    refine v_icmp_le (pc := 8) (tgt := 13) (by omega) dX2_faultOfLeaves_8 (by decide) (fun h2 => ?_) (fun h2 => ?_)
    · skip
      refine v_aload_n (pc := 13) rfl dX2_faultOfLeaves_13 ?_
      refine v_get (pc := 14) 9 fd_X2_46 (kdS hb) (ltS hb 0 (by decide)) (tgS hb 9 none rfl) rfl dX2_faultOfLeaves_14 ?_
      refine v_iload_n (pc := 17) rfl dX2_faultOfLeaves_17 ?_
      refine v_iadd (pc := 18) dX2_faultOfLeaves_18 ?_
      refine v_sipush (pc := 19) (z := 999) rfl dX2_faultOfLeaves_19 ?_
      refine v_icmp_le (pc := 22) (tgt := 29) (by omega) dX2_faultOfLeaves_22 (by decide) (fun h3 => ?_) (fun h3 => ?_)
      · skip
        refine v_iconst (pc := 29) (z := 0) dX2_faultOfLeaves_29 ?_
        exact v_iret (pc := 30) E (⟨_, rfl, rfl, by unfold FltLf; omega⟩) (Nat.le_of_ble_eq_true rfl) (Nat.le_of_ble_eq_true rfl) dX2_faultOfLeaves_30
      · skip
        refine v_iconst (pc := 25) (z := 3) dX2_faultOfLeaves_25 ?_
        refine v_goto (pc := 26) (tgt := 30) dX2_faultOfLeaves_26 (by decide) ?_
        exact v_iret (pc := 30) E (⟨_, rfl, rfl, by unfold FltLf; omega⟩) (Nat.le_of_ble_eq_true rfl) (Nat.le_of_ble_eq_true rfl) dX2_faultOfLeaves_30
    · skip
      refine v_iconst (pc := 11) (z := 2) dX2_faultOfLeaves_11 ?_
      exact v_iret (pc := 12) E (⟨_, rfl, rfl, by unfold FltLf; omega⟩) (Nat.le_of_ble_eq_true rfl) (Nat.le_of_ble_eq_true rfl) dX2_faultOfLeaves_12
set_option maxHeartbeats 4000000 in
set_option maxRecDepth 100000 in
theorem c_X2_faultOfStriking {g : GT} {b : Nat} {G : Mem} (hb : isS b) (hI : StI G b) {d : Int} (h_d : -2147483648 ≤ d ∧ d < 2147483648) {z : Int} (h_z : -2147483648 ≤ z ∧ z < 2147483648) (hlv : 0 ≤ G b 9 ∧ G b 9 ≤ 100000) : Ctr g yX2_faultOfStriking cX2_faultOfStriking 3 (some FieldType.int) (rmL 1 0 0) [vR g b, vI d, vI z] G (RP (fun r G' => G' = G ∧ FltSt (G b 0) (G b 5) (G b 9) (G (b + 2)) (G (b + 3)) d z r)) NoX := by
  refine ctr_of [some (vR g b), some (vI d), some (vI z)] (by decide) (Nat.le_of_ble_eq_true rfl) rfl (fun γ E => ?_)
  show V γ g cX2_faultOfStriking 3 RX2 (rmL 1 0 0) G 0 0 0 [some (vR g b), some (vI d), some (vI z)] []
  have hn := StI_n hI
  have hc := StI_c hI
  have hy := StI_y hI
  refine v_aload_n (pc := 0) rfl dX2_faultOfStriking_0 ?_
  refine v_iload_n (pc := 1) rfl dX2_faultOfStriking_1 ?_
  refine v_callV (pc := 2) (rest := []) (c_X2_hasDie hb hI h_d) iok_X2_hasDie wM_X2_77 (kdS hb) (by decide) (ltS hb 0 (by decide)) rfl (rmOk (by decide) (by decide)) ⟨Nat.le_of_ble_eq_true rfl, Nat.le_of_ble_eq_true rfl⟩ (Nat.le_of_ble_eq_true rfl) rfl dX2_faultOfStriking_2 (fun v G' hq => ?_) (fun _ _ h => h.elim)
  obtain ⟨rfl, hG9⟩ := hq
  rw [hG9]
  refine v_stk (st' := [vI (bI (0 ≤ d ∧ d < G b 0))]) rfl ?_
  refine v_if_ne (pc := 5) (tgt := 10) (bI_r _) dX2_faultOfStriking_5 (by decide) (fun h1 => ?_) (fun h1 => ?_)
  · skip
    have h1 := bI_n0 h1
    refine v_iload_n (pc := 10) rfl dX2_faultOfStriking_10 ?_
    refine v_iconst (pc := 11) (z := 1) dX2_faultOfStriking_11 ?_
    refine v_icmp_lt (pc := 12) (tgt := 21) (by omega) dX2_faultOfStriking_12 (by decide) (fun h2 => ?_) (fun h2 => ?_)
    · skip
      refine v_iconst (pc := 21) (z := 2) dX2_faultOfStriking_21 ?_
      exact v_iret (pc := 22) E (⟨_, rfl, rfl, by unfold FltSt; omega⟩) (Nat.le_of_ble_eq_true rfl) (Nat.le_of_ble_eq_true rfl) dX2_faultOfStriking_22
    · skip
      refine v_iload_n (pc := 15) rfl dX2_faultOfStriking_15 ?_
      refine v_bipush (pc := 16) (z := 9) rfl dX2_faultOfStriking_16 ?_
      refine v_icmp_le (pc := 18) (tgt := 23) (by omega) dX2_faultOfStriking_18 (by decide) (fun h3 => ?_) (fun h3 => ?_)
      · skip
        refine v_iload_n (pc := 23) rfl dX2_faultOfStriking_23 ?_
        refine v_aload_n (pc := 24) rfl dX2_faultOfStriking_24 ?_
        refine v_getR (pc := 25) (j := b + 2) fd_X2_15 (kdS hb) (ltS hb 0 (by decide)) (tgS hb 2 _ rfl) dX2_faultOfStriking_25 ?_
        refine v_iload_n (pc := 28) rfl dX2_faultOfStriking_28 ?_
        refine v_iald (pc := 29) (N := 5) (kdS_i hb 2 (by decide)) (lnS_5 hb 2 (by decide)) (ltS hb 2 (by decide)) (by omega) (by decide) dX2_faultOfStriking_29 ?_
        have r4 := StI_d hI (i := d) (by omega) (by omega)
        have hmu := mul_rng (a := z) (b := G (b + 2) d) (A := 9) (B := 9) (by omega) (by omega)
        refine v_imul (pc := 30) dX2_faultOfStriking_30 ?_
        refine v_aload_n (pc := 31) rfl dX2_faultOfStriking_31 ?_
        refine v_get (pc := 32) 9 fd_X2_46 (kdS hb) (ltS hb 0 (by decide)) (tgS hb 9 none rfl) rfl dX2_faultOfStriking_32 ?_
        refine v_icmp_gt (pc := 35) (tgt := 49) (by omega) dX2_faultOfStriking_35 (by decide) (fun h5 => ?_) (fun h5 => ?_)
        · skip
          refine v_iconst (pc := 49) (z := 3) dX2_faultOfStriking_49 ?_
          exact v_iret (pc := 50) E (⟨_, rfl, rfl, by unfold FltSt; omega⟩) (Nat.le_of_ble_eq_true rfl) (Nat.le_of_ble_eq_true rfl) dX2_faultOfStriking_50
        · skip
          refine v_aload_n (pc := 38) rfl dX2_faultOfStriking_38 ?_
          refine v_get (pc := 39) 5 fd_X2_43 (kdS hb) (ltS hb 0 (by decide)) (tgS hb 5 none rfl) rfl dX2_faultOfStriking_39 ?_
          refine v_iload_n (pc := 42) rfl dX2_faultOfStriking_42 ?_
          refine v_iadd (pc := 43) dX2_faultOfStriking_43 ?_
          refine v_bipush (pc := 44) (z := 40) rfl dX2_faultOfStriking_44 ?_
          refine v_icmp_le (pc := 46) (tgt := 51) (by omega) dX2_faultOfStriking_46 (by decide) (fun h6 => ?_) (fun h6 => ?_)
          · skip
            refine v_aload_n (pc := 51) rfl dX2_faultOfStriking_51 ?_
            refine v_getR (pc := 52) (j := b + 3) fd_X2_18 (kdS hb) (ltS hb 0 (by decide)) (tgS hb 3 _ rfl) dX2_faultOfStriking_52 ?_
            refine v_iload_n (pc := 55) rfl dX2_faultOfStriking_55 ?_
            refine v_iald (pc := 56) (N := 5) (kdS_i hb 3 (by decide)) (lnS_5 hb 3 (by decide)) (ltS hb 3 (by decide)) (by omega) (by decide) dX2_faultOfStriking_56 ?_
            have r7 := StI_d hI (i := d) (by omega) (by omega)
            refine v_iload_n (pc := 57) rfl dX2_faultOfStriking_57 ?_
            refine v_iadd (pc := 58) dX2_faultOfStriking_58 ?_
            refine v_bipush (pc := 59) (z := 30) rfl dX2_faultOfStriking_59 ?_
            refine v_icmp_le (pc := 61) (tgt := 68) (by omega) dX2_faultOfStriking_61 (by decide) (fun h8 => ?_) (fun h8 => ?_)
            · skip
              refine v_iconst (pc := 68) (z := 0) dX2_faultOfStriking_68 ?_
              exact v_iret (pc := 69) E (⟨_, rfl, rfl, by unfold FltSt; omega⟩) (Nat.le_of_ble_eq_true rfl) (Nat.le_of_ble_eq_true rfl) dX2_faultOfStriking_69
            · skip
              refine v_iconst (pc := 64) (z := 4) dX2_faultOfStriking_64 ?_
              refine v_goto (pc := 65) (tgt := 69) dX2_faultOfStriking_65 (by decide) ?_
              exact v_iret (pc := 69) E (⟨_, rfl, rfl, by unfold FltSt; omega⟩) (Nat.le_of_ble_eq_true rfl) (Nat.le_of_ble_eq_true rfl) dX2_faultOfStriking_69
          · skip
            refine v_iconst (pc := 49) (z := 3) dX2_faultOfStriking_49 ?_
            exact v_iret (pc := 50) E (⟨_, rfl, rfl, by unfold FltSt; omega⟩) (Nat.le_of_ble_eq_true rfl) (Nat.le_of_ble_eq_true rfl) dX2_faultOfStriking_50
      · skip
        refine v_iconst (pc := 21) (z := 2) dX2_faultOfStriking_21 ?_
        exact v_iret (pc := 22) E (⟨_, rfl, rfl, by unfold FltSt; omega⟩) (Nat.le_of_ble_eq_true rfl) (Nat.le_of_ble_eq_true rfl) dX2_faultOfStriking_22
  · skip
    have h1 := bI_eq0.mp h1
    refine v_iconst (pc := 8) (z := 1) dX2_faultOfStriking_8 ?_
    exact v_iret (pc := 9) E (⟨_, rfl, rfl, by unfold FltSt; omega⟩) (Nat.le_of_ble_eq_true rfl) (Nat.le_of_ble_eq_true rfl) dX2_faultOfStriking_9
set_option maxHeartbeats 4000000 in
set_option maxRecDepth 100000 in
theorem c_X2_faultOfMelting {g : GT} {b : Nat} {G : Mem} (hb : isS b) (hI : StI G b) {z : Int} (h_z : -2147483648 ≤ z ∧ z < 2147483648) : Ctr g yX2_faultOfMelting cX2_faultOfMelting 2 (some FieldType.int) (rmL 1 0 0) [vR g b, vI z] G (RP (fun r G' => G' = G ∧ FltMl (G b 10) (G b 5) (G (b + 6)) z r)) NoX := by
  refine ctr_of [some (vR g b), some (vI z)] (by decide) (Nat.le_of_ble_eq_true rfl) rfl (fun γ E => ?_)
  show V γ g cX2_faultOfMelting 2 RX2 (rmL 1 0 0) G 0 0 0 [some (vR g b), some (vI z)] []
  have hn := StI_n hI
  have hc := StI_c hI
  have hy := StI_y hI
  refine v_iload_n (pc := 0) rfl dX2_faultOfMelting_0 ?_
  refine v_if_lt (pc := 1) (tgt := 12) (by omega) dX2_faultOfMelting_1 (by decide) (fun h1 => ?_) (fun h1 => ?_)
  · skip
    refine v_iconst (pc := 12) (z := 2) dX2_faultOfMelting_12 ?_
    exact v_iret (pc := 13) E (⟨_, rfl, rfl, by unfold FltMl; omega⟩) (Nat.le_of_ble_eq_true rfl) (Nat.le_of_ble_eq_true rfl) dX2_faultOfMelting_13
  · skip
    refine v_iload_n (pc := 4) rfl dX2_faultOfMelting_4 ?_
    refine v_aload_n (pc := 5) rfl dX2_faultOfMelting_5 ?_
    refine v_get (pc := 6) 10 fd_X2_49 (kdS hb) (ltS hb 0 (by decide)) (tgS hb 10 none rfl) rfl dX2_faultOfMelting_6 ?_
    refine v_icmp_le (pc := 9) (tgt := 14) (by omega) dX2_faultOfMelting_9 (by decide) (fun h2 => ?_) (fun h2 => ?_)
    · skip
      refine v_aload_n (pc := 14) rfl dX2_faultOfMelting_14 ?_
      refine v_iload_n (pc := 15) rfl dX2_faultOfMelting_15 ?_
      refine v_callV (pc := 16) (rest := []) (c_X2_coinsStruckIn hb hI h_z) iok_X2_coinsStruckIn wM_X2_88 (kdS hb) (by decide) (ltS hb 0 (by decide)) rfl (rmOk (by decide) (by decide)) ⟨Nat.le_of_ble_eq_true rfl, Nat.le_of_ble_eq_true rfl⟩ (Nat.le_of_ble_eq_true rfl) rfl dX2_faultOfMelting_16 (fun v G' hq => ?_) (fun _ _ h => h.elim)
      obtain ⟨rfl, hG9⟩ := hq
      rw [hG9]
      obtain ⟨r1, h_r1⟩ : ∃ x, x = (cntE (G b 5) (G (b + 6)) z) := ⟨_, rfl⟩
      refine v_stk (st' := [vI r1]) (by rw [h_r1]; rfl) ?_
      have hr1 : 0 ≤ r1 ∧ r1 ≤ G b 5 := by rw [h_r1]; exact sz_cnt (fun k => Int.instDecidableEq _ _) hc.1
      refine v_if_ne (pc := 19) (tgt := 26) (by omega) dX2_faultOfMelting_19 (by decide) (fun h3 => ?_) (fun h3 => ?_)
      · skip
        refine v_iconst (pc := 26) (z := 0) dX2_faultOfMelting_26 ?_
        exact v_iret (pc := 27) E (⟨_, rfl, rfl, by unfold FltMl; omega⟩) (Nat.le_of_ble_eq_true rfl) (Nat.le_of_ble_eq_true rfl) dX2_faultOfMelting_27
      · skip
        refine v_iconst (pc := 22) (z := 5) dX2_faultOfMelting_22 ?_
        refine v_goto (pc := 23) (tgt := 27) dX2_faultOfMelting_23 (by decide) ?_
        exact v_iret (pc := 27) E (⟨_, rfl, rfl, by unfold FltMl; omega⟩) (Nat.le_of_ble_eq_true rfl) (Nat.le_of_ble_eq_true rfl) dX2_faultOfMelting_27
    · skip
      refine v_iconst (pc := 12) (z := 2) dX2_faultOfMelting_12 ?_
      exact v_iret (pc := 13) E (⟨_, rfl, rfl, by unfold FltMl; omega⟩) (Nat.le_of_ble_eq_true rfl) (Nat.le_of_ble_eq_true rfl) dX2_faultOfMelting_13
set_option maxHeartbeats 4000000 in
set_option maxRecDepth 100000 in
theorem c_X2_age {g : GT} {b : Nat} {G : Mem} (hb : isS b) (hI : StI G b) {Y : Int} (hY : 1 ≤ Y ∧ Y ≤ 20) (hyy : G b 10 + Y ≤ 1000000) : Ctr g yX2_age cX2_age 4 (some FieldType.int) (rmL 1 0 0) [vR g b, vI Y] G (RP (fun r G' => r = sz (G b 5) (fun k => agd Y.toNat (G b 10) (G (b + 6) k) (G (b + 7) k) - G (b + 7) k) ∧ G' b 10 = G b 10 + Y ∧ (∀ k, 0 ≤ k → k < G b 5 → G' (b + 7) k = agd Y.toNat (G b 10) (G (b + 6) k) (G (b + 7) k)) ∧ ∀ i z, i ≠ b + 7 → ¬ (i = b ∧ z = 10) → G' i z = G i z)) NoX := by
  refine ctr_of [some (vR g b), some (vI Y), none, none] (by decide) (Nat.le_of_ble_eq_true rfl) rfl (fun γ E => ?_)
  show V γ g cX2_age 4 RX2 (rmL 1 0 0) G 0 0 0 [some (vR g b), some (vI Y), none, none] []
  have hn := StI_n hI
  have hc := StI_c hI
  have hy := StI_y hI
  refine v_iconst (pc := 0) (z := 0) dX2_age_0 ?_
  refine v_istore_n (pc := 1) (by decide) rfl dX2_age_1 ?_
  refine v_iconst (pc := 2) (z := 0) dX2_age_2 ?_
  refine v_istore_n (pc := 3) (by decide) rfl dX2_age_3 ?_
  have lp4 : ∀ (m : Nat) (i : Int) (c : Int) (G1 : Mem), (0 ≤ i ∧ i ≤ Y) → (c = sz (G b 5) (fun k => agd i.toNat (G b 10) (G (b + 6) k) (G (b + 7) k) - G (b + 7) k)) → (G1 b 10 = G b 10 + i) → (∀ k, 0 ≤ k → k < G b 5 → G1 (b + 7) k = agd i.toNat (G b 10) (G (b + 6) k) (G (b + 7) k)) → (∀ j z, j ≠ b + 7 → ¬ (j = b ∧ z = 10) → G1 j z = G j z) → ((Y - i).toNat) < m → V γ g cX2_age 4 RX2 (rmL 1 0 0) G1 0 0 4 [some (vR g b), some (vI Y), some (vI c), some (vI i)] [] := by
    intro m
    induction m with
    | zero => intro i c G1; intros; omega
    | succ m ih =>
      intro i c G1 h0 hs hyr hgr hG hm
      refine v_iload_n (pc := 4) rfl dX2_age_4 ?_
      refine v_iload_n (pc := 5) rfl dX2_age_5 ?_
      refine v_icmp_ge (pc := 6) (tgt := 32) (by omega) dX2_age_6 (by decide) (fun h1 => ?_) (fun h1 => ?_)
      · skip
        refine v_iload_n (pc := 32) rfl dX2_age_32 ?_
        exact v_iret (pc := 33) E (⟨c, rfl, by rw [hs, show i = Y by omega], by rw [hyr]; omega, fun k a c => by rw [hgr k a c, show i = Y by omega], hG⟩) (Nat.le_of_ble_eq_true rfl) (Nat.le_of_ble_eq_true rfl) dX2_age_33
      · skip
        refine v_aload_n (pc := 9) rfl dX2_age_9 ?_
        refine v_dup (pc := 10) rfl dX2_age_10 ?_
        refine v_get (pc := 11) 10 fd_X2_49 (kdS hb) (ltS hb 0 (by decide)) (tgS hb 10 none rfl) rfl dX2_age_11 ?_
        refine v_iconst (pc := 14) (z := 1) dX2_age_14 ?_
        refine v_iadd (pc := 15) dX2_age_15 ?_
        refine v_put (pc := 16) 10 pd_X2_49 (kdS hb) (ltS hb 0 (by decide)) (tgS hb 10 none rfl) rfl dX2_age_16 ?_
        refine v_iload_n (pc := 19) rfl dX2_age_19 ?_
        refine v_aload_n (pc := 20) rfl dX2_age_20 ?_
        have hI2 : StI (upd2 G1 b 10 ((G1 b 10) + 1)) b := StI_age hI (by rw [upd2_s]; omega) (fun k k0 k1 => by rw [upd2_i (by omega), hgr k k0 k1]; exact agd_r (StI_k hI k0 k1).2.2 _) (fun j z a c => (if_neg c).trans (hG j z a c))
        refine v_callV (pc := 21) (rest := [vI c]) (c_X2_lowerAgedCoins hb hI2) iok_X2_lowerAgedCoins wM_X2_84 (kdS hb) (by decide) (ltS hb 0 (by decide)) rfl (rmOk (by decide) (by decide)) ⟨Nat.le_of_ble_eq_true rfl, Nat.le_of_ble_eq_true rfl⟩ (Nat.le_of_ble_eq_true rfl) rfl dX2_age_21 (fun v G2 hq => ?_) (fun _ _ h => h.elim)
        obtain ⟨r1, rfl, hq⟩ := hq
        refine v_stk (st' := [vI r1, vI c]) rfl ?_
        obtain ⟨hq1, hq2, hq3⟩ := hq
        have e5 : (upd2 G1 b 10 ((G1 b 10) + 1)) b 5 = G b 5 := (upd2_z (by omega)).trans (hG b 5 (by omega) (by omega))
        have hgr2 : ∀ k, 0 ≤ k → k < G b 5 → G2 (b + 7) k = agd (i + 1).toNat (G b 10) (G (b + 6) k) (G (b + 7) k) := fun k k0 k1 => by
          rw [hq2 k k0 (by rw [e5]; exact k1), agd_s h0.1, upd2_s, upd2_i (by omega), upd2_i (by omega), hgr k k0 k1, hG (b + 6) k (by omega) (by omega), hyr]
        have hs2 : c + r1 = sz (G b 5) (fun k => agd (i + 1).toNat (G b 10) (G (b + 6) k) (G (b + 7) k) - G (b + 7) k) := by
          rw [hs, hq1, e5, ← sz_add hc.1]
          refine sz_congr (fun k k0 k1 => ?_)
          rw [agd_s h0.1, upd2_s, upd2_i (by omega), upd2_i (by omega), hgr k k0 k1, hG (b + 6) k (by omega) (by omega), hyr]
          omega
        refine v_iadd (pc := 24) dX2_age_24 ?_
        refine v_istore_n (pc := 25) (by decide) rfl dX2_age_25 ?_
        refine v_iinc (pc := 26) (y := 1) rfl (by decide) rfl dX2_age_26 ?_
        refine v_goto (pc := 29) (tgt := 4) dX2_age_29 (by decide) ?_
        exact ih (i + 1) (c + r1) G2 (by omega) hs2 (by rw [hq3 b 10 (by omega), upd2_s]; omega) hgr2 (fun j z a c => (hq3 j z a).trans ((if_neg c).trans (hG j z a c))) (by omega)
  refine v_loc (L' := [some (vR g b), some (vI Y), some (vI 0), some (vI 0)]) (⟨rfl, rfl, rfl, rfl, trivial⟩) ?_
  exact lp4 _ 0 0 G (by omega) ((sz_zero hc.1 (fun k _ _ => by show G (b + 7) k - G (b + 7) k = 0; omega)).symm) (by omega) (fun k _ _ => rfl) (fun _ _ _ _ => rfl) (Nat.lt_succ_self _)
set_option maxHeartbeats 4000000 in
set_option maxRecDepth 100000 in
theorem c_X2_isSpentBefore {g : GT} {b : Nat} {G : Mem} (hb : isS b) (hI : StI G b) {c o : Int} (h_c : 0 ≤ c ∧ c < G b 5) (h_o : 0 ≤ o ∧ o < G b 5) : Ctr g yX2_isSpentBefore cX2_isSpentBefore 3 (some FieldType.boolean) (rmL 0 0 0) [vR g b, vI c, vI o] G (RM (bI (G (b + 7) o < G (b + 7) c ∨ (G (b + 7) c = G (b + 7) o ∧ G (b + 6) c < G (b + 6) o))) G) NoX := by
  refine ctr_of [some (vR g b), some (vI c), some (vI o)] (by decide) (Nat.le_of_ble_eq_true rfl) rfl (fun γ E => ?_)
  show V γ g cX2_isSpentBefore 3 RX2 (rmL 0 0 0) G 0 0 0 [some (vR g b), some (vI c), some (vI o)] []
  have hn := StI_n hI
  have hc := StI_c hI
  have hy := StI_y hI
  refine v_aload_n (pc := 0) rfl dX2_isSpentBefore_0 ?_
  refine v_getR (pc := 1) (j := b + 7) fd_X2_30 (kdS hb) (ltS hb 0 (by decide)) (tgS hb 8 _ rfl) dX2_isSpentBefore_1 ?_
  refine v_iload_n (pc := 4) rfl dX2_isSpentBefore_4 ?_
  refine v_iald (pc := 5) (N := 40) (kdS_i hb 7 (by decide)) (lnS_40 hb 7 (by decide)) (ltS hb 7 (by decide)) (by omega) (by decide) dX2_isSpentBefore_5 ?_
  have r1 := StI_k hI (k := c) (by omega) (by omega)
  refine v_aload_n (pc := 6) rfl dX2_isSpentBefore_6 ?_
  refine v_getR (pc := 7) (j := b + 7) fd_X2_30 (kdS hb) (ltS hb 0 (by decide)) (tgS hb 8 _ rfl) dX2_isSpentBefore_7 ?_
  refine v_iload_n (pc := 10) rfl dX2_isSpentBefore_10 ?_
  refine v_iald (pc := 11) (N := 40) (kdS_i hb 7 (by decide)) (lnS_40 hb 7 (by decide)) (ltS hb 7 (by decide)) (by omega) (by decide) dX2_isSpentBefore_11 ?_
  have r2 := StI_k hI (k := o) (by omega) (by omega)
  refine v_icmp_eq (pc := 12) (tgt := 36) (by omega) dX2_isSpentBefore_12 (by decide) (fun h3 => ?_) (fun h3 => ?_)
  · skip
    refine v_aload_n (pc := 36) rfl dX2_isSpentBefore_36 ?_
    refine v_getR (pc := 37) (j := b + 6) fd_X2_27 (kdS hb) (ltS hb 0 (by decide)) (tgS hb 7 _ rfl) dX2_isSpentBefore_37 ?_
    refine v_iload_n (pc := 40) rfl dX2_isSpentBefore_40 ?_
    refine v_iald (pc := 41) (N := 40) (kdS_i hb 6 (by decide)) (lnS_40 hb 6 (by decide)) (ltS hb 6 (by decide)) (by omega) (by decide) dX2_isSpentBefore_41 ?_
    have r4 := StI_k hI (k := c) (by omega) (by omega)
    refine v_aload_n (pc := 42) rfl dX2_isSpentBefore_42 ?_
    refine v_getR (pc := 43) (j := b + 6) fd_X2_27 (kdS hb) (ltS hb 0 (by decide)) (tgS hb 7 _ rfl) dX2_isSpentBefore_43 ?_
    refine v_iload_n (pc := 46) rfl dX2_isSpentBefore_46 ?_
    refine v_iald (pc := 47) (N := 40) (kdS_i hb 6 (by decide)) (lnS_40 hb 6 (by decide)) (ltS hb 6 (by decide)) (by omega) (by decide) dX2_isSpentBefore_47 ?_
    have r5 := StI_k hI (k := o) (by omega) (by omega)
    refine v_icmp_ge (pc := 48) (tgt := 55) (by omega) dX2_isSpentBefore_48 (by decide) (fun h6 => ?_) (fun h6 => ?_)
    · skip
      refine v_iconst (pc := 55) (z := 0) dX2_isSpentBefore_55 ?_
      exact v_bret (pc := 56) E (by decide) (⟨by rw [bI_f (by omega)], rfl⟩) (Nat.le_of_ble_eq_true rfl) (Nat.le_of_ble_eq_true rfl) dX2_isSpentBefore_56
    · skip
      refine v_iconst (pc := 51) (z := 1) dX2_isSpentBefore_51 ?_
      refine v_goto (pc := 52) (tgt := 56) dX2_isSpentBefore_52 (by decide) ?_
      exact v_bret (pc := 56) E (by decide) (⟨by rw [bI_t (by omega)], rfl⟩) (Nat.le_of_ble_eq_true rfl) (Nat.le_of_ble_eq_true rfl) dX2_isSpentBefore_56
  · skip
    refine v_aload_n (pc := 15) rfl dX2_isSpentBefore_15 ?_
    refine v_getR (pc := 16) (j := b + 7) fd_X2_30 (kdS hb) (ltS hb 0 (by decide)) (tgS hb 8 _ rfl) dX2_isSpentBefore_16 ?_
    refine v_iload_n (pc := 19) rfl dX2_isSpentBefore_19 ?_
    refine v_iald (pc := 20) (N := 40) (kdS_i hb 7 (by decide)) (lnS_40 hb 7 (by decide)) (ltS hb 7 (by decide)) (by omega) (by decide) dX2_isSpentBefore_20 ?_
    have r7 := StI_k hI (k := c) (by omega) (by omega)
    refine v_aload_n (pc := 21) rfl dX2_isSpentBefore_21 ?_
    refine v_getR (pc := 22) (j := b + 7) fd_X2_30 (kdS hb) (ltS hb 0 (by decide)) (tgS hb 8 _ rfl) dX2_isSpentBefore_22 ?_
    refine v_iload_n (pc := 25) rfl dX2_isSpentBefore_25 ?_
    refine v_iald (pc := 26) (N := 40) (kdS_i hb 7 (by decide)) (lnS_40 hb 7 (by decide)) (ltS hb 7 (by decide)) (by omega) (by decide) dX2_isSpentBefore_26 ?_
    have r8 := StI_k hI (k := o) (by omega) (by omega)
    refine v_icmp_le (pc := 27) (tgt := 34) (by omega) dX2_isSpentBefore_27 (by decide) (fun h9 => ?_) (fun h9 => ?_)
    · skip
      refine v_iconst (pc := 34) (z := 0) dX2_isSpentBefore_34 ?_
      exact v_bret (pc := 35) E (by decide) (⟨by rw [bI_f (by omega)], rfl⟩) (Nat.le_of_ble_eq_true rfl) (Nat.le_of_ble_eq_true rfl) dX2_isSpentBefore_35
    · skip
      refine v_iconst (pc := 30) (z := 1) dX2_isSpentBefore_30 ?_
      refine v_goto (pc := 31) (tgt := 35) dX2_isSpentBefore_31 (by decide) ?_
      exact v_bret (pc := 35) E (by decide) (⟨by rw [bI_t (by omega)], rfl⟩) (Nat.le_of_ble_eq_true rfl) (Nat.le_of_ble_eq_true rfl) dX2_isSpentBefore_35
