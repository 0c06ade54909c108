-- the commands: what fault they have, what they do
def FltYr (f r : Int) : Prop := (¬ (1 ≤ f ∧ f ≤ 20) ∧ r = 2) ∨ ((1 ≤ f ∧ f ≤ 20) ∧ r = 0)
def FltPay (G : Mem) (b : Nat) (a r : Int) : Prop := (¬ (1 ≤ a ∧ a ≤ 99) ∧ r = 2) ∨ ((1 ≤ a ∧ a ≤ 99) ∧ ((Tab (vsR G b) (cnR G b) (G b 0).toNat a ≠ 1000 ∧ r = 0) ∨ (Tab (vsR G b) (cnR G b) (G b 0).toNat a = 1000 ∧ r = 4)))
def FltV (G : Mem) (b : Nat) (v f s r : Int) : Prop :=
  if v = 0 then FltDie (G b 0) (G (b + 1)) f s r else if v = 1 then FltSh (G b 0) (G (b + 3)) f r else if v = 2 then FltLf (G b 9) f r
  else if v = 3 then FltSt (G b 0) (G b 5) (G b 9) (G (b + 2)) (G (b + 3)) f s r else if v = 4 then FltYr f r else if v = 5 then FltMl (G b 10) (G b 5) (G (b + 6)) f r else FltPay G b f r
/-- only the Payments' rows differ -/
def FrP (G G' : Mem) : Prop := ∀ i z, ¬ (92 ≤ i ∧ i ≤ 99 ∧ i ≠ 93) → ¬ (i = 1 ∧ z = 4) → G' i z = G i z
theorem FrP_r (G : Mem) : FrP G G := fun _ _ _ _ => rfl
def PfDie (G G' : Mem) (b : Nat) (v w r : Int) : Prop := r = G b 0 ∧ StI G' b ∧ G' b 0 = G b 0 + 1 ∧ (G' (b + 1) (G b 0) = v ∧ G' (b + 2) (G b 0) = w ∧ G' (b + 3) (G b 0) = 0) ∧ (∀ z, 0 ≤ z → z < G b 0 → G' (b + 1) z = G (b + 1) z ∧ G' (b + 2) z = G (b + 2) z ∧ G' (b + 3) z = G (b + 3) z) ∧ ∀ i z, i ≠ b + 1 ∧ i ≠ b + 2 ∧ i ≠ b + 3 ∧ i ≠ b + 4 → ¬ (i = b ∧ z = 0) → G' i z = G i z
def PfSt (G G' : Mem) (b : Nat) (d z r : Int) : Prop := r = G b 5 + z ∧ G' b 5 = G b 5 + z ∧ (∀ k, 0 ≤ k → k < G b 5 → G' (b + 5) k = G (b + 5) k ∧ G' (b + 6) k = G (b + 6) k ∧ G' (b + 7) k = G (b + 7) k) ∧ (∀ k, 0 ≤ k → k < z → G' (b + 5) (G b 5 + k) = d ∧ G' (b + 6) (G b 5 + k) = G b 10 ∧ G' (b + 7) (G b 5 + k) = gow (G (b + 3) d + k)) ∧ G' (b + 3) d = G (b + 3) d + z ∧ (∀ e, e ≠ d → G' (b + 3) e = G (b + 3) e) ∧ G' b 9 = G b 9 - z * G (b + 2) d ∧ G' b 11 = G b 11 + z ∧ ∀ i w, i ≠ b + 3 ∧ i ≠ b + 5 ∧ i ≠ b + 6 ∧ i ≠ b + 7 → ¬ (i = b ∧ (w = 5 ∨ w = 9 ∨ w = 11)) → G' i w = G i w
def PfYr (G G' : Mem) (b : Nat) (Y r : Int) : Prop := r = sz (G b 5) (fun k => agd Y.toNat (G b 10) (G (b + 6) k) (G (b + 7) k) - G (b + 7) k) ∧ G' b 10 = G b 10 + Y ∧ (∀ k, 0 ≤ k → k < G b 5 → G' (b + 7) k = agd Y.toNat (G b 10) (G (b + 6) k) (G (b + 7) k)) ∧ ∀ i z, i ≠ b + 7 → ¬ (i = b ∧ z = 10) → G' i z = G i z
def PfMl (G G' : Mem) (b : Nat) (y r : Int) : Prop := r = mlt (G b 5) (G (b + 5)) (G (b + 2)) (G (b + 6)) (G (b + 7)) y ∧ StI G' b ∧ (∀ φ, cs G' b φ = cs G b (fun dd yy gg => if yy = y then 0 else φ dd yy gg)) ∧ G' b 9 = G b 9 + r ∧ G' b 14 = G b 14 + (cs G b (fun dd _ _ => G (b + 2) dd) - cs G b (fun dd yy _ => if yy = y then 0 else G (b + 2) dd) - r) ∧ ∀ i w, i ≠ b + 5 ∧ i ≠ b + 6 ∧ i ≠ b + 7 → ¬ (i = b ∧ (w = 5 ∨ w = 9 ∨ w = 14)) → G' i w = G i w
def PfPay (G G' : Mem) (b : Nat) (a r : Int) : Prop := ∃ G1 : Mem, FrP G G1 ∧ (∀ s, 0 ≤ s → s < G b 0 → G1 92 (G (b + 4) s) = usF (vsR G b) (cnR G b) (G b 0) a s) ∧ r = sz (G b 0) (G1 92) ∧ StI G' b ∧ (∀ φ, cs G' b φ = cs G b φ - sz (G b 0) (fun e => remS (cs G b) e (G1 92 e) φ)) ∧ G' b 12 = G b 12 + a ∧ G' b 13 = G b 13 + sz (G b 0) (fun e => G1 92 e * G (b + 2) e) ∧ ∀ i w, i ≠ b + 5 ∧ i ≠ b + 6 ∧ i ≠ b + 7 → ¬ (i = b ∧ (w = 5 ∨ w = 12 ∨ w = 13)) → G' i w = G1 i w
def Pf (G G' : Mem) (b : Nat) (v f s r : Int) : Prop :=
  if v = 0 then PfDie G G' b f s r else if v = 1 then (r = G (b + 3) f ∧ G' = upd2 G (b + 3) f 0) else if v = 2 then (r = G b 9 + f ∧ G' = ptL G b f)
  else if v = 3 then PfSt G G' b f s r else if v = 4 then PfYr G G' b f r else if v = 5 then PfMl G G' b f r else PfPay G G' b f r
/-- the places of State b are among those that FrP keeps -/
theorem FrP_s {G G' : Mem} {b : Nat} (hb : isS b) (h : FrP G G') : ∀ j : Nat, j ≤ 7 → ∀ w, G' (b + j) w = G (b + j) w := fun j hj w => h (b + j) w (by have := isS_lt hb; omega) (by have := isS_lt hb; omega)

set_option maxHeartbeats 4000000 in
set_option maxRecDepth 100000 in
theorem c_X3_faultOfPayment {g : GT} {b : Nat} {G : Mem} (hb : isS b) (hI : StI G b) {a : Int} (h_a : -2147483648 ≤ a ∧ a < 2147483648) : Ctr g yX3_faultOfPayment cX3_faultOfPayment 3 (some FieldType.int) (rmL 3 0 0) [vR g 0, vR g b, vI a] G (RP (fun r G' => FltPay G b a r ∧ FrP G G')) NoX := by
  refine ctr_of [some (vR g 0), some (vR g b), some (vI a)] (by decide) (Nat.le_of_ble_eq_true rfl) rfl (fun γ E => ?_)
  show V γ g cX3_faultOfPayment 3 RX3 (rmL 3 0 0) G 0 0 0 [some (vR g 0), some (vR g b), some (vI a)] []
  have hn := StI_n hI
  have hc := StI_c hI
  have hy := StI_y hI
  refine v_iload_n (pc := 0) rfl dX3_faultOfPayment_0 ?_
  refine v_callS (pc := 1) (rest := []) (c_X3_isAmount h_a) sok_X3_isAmount wM_X3_309 (rmOk (by decide) (by decide)) ⟨Nat.le_of_ble_eq_true rfl, Nat.le_of_ble_eq_true rfl⟩ (Nat.le_of_ble_eq_true rfl) rfl dX3_faultOfPayment_1 (fun v G' hq => ?_) (fun _ _ h => h.elim)
  obtain ⟨rfl, hG9⟩ := hq
  rw [hG9]
  refine v_stk (st' := [vI (bI (1 ≤ a ∧ a ≤ 99))]) rfl ?_
  refine v_if_ne (pc := 4) (tgt := 9) (bI_r _) dX3_faultOfPayment_4 (by decide) (fun h1 => ?_) (fun h1 => ?_)
  · skip
    have h1 := bI_n0 h1
    have hin : 1 ≤ a ∧ a ≤ 99 := by assumption
    refine v_aload_n (pc := 9) rfl dX3_faultOfPayment_9 ?_
    refine v_getR (pc := 10) (j := 1) fd_X3_29 (rfl) (by decide) rfl dX3_faultOfPayment_10 ?_
    refine v_aload_n (pc := 13) rfl dX3_faultOfPayment_13 ?_
    refine v_iload_n (pc := 14) rfl dX3_faultOfPayment_14 ?_
    refine v_callVN (pc := 15) (rest := []) (c_X0_plan hb hI hin) iok_X0_plan wM_X3_153 (rfl) (by decide) (by decide) rfl (rmOk (by decide) (by decide)) ⟨Nat.le_of_ble_eq_true rfl, Nat.le_of_ble_eq_true rfl⟩ (Nat.le_of_ble_eq_true rfl) rfl dX3_faultOfPayment_15 (fun v G1 hq => ?_) (fun _ _ h => h.elim)
    obtain ⟨r, rfl, hq⟩ := hq
    refine v_stk (st' := [vI r]) rfl ?_
    obtain ⟨hr, e4, hT, hu, hF⟩ := hq
    have hrr := bI_r (Tab (vsR G b) (cnR G b) (G b 0).toNat a ≠ 1000)
    rw [← hr] at hrr
    refine v_if_eq (pc := 18) (tgt := 25) (by omega) dX3_faultOfPayment_18 (by decide) (fun h2 => ?_) (fun h2 => ?_)
    · skip
      refine v_iconst (pc := 25) (z := 4) dX3_faultOfPayment_25 ?_
      exact v_iret (pc := 26) E (⟨_, rfl, Or.inr ⟨hin, Or.inr ⟨Classical.not_not.mp (bI_eq0.mp (by rw [← hr]; assumption)), rfl⟩⟩, hF⟩) (Nat.le_of_ble_eq_true rfl) (Nat.le_of_ble_eq_true rfl) dX3_faultOfPayment_26
    · skip
      refine v_iconst (pc := 21) (z := 0) dX3_faultOfPayment_21 ?_
      refine v_goto (pc := 22) (tgt := 26) dX3_faultOfPayment_22 (by decide) ?_
      exact v_iret (pc := 26) E (⟨_, rfl, Or.inr ⟨hin, Or.inl ⟨bI_n0 (by rw [← hr]; assumption), rfl⟩⟩, hF⟩) (Nat.le_of_ble_eq_true rfl) (Nat.le_of_ble_eq_true rfl) dX3_faultOfPayment_26
  · skip
    have h1 := bI_eq0.mp h1
    refine v_iconst (pc := 7) (z := 2) dX3_faultOfPayment_7 ?_
    exact v_iret (pc := 8) E (⟨_, rfl, Or.inl ⟨by assumption, rfl⟩, FrP_r G⟩) (Nat.le_of_ble_eq_true rfl) (Nat.le_of_ble_eq_true rfl) dX3_faultOfPayment_8
set_option maxHeartbeats 4000000 in
set_option maxRecDepth 100000 in
theorem c_X3_faultOf {g : GT} {b : Nat} {G : Mem} (hb : isS b) (hI : StI G b) {v f s : Int} (h_v : 0 ≤ v ∧ v < 7) (h_f : -2147483648 ≤ f ∧ f < 2147483648) (h_s : -2147483648 ≤ s ∧ s < 2147483648) (hlv : 0 ≤ G b 9 ∧ G b 9 ≤ 100000) : Ctr g yX3_faultOf cX3_faultOf 5 (some FieldType.int) (rmL 4 0 0) [vR g 0, vR g b, vI v, vI f, vI s] G (RP (fun r G' => FltV G b v f s r ∧ FrP G G')) NoX := by
  refine ctr_of [some (vR g 0), some (vR g b), some (vI v), some (vI f), some (vI s)] (by decide) (Nat.le_of_ble_eq_true rfl) rfl (fun γ E => ?_)
  show V γ g cX3_faultOf 5 RX3 (rmL 4 0 0) G 0 0 0 [some (vR g 0), some (vR g b), some (vI v), some (vI f), some (vI s)] []
  have hn := StI_n hI
  have hc := StI_c hI
  have hy := StI_y hI
  refine v_iload_n (pc := 0) rfl dX3_faultOf_0 ?_
  by_cases hs1 : v = 0
  · skip
    refine v_table (pc := 1) (tgt := 40) (off := 39) (by omega) (by omega) (by omega) (by rw [hs1]; rfl) dX3_faultOf_1 (by decide) ?_
    refine v_aload_n (pc := 40) rfl dX3_faultOf_40 ?_
    refine v_iload_n (pc := 41) rfl dX3_faultOf_41 ?_
    refine v_iload (pc := 42) rfl dX3_faultOf_42 ?_
    refine v_callVN (pc := 44) (rest := []) (c_X2_faultOfNewDie hb hI h_f h_s) iok_X2_faultOfNewDie wM_X3_290 (kdS hb) (by decide) (ltS hb 0 (by decide)) rfl (rmOk (by decide) (by decide)) ⟨Nat.le_of_ble_eq_true rfl, Nat.le_of_ble_eq_true rfl⟩ (Nat.le_of_ble_eq_true rfl) rfl dX3_faultOf_44 (fun v G' hq => ?_) (fun _ _ h => h.elim)
    obtain ⟨r, rfl, hq⟩ := hq
    refine v_stk (st' := [vI r]) rfl ?_
    obtain ⟨hG9, hf⟩ := hq
    rw [hG9]
    exact v_iret (pc := 47) E (⟨_, rfl, by unfold FltV; (repeat (first | rw [if_pos (by omega)] | rw [if_neg (by omega)])); exact hf, FrP_r G⟩) (Nat.le_of_ble_eq_true rfl) (Nat.le_of_ble_eq_true rfl) dX3_faultOf_47
  · skip
    by_cases hs2 : v = 1
    · skip
      refine v_table (pc := 1) (tgt := 48) (off := 47) (by omega) (by omega) (by omega) (by rw [hs2]; rfl) dX3_faultOf_1 (by decide) ?_
      refine v_aload_n (pc := 48) rfl dX3_faultOf_48 ?_
      refine v_iload_n (pc := 49) rfl dX3_faultOf_49 ?_
      refine v_callVN (pc := 50) (rest := []) (c_X2_faultOfSharpening hb hI h_f) iok_X2_faultOfSharpening wM_X3_294 (kdS hb) (by decide) (ltS hb 0 (by decide)) rfl (rmOk (by decide) (by decide)) ⟨Nat.le_of_ble_eq_true rfl, Nat.le_of_ble_eq_true rfl⟩ (Nat.le_of_ble_eq_true rfl) rfl dX3_faultOf_50 (fun v G' hq => ?_) (fun _ _ h => h.elim)
      obtain ⟨r, rfl, hq⟩ := hq
      refine v_stk (st' := [vI r]) rfl ?_
      obtain ⟨hG9, hf⟩ := hq
      rw [hG9]
      exact v_iret (pc := 53) E (⟨_, rfl, by unfold FltV; (repeat (first | rw [if_pos (by omega)] | rw [if_neg (by omega)])); exact hf, FrP_r G⟩) (Nat.le_of_ble_eq_true rfl) (Nat.le_of_ble_eq_true rfl) dX3_faultOf_53
    · skip
      by_cases hs3 : v = 2
      · skip
        refine v_table (pc := 1) (tgt := 54) (off := 53) (by omega) (by omega) (by omega) (by rw [hs3]; rfl) dX3_faultOf_1 (by decide) ?_
        refine v_aload_n (pc := 54) rfl dX3_faultOf_54 ?_
        refine v_iload_n (pc := 55) rfl dX3_faultOf_55 ?_
        refine v_callVN (pc := 56) (rest := []) (c_X2_faultOfLeaves hb hI h_f hlv) iok_X2_faultOfLeaves wM_X3_297 (kdS hb) (by decide) (ltS hb 0 (by decide)) rfl (rmOk (by decide) (by decide)) ⟨Nat.le_of_ble_eq_true rfl, Nat.le_of_ble_eq_true rfl⟩ (Nat.le_of_ble_eq_true rfl) rfl dX3_faultOf_56 (fun v G' hq => ?_) (fun _ _ h => h.elim)
        obtain ⟨r, rfl, hq⟩ := hq
        refine v_stk (st' := [vI r]) rfl ?_
        obtain ⟨hG9, hf⟩ := hq
        rw [hG9]
        exact v_iret (pc := 59) E (⟨_, rfl, by unfold FltV; (repeat (first | rw [if_pos (by omega)] | rw [if_neg (by omega)])); exact hf, FrP_r G⟩) (Nat.le_of_ble_eq_true rfl) (Nat.le_of_ble_eq_true rfl) dX3_faultOf_59
      · skip
        by_cases hs4 : v = 3
        · skip
          refine v_table (pc := 1) (tgt := 60) (off := 59) (by omega) (by omega) (by omega) (by rw [hs4]; rfl) dX3_faultOf_1 (by decide) ?_
          refine v_aload_n (pc := 60) rfl dX3_faultOf_60 ?_
          refine v_iload_n (pc := 61) rfl dX3_faultOf_61 ?_
          refine v_iload (pc := 62) rfl dX3_faultOf_62 ?_
          refine v_callVN (pc := 64) (rest := []) (c_X2_faultOfStriking hb hI h_f h_s hlv) iok_X2_faultOfStriking wM_X3_300 (kdS hb) (by decide) (ltS hb 0 (by decide)) rfl (rmOk (by decide) (by decide)) ⟨Nat.le_of_ble_eq_true rfl, Nat.le_of_ble_eq_true rfl⟩ (Nat.le_of_ble_eq_true rfl) rfl dX3_faultOf_64 (fun v G' hq => ?_) (fun _ _ h => h.elim)
          obtain ⟨r, rfl, hq⟩ := hq
          refine v_stk (st' := [vI r]) rfl ?_
          obtain ⟨hG9, hf⟩ := hq
          rw [hG9]
          exact v_iret (pc := 67) E (⟨_, rfl, by unfold FltV; (repeat (first | rw [if_pos (by omega)] | rw [if_neg (by omega)])); exact hf, FrP_r G⟩) (Nat.le_of_ble_eq_true rfl) (Nat.le_of_ble_eq_true rfl) dX3_faultOf_67
        · skip
          by_cases hs5 : v = 4
          · skip
            refine v_table (pc := 1) (tgt := 68) (off := 67) (by omega) (by omega) (by omega) (by rw [hs5]; rfl) dX3_faultOf_1 (by decide) ?_
            refine v_iload_n (pc := 68) rfl dX3_faultOf_68 ?_
            refine v_iconst (pc := 69) (z := 1) dX3_faultOf_69 ?_
            refine v_icmp_lt (pc := 70) (tgt := 79) (by omega) dX3_faultOf_70 (by decide) (fun h6 => ?_) (fun h6 => ?_)
            · skip
              refine v_iconst (pc := 79) (z := 2) dX3_faultOf_79 ?_
              refine v_goto (pc := 80) (tgt := 84) dX3_faultOf_80 (by decide) ?_
              exact v_iret (pc := 84) E (⟨_, rfl, by unfold FltV; (repeat (first | rw [if_pos (by omega)] | rw [if_neg (by omega)])); unfold FltYr; omega, FrP_r G⟩) (Nat.le_of_ble_eq_true rfl) (Nat.le_of_ble_eq_true rfl) dX3_faultOf_84
            · skip
              refine v_iload_n (pc := 73) rfl dX3_faultOf_73 ?_
              refine v_bipush (pc := 74) (z := 20) rfl dX3_faultOf_74 ?_
              refine v_icmp_le (pc := 76) (tgt := 83) (by omega) dX3_faultOf_76 (by decide) (fun h7 => ?_) (fun h7 => ?_)
              · skip
                refine v_iconst (pc := 83) (z := 0) dX3_faultOf_83 ?_
                exact v_iret (pc := 84) E (⟨_, rfl, by unfold FltV; (repeat (first | rw [if_pos (by omega)] | rw [if_neg (by omega)])); unfold FltYr; omega, FrP_r G⟩) (Nat.le_of_ble_eq_true rfl) (Nat.le_of_ble_eq_true rfl) dX3_faultOf_84
              · skip
                refine v_iconst (pc := 79) (z := 2) dX3_faultOf_79 ?_
                refine v_goto (pc := 80) (tgt := 84) dX3_faultOf_80 (by decide) ?_
                exact v_iret (pc := 84) E (⟨_, rfl, by unfold FltV; (repeat (first | rw [if_pos (by omega)] | rw [if_neg (by omega)])); unfold FltYr; omega, FrP_r G⟩) (Nat.le_of_ble_eq_true rfl) (Nat.le_of_ble_eq_true rfl) dX3_faultOf_84
          · skip
            by_cases hs8 : v = 5
            · skip
              refine v_table (pc := 1) (tgt := 85) (off := 84) (by omega) (by omega) (by omega) (by rw [hs8]; rfl) dX3_faultOf_1 (by decide) ?_
              refine v_aload_n (pc := 85) rfl dX3_faultOf_85 ?_
              refine v_iload_n (pc := 86) rfl dX3_faultOf_86 ?_
              refine v_callVN (pc := 87) (rest := []) (c_X2_faultOfMelting hb hI h_f) iok_X2_faultOfMelting wM_X3_303 (kdS hb) (by decide) (ltS hb 0 (by decide)) rfl (rmOk (by decide) (by decide)) ⟨Nat.le_of_ble_eq_true rfl, Nat.le_of_ble_eq_true rfl⟩ (Nat.le_of_ble_eq_true rfl) rfl dX3_faultOf_87 (fun v G' hq => ?_) (fun _ _ h => h.elim)
              obtain ⟨r, rfl, hq⟩ := hq
              refine v_stk (st' := [vI r]) rfl ?_
              obtain ⟨hG9, hf⟩ := hq
              rw [hG9]
              exact v_iret (pc := 90) E (⟨_, rfl, by unfold FltV; (repeat (first | rw [if_pos (by omega)] | rw [if_neg (by omega)])); exact hf, FrP_r G⟩) (Nat.le_of_ble_eq_true rfl) (Nat.le_of_ble_eq_true rfl) dX3_faultOf_90
            · skip
              refine v_tabled (pc := 1) (tgt := 91) (by omega) (by omega) dX3_faultOf_1 (by decide) ?_
              refine v_aload_n (pc := 91) rfl dX3_faultOf_91 ?_
              refine v_aload_n (pc := 92) rfl dX3_faultOf_92 ?_
              refine v_iload_n (pc := 93) rfl dX3_faultOf_93 ?_
              refine v_callV (pc := 94) (rest := []) (c_X3_faultOfPayment hb hI h_f) iok_X3_faultOfPayment wM_X3_306 (rfl) (by decide) (by decide) rfl (rmOk (by decide) (by decide)) ⟨Nat.le_of_ble_eq_true rfl, Nat.le_of_ble_eq_true rfl⟩ (Nat.le_of_ble_eq_true rfl) rfl dX3_faultOf_94 (fun v G1 hq => ?_) (fun _ _ h => h.elim)
              obtain ⟨r, rfl, hq⟩ := hq
              refine v_stk (st' := [vI r]) rfl ?_
              obtain ⟨hf, hF⟩ := hq
              exact v_iret (pc := 97) E (⟨_, rfl, by unfold FltV; (repeat (first | rw [if_pos (by omega)] | rw [if_neg (by omega)])); exact hf, hF⟩) (Nat.le_of_ble_eq_true rfl) (Nat.le_of_ble_eq_true rfl) dX3_faultOf_97
theorem cs_same {G G1 : Mem} {b : Nat} (hE : ∀ j : Nat, j ≤ 7 → ∀ w, G1 (b + j) w = G (b + j) w) (φ : Int → Int → Int → Int) : cs G1 b φ = cs G b φ := by
  have e5 : G1 b 5 = G b 5 := hE 0 (by omega) 5
  unfold cs
  rw [e5]
  exact sz_congr fun k _ _ => by rw [hE 5 (by omega) k, hE 6 (by omega) k, hE 7 (by omega) k]

set_option maxHeartbeats 4000000 in
set_option maxRecDepth 100000 in
theorem c_X3_perform {g : GT} {b : Nat} {G : Mem} (hb : isS b) (hI : StI G b) {v f s : Int} (h_v : 0 ≤ v ∧ v < 7) (h_f : -2147483648 ≤ f ∧ f < 2147483648) (h_s : -2147483648 ≤ s ∧ s < 2147483648) (hok : FltV G b v f s 0) (hyy : G b 10 + 20 ≤ 1000000) : Ctr g yX3_perform cX3_perform 5 (some FieldType.int) (rmL 4 0 0) [vR g 0, vR g b, vI v, vI f, vI s] G (RP (fun r G' => Pf G G' b v f s r)) NoX := by
  refine ctr_of [some (vR g 0), some (vR g b), some (vI v), some (vI f), some (vI s)] (by decide) (Nat.le_of_ble_eq_true rfl) rfl (fun γ E => ?_)
  show V γ g cX3_perform 5 RX3 (rmL 4 0 0) G 0 0 0 [some (vR g 0), some (vR g b), some (vI v), some (vI f), some (vI s)] []
  have hn := StI_n hI
  have hc := StI_c hI
  have hy := StI_y hI
  refine v_iload_n (pc := 0) rfl dX3_perform_0 ?_
  by_cases hs1 : v = 0
  · skip
    refine v_table (pc := 1) (tgt := 40) (off := 39) (by omega) (by omega) (by omega) (by rw [hs1]; rfl) dX3_perform_1 (by decide) ?_
    unfold FltV at hok
    (repeat (first | rw [if_pos (by omega)] at hok | rw [if_neg (by omega)] at hok))
    unfold FltDie at hok
    have hin : (1 ≤ f ∧ f ≤ 50) ∧ (1 ≤ s ∧ s ≤ 9) ∧ G b 0 < 5 ∧ ∀ i, 0 ≤ i → i < G b 0 → G (b + 1) i ≠ f := by
      rcases hok with q | ⟨q1, q | ⟨q2, q | q⟩⟩
      · omega
      · omega
      · omega
      · exact ⟨by omega, by omega, q2, q.1⟩
    refine v_aload_n (pc := 40) rfl dX3_perform_40 ?_
    refine v_iload_n (pc := 41) rfl dX3_perform_41 ?_
    refine v_iload (pc := 42) rfl dX3_perform_42 ?_
    refine v_callVN (pc := 44) (rest := []) (c_X2_putDie hb hI hin.1 hin.2.1 hin.2.2.1 hin.2.2.2) iok_X2_putDie wM_X3_312 (kdS hb) (by decide) (ltS hb 0 (by decide)) rfl (rmOk (by decide) (by decide)) ⟨Nat.le_of_ble_eq_true rfl, Nat.le_of_ble_eq_true rfl⟩ (Nat.le_of_ble_eq_true rfl) rfl dX3_perform_44 (fun v G1 hq => ?_) (fun _ _ h => h.elim)
    obtain ⟨r, rfl, hq⟩ := hq
    refine v_stk (st' := [vI r]) rfl ?_
    exact v_iret (pc := 47) E (⟨_, rfl, by show Pf _ _ b v f s _; unfold Pf; (repeat (first | rw [if_pos (by omega)] | rw [if_neg (by omega)])); exact hq⟩) (Nat.le_of_ble_eq_true rfl) (Nat.le_of_ble_eq_true rfl) dX3_perform_47
  · skip
    by_cases hs2 : v = 1
    · skip
      refine v_table (pc := 1) (tgt := 48) (off := 47) (by omega) (by omega) (by omega) (by rw [hs2]; rfl) dX3_perform_1 (by decide) ?_
      unfold FltV at hok
      (repeat (first | rw [if_pos (by omega)] at hok | rw [if_neg (by omega)] at hok))
      unfold FltSh at hok
      refine v_aload_n (pc := 48) rfl dX3_perform_48 ?_
      refine v_iload_n (pc := 49) rfl dX3_perform_49 ?_
      refine v_callVN (pc := 50) (rest := []) (c_X2_grind hb hI (d := f) (by omega)) iok_X2_grind wM_X3_315 (kdS hb) (by decide) (ltS hb 0 (by decide)) rfl (rmOk (by decide) (by decide)) ⟨Nat.le_of_ble_eq_true rfl, Nat.le_of_ble_eq_true rfl⟩ (Nat.le_of_ble_eq_true rfl) rfl dX3_perform_50 (fun v G' hq => ?_) (fun _ _ h => h.elim)
      obtain ⟨rfl, hG9⟩ := hq
      rw [hG9]
      refine v_stk (st' := [vI (G (b + 3) f)]) rfl ?_
      exact v_iret (pc := 53) E (⟨_, rfl, by show Pf _ _ b v f s _; unfold Pf; (repeat (first | rw [if_pos (by omega)] | rw [if_neg (by omega)])); exact ⟨rfl, rfl⟩⟩) (Nat.le_of_ble_eq_true rfl) (Nat.le_of_ble_eq_true rfl) dX3_perform_53
    · skip
      by_cases hs3 : v = 2
      · skip
        refine v_table (pc := 1) (tgt := 54) (off := 53) (by omega) (by omega) (by omega) (by rw [hs3]; rfl) dX3_perform_1 (by decide) ?_
        refine v_aload_n (pc := 54) rfl dX3_perform_54 ?_
        refine v_iload_n (pc := 55) rfl dX3_perform_55 ?_
        refine v_callVN (pc := 56) (rest := []) (c_X2_putLeaves (z := f) hb) iok_X2_putLeaves wM_X3_318 (kdS hb) (by decide) (ltS hb 0 (by decide)) rfl (rmOk (by decide) (by decide)) ⟨Nat.le_of_ble_eq_true rfl, Nat.le_of_ble_eq_true rfl⟩ (Nat.le_of_ble_eq_true rfl) rfl dX3_perform_56 (fun v G' hq => ?_) (fun _ _ h => h.elim)
        obtain ⟨rfl, hG9⟩ := hq
        rw [hG9]
        refine v_stk (st' := [vI (G b 9 + f)]) rfl ?_
        exact v_iret (pc := 59) E (⟨_, rfl, by show Pf _ _ b v f s _; unfold Pf; (repeat (first | rw [if_pos (by omega)] | rw [if_neg (by omega)])); exact ⟨rfl, rfl⟩⟩) (Nat.le_of_ble_eq_true rfl) (Nat.le_of_ble_eq_true rfl) dX3_perform_59
      · skip
        by_cases hs4 : v = 3
        · skip
          refine v_table (pc := 1) (tgt := 60) (off := 59) (by omega) (by omega) (by omega) (by rw [hs4]; rfl) dX3_perform_1 (by decide) ?_
          unfold FltV at hok
          (repeat (first | rw [if_pos (by omega)] at hok | rw [if_neg (by omega)] at hok))
          unfold FltSt at hok
          refine v_aload_n (pc := 60) rfl dX3_perform_60 ?_
          refine v_iload_n (pc := 61) rfl dX3_perform_61 ?_
          refine v_iload (pc := 62) rfl dX3_perform_62 ?_
          refine v_callVN (pc := 64) (rest := []) (c_X2_makeCoins hb hI (d := f) (z := s) (by omega) (by omega) (by omega) (by omega)) iok_X2_makeCoins wM_X3_321 (kdS hb) (by decide) (ltS hb 0 (by decide)) rfl (rmOk (by decide) (by decide)) ⟨Nat.le_of_ble_eq_true rfl, Nat.le_of_ble_eq_true rfl⟩ (Nat.le_of_ble_eq_true rfl) rfl dX3_perform_64 (fun v G1 hq => ?_) (fun _ _ h => h.elim)
          obtain ⟨r, rfl, hq⟩ := hq
          refine v_stk (st' := [vI r]) rfl ?_
          exact v_iret (pc := 67) E (⟨_, rfl, by show Pf _ _ b v f s _; unfold Pf; (repeat (first | rw [if_pos (by omega)] | rw [if_neg (by omega)])); exact hq⟩) (Nat.le_of_ble_eq_true rfl) (Nat.le_of_ble_eq_true rfl) dX3_perform_67
        · skip
          by_cases hs5 : v = 4
          · skip
            refine v_table (pc := 1) (tgt := 68) (off := 67) (by omega) (by omega) (by omega) (by rw [hs5]; rfl) dX3_perform_1 (by decide) ?_
            unfold FltV at hok
            (repeat (first | rw [if_pos (by omega)] at hok | rw [if_neg (by omega)] at hok))
            unfold FltYr at hok
            refine v_aload_n (pc := 68) rfl dX3_perform_68 ?_
            refine v_iload_n (pc := 69) rfl dX3_perform_69 ?_
            refine v_callVN (pc := 70) (rest := []) (c_X2_age hb hI (Y := f) (by omega) (by omega)) iok_X2_age wM_X3_324 (kdS hb) (by decide) (ltS hb 0 (by decide)) rfl (rmOk (by decide) (by decide)) ⟨Nat.le_of_ble_eq_true rfl, Nat.le_of_ble_eq_true rfl⟩ (Nat.le_of_ble_eq_true rfl) rfl dX3_perform_70 (fun v G1 hq => ?_) (fun _ _ h => h.elim)
            obtain ⟨r, rfl, hq⟩ := hq
            refine v_stk (st' := [vI r]) rfl ?_
            exact v_iret (pc := 73) E (⟨_, rfl, by show Pf _ _ b v f s _; unfold Pf; (repeat (first | rw [if_pos (by omega)] | rw [if_neg (by omega)])); exact hq⟩) (Nat.le_of_ble_eq_true rfl) (Nat.le_of_ble_eq_true rfl) dX3_perform_73
          · skip
            by_cases hs6 : v = 5
            · skip
              refine v_table (pc := 1) (tgt := 74) (off := 73) (by omega) (by omega) (by omega) (by rw [hs6]; rfl) dX3_perform_1 (by decide) ?_
              refine v_aload_n (pc := 74) rfl dX3_perform_74 ?_
              refine v_iload_n (pc := 75) rfl dX3_perform_75 ?_
              refine v_callVN (pc := 76) (rest := []) (c_X2_melt hb hI h_f) iok_X2_melt wM_X3_327 (kdS hb) (by decide) (ltS hb 0 (by decide)) rfl (rmOk (by decide) (by decide)) ⟨Nat.le_of_ble_eq_true rfl, Nat.le_of_ble_eq_true rfl⟩ (Nat.le_of_ble_eq_true rfl) rfl dX3_perform_76 (fun v G1 hq => ?_) (fun _ _ h => h.elim)
              obtain ⟨r, rfl, hq⟩ := hq
              refine v_stk (st' := [vI r]) rfl ?_
              exact v_iret (pc := 79) E (⟨_, rfl, by show Pf _ _ b v f s _; unfold Pf; (repeat (first | rw [if_pos (by omega)] | rw [if_neg (by omega)])); exact hq⟩) (Nat.le_of_ble_eq_true rfl) (Nat.le_of_ble_eq_true rfl) dX3_perform_79
            · skip
              refine v_tabled (pc := 1) (tgt := 80) (by omega) (by omega) dX3_perform_1 (by decide) ?_
              unfold FltV at hok
              (repeat (first | rw [if_pos (by omega)] at hok | rw [if_neg (by omega)] at hok))
              unfold FltPay at hok
              have hin : (1 ≤ f ∧ f ≤ 99) ∧ Tab (vsR G b) (cnR G b) (G b 0).toNat f ≠ 1000 := by
                rcases hok with q | ⟨q1, q | q⟩
                · omega
                · exact ⟨q1, q.1⟩
                · omega
              refine v_aload_n (pc := 80) rfl dX3_perform_80 ?_
              refine v_getR (pc := 81) (j := 1) fd_X3_29 (rfl) (by decide) rfl dX3_perform_81 ?_
              refine v_aload_n (pc := 84) rfl dX3_perform_84 ?_
              refine v_iload_n (pc := 85) rfl dX3_perform_85 ?_
              refine v_callVN (pc := 86) (rest := []) (c_X0_plan hb hI hin.1) iok_X0_plan wM_X3_153 (rfl) (by decide) (by decide) rfl (rmOk (by decide) (by decide)) ⟨Nat.le_of_ble_eq_true rfl, Nat.le_of_ble_eq_true rfl⟩ (Nat.le_of_ble_eq_true rfl) rfl dX3_perform_86 (fun v G1 hq => ?_) (fun _ _ h => h.elim)
              obtain ⟨rp, rfl, hq⟩ := hq
              refine v_stk (st' := [vI rp]) rfl ?_
              obtain ⟨hrp, e4, hT, hu, hF⟩ := hq
              have hu2 := hu hin.2
              have hE : ∀ j : Nat, j ≤ 7 → ∀ w, G1 (b + j) w = G (b + j) w := FrP_s hb hF
              have hI1 : StI G1 b := StI_sameB hI hE
              have e0 : G1 b 0 = G b 0 := hE 0 (by omega) 0
              have e5 : G1 b 5 = G b 5 := hE 0 (by omega) 5
              have hus : ∀ e, 0 ≤ e → e < G1 b 0 → 0 ≤ G1 92 e ∧ G1 92 e ≤ cntE (G1 b 5) (G1 (b + 5)) e := fun e q0 q1 => by
                rw [e0] at q1
                obtain ⟨s0, p0, p1, p2⟩ := hI.2.2.2.2.2.2.2 e q0 q1
                have hcr := cnR_r hI s0
                have hur := usF_r (vs := vsR G b) (cn := cnR G b) (n := G b 0) (a := f) (r := s0) hcr.1
                have hcc : cntE (G1 b 5) (G1 (b + 5)) e = cnR G b s0 := by
                  rw [e5, show G1 (b + 5) = G (b + 5) from funext fun w => hE 5 (by omega) w, ← p2]
                rw [hcc, ← p2, hu2 s0 p0 p1]
                exact hur
              refine v_pop (pc := 89) rfl dX3_perform_89 ?_
              refine v_aload_n (pc := 90) rfl dX3_perform_90 ?_
              refine v_iload_n (pc := 91) rfl dX3_perform_91 ?_
              refine v_aload_n (pc := 92) rfl dX3_perform_92 ?_
              refine v_getR (pc := 93) (j := 1) fd_X3_29 (rfl) (by decide) rfl dX3_perform_93 ?_
              refine v_getR (pc := 96) (j := 92) fd_X3_162 (rfl) (by decide) rfl dX3_perform_96 ?_
              refine v_callVN (pc := 99) (rest := []) (c_X2_payOut hb hI1 (a := f) hus) iok_X2_payOut wM_X3_330 (kdS hb) (by decide) (ltS hb 0 (by decide)) rfl (rmOk (by decide) (by decide)) ⟨Nat.le_of_ble_eq_true rfl, Nat.le_of_ble_eq_true rfl⟩ (Nat.le_of_ble_eq_true rfl) rfl dX3_perform_99 (fun v G2 hq => ?_) (fun _ _ h => h.elim)
              obtain ⟨r, rfl, hP⟩ := hq
              refine v_stk (st' := [vI r]) rfl ?_
              exact v_iret (pc := 102) E (⟨_, rfl, by
                show Pf _ _ b v f s _
                unfold Pf; (repeat (first | rw [if_pos (by omega)] | rw [if_neg (by omega)]))
                have e1 : cs G1 b = cs G b := funext fun φ => cs_same hE φ
                have e2 : G1 (b + 2) = G (b + 2) := funext fun w => hE 2 (by omega) w
                have e12 : G1 b 12 = G b 12 := hE 0 (by omega) 12
                have e13 : G1 b 13 = G b 13 := hE 0 (by omega) 13
                rw [e0, e1, e2, e12, e13] at hP
                exact ⟨G1, hF, hu2, hP⟩⟩) (Nat.le_of_ble_eq_true rfl) (Nat.le_of_ble_eq_true rfl) dX3_perform_102
