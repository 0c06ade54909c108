/-- the exception of a fault -/
def flX (r : Int) : String := if r = 1 then eIB else if r = 2 then eIA else if r = 3 then eIS else if r = 4 then eUO else eNE

set_option maxHeartbeats 4000000 in
set_option maxRecDepth 100000 in
theorem c_X3_throwFor {g : GT} {G : Mem} {r : Int} (h_r : 0 ≤ r ∧ r ≤ 5) : Ctr g yX3_throwFor cX3_throwFor 1 (none : Option FieldType) (rmL 0 1 6) [vI r] G (fun v G' => v = none ∧ G' = G ∧ r = 0) (fun e G' => e = flX r ∧ G' = G ∧ r ≠ 0) := by
  refine ctr_of [some (vI r)] (by decide) (Nat.le_of_ble_eq_true rfl) rfl (fun γ E => ?_)
  show V γ g cX3_throwFor 1 RX3 (rmL 0 1 6) G 0 0 0 [some (vI r)] []
  refine v_iload_n (pc := 0) rfl dX3_throwFor_0 ?_
  by_cases hs1 : r = 1
  · skip
    refine v_table (pc := 1) (tgt := 36) (off := 35) (by omega) (by omega) (by omega) (by rw [hs1]; rfl) dX3_throwFor_1 (by decide) ?_
    exact v_throwW (pc := 36) (text := "no such die") xok_IB (by decide) E (⟨by unfold flX; (repeat (first | rw [if_pos (by omega)] | rw [if_neg (by omega)])), rfl, by omega⟩) dX3_throwFor_36 dX3_throwFor_39 dX3_throwFor_40 dX3_throwFor_43 dX3_throwFor_46 (Nat.le_of_ble_eq_true rfl) (Nat.le_of_ble_eq_true rfl) (Nat.le_of_ble_eq_true rfl) (Nat.le_of_ble_eq_true rfl) (Nat.le_of_ble_eq_true rfl)
  · skip
    by_cases hs2 : r = 2
    · skip
      refine v_table (pc := 1) (tgt := 47) (off := 46) (by omega) (by omega) (by omega) (by rw [hs2]; rfl) dX3_throwFor_1 (by decide) ?_
      exact v_throwW (pc := 47) (text := "an argument is out of its range") xok_IA (by decide) E (⟨by unfold flX; (repeat (first | rw [if_pos (by omega)] | rw [if_neg (by omega)])), rfl, by omega⟩) dX3_throwFor_47 dX3_throwFor_50 dX3_throwFor_51 dX3_throwFor_54 dX3_throwFor_57 (Nat.le_of_ble_eq_true rfl) (Nat.le_of_ble_eq_true rfl) (Nat.le_of_ble_eq_true rfl) (Nat.le_of_ble_eq_true rfl) (Nat.le_of_ble_eq_true rfl)
    · skip
      by_cases hs3 : r = 3
      · skip
        refine v_table (pc := 1) (tgt := 58) (off := 57) (by omega) (by omega) (by omega) (by rw [hs3]; rfl) dX3_throwFor_1 (by decide) ?_
        exact v_throwW (pc := 58) (text := "the state of the mint does not allow this") xok_IS (by decide) E (⟨by unfold flX; (repeat (first | rw [if_pos (by omega)] | rw [if_neg (by omega)])), rfl, by omega⟩) dX3_throwFor_58 dX3_throwFor_61 dX3_throwFor_62 dX3_throwFor_65 dX3_throwFor_68 (Nat.le_of_ble_eq_true rfl) (Nat.le_of_ble_eq_true rfl) (Nat.le_of_ble_eq_true rfl) (Nat.le_of_ble_eq_true rfl) (Nat.le_of_ble_eq_true rfl)
      · skip
        by_cases hs4 : r = 4
        · skip
          refine v_table (pc := 1) (tgt := 69) (off := 68) (by omega) (by omega) (by omega) (by rw [hs4]; rfl) dX3_throwFor_1 (by decide) ?_
          exact v_throwW (pc := 69) (text := "the mint cannot do this") xok_UO (by decide) E (⟨by unfold flX; (repeat (first | rw [if_pos (by omega)] | rw [if_neg (by omega)])), rfl, by omega⟩) dX3_throwFor_69 dX3_throwFor_72 dX3_throwFor_73 dX3_throwFor_76 dX3_throwFor_79 (Nat.le_of_ble_eq_true rfl) (Nat.le_of_ble_eq_true rfl) (Nat.le_of_ble_eq_true rfl) (Nat.le_of_ble_eq_true rfl) (Nat.le_of_ble_eq_true rfl)
        · skip
          by_cases hs5 : r = 5
          · skip
            refine v_table (pc := 1) (tgt := 80) (off := 79) (by omega) (by omega) (by omega) (by rw [hs5]; rfl) dX3_throwFor_1 (by decide) ?_
            exact v_throwNW (pc := 80) (text := "no coin of this year")  (by decide) E (⟨by unfold flX; (repeat (first | rw [if_pos (by omega)] | rw [if_neg (by omega)])), rfl, by omega⟩) dX3_throwFor_80 dX3_throwFor_83 dX3_throwFor_84 dX3_throwFor_87 dX3_throwFor_90 (Nat.le_of_ble_eq_true rfl) (Nat.le_of_ble_eq_true rfl) (Nat.le_of_ble_eq_true rfl) (Nat.le_of_ble_eq_true rfl) (Nat.le_of_ble_eq_true rfl)
          · skip
            refine v_tabled (pc := 1) (tgt := 91) (by omega) (by omega) dX3_throwFor_1 (by decide) ?_
            exact v_vret (pc := 91) E (⟨rfl, rfl, by omega⟩) (Nat.le_of_ble_eq_true rfl) (Nat.le_of_ble_eq_true rfl) dX3_throwFor_91
theorem flt_r {G : Mem} {b : Nat} {v f s r : Int} (h : FltV G b v f s r) : 0 ≤ r ∧ r ≤ 5 := by
  unfold FltV FltDie FltSh FltLf FltSt FltYr FltMl FltPay at h
  split at h
  · rcases h with q | ⟨_, q | ⟨_, q | q⟩⟩ <;> omega
  · split at h
    · omega
    · split at h
      · omega
      · split at h
        · rcases h with q | ⟨_, q | ⟨_, q | ⟨_, q | q⟩⟩⟩ <;> omega
        · split at h
          · omega
          · split at h
            · rcases h with q | ⟨_, q | q⟩ <;> omega
            · rcases h with q | ⟨_, q | q⟩ <;> omega
/-- the memory is remembered -/
def RemR (G G' : Mem) : Prop := ∃ G1, ((G 0 8 < 8 ∧ G1 = G) ∨ (G 0 8 = 8 ∧ DropR G G1)) ∧ ∃ G2, CpS G1 G2 (G1 3 (G1 0 8)).toNat 4 ∧ G' = upd2 G2 0 8 (G1 0 8 + 1)
/-- remembering leaves the states at 4, 12 and 20, and what lies beyond the past, as they were -/
theorem RemR_k {G G' : Mem} (hp : PastI G) (h : RemR G G') : ∀ i z, (4 ≤ i ∧ i < 28) ∨ 92 ≤ i ∨ i = 1 ∨ i = 2 ∨ (i = 0 ∧ z ≠ 8) → G' i z = G i z := by
  obtain ⟨G1, h1, G2, h2, rfl⟩ := h
  have hp1 : PastI G1 := by
    rcases h1 with ⟨_, rfl⟩ | ⟨_, q⟩
    · exact hp
    · exact DropR_past q hp
  have hq : 28 ≤ G1 3 (G1 0 8) ∧ isS (G1 3 (G1 0 8)).toNat := by
    rcases h1 with ⟨w, rfl⟩ | ⟨w, q⟩
    · exact hp.2.1 _ hp.1.1 w
    · rw [q.2.2.1]; exact hp1.2.1 7 (by omega) (by omega)
  have hl := isS_lt hq.2
  intro i z hi
  rw [upd2_n (by omega), h2.2.2.2 i z (by omega)]
  rcases h1 with ⟨w, rfl⟩ | ⟨w, q⟩
  · rfl
  · exact q.2.2.2 i z (by omega) (by omega)

theorem past_FrP {G G1 : Mem} (hF : FrP G G1) (hp : PastI G) : PastI G1 := by
  have e8 : G1 0 8 = G 0 8 := hF 0 8 (by omega) (by omega)
  have e3 : ∀ z, G1 3 z = G 3 z := fun z => hF 3 z (by omega) (by omega)
  refine ⟨by rw [e8]; exact hp.1, fun i a b => ?_, fun i j a b c => ?_⟩
  · rw [e3]; exact hp.2.1 i a b
  · rw [e3, e3]; exact hp.2.2 i j a b c
theorem flt_same {G G2 : Mem} {b : Nat} {v f s r : Int} (hb : isS b) (hE : ∀ j : Nat, j ≤ 7 → ∀ w, G2 (b + j) w = G (b + j) w) (h : FltV G b v f s r) : FltV G2 b v f s r := by
  have e0 : G2 b = G b := funext fun w => hE 0 (by omega) w
  have e1 : G2 (b + 1) = G (b + 1) := funext fun w => hE 1 (by omega) w
  have e2 : G2 (b + 2) = G (b + 2) := funext fun w => hE 2 (by omega) w
  have e3 : G2 (b + 3) = G (b + 3) := funext fun w => hE 3 (by omega) w
  have e4 : G2 (b + 4) = G (b + 4) := funext fun w => hE 4 (by omega) w
  have e5 : G2 (b + 5) = G (b + 5) := funext fun w => hE 5 (by omega) w
  have e6 : G2 (b + 6) = G (b + 6) := funext fun w => hE 6 (by omega) w
  have ev : vsR G2 b = vsR G b := by unfold vsR; rw [e1, e4]
  have ec : cnR G2 b = cnR G b := by unfold cnR; rw [e0, e5, e4]
  unfold FltV FltPay
  rw [e0, e1, e2, e3, e6, ev, ec]
  exact h

set_option maxHeartbeats 4000000 in
set_option maxRecDepth 100000 in
theorem c_X3_change {g : GT} {G : Mem} (hI : StI G 4) (hp : PastI G) {v f s : Int} (h_v : 0 ≤ v ∧ v < 7) (h_f : -2147483648 ≤ f ∧ f < 2147483648) (h_s : -2147483648 ≤ s ∧ s < 2147483648) (hlv : 0 ≤ G 4 9 ∧ G 4 9 ≤ 100000) (hyy : G 4 10 + 20 ≤ 1000000) : Ctr g yX3_change cX3_change 4 (some FieldType.int) (rmL 5 1 6) [vR g 0, vI v, vI f, vI s] G (fun w G' => FltV G 4 v f s 0 ∧ ∃ G1 G2 r, FrP G G1 ∧ RemR G1 G2 ∧ Pf G2 G' 4 v f s r ∧ w = some (vI r)) (fun e G' => FrP G G' ∧ ∃ r, FltV G 4 v f s r ∧ r ≠ 0 ∧ e = flX r) := by
  refine ctr_of [some (vR g 0), some (vI v), some (vI f), some (vI s)] (by decide) (Nat.le_of_ble_eq_true rfl) rfl (fun γ E => ?_)
  show V γ g cX3_change 4 RX3 (rmL 5 1 6) G 0 0 0 [some (vR g 0), some (vI v), some (vI f), some (vI s)] []
  have hn := StI_n hI
  have hc := StI_c hI
  have hy := StI_y hI
  refine v_aload_n (pc := 0) rfl dX3_change_0 ?_
  refine v_aload_n (pc := 1) rfl dX3_change_1 ?_
  refine v_getR (pc := 2) (j := 4) fd_X3_10 (rfl) (by decide) rfl dX3_change_2 ?_
  refine v_iload_n (pc := 5) rfl dX3_change_5 ?_
  refine v_iload_n (pc := 6) rfl dX3_change_6 ?_
  refine v_iload_n (pc := 7) rfl dX3_change_7 ?_
  refine v_callV (pc := 8) (rest := []) (c_X3_faultOf isS4 hI h_v h_f h_s hlv) iok_X3_faultOf wM_X3_260 (rfl) (by decide) (by decide) rfl (rmOk (by decide) (by decide)) ⟨Nat.le_of_ble_eq_true rfl, Nat.le_of_ble_eq_true rfl⟩ (Nat.le_of_ble_eq_true rfl) rfl dX3_change_8 (fun v G1 hq => ?_) (fun _ _ h => h.elim)
  obtain ⟨r, rfl, hq⟩ := hq
  refine v_stk (st' := [vI r]) rfl ?_
  obtain ⟨hflt, hF⟩ := hq
  have hrr := flt_r hflt
  refine v_callS (pc := 11) (rest := []) (c_X3_throwFor (G := G1) hrr) sok_X3_throwFor wM_X3_287 (rmOk (by decide) (by decide)) ⟨Nat.le_of_ble_eq_true rfl, Nat.le_of_ble_eq_true rfl⟩ (Nat.le_of_ble_eq_true rfl) rfl dX3_change_11 (fun v G' hq => ?_) (fun e G' hx => vx_pass E (by obtain ⟨x1, x2, x3⟩ := hx; rw [x2]; exact ⟨hF, r, hflt, x3, x1⟩) (Nat.le_of_ble_eq_true rfl) (Nat.le_of_ble_eq_true rfl))
  obtain ⟨rfl, hG9, hd⟩ := hq
  rw [hG9]
  refine v_stk (st' := []) rfl ?_
  have hok : FltV G 4 v f s 0 := by rw [← hd]; exact hflt
  have hE1 := FrP_s isS4 hF
  have hp1 : PastI G1 := past_FrP hF hp
  refine v_aload_n (pc := 14) rfl dX3_change_14 ?_
  refine v_callV (pc := 15) (rest := []) (c_X3_remember hp1) iok_X3_remember wM_X3_269 (rfl) (by decide) (by decide) rfl (rmOk (by decide) (by decide)) ⟨Nat.le_of_ble_eq_true rfl, Nat.le_of_ble_eq_true rfl⟩ (Nat.le_of_ble_eq_true rfl) rfl dX3_change_15 (fun v G2 hq => ?_) (fun _ _ h => h.elim)
  obtain ⟨rfl, hrem⟩ := hq
  refine v_stk (st' := []) rfl ?_
  have hk := RemR_k hp1 hrem
  have hE2 : ∀ j : Nat, j ≤ 7 → ∀ w, G2 (4 + j) w = G (4 + j) w := fun j hj w => (hk (4 + j) w (by omega)).trans (hE1 j hj w)
  have hI2 : StI G2 4 := StI_sameB hI hE2
  have hok2 : FltV G2 4 v f s 0 := flt_same isS4 hE2 hok
  have hy2 : G2 4 10 + 20 ≤ 1000000 := by rw [show G2 4 10 = G 4 10 from hE2 0 (by omega) 10]; exact hyy
  refine v_aload_n (pc := 18) rfl dX3_change_18 ?_
  refine v_aload_n (pc := 19) rfl dX3_change_19 ?_
  refine v_getR (pc := 20) (j := 4) fd_X3_10 (rfl) (by decide) rfl dX3_change_20 ?_
  refine v_iload_n (pc := 23) rfl dX3_change_23 ?_
  refine v_iload_n (pc := 24) rfl dX3_change_24 ?_
  refine v_iload_n (pc := 25) rfl dX3_change_25 ?_
  refine v_callV (pc := 26) (rest := []) (c_X3_perform isS4 hI2 h_v h_f h_s hok2 hy2) iok_X3_perform wM_X3_266 (rfl) (by decide) (by decide) rfl (rmOk (by decide) (by decide)) ⟨Nat.le_of_ble_eq_true rfl, Nat.le_of_ble_eq_true rfl⟩ (Nat.le_of_ble_eq_true rfl) rfl dX3_change_26 (fun v G3 hq => ?_) (fun _ _ h => h.elim)
  obtain ⟨rr, rfl, hpf⟩ := hq
  refine v_stk (st' := [vI rr]) rfl ?_
  exact v_iret (pc := 29) E (⟨hok, G1, G2, rr, hF, hrem, hpf, rfl⟩) (Nat.le_of_ble_eq_true rfl) (Nat.le_of_ble_eq_true rfl) dX3_change_29
