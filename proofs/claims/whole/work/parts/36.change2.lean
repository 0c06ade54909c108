/-- what a change answers: it went well -/
def ChQ (G : Mem) (v f s : Int) : Option Value → Mem → Prop := fun w G' => FltV G 4 v f s 0 ∧ ∃ G1 G2 r, FrP G G1 ∧ RemR G1 G2 ∧ Pf G2 G' 4 v f s r ∧ w = some (vI r)
/-- .. or it has a fault -/
def ChX (G : Mem) (v f s : Int) : String → Mem → Prop := fun e G' => FrP G G' ∧ ∃ r, FltV G 4 v f s r ∧ r ≠ 0 ∧ e = flX r

set_option maxHeartbeats 4000000 in
set_option maxRecDepth 100000 in
theorem c_X3_addDie {g : GT} {G : Mem} (hI : StI G 4) (hp : PastI G) {f s : Int} (h_f : -2147483648 ≤ f ∧ f < 2147483648) (h_s : -2147483648 ≤ s ∧ s < 2147483648) (hlv : 0 ≤ G 4 9 ∧ G 4 9 ≤ 100000) (hyy : G 4 10 + 20 ≤ 1000000) : Ctr g yX3_addDie cX3_addDie 3 (some FieldType.int) (rmL 6 1 6) [vR g 0, vI f, vI s] G (ChQ G 0 f s) (ChX G 0 f s) := by
  refine ctr_of [some (vR g 0), some (vI f), some (vI s)] (by decide) (Nat.le_of_ble_eq_true rfl) rfl (fun γ E => ?_)
  show V γ g cX3_addDie 3 RX3 (rmL 6 1 6) G 0 0 0 [some (vR g 0), some (vI f), some (vI s)] []
  have hn := StI_n hI
  have hc := StI_c hI
  have hy := StI_y hI
  refine v_aload_n (pc := 0) rfl dX3_addDie_0 ?_
  refine v_iconst (pc := 1) (z := 0) dX3_addDie_1 ?_
  refine v_iload_n (pc := 2) rfl dX3_addDie_2 ?_
  refine v_iload_n (pc := 3) rfl dX3_addDie_3 ?_
  refine v_callV (pc := 4) (rest := []) (c_X3_change hI hp (v := 0) (f := f) (s := s) (by decide) h_f h_s hlv hyy) iok_X3_change wM_X3_54 (rfl) (by decide) (by decide) rfl (rmOk (by decide) (by decide)) ⟨Nat.le_of_ble_eq_true rfl, Nat.le_of_ble_eq_true rfl⟩ (Nat.le_of_ble_eq_true rfl) rfl dX3_addDie_4 (fun v G' hq => ?_) (fun e G' hx => vx_pass E hx (Nat.le_of_ble_eq_true rfl) (Nat.le_of_ble_eq_true rfl))
  obtain ⟨hok, G1, G2, r, hF, hrem, hpf, rfl⟩ := hq
  refine v_stk (st' := [vI r]) rfl ?_
  exact v_iret (pc := 7) E (⟨hok, G1, G2, r, hF, hrem, hpf, rfl⟩) (Nat.le_of_ble_eq_true rfl) (Nat.le_of_ble_eq_true rfl) dX3_addDie_7
set_option maxHeartbeats 4000000 in
set_option maxRecDepth 100000 in
theorem c_X3_sharpen {g : GT} {G : Mem} (hI : StI G 4) (hp : PastI G) {f : Int} (h_f : -2147483648 ≤ f ∧ f < 2147483648) (hlv : 0 ≤ G 4 9 ∧ G 4 9 ≤ 100000) (hyy : G 4 10 + 20 ≤ 1000000) : Ctr g yX3_sharpen cX3_sharpen 2 (some FieldType.int) (rmL 6 1 6) [vR g 0, vI f] G (ChQ G 1 f 0) (ChX G 1 f 0) := by
  refine ctr_of [some (vR g 0), some (vI f)] (by decide) (Nat.le_of_ble_eq_true rfl) rfl (fun γ E => ?_)
  show V γ g cX3_sharpen 2 RX3 (rmL 6 1 6) G 0 0 0 [some (vR g 0), some (vI f)] []
  have hn := StI_n hI
  have hc := StI_c hI
  have hy := StI_y hI
  refine v_aload_n (pc := 0) rfl dX3_sharpen_0 ?_
  refine v_iconst (pc := 1) (z := 1) dX3_sharpen_1 ?_
  refine v_iload_n (pc := 2) rfl dX3_sharpen_2 ?_
  refine v_iconst (pc := 3) (z := 0) dX3_sharpen_3 ?_
  refine v_callV (pc := 4) (rest := []) (c_X3_change hI hp (v := 1) (f := f) (s := 0) (by decide) h_f (by decide) hlv hyy) iok_X3_change wM_X3_54 (rfl) (by decide) (by decide) rfl (rmOk (by decide) (by decide)) ⟨Nat.le_of_ble_eq_true rfl, Nat.le_of_ble_eq_true rfl⟩ (Nat.le_of_ble_eq_true rfl) rfl dX3_sharpen_4 (fun v G' hq => ?_) (fun e G' hx => vx_pass E hx (Nat.le_of_ble_eq_true rfl) (Nat.le_of_ble_eq_true rfl))
  obtain ⟨hok, G1, G2, r, hF, hrem, hpf, rfl⟩ := hq
  refine v_stk (st' := [vI r]) rfl ?_
  exact v_iret (pc := 7) E (⟨hok, G1, G2, r, hF, hrem, hpf, rfl⟩) (Nat.le_of_ble_eq_true rfl) (Nat.le_of_ble_eq_true rfl) dX3_sharpen_7
set_option maxHeartbeats 4000000 in
set_option maxRecDepth 100000 in
theorem c_X3_addLeaves {g : GT} {G : Mem} (hI : StI G 4) (hp : PastI G) {f : Int} (h_f : -2147483648 ≤ f ∧ f < 2147483648) (hlv : 0 ≤ G 4 9 ∧ G 4 9 ≤ 100000) (hyy : G 4 10 + 20 ≤ 1000000) : Ctr g yX3_addLeaves cX3_addLeaves 2 (some FieldType.int) (rmL 6 1 6) [vR g 0, vI f] G (ChQ G 2 f 0) (ChX G 2 f 0) := by
  refine ctr_of [some (vR g 0), some (vI f)] (by decide) (Nat.le_of_ble_eq_true rfl) rfl (fun γ E => ?_)
  show V γ g cX3_addLeaves 2 RX3 (rmL 6 1 6) G 0 0 0 [some (vR g 0), some (vI f)] []
  have hn := StI_n hI
  have hc := StI_c hI
  have hy := StI_y hI
  refine v_aload_n (pc := 0) rfl dX3_addLeaves_0 ?_
  refine v_iconst (pc := 1) (z := 2) dX3_addLeaves_1 ?_
  refine v_iload_n (pc := 2) rfl dX3_addLeaves_2 ?_
  refine v_iconst (pc := 3) (z := 0) dX3_addLeaves_3 ?_
  refine v_callV (pc := 4) (rest := []) (c_X3_change hI hp (v := 2) (f := f) (s := 0) (by decide) h_f (by decide) hlv hyy) iok_X3_change wM_X3_54 (rfl) (by decide) (by decide) rfl (rmOk (by decide) (by decide)) ⟨Nat.le_of_ble_eq_true rfl, Nat.le_of_ble_eq_true rfl⟩ (Nat.le_of_ble_eq_true rfl) rfl dX3_addLeaves_4 (fun v G' hq => ?_) (fun e G' hx => vx_pass E hx (Nat.le_of_ble_eq_true rfl) (Nat.le_of_ble_eq_true rfl))
  obtain ⟨hok, G1, G2, r, hF, hrem, hpf, rfl⟩ := hq
  refine v_stk (st' := [vI r]) rfl ?_
  exact v_iret (pc := 7) E (⟨hok, G1, G2, r, hF, hrem, hpf, rfl⟩) (Nat.le_of_ble_eq_true rfl) (Nat.le_of_ble_eq_true rfl) dX3_addLeaves_7
set_option maxHeartbeats 4000000 in
set_option maxRecDepth 100000 in
theorem c_X3_strike {g : GT} {G : Mem} (hI : StI G 4) (hp : PastI G) {f s : Int} (h_f : -2147483648 ≤ f ∧ f < 2147483648) (h_s : -2147483648 ≤ s ∧ s < 2147483648) (hlv : 0 ≤ G 4 9 ∧ G 4 9 ≤ 100000) (hyy : G 4 10 + 20 ≤ 1000000) : Ctr g yX3_strike cX3_strike 3 (some FieldType.int) (rmL 6 1 6) [vR g 0, vI f, vI s] G (ChQ G 3 f s) (ChX G 3 f s) := by
  refine ctr_of [some (vR g 0), some (vI f), some (vI s)] (by decide) (Nat.le_of_ble_eq_true rfl) rfl (fun γ E => ?_)
  show V γ g cX3_strike 3 RX3 (rmL 6 1 6) G 0 0 0 [some (vR g 0), some (vI f), some (vI s)] []
  have hn := StI_n hI
  have hc := StI_c hI
  have hy := StI_y hI
  refine v_aload_n (pc := 0) rfl dX3_strike_0 ?_
  refine v_iconst (pc := 1) (z := 3) dX3_strike_1 ?_
  refine v_iload_n (pc := 2) rfl dX3_strike_2 ?_
  refine v_iload_n (pc := 3) rfl dX3_strike_3 ?_
  refine v_callV (pc := 4) (rest := []) (c_X3_change hI hp (v := 3) (f := f) (s := s) (by decide) h_f h_s hlv hyy) iok_X3_change wM_X3_54 (rfl) (by decide) (by decide) rfl (rmOk (by decide) (by decide)) ⟨Nat.le_of_ble_eq_true rfl, Nat.le_of_ble_eq_true rfl⟩ (Nat.le_of_ble_eq_true rfl) rfl dX3_strike_4 (fun v G' hq => ?_) (fun e G' hx => vx_pass E hx (Nat.le_of_ble_eq_true rfl) (Nat.le_of_ble_eq_true rfl))
  obtain ⟨hok, G1, G2, r, hF, hrem, hpf, rfl⟩ := hq
  refine v_stk (st' := [vI r]) rfl ?_
  exact v_iret (pc := 7) E (⟨hok, G1, G2, r, hF, hrem, hpf, rfl⟩) (Nat.le_of_ble_eq_true rfl) (Nat.le_of_ble_eq_true rfl) dX3_strike_7
set_option maxHeartbeats 4000000 in
set_option maxRecDepth 100000 in
theorem c_X3_passYears {g : GT} {G : Mem} (hI : StI G 4) (hp : PastI G) {f : Int} (h_f : -2147483648 ≤ f ∧ f < 2147483648) (hlv : 0 ≤ G 4 9 ∧ G 4 9 ≤ 100000) (hyy : G 4 10 + 20 ≤ 1000000) : Ctr g yX3_passYears cX3_passYears 2 (some FieldType.int) (rmL 6 1 6) [vR g 0, vI f] G (ChQ G 4 f 0) (ChX G 4 f 0) := by
  refine ctr_of [some (vR g 0), some (vI f)] (by decide) (Nat.le_of_ble_eq_true rfl) rfl (fun γ E => ?_)
  show V γ g cX3_passYears 2 RX3 (rmL 6 1 6) G 0 0 0 [some (vR g 0), some (vI f)] []
  have hn := StI_n hI
  have hc := StI_c hI
  have hy := StI_y hI
  refine v_aload_n (pc := 0) rfl dX3_passYears_0 ?_
  refine v_iconst (pc := 1) (z := 4) dX3_passYears_1 ?_
  refine v_iload_n (pc := 2) rfl dX3_passYears_2 ?_
  refine v_iconst (pc := 3) (z := 0) dX3_passYears_3 ?_
  refine v_callV (pc := 4) (rest := []) (c_X3_change hI hp (v := 4) (f := f) (s := 0) (by decide) h_f (by decide) hlv hyy) iok_X3_change wM_X3_54 (rfl) (by decide) (by decide) rfl (rmOk (by decide) (by decide)) ⟨Nat.le_of_ble_eq_true rfl, Nat.le_of_ble_eq_true rfl⟩ (Nat.le_of_ble_eq_true rfl) rfl dX3_passYears_4 (fun v G' hq => ?_) (fun e G' hx => vx_pass E hx (Nat.le_of_ble_eq_true rfl) (Nat.le_of_ble_eq_true rfl))
  obtain ⟨hok, G1, G2, r, hF, hrem, hpf, rfl⟩ := hq
  refine v_stk (st' := [vI r]) rfl ?_
  exact v_iret (pc := 7) E (⟨hok, G1, G2, r, hF, hrem, hpf, rfl⟩) (Nat.le_of_ble_eq_true rfl) (Nat.le_of_ble_eq_true rfl) dX3_passYears_7
set_option maxHeartbeats 4000000 in
set_option maxRecDepth 100000 in
theorem c_X3_recall {g : GT} {G : Mem} (hI : StI G 4) (hp : PastI G) {f : Int} (h_f : -2147483648 ≤ f ∧ f < 2147483648) (hlv : 0 ≤ G 4 9 ∧ G 4 9 ≤ 100000) (hyy : G 4 10 + 20 ≤ 1000000) : Ctr g yX3_recall cX3_recall 2 (some FieldType.int) (rmL 6 1 6) [vR g 0, vI f] G (ChQ G 5 f 0) (ChX G 5 f 0) := by
  refine ctr_of [some (vR g 0), some (vI f)] (by decide) (Nat.le_of_ble_eq_true rfl) rfl (fun γ E => ?_)
  show V γ g cX3_recall 2 RX3 (rmL 6 1 6) G 0 0 0 [some (vR g 0), some (vI f)] []
  have hn := StI_n hI
  have hc := StI_c hI
  have hy := StI_y hI
  refine v_aload_n (pc := 0) rfl dX3_recall_0 ?_
  refine v_iconst (pc := 1) (z := 5) dX3_recall_1 ?_
  refine v_iload_n (pc := 2) rfl dX3_recall_2 ?_
  refine v_iconst (pc := 3) (z := 0) dX3_recall_3 ?_
  refine v_callV (pc := 4) (rest := []) (c_X3_change hI hp (v := 5) (f := f) (s := 0) (by decide) h_f (by decide) hlv hyy) iok_X3_change wM_X3_54 (rfl) (by decide) (by decide) rfl (rmOk (by decide) (by decide)) ⟨Nat.le_of_ble_eq_true rfl, Nat.le_of_ble_eq_true rfl⟩ (Nat.le_of_ble_eq_true rfl) rfl dX3_recall_4 (fun v G' hq => ?_) (fun e G' hx => vx_pass E hx (Nat.le_of_ble_eq_true rfl) (Nat.le_of_ble_eq_true rfl))
  obtain ⟨hok, G1, G2, r, hF, hrem, hpf, rfl⟩ := hq
  refine v_stk (st' := [vI r]) rfl ?_
  exact v_iret (pc := 7) E (⟨hok, G1, G2, r, hF, hrem, hpf, rfl⟩) (Nat.le_of_ble_eq_true rfl) (Nat.le_of_ble_eq_true rfl) dX3_recall_7
set_option maxHeartbeats 4000000 in
set_option maxRecDepth 100000 in
theorem c_X3_pay {g : GT} {G : Mem} (hI : StI G 4) (hp : PastI G) {f : Int} (h_f : -2147483648 ≤ f ∧ f < 2147483648) (hlv : 0 ≤ G 4 9 ∧ G 4 9 ≤ 100000) (hyy : G 4 10 + 20 ≤ 1000000) : Ctr g yX3_pay cX3_pay 2 (some FieldType.int) (rmL 6 1 6) [vR g 0, vI f] G (ChQ G 6 f 0) (ChX G 6 f 0) := by
  refine ctr_of [some (vR g 0), some (vI f)] (by decide) (Nat.le_of_ble_eq_true rfl) rfl (fun γ E => ?_)
  show V γ g cX3_pay 2 RX3 (rmL 6 1 6) G 0 0 0 [some (vR g 0), some (vI f)] []
  have hn := StI_n hI
  have hc := StI_c hI
  have hy := StI_y hI
  refine v_aload_n (pc := 0) rfl dX3_pay_0 ?_
  refine v_bipush (pc := 1) (z := 6) rfl dX3_pay_1 ?_
  refine v_iload_n (pc := 3) rfl dX3_pay_3 ?_
  refine v_iconst (pc := 4) (z := 0) dX3_pay_4 ?_
  refine v_callV (pc := 5) (rest := []) (c_X3_change hI hp (v := 6) (f := f) (s := 0) (by decide) h_f (by decide) hlv hyy) iok_X3_change wM_X3_54 (rfl) (by decide) (by decide) rfl (rmOk (by decide) (by decide)) ⟨Nat.le_of_ble_eq_true rfl, Nat.le_of_ble_eq_true rfl⟩ (Nat.le_of_ble_eq_true rfl) rfl dX3_pay_5 (fun v G' hq => ?_) (fun e G' hx => vx_pass E hx (Nat.le_of_ble_eq_true rfl) (Nat.le_of_ble_eq_true rfl))
  obtain ⟨hok, G1, G2, r, hF, hrem, hpf, rfl⟩ := hq
  refine v_stk (st' := [vI r]) rfl ?_
  exact v_iret (pc := 8) E (⟨hok, G1, G2, r, hF, hrem, hpf, rfl⟩) (Nat.le_of_ble_eq_true rfl) (Nat.le_of_ble_eq_true rfl) dX3_pay_8
set_option maxHeartbeats 4000000 in
set_option maxRecDepth 100000 in
theorem c_X3_requireValue {g : GT} {G : Mem} (hI : StI G 4) {x : Int} (h_x : -2147483648 ≤ x ∧ x < 2147483648) : Ctr g yX3_requireValue cX3_requireValue 3 (some FieldType.int) (rmL 1 1 6) [vR g 0, vI x] G (fun v G' => ∃ d, v = some (vI d) ∧ G' = G ∧ (0 ≤ d ∧ d < G 4 0) ∧ G 5 d = x) (fun e G' => e = eNE ∧ G' = G ∧ ∀ i, 0 ≤ i → i < G 4 0 → G 5 i ≠ x) := by
  refine ctr_of [some (vR g 0), some (vI x), none] (by decide) (Nat.le_of_ble_eq_true rfl) rfl (fun γ E => ?_)
  show V γ g cX3_requireValue 3 RX3 (rmL 1 1 6) G 0 0 0 [some (vR g 0), some (vI x), none] []
  have hn := StI_n hI
  have hc := StI_c hI
  have hy := StI_y hI
  refine v_aload_n (pc := 0) rfl dX3_requireValue_0 ?_
  refine v_getR (pc := 1) (j := 4) fd_X3_10 (rfl) (by decide) rfl dX3_requireValue_1 ?_
  refine v_iload_n (pc := 4) rfl dX3_requireValue_4 ?_
  refine v_callVN (pc := 5) (rest := []) (c_X2_dieWithValue isS4 hI h_x) iok_X2_dieWithValue wM_X3_350 (rfl) (by decide) (by decide) rfl (rmOk (by decide) (by decide)) ⟨Nat.le_of_ble_eq_true rfl, Nat.le_of_ble_eq_true rfl⟩ (Nat.le_of_ble_eq_true rfl) rfl dX3_requireValue_5 (fun v G' hq => ?_) (fun _ _ h => h.elim)
  obtain ⟨d, rfl, hq⟩ := hq
  refine v_stk (st' := [vI d]) rfl ?_
  obtain ⟨hG9, hd⟩ := hq
  rw [hG9]
  have hdd : (d = -1 ∧ ∀ i, 0 ≤ i → i < G 4 0 → G 5 i ≠ x) ∨ (0 ≤ d ∧ d < G 4 0 ∧ G 5 d = x) := by
    rcases hd with q | q
    · exact Or.inl q
    · exact Or.inr ⟨q.1, q.2.1, q.2.2.1⟩
  refine v_istore_n (pc := 8) (by decide) rfl dX3_requireValue_8 ?_
  refine v_iload_n (pc := 9) rfl dX3_requireValue_9 ?_
  refine v_iconst (pc := 10) (z := (-1)) dX3_requireValue_10 ?_
  refine v_icmp_ne (pc := 11) (tgt := 25) (by omega) dX3_requireValue_11 (by decide) (fun h1 => ?_) (fun h1 => ?_)
  · skip
    refine v_iload_n (pc := 25) rfl dX3_requireValue_25 ?_
    exact v_iret (pc := 26) E (⟨_, rfl, rfl, by omega, by rcases hdd with q | q; omega; exact q.2.2⟩) (Nat.le_of_ble_eq_true rfl) (Nat.le_of_ble_eq_true rfl) dX3_requireValue_26
  · skip
    exact v_throwNW (pc := 14) (text := "no die has this value")  (by decide) E (⟨rfl, rfl, by rcases hdd with q | q; exact q.2; omega⟩) dX3_requireValue_14 dX3_requireValue_17 dX3_requireValue_18 dX3_requireValue_21 dX3_requireValue_24 (Nat.le_of_ble_eq_true rfl) (Nat.le_of_ble_eq_true rfl) (Nat.le_of_ble_eq_true rfl) (Nat.le_of_ble_eq_true rfl) (Nat.le_of_ble_eq_true rfl)
set_option maxHeartbeats 4000000 in
set_option maxRecDepth 100000 in
theorem c_X3_requirePayable {g : GT} {G : Mem} {r : Int} (h_r : -2147483648 ≤ r ∧ r < 2147483648) : Ctr g yX3_requirePayable cX3_requirePayable 1 (some FieldType.int) (rmL 0 1 6) [vI r] G (fun v G' => v = some (vI r) ∧ G' = G ∧ r ≠ 1000) (fun e G' => e = eNE ∧ G' = G ∧ r = 1000) := by
  refine ctr_of [some (vI r)] (by decide) (Nat.le_of_ble_eq_true rfl) rfl (fun γ E => ?_)
  show V γ g cX3_requirePayable 1 RX3 (rmL 0 1 6) G 0 0 0 [some (vI r)] []
  refine v_iload_n (pc := 0) rfl dX3_requirePayable_0 ?_
  refine v_sipush (pc := 1) (z := 1000) rfl dX3_requirePayable_1 ?_
  refine v_icmp_ne (pc := 4) (tgt := 17) (by omega) dX3_requirePayable_4 (by decide) (fun h1 => ?_) (fun h1 => ?_)
  · skip
    refine v_iload_n (pc := 17) rfl dX3_requirePayable_17 ?_
    exact v_iret (pc := 18) E (⟨rfl, rfl, by assumption⟩) (Nat.le_of_ble_eq_true rfl) (Nat.le_of_ble_eq_true rfl) dX3_requirePayable_18
  · skip
    exact v_throwN (pc := 7) (text := "the amount cannot be paid")  (by decide) E (⟨rfl, rfl, by assumption⟩) dX3_requirePayable_7 dX3_requirePayable_10 dX3_requirePayable_11 dX3_requirePayable_13 dX3_requirePayable_16 (Nat.le_of_ble_eq_true rfl) (Nat.le_of_ble_eq_true rfl) (Nat.le_of_ble_eq_true rfl) (Nat.le_of_ble_eq_true rfl) (Nat.le_of_ble_eq_true rfl)
set_option maxHeartbeats 4000000 in
set_option maxRecDepth 100000 in
theorem c_X3_errorPosition {g : GT} {G : Mem} (h9 : -1 ≤ G 0 9 ∧ G 0 9 ≤ 1000) : Ctr g yX3_errorPosition cX3_errorPosition 1 (some FieldType.int) (rmL 0 1 6) [vR g 0] G (fun v G' => v = some (vI (G 0 9)) ∧ G' = G ∧ G 0 9 ≠ -1) (fun e G' => e = eNE ∧ G' = G ∧ G 0 9 = -1) := by
  refine ctr_of [some (vR g 0)] (by decide) (Nat.le_of_ble_eq_true rfl) rfl (fun γ E => ?_)
  show V γ g cX3_errorPosition 1 RX3 (rmL 0 1 6) G 0 0 0 [some (vR g 0)] []
  refine v_aload_n (pc := 0) rfl dX3_errorPosition_0 ?_
  refine v_get (pc := 1) 9 fd_X3_47 (rfl) (by decide) rfl rfl dX3_errorPosition_1 ?_
  refine v_iconst (pc := 4) (z := (-1)) dX3_errorPosition_4 ?_
  refine v_icmp_ne (pc := 5) (tgt := 19) (by omega) dX3_errorPosition_5 (by decide) (fun h1 => ?_) (fun h1 => ?_)
  · skip
    refine v_aload_n (pc := 19) rfl dX3_errorPosition_19 ?_
    refine v_get (pc := 20) 9 fd_X3_47 (rfl) (by decide) rfl rfl dX3_errorPosition_20 ?_
    exact v_iret (pc := 23) E (⟨rfl, rfl, by assumption⟩) (Nat.le_of_ble_eq_true rfl) (Nat.le_of_ble_eq_true rfl) dX3_errorPosition_23
  · skip
    exact v_throwNW (pc := 8) (text := "no script without the required form")  (by decide) E (⟨rfl, rfl, by assumption⟩) dX3_errorPosition_8 dX3_errorPosition_11 dX3_errorPosition_12 dX3_errorPosition_15 dX3_errorPosition_18 (Nat.le_of_ble_eq_true rfl) (Nat.le_of_ble_eq_true rfl) (Nat.le_of_ble_eq_true rfl) (Nat.le_of_ble_eq_true rfl) (Nat.le_of_ble_eq_true rfl)
set_option maxHeartbeats 4000000 in
set_option maxRecDepth 100000 in
theorem c_X3_failedCommand {g : GT} {G : Mem} (h9 : -1 ≤ G 0 10 ∧ G 0 10 ≤ 1000) : Ctr g yX3_failedCommand cX3_failedCommand 1 (some FieldType.int) (rmL 0 1 6) [vR g 0] G (fun v G' => v = some (vI (G 0 10)) ∧ G' = G ∧ G 0 10 ≠ -1) (fun e G' => e = eNE ∧ G' = G ∧ G 0 10 = -1) := by
  refine ctr_of [some (vR g 0)] (by decide) (Nat.le_of_ble_eq_true rfl) rfl (fun γ E => ?_)
  show V γ g cX3_failedCommand 1 RX3 (rmL 0 1 6) G 0 0 0 [some (vR g 0)] []
  refine v_aload_n (pc := 0) rfl dX3_failedCommand_0 ?_
  refine v_get (pc := 1) 10 fd_X3_51 (rfl) (by decide) rfl rfl dX3_failedCommand_1 ?_
  refine v_iconst (pc := 4) (z := (-1)) dX3_failedCommand_4 ?_
  refine v_icmp_ne (pc := 5) (tgt := 19) (by omega) dX3_failedCommand_5 (by decide) (fun h1 => ?_) (fun h1 => ?_)
  · skip
    refine v_aload_n (pc := 19) rfl dX3_failedCommand_19 ?_
    refine v_get (pc := 20) 10 fd_X3_51 (rfl) (by decide) rfl rfl dX3_failedCommand_20 ?_
    exact v_iret (pc := 23) E (⟨rfl, rfl, by assumption⟩) (Nat.le_of_ble_eq_true rfl) (Nat.le_of_ble_eq_true rfl) dX3_failedCommand_23
  · skip
    exact v_throwNW (pc := 8) (text := "no script with a failed command")  (by decide) E (⟨rfl, rfl, by assumption⟩) dX3_failedCommand_8 dX3_failedCommand_11 dX3_failedCommand_12 dX3_failedCommand_15 dX3_failedCommand_18 (Nat.le_of_ble_eq_true rfl) (Nat.le_of_ble_eq_true rfl) (Nat.le_of_ble_eq_true rfl) (Nat.le_of_ble_eq_true rfl) (Nat.le_of_ble_eq_true rfl)
set_option maxHeartbeats 4000000 in
set_option maxRecDepth 100000 in
theorem c_X3_dieByWear {g : GT} {G : Mem} (hI : StI G 4) {x : Int} (h_x : -2147483648 ≤ x ∧ x < 2147483648) : Ctr g yX3_dieByWear cX3_dieByWear 3 (some FieldType.int) (rmL 1 1 6) [vR g 0, vI x] G (fun v G' => ∃ d, v = some (vI d) ∧ G' = G ∧ (0 ≤ d ∧ d < G 4 0) ∧ ahd (G 4 0) (G 7) (G 5) d = x ∧ ∀ e, 0 ≤ e → e < d → ahd (G 4 0) (G 7) (G 5) e ≠ x) (fun e G' => e = eNE ∧ G' = G ∧ ∀ d, 0 ≤ d → d < G 4 0 → ahd (G 4 0) (G 7) (G 5) d ≠ x) := by
  refine ctr_of [some (vR g 0), some (vI x), none] (by decide) (Nat.le_of_ble_eq_true rfl) rfl (fun γ E => ?_)
  show V γ g cX3_dieByWear 3 RX3 (rmL 1 1 6) G 0 0 0 [some (vR g 0), some (vI x), none] []
  have hn := StI_n hI
  have hc := StI_c hI
  have hy := StI_y hI
  refine v_iconst (pc := 0) (z := 0) dX3_dieByWear_0 ?_
  refine v_istore_n (pc := 1) (by decide) rfl dX3_dieByWear_1 ?_
  have lp2 : ∀ (m2 : Nat) (i : Int), (0 ≤ i ∧ i ≤ G 4 0) → (∀ e, 0 ≤ e → e < i → ahd (G 4 0) (G 7) (G 5) e ≠ x) → ((G 4 0 - i).toNat) < m2 → V γ g cX3_dieByWear 3 RX3 (rmL 1 1 6) G 0 0 2 [some (vR g 0), some (vI x), some (vI i)] [] := by
    intro m2
    induction m2 with
    | zero => intro i; intros; omega
    | succ m2 ih2 =>
      intro i h0 hf hm2
      refine v_iload_n (pc := 2) rfl dX3_dieByWear_2 ?_
      refine v_aload_n (pc := 3) rfl dX3_dieByWear_3 ?_
      refine v_getR (pc := 4) (j := 4) fd_X3_10 (rfl) (by decide) rfl dX3_dieByWear_4 ?_
      refine v_get (pc := 7) 0 fd_X3_58 (rfl) (by decide) rfl rfl dX3_dieByWear_7 ?_
      refine v_icmp_ge (pc := 10) (tgt := 33) (by omega) dX3_dieByWear_10 (by decide) (fun h1 => ?_) (fun h1 => ?_)
      · skip
        exact v_throwN (pc := 33) (text := "no such rank")  (by decide) E (⟨rfl, rfl, fun d a b => hf d a (by omega)⟩) dX3_dieByWear_33 dX3_dieByWear_36 dX3_dieByWear_37 dX3_dieByWear_39 dX3_dieByWear_42 (Nat.le_of_ble_eq_true rfl) (Nat.le_of_ble_eq_true rfl) (Nat.le_of_ble_eq_true rfl) (Nat.le_of_ble_eq_true rfl) (Nat.le_of_ble_eq_true rfl)
      · skip
        refine v_aload_n (pc := 13) rfl dX3_dieByWear_13 ?_
        refine v_getR (pc := 14) (j := 4) fd_X3_10 (rfl) (by decide) rfl dX3_dieByWear_14 ?_
        refine v_iload_n (pc := 17) rfl dX3_dieByWear_17 ?_
        refine v_callVN (pc := 18) (rest := []) (c_X2_diesWornMoreThan isS4 hI (d := i) (by omega)) iok_X2_diesWornMoreThan wM_X3_86 (rfl) (by decide) (by decide) rfl (rmOk (by decide) (by decide)) ⟨Nat.le_of_ble_eq_true rfl, Nat.le_of_ble_eq_true rfl⟩ (Nat.le_of_ble_eq_true rfl) rfl dX3_dieByWear_18 (fun v G' hq => ?_) (fun _ _ h => h.elim)
        obtain ⟨rfl, hG9⟩ := hq
        rw [hG9]
        obtain ⟨ah, h_ah⟩ : ∃ w9, w9 = (ahd (G 4 0) (G 7) (G 5) i) := ⟨_, rfl⟩
        refine v_stk (st' := [vI ah]) (by rw [h_ah]; rfl) ?_
        have hahr : 0 ≤ ah ∧ ah ≤ G 4 0 := by
          rw [h_ah]
          exact sz_cnt (fun k => instDecidableOr) (by omega)
        refine v_iload_n (pc := 21) rfl dX3_dieByWear_21 ?_
        refine v_icmp_ne (pc := 22) (tgt := 27) (by omega) dX3_dieByWear_22 (by decide) (fun h2 => ?_) (fun h2 => ?_)
        · skip
          refine v_iinc (pc := 27) (y := 1) rfl (by decide) rfl dX3_dieByWear_27 ?_
          refine v_goto (pc := 30) (tgt := 2) dX3_dieByWear_30 (by decide) ?_
          exact ih2 (i + 1) (by omega) (fun e a b => by
            by_cases q : e = i
            · rw [q, ← h_ah]; assumption
            · exact hf e a (by omega)) (by omega)
        · skip
          refine v_iload_n (pc := 25) rfl dX3_dieByWear_25 ?_
          exact v_iret (pc := 26) E (⟨_, rfl, rfl, by omega, by rw [← h_ah]; assumption, hf⟩) (Nat.le_of_ble_eq_true rfl) (Nat.le_of_ble_eq_true rfl) dX3_dieByWear_26
  refine v_loc (L' := [some (vR g 0), some (vI x), some (vI 0)]) (⟨rfl, rfl, rfl, trivial⟩) ?_
  exact lp2 _ 0 (by omega) (fun e a b => absurd b (by omega)) (Nat.lt_succ_self _)
