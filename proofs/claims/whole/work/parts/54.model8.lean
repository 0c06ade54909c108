-- the model's seven changes, whole
def FltM (M : Int → Int) (v f s q : Int) : Prop :=
  if v = 0 then FltDie (M 0) (fun i => M (9 + 3 * i)) f s q else if v = 1 then FltSh (M 0) (fun i => M (9 + 3 * i + 2)) f q else if v = 2 then FltLf (M 1) f q
  else if v = 3 then FltSt (M 0) (M 3) (M 1) (fun i => M (9 + 3 * i + 1)) (fun i => M (9 + 3 * i + 2)) f s q else if v = 4 then FltYr f q else if v = 5 then FltMl (M 2) (M 3) (fun k => M (24 + 3 * k + 1)) f q else FltPy M f q
def PmM (M M' : Int → Int) (v f s r : Int) : Prop :=
  if v = 0 then PmDie M M' f s r else if v = 1 then PmSh M M' f r else if v = 2 then PmLf M M' f r
  else if v = 3 then PmSt M M' f s r else if v = 4 then PmYr M M' f r else if v = 5 then PmMl M M' f r else PmPy M M' f r
theorem FltM_r {M : Int → Int} {v f s q : Int} (h : FltM M v f s q) : 0 ≤ q ∧ q ≤ 5 := by
  unfold FltM FltDie FltSh FltLf FltSt FltYr FltMl FltPy at h
  split at h
  · rcases h with q | ⟨_, q | ⟨_, q | q⟩⟩ <;> omega
  split at h
  · rcases h with q | ⟨_, q | q⟩ <;> omega
  split at h
  · rcases h with q | ⟨_, q | q⟩ <;> omega
  split at h
  · rcases h with q | ⟨_, q | ⟨_, q | ⟨_, q | q⟩⟩⟩ <;> omega
  split at h
  · rcases h with q | q <;> omega
  split at h
  · rcases h with q | ⟨_, q | q⟩ <;> omega
  · rcases h with q | ⟨_, β, _, q | q⟩ <;> omega
theorem kOf_0 {v q : Int} (h : 0 ≤ q) : 0 ≤ kOf v q ∧ (kOf v q = 0 ↔ q = 0) := by
  unfold kOf
  repeat (first | omega | split)
theorem kOf_r {v q : Int} (h : 0 ≤ q ∧ q ≤ 5) : 0 ≤ kOf v q ∧ kOf v q ≤ 5 := by
  unfold kOf
  repeat (first | omega | split)
/-- a command was carried out, or not: with the fault q -/
def ItM (G G' : Mem) (v f s r q : Int) : Prop := FltM (G 107) v f s q ∧ EndM G G' v q (MoI (G' 107) ∧ PmM (G 107) (G' 107) v f s r)
/-- a change of the model -/
def ChM (G G' : Mem) (v f s r : Int) : Prop := ∃ q, FltM (G 107) v f s q ∧ G' 106 8 = kOf v q ∧ (∀ i z, i ≠ 107 → i ≠ 108 → i ≠ 110 → ¬ (112 ≤ i ∧ i ≤ 114) → ¬ (i = 106 ∧ (z = 5 ∨ z = 8)) → G' i z = G i z) ∧
  ((q ≠ 0 ∧ G' 107 = G 107 ∧ G' 106 5 = G 106 5 ∧ G' 110 = G 110) ∨ (q = 0 ∧ MoI (G' 107) ∧ PmM (G 107) (G' 107) v f s r ∧ ∃ c sh : Int, ((G 106 5 < 8 ∧ c = G 106 5 ∧ sh = 0) ∨ (G 106 5 = 8 ∧ c = 7 ∧ sh = 144)) ∧ G' 106 5 = c + 1 ∧ (∀ z, 0 ≤ z → z < 144 * c → G' 110 z = G 110 (z + sh)) ∧ ∀ k, 0 ≤ k → k < 144 → G' 110 (144 * c + k) = G 107 k))
theorem ChM_of {G Ga Gb G' : Mem} {v f s r q : Int} (hst : Ga 106 8 = 0 ∧ (∀ k, 0 ≤ k → k < 144 → Ga 108 k = G 107 k) ∧ ∀ i z, i ≠ 108 → ¬ (i = 106 ∧ z = 8) → Ga i z = G i z)
    (hit : ItM Ga Gb v f s r q) (hc : (0 < Gb 106 8 ∧ G' = Gb) ∨ (Gb 106 8 = 0 ∧ MRem Gb G')) : ChM G G' v f s r := by
  obtain ⟨a1, a2, a3⟩ := hst
  obtain ⟨hf, hb1, hb2, hb3⟩ := hit
  have e7 : Ga 107 = G 107 := funext fun z => a3 107 z (by decide) (by omega)
  rw [e7] at hf
  have hr := FltM_r hf
  have hk := kOf_0 (v := v) hr.1
  refine ⟨q, hf, ?_, ?_, ?_⟩
  · rcases hc with ⟨c1, rfl⟩ | ⟨c1, c, sh, d1, d2, d3, d4, d5⟩
    · exact hb1
    · rw [d5 106 8 (by decide) (by decide)]; exact hb1
  · intro i z h1 h2 h3 h4 h5
    rcases hc with ⟨c1, rfl⟩ | ⟨c1, c, sh, d1, d2, d3, d4, d5⟩
    · exact (hb2 i z h1 h4 (by omega)).trans (a3 i z h2 (by omega))
    · exact (d5 i z h3 (by omega)).trans ((hb2 i z h1 h4 (by omega)).trans (a3 i z h2 (by omega)))
  · rcases hb3 with ⟨p1, p2⟩ | ⟨p1, p2, p3⟩
    · rcases hc with ⟨c1, rfl⟩ | ⟨c1, c⟩
      · refine Or.inl ⟨p1, p2.trans e7, (hb2 106 5 (by decide) (by decide) (by decide)).trans (a3 106 5 (by decide) (by decide)), funext fun z => (hb2 110 z (by decide) (by decide) (by omega)).trans (a3 110 z (by decide) (by omega))⟩
      · exact absurd (hk.2.mp (hb1.symm.trans c1)) p1
    · rcases hc with ⟨c1, rfl⟩ | ⟨c1, c, sh, d1, d2, d3, d4, d5⟩
      · rw [hb1, hk.2.mpr p1] at c1
        exact absurd c1 (by decide)
      · have f7 : G' 107 = Gb 107 := funext fun z => d5 107 z (by decide) (by omega)
        have f5 : Gb 106 5 = G 106 5 := (hb2 106 5 (by decide) (by decide) (by decide)).trans (a3 106 5 (by decide) (by decide))
        have f10 : ∀ z, Gb 110 z = G 110 z := fun z => (hb2 110 z (by decide) (by decide) (by omega)).trans (a3 110 z (by decide) (by omega))
        have f8 : ∀ k, 0 ≤ k → k < 144 → Gb 108 k = G 107 k := fun k k0 k1 => (hb2 108 k (by decide) (by decide) (by omega)).trans (a2 k k0 k1)
        rw [f5] at d1
        refine Or.inr ⟨p1, by rw [f7]; exact p2, by rw [f7, ← e7]; exact p3, c, sh, d1, d2, fun z z0 z1 => (d3 z z0 z1).trans (f10 _), fun k k0 k1 => (d4 k k0 k1).trans (f8 k k0 k1)⟩

set_option maxHeartbeats 4000000 in
set_option maxRecDepth 100000 in
theorem c_X4_addDie {g : GT} {G : Mem} (hM : MoI (G 107)) (h5 : 0 ≤ G 106 5 ∧ G 106 5 ≤ 8) {f : Int} (h_f : -2147483648 ≤ f ∧ f < 2147483648) {s : Int} (h_s : -2147483648 ≤ s ∧ s < 2147483648) : Ctr g yX4_addDie cX4_addDie 3 (some FieldType.int) (rmL 6 0 0) [vR g 106, vI f, vI s] G (RP (fun r G' => ChM G G' 0 f s r)) NoX := by
  refine ctr_of [some (vR g 106), some (vI f), some (vI s)] (by decide) (Nat.le_of_ble_eq_true rfl) rfl (fun γ E => ?_)
  show V γ g cX4_addDie 3 RX4 (rmL 6 0 0) G 0 0 0 [some (vR g 106), some (vI f), some (vI s)] []
  have hn := MoI_n hM
  have hc := MoI_c hM
  have hy := MoI_y hM
  refine v_aload_n (pc := 0) rfl dX4_addDie_0 ?_
  refine v_callV (pc := 1) (rest := []) (c_X4_starts) iok_X4_starts wM_X4_87 (rfl) (by decide) (by decide) rfl (rmOk (by decide) (by decide)) ⟨Nat.le_of_ble_eq_true rfl, Nat.le_of_ble_eq_true rfl⟩ (Nat.le_of_ble_eq_true rfl) rfl dX4_addDie_1 (fun v Ga hq => ?_) (fun _ _ h => h.elim)
  obtain ⟨rfl, hst⟩ := hq
  refine v_stk (st' := []) rfl ?_
  have e7 : Ga 107 = G 107 := funext fun z => hst.2.2 107 z (by decide) (by omega)
  have hMa : MoI (Ga 107) := by rw [e7]; exact hM
  refine v_aload_n (pc := 4) rfl dX4_addDie_4 ?_
  refine v_aload_n (pc := 5) rfl dX4_addDie_5 ?_
  refine v_iload_n (pc := 6) rfl dX4_addDie_6 ?_
  refine v_iload_n (pc := 7) rfl dX4_addDie_7 ?_
  refine v_callV (pc := 8) (rest := [vR g 106]) (c_X4_dieIt (G := Ga) hMa hst.1  h_f h_s) iok_X4_dieIt wM_X4_90 (rfl) (by decide) (by decide) rfl (rmOk (by decide) (by decide)) ⟨Nat.le_of_ble_eq_true rfl, Nat.le_of_ble_eq_true rfl⟩ (Nat.le_of_ble_eq_true rfl) rfl dX4_addDie_8 (fun v Gb hq => ?_) (fun _ _ h => h.elim)
  obtain ⟨w, rfl, hit⟩ := hq
  refine v_stk (st' := [vI w, vR g 106]) rfl ?_
  obtain ⟨q, hf, he⟩ := hit
  have hit : ItM Ga Gb 0 f s w q := ⟨hf, he⟩
  have hqr := FltM_r hit.1
  have h8b : 0 ≤ Gb 106 8 ∧ Gb 106 8 ≤ 5 := by rw [he.1]; exact kOf_r hqr
  have h5b : 0 ≤ Gb 106 5 ∧ Gb 106 5 ≤ 8 := by rw [he.2.1 106 5 (by decide) (by decide) (by decide), hst.2.2 106 5 (by decide) (by decide)]; exact h5
  refine v_callV (pc := 11) (rest := []) (c_X4_changed (G := Gb) (t := w) h8b h5b) iok_X4_changed wM_X4_93 (rfl) (by decide) (by decide) rfl (rmOk (by decide) (by decide)) ⟨Nat.le_of_ble_eq_true rfl, Nat.le_of_ble_eq_true rfl⟩ (Nat.le_of_ble_eq_true rfl) rfl dX4_addDie_11 (fun v G9 hq => ?_) (fun _ _ h => h.elim)
  obtain ⟨u, rfl, hch⟩ := hq
  refine v_stk (st' := [vI u]) rfl ?_
  exact v_iret (pc := 14) E (⟨_, rfl, by rw [hch.1]; exact ChM_of hst hit hch.2⟩) (Nat.le_of_ble_eq_true rfl) (Nat.le_of_ble_eq_true rfl) dX4_addDie_14
set_option maxHeartbeats 4000000 in
set_option maxRecDepth 100000 in
theorem c_X4_sharpen {g : GT} {G : Mem} (hM : MoI (G 107)) (h5 : 0 ≤ G 106 5 ∧ G 106 5 ≤ 8) {f : Int} (h_f : -2147483648 ≤ f ∧ f < 2147483648) : Ctr g yX4_sharpen cX4_sharpen 2 (some FieldType.int) (rmL 6 0 0) [vR g 106, vI f] G (RP (fun r G' => ChM G G' 1 f 0 r)) NoX := by
  refine ctr_of [some (vR g 106), some (vI f)] (by decide) (Nat.le_of_ble_eq_true rfl) rfl (fun γ E => ?_)
  show V γ g cX4_sharpen 2 RX4 (rmL 6 0 0) G 0 0 0 [some (vR g 106), some (vI f)] []
  have hn := MoI_n hM
  have hc := MoI_c hM
  have hy := MoI_y hM
  refine v_aload_n (pc := 0) rfl dX4_sharpen_0 ?_
  refine v_callV (pc := 1) (rest := []) (c_X4_starts) iok_X4_starts wM_X4_87 (rfl) (by decide) (by decide) rfl (rmOk (by decide) (by decide)) ⟨Nat.le_of_ble_eq_true rfl, Nat.le_of_ble_eq_true rfl⟩ (Nat.le_of_ble_eq_true rfl) rfl dX4_sharpen_1 (fun v Ga hq => ?_) (fun _ _ h => h.elim)
  obtain ⟨rfl, hst⟩ := hq
  refine v_stk (st' := []) rfl ?_
  have e7 : Ga 107 = G 107 := funext fun z => hst.2.2 107 z (by decide) (by omega)
  have hMa : MoI (Ga 107) := by rw [e7]; exact hM
  refine v_aload_n (pc := 4) rfl dX4_sharpen_4 ?_
  refine v_aload_n (pc := 5) rfl dX4_sharpen_5 ?_
  refine v_iload_n (pc := 6) rfl dX4_sharpen_6 ?_
  refine v_callV (pc := 7) (rest := [vR g 106]) (c_X4_sharpenIt (G := Ga) hMa hst.1  h_f) iok_X4_sharpenIt wM_X4_100 (rfl) (by decide) (by decide) rfl (rmOk (by decide) (by decide)) ⟨Nat.le_of_ble_eq_true rfl, Nat.le_of_ble_eq_true rfl⟩ (Nat.le_of_ble_eq_true rfl) rfl dX4_sharpen_7 (fun v Gb hq => ?_) (fun _ _ h => h.elim)
  obtain ⟨w, rfl, hit⟩ := hq
  refine v_stk (st' := [vI w, vR g 106]) rfl ?_
  obtain ⟨q, hf, he⟩ := hit
  have hit : ItM Ga Gb 1 f 0 w q := ⟨hf, he⟩
  have hqr := FltM_r hit.1
  have h8b : 0 ≤ Gb 106 8 ∧ Gb 106 8 ≤ 5 := by rw [he.1]; exact kOf_r hqr
  have h5b : 0 ≤ Gb 106 5 ∧ Gb 106 5 ≤ 8 := by rw [he.2.1 106 5 (by decide) (by decide) (by decide), hst.2.2 106 5 (by decide) (by decide)]; exact h5
  refine v_callV (pc := 10) (rest := []) (c_X4_changed (G := Gb) (t := w) h8b h5b) iok_X4_changed wM_X4_93 (rfl) (by decide) (by decide) rfl (rmOk (by decide) (by decide)) ⟨Nat.le_of_ble_eq_true rfl, Nat.le_of_ble_eq_true rfl⟩ (Nat.le_of_ble_eq_true rfl) rfl dX4_sharpen_10 (fun v G9 hq => ?_) (fun _ _ h => h.elim)
  obtain ⟨u, rfl, hch⟩ := hq
  refine v_stk (st' := [vI u]) rfl ?_
  exact v_iret (pc := 13) E (⟨_, rfl, by rw [hch.1]; exact ChM_of hst hit hch.2⟩) (Nat.le_of_ble_eq_true rfl) (Nat.le_of_ble_eq_true rfl) dX4_sharpen_13
set_option maxHeartbeats 4000000 in
set_option maxRecDepth 100000 in
theorem c_X4_addLeaves {g : GT} {G : Mem} (hM : MoI (G 107)) (h5 : 0 ≤ G 106 5 ∧ G 106 5 ≤ 8) (hlv : 0 ≤ G 107 1 ∧ G 107 1 ≤ 100000) {f : Int} (h_f : -2147483648 ≤ f ∧ f < 2147483648) : Ctr g yX4_addLeaves cX4_addLeaves 2 (some FieldType.int) (rmL 6 0 0) [vR g 106, vI f] G (RP (fun r G' => ChM G G' 2 f 0 r)) NoX := by
  refine ctr_of [some (vR g 106), some (vI f)] (by decide) (Nat.le_of_ble_eq_true rfl) rfl (fun γ E => ?_)
  show V γ g cX4_addLeaves 2 RX4 (rmL 6 0 0) G 0 0 0 [some (vR g 106), some (vI f)] []
  have hn := MoI_n hM
  have hc := MoI_c hM
  have hy := MoI_y hM
  refine v_aload_n (pc := 0) rfl dX4_addLeaves_0 ?_
  refine v_callV (pc := 1) (rest := []) (c_X4_starts) iok_X4_starts wM_X4_87 (rfl) (by decide) (by decide) rfl (rmOk (by decide) (by decide)) ⟨Nat.le_of_ble_eq_true rfl, Nat.le_of_ble_eq_true rfl⟩ (Nat.le_of_ble_eq_true rfl) rfl dX4_addLeaves_1 (fun v Ga hq => ?_) (fun _ _ h => h.elim)
  obtain ⟨rfl, hst⟩ := hq
  refine v_stk (st' := []) rfl ?_
  have e7 : Ga 107 = G 107 := funext fun z => hst.2.2 107 z (by decide) (by omega)
  have hMa : MoI (Ga 107) := by rw [e7]; exact hM
  refine v_aload_n (pc := 4) rfl dX4_addLeaves_4 ?_
  refine v_aload_n (pc := 5) rfl dX4_addLeaves_5 ?_
  refine v_iload_n (pc := 6) rfl dX4_addLeaves_6 ?_
  refine v_callV (pc := 7) (rest := [vR g 106]) (c_X4_leafIt (G := Ga) hMa hst.1 (by rw [e7]; exact hlv) h_f) iok_X4_leafIt wM_X4_105 (rfl) (by decide) (by decide) rfl (rmOk (by decide) (by decide)) ⟨Nat.le_of_ble_eq_true rfl, Nat.le_of_ble_eq_true rfl⟩ (Nat.le_of_ble_eq_true rfl) rfl dX4_addLeaves_7 (fun v Gb hq => ?_) (fun _ _ h => h.elim)
  obtain ⟨w, rfl, hit⟩ := hq
  refine v_stk (st' := [vI w, vR g 106]) rfl ?_
  obtain ⟨q, hf, he⟩ := hit
  have hit : ItM Ga Gb 2 f 0 w q := ⟨hf, he⟩
  have hqr := FltM_r hit.1
  have h8b : 0 ≤ Gb 106 8 ∧ Gb 106 8 ≤ 5 := by rw [he.1]; exact kOf_r hqr
  have h5b : 0 ≤ Gb 106 5 ∧ Gb 106 5 ≤ 8 := by rw [he.2.1 106 5 (by decide) (by decide) (by decide), hst.2.2 106 5 (by decide) (by decide)]; exact h5
  refine v_callV (pc := 10) (rest := []) (c_X4_changed (G := Gb) (t := w) h8b h5b) iok_X4_changed wM_X4_93 (rfl) (by decide) (by decide) rfl (rmOk (by decide) (by decide)) ⟨Nat.le_of_ble_eq_true rfl, Nat.le_of_ble_eq_true rfl⟩ (Nat.le_of_ble_eq_true rfl) rfl dX4_addLeaves_10 (fun v G9 hq => ?_) (fun _ _ h => h.elim)
  obtain ⟨u, rfl, hch⟩ := hq
  refine v_stk (st' := [vI u]) rfl ?_
  exact v_iret (pc := 13) E (⟨_, rfl, by rw [hch.1]; exact ChM_of hst hit hch.2⟩) (Nat.le_of_ble_eq_true rfl) (Nat.le_of_ble_eq_true rfl) dX4_addLeaves_13
set_option maxHeartbeats 4000000 in
set_option maxRecDepth 100000 in
theorem c_X4_strike {g : GT} {G : Mem} (hM : MoI (G 107)) (h5 : 0 ≤ G 106 5 ∧ G 106 5 ≤ 8) (hlv : 0 ≤ G 107 1 ∧ G 107 1 ≤ 100000) {f : Int} (h_f : -2147483648 ≤ f ∧ f < 2147483648) {s : Int} (h_s : -2147483648 ≤ s ∧ s < 2147483648) : Ctr g yX4_strike cX4_strike 3 (some FieldType.int) (rmL 6 0 0) [vR g 106, vI f, vI s] G (RP (fun r G' => ChM G G' 3 f s r)) NoX := by
  refine ctr_of [some (vR g 106), some (vI f), some (vI s)] (by decide) (Nat.le_of_ble_eq_true rfl) rfl (fun γ E => ?_)
  show V γ g cX4_strike 3 RX4 (rmL 6 0 0) G 0 0 0 [some (vR g 106), some (vI f), some (vI s)] []
  have hn := MoI_n hM
  have hc := MoI_c hM
  have hy := MoI_y hM
  refine v_aload_n (pc := 0) rfl dX4_strike_0 ?_
  refine v_callV (pc := 1) (rest := []) (c_X4_starts) iok_X4_starts wM_X4_87 (rfl) (by decide) (by decide) rfl (rmOk (by decide) (by decide)) ⟨Nat.le_of_ble_eq_true rfl, Nat.le_of_ble_eq_true rfl⟩ (Nat.le_of_ble_eq_true rfl) rfl dX4_strike_1 (fun v Ga hq => ?_) (fun _ _ h => h.elim)
  obtain ⟨rfl, hst⟩ := hq
  refine v_stk (st' := []) rfl ?_
  have e7 : Ga 107 = G 107 := funext fun z => hst.2.2 107 z (by decide) (by omega)
  have hMa : MoI (Ga 107) := by rw [e7]; exact hM
  refine v_aload_n (pc := 4) rfl dX4_strike_4 ?_
  refine v_aload_n (pc := 5) rfl dX4_strike_5 ?_
  refine v_iload_n (pc := 6) rfl dX4_strike_6 ?_
  refine v_iload_n (pc := 7) rfl dX4_strike_7 ?_
  refine v_callV (pc := 8) (rest := [vR g 106]) (c_X4_strikeIt (G := Ga) hMa hst.1 (by rw [e7]; exact hlv) h_f h_s) iok_X4_strikeIt wM_X4_111 (rfl) (by decide) (by decide) rfl (rmOk (by decide) (by decide)) ⟨Nat.le_of_ble_eq_true rfl, Nat.le_of_ble_eq_true rfl⟩ (Nat.le_of_ble_eq_true rfl) rfl dX4_strike_8 (fun v Gb hq => ?_) (fun _ _ h => h.elim)
  obtain ⟨w, rfl, hit⟩ := hq
  refine v_stk (st' := [vI w, vR g 106]) rfl ?_
  obtain ⟨q, hf, he⟩ := hit
  have hit : ItM Ga Gb 3 f s w q := ⟨hf, he⟩
  have hqr := FltM_r hit.1
  have h8b : 0 ≤ Gb 106 8 ∧ Gb 106 8 ≤ 5 := by rw [he.1]; exact kOf_r hqr
  have h5b : 0 ≤ Gb 106 5 ∧ Gb 106 5 ≤ 8 := by rw [he.2.1 106 5 (by decide) (by decide) (by decide), hst.2.2 106 5 (by decide) (by decide)]; exact h5
  refine v_callV (pc := 11) (rest := []) (c_X4_changed (G := Gb) (t := w) h8b h5b) iok_X4_changed wM_X4_93 (rfl) (by decide) (by decide) rfl (rmOk (by decide) (by decide)) ⟨Nat.le_of_ble_eq_true rfl, Nat.le_of_ble_eq_true rfl⟩ (Nat.le_of_ble_eq_true rfl) rfl dX4_strike_11 (fun v G9 hq => ?_) (fun _ _ h => h.elim)
  obtain ⟨u, rfl, hch⟩ := hq
  refine v_stk (st' := [vI u]) rfl ?_
  exact v_iret (pc := 14) E (⟨_, rfl, by rw [hch.1]; exact ChM_of hst hit hch.2⟩) (Nat.le_of_ble_eq_true rfl) (Nat.le_of_ble_eq_true rfl) dX4_strike_14
set_option maxHeartbeats 4000000 in
set_option maxRecDepth 100000 in
theorem c_X4_passYears {g : GT} {G : Mem} (hM : MoI (G 107)) (h5 : 0 ≤ G 106 5 ∧ G 106 5 ≤ 8) (hyy : G 107 2 + 20 ≤ 1000000) {f : Int} (h_f : -2147483648 ≤ f ∧ f < 2147483648) : Ctr g yX4_passYears cX4_passYears 2 (some FieldType.int) (rmL 6 0 0) [vR g 106, vI f] G (RP (fun r G' => ChM G G' 4 f 0 r)) NoX := by
  refine ctr_of [some (vR g 106), some (vI f)] (by decide) (Nat.le_of_ble_eq_true rfl) rfl (fun γ E => ?_)
  show V γ g cX4_passYears 2 RX4 (rmL 6 0 0) G 0 0 0 [some (vR g 106), some (vI f)] []
  have hn := MoI_n hM
  have hc := MoI_c hM
  have hy := MoI_y hM
  refine v_aload_n (pc := 0) rfl dX4_passYears_0 ?_
  refine v_callV (pc := 1) (rest := []) (c_X4_starts) iok_X4_starts wM_X4_87 (rfl) (by decide) (by decide) rfl (rmOk (by decide) (by decide)) ⟨Nat.le_of_ble_eq_true rfl, Nat.le_of_ble_eq_true rfl⟩ (Nat.le_of_ble_eq_true rfl) rfl dX4_passYears_1 (fun v Ga hq => ?_) (fun _ _ h => h.elim)
  obtain ⟨rfl, hst⟩ := hq
  refine v_stk (st' := []) rfl ?_
  have e7 : Ga 107 = G 107 := funext fun z => hst.2.2 107 z (by decide) (by omega)
  have hMa : MoI (Ga 107) := by rw [e7]; exact hM
  refine v_aload_n (pc := 4) rfl dX4_passYears_4 ?_
  refine v_aload_n (pc := 5) rfl dX4_passYears_5 ?_
  refine v_iload_n (pc := 6) rfl dX4_passYears_6 ?_
  refine v_callV (pc := 7) (rest := [vR g 106]) (c_X4_yearsIt (G := Ga) hMa hst.1 (by rw [e7]; exact hyy) h_f) iok_X4_yearsIt wM_X4_116 (rfl) (by decide) (by decide) rfl (rmOk (by decide) (by decide)) ⟨Nat.le_of_ble_eq_true rfl, Nat.le_of_ble_eq_true rfl⟩ (Nat.le_of_ble_eq_true rfl) rfl dX4_passYears_7 (fun v Gb hq => ?_) (fun _ _ h => h.elim)
  obtain ⟨w, rfl, hit⟩ := hq
  refine v_stk (st' := [vI w, vR g 106]) rfl ?_
  obtain ⟨q, hf, he⟩ := hit
  have hit : ItM Ga Gb 4 f 0 w q := ⟨hf, he⟩
  have hqr := FltM_r hit.1
  have h8b : 0 ≤ Gb 106 8 ∧ Gb 106 8 ≤ 5 := by rw [he.1]; exact kOf_r hqr
  have h5b : 0 ≤ Gb 106 5 ∧ Gb 106 5 ≤ 8 := by rw [he.2.1 106 5 (by decide) (by decide) (by decide), hst.2.2 106 5 (by decide) (by decide)]; exact h5
  refine v_callV (pc := 10) (rest := []) (c_X4_changed (G := Gb) (t := w) h8b h5b) iok_X4_changed wM_X4_93 (rfl) (by decide) (by decide) rfl (rmOk (by decide) (by decide)) ⟨Nat.le_of_ble_eq_true rfl, Nat.le_of_ble_eq_true rfl⟩ (Nat.le_of_ble_eq_true rfl) rfl dX4_passYears_10 (fun v G9 hq => ?_) (fun _ _ h => h.elim)
  obtain ⟨u, rfl, hch⟩ := hq
  refine v_stk (st' := [vI u]) rfl ?_
  exact v_iret (pc := 13) E (⟨_, rfl, by rw [hch.1]; exact ChM_of hst hit hch.2⟩) (Nat.le_of_ble_eq_true rfl) (Nat.le_of_ble_eq_true rfl) dX4_passYears_13
set_option maxHeartbeats 4000000 in
set_option maxRecDepth 100000 in
theorem c_X4_recall {g : GT} {G : Mem} (hM : MoI (G 107)) (h5 : 0 ≤ G 106 5 ∧ G 106 5 ≤ 8) (hlv : 0 ≤ G 107 1 ∧ G 107 1 ≤ 100000) {f : Int} (h_f : -2147483648 ≤ f ∧ f < 2147483648) : Ctr g yX4_recall cX4_recall 2 (some FieldType.int) (rmL 6 0 0) [vR g 106, vI f] G (RP (fun r G' => ChM G G' 5 f 0 r)) NoX := by
  refine ctr_of [some (vR g 106), some (vI f)] (by decide) (Nat.le_of_ble_eq_true rfl) rfl (fun γ E => ?_)
  show V γ g cX4_recall 2 RX4 (rmL 6 0 0) G 0 0 0 [some (vR g 106), some (vI f)] []
  have hn := MoI_n hM
  have hc := MoI_c hM
  have hy := MoI_y hM
  refine v_aload_n (pc := 0) rfl dX4_recall_0 ?_
  refine v_callV (pc := 1) (rest := []) (c_X4_starts) iok_X4_starts wM_X4_87 (rfl) (by decide) (by decide) rfl (rmOk (by decide) (by decide)) ⟨Nat.le_of_ble_eq_true rfl, Nat.le_of_ble_eq_true rfl⟩ (Nat.le_of_ble_eq_true rfl) rfl dX4_recall_1 (fun v Ga hq => ?_) (fun _ _ h => h.elim)
  obtain ⟨rfl, hst⟩ := hq
  refine v_stk (st' := []) rfl ?_
  have e7 : Ga 107 = G 107 := funext fun z => hst.2.2 107 z (by decide) (by omega)
  have hMa : MoI (Ga 107) := by rw [e7]; exact hM
  refine v_aload_n (pc := 4) rfl dX4_recall_4 ?_
  refine v_aload_n (pc := 5) rfl dX4_recall_5 ?_
  refine v_iload_n (pc := 6) rfl dX4_recall_6 ?_
  refine v_callV (pc := 7) (rest := [vR g 106]) (c_X4_recallIt (G := Ga) hMa hst.1 (by rw [e7]; exact hlv) h_f) iok_X4_recallIt wM_X4_135 (rfl) (by decide) (by decide) rfl (rmOk (by decide) (by decide)) ⟨Nat.le_of_ble_eq_true rfl, Nat.le_of_ble_eq_true rfl⟩ (Nat.le_of_ble_eq_true rfl) rfl dX4_recall_7 (fun v Gb hq => ?_) (fun _ _ h => h.elim)
  obtain ⟨w, rfl, hit⟩ := hq
  refine v_stk (st' := [vI w, vR g 106]) rfl ?_
  obtain ⟨q, hf, he⟩ := hit
  have hit : ItM Ga Gb 5 f 0 w q := ⟨hf, he⟩
  have hqr := FltM_r hit.1
  have h8b : 0 ≤ Gb 106 8 ∧ Gb 106 8 ≤ 5 := by rw [he.1]; exact kOf_r hqr
  have h5b : 0 ≤ Gb 106 5 ∧ Gb 106 5 ≤ 8 := by rw [he.2.1 106 5 (by decide) (by decide) (by decide), hst.2.2 106 5 (by decide) (by decide)]; exact h5
  refine v_callV (pc := 10) (rest := []) (c_X4_changed (G := Gb) (t := w) h8b h5b) iok_X4_changed wM_X4_93 (rfl) (by decide) (by decide) rfl (rmOk (by decide) (by decide)) ⟨Nat.le_of_ble_eq_true rfl, Nat.le_of_ble_eq_true rfl⟩ (Nat.le_of_ble_eq_true rfl) rfl dX4_recall_10 (fun v G9 hq => ?_) (fun _ _ h => h.elim)
  obtain ⟨u, rfl, hch⟩ := hq
  refine v_stk (st' := [vI u]) rfl ?_
  exact v_iret (pc := 13) E (⟨_, rfl, by rw [hch.1]; exact ChM_of hst hit hch.2⟩) (Nat.le_of_ble_eq_true rfl) (Nat.le_of_ble_eq_true rfl) dX4_recall_13
set_option maxHeartbeats 4000000 in
set_option maxRecDepth 100000 in
theorem c_X4_pay {g : GT} {G : Mem} (hM : MoI (G 107)) (h5 : 0 ≤ G 106 5 ∧ G 106 5 ≤ 8) {f : Int} (h_f : -2147483648 ≤ f ∧ f < 2147483648) : Ctr g yX4_pay cX4_pay 2 (some FieldType.int) (rmL 6 0 0) [vR g 106, vI f] G (RP (fun r G' => ChM G G' 6 f 0 r)) NoX := by
  refine ctr_of [some (vR g 106), some (vI f)] (by decide) (Nat.le_of_ble_eq_true rfl) rfl (fun γ E => ?_)
  show V γ g cX4_pay 2 RX4 (rmL 6 0 0) G 0 0 0 [some (vR g 106), some (vI f)] []
  have hn := MoI_n hM
  have hc := MoI_c hM
  have hy := MoI_y hM
  refine v_aload_n (pc := 0) rfl dX4_pay_0 ?_
  refine v_callV (pc := 1) (rest := []) (c_X4_starts) iok_X4_starts wM_X4_87 (rfl) (by decide) (by decide) rfl (rmOk (by decide) (by decide)) ⟨Nat.le_of_ble_eq_true rfl, Nat.le_of_ble_eq_true rfl⟩ (Nat.le_of_ble_eq_true rfl) rfl dX4_pay_1 (fun v Ga hq => ?_) (fun _ _ h => h.elim)
  obtain ⟨rfl, hst⟩ := hq
  refine v_stk (st' := []) rfl ?_
  have e7 : Ga 107 = G 107 := funext fun z => hst.2.2 107 z (by decide) (by omega)
  have hMa : MoI (Ga 107) := by rw [e7]; exact hM
  refine v_aload_n (pc := 4) rfl dX4_pay_4 ?_
  refine v_aload_n (pc := 5) rfl dX4_pay_5 ?_
  refine v_iload_n (pc := 6) rfl dX4_pay_6 ?_
  refine v_callV (pc := 7) (rest := [vR g 106]) (c_X4_payIt (G := Ga) hMa hst.1  h_f) iok_X4_payIt wM_X4_159 (rfl) (by decide) (by decide) rfl (rmOk (by decide) (by decide)) ⟨Nat.le_of_ble_eq_true rfl, Nat.le_of_ble_eq_true rfl⟩ (Nat.le_of_ble_eq_true rfl) rfl dX4_pay_7 (fun v Gb hq => ?_) (fun _ _ h => h.elim)
  obtain ⟨w, rfl, hit⟩ := hq
  refine v_stk (st' := [vI w, vR g 106]) rfl ?_
  obtain ⟨q, hf, he⟩ := hit
  have hit : ItM Ga Gb 6 f 0 w q := ⟨hf, he⟩
  have hqr := FltM_r hit.1
  have h8b : 0 ≤ Gb 106 8 ∧ Gb 106 8 ≤ 5 := by rw [he.1]; exact kOf_r hqr
  have h5b : 0 ≤ Gb 106 5 ∧ Gb 106 5 ≤ 8 := by rw [he.2.1 106 5 (by decide) (by decide) (by decide), hst.2.2 106 5 (by decide) (by decide)]; exact h5
  refine v_callV (pc := 10) (rest := []) (c_X4_changed (G := Gb) (t := w) h8b h5b) iok_X4_changed wM_X4_93 (rfl) (by decide) (by decide) rfl (rmOk (by decide) (by decide)) ⟨Nat.le_of_ble_eq_true rfl, Nat.le_of_ble_eq_true rfl⟩ (Nat.le_of_ble_eq_true rfl) rfl dX4_pay_10 (fun v G9 hq => ?_) (fun _ _ h => h.elim)
  obtain ⟨u, rfl, hch⟩ := hq
  refine v_stk (st' := [vI u]) rfl ?_
  exact v_iret (pc := 13) E (⟨_, rfl, by rw [hch.1]; exact ChM_of hst hit hch.2⟩) (Nat.le_of_ble_eq_true rfl) (Nat.le_of_ble_eq_true rfl) dX4_pay_13
set_option maxHeartbeats 4000000 in
set_option maxRecDepth 100000 in
theorem c_X4_does {g : GT} {G : Mem} (hM : MoI (G 107)) (h8 : G 106 8 = 0) (hlv : 0 ≤ G 107 1 ∧ G 107 1 ≤ 100000) (hyy : G 107 2 + 20 ≤ 1000000) {z : Int} (h_z : 0 ≤ z ∧ z ≤ 180) (hv : 0 ≤ G 118 z ∧ G 118 z < 7) (hf : 0 ≤ G 118 (z + 1) ∧ G 118 (z + 1) ≤ 99) (hs : (G 118 z = 0 ∨ G 118 z = 3) → 0 ≤ G 118 (z + 2) ∧ G 118 (z + 2) ≤ 9) : Ctr g yX4_does cX4_does 4 (none : Option FieldType) (rmL 6 0 0) [vR g 106, vI z] G (VP (fun G' => ∃ r q, ItM G G' (G 118 z) (G 118 (z + 1)) (if G 118 z = 0 ∨ G 118 z = 3 then G 118 (z + 2) else 0) r q)) NoX := by
  refine ctr_of [some (vR g 106), some (vI z), none, none] (by decide) (Nat.le_of_ble_eq_true rfl) rfl (fun γ E => ?_)
  show V γ g cX4_does 4 RX4 (rmL 6 0 0) G 0 0 0 [some (vR g 106), some (vI z), none, none] []
  have hn := MoI_n hM
  have hc := MoI_c hM
  have hy := MoI_y hM
  refine v_aload_n (pc := 0) rfl dX4_does_0 ?_
  refine v_getR (pc := 1) (j := 118) fd_X4_51 (rfl) (by decide) rfl dX4_does_1 ?_
  refine v_iload_n (pc := 4) rfl dX4_does_4 ?_
  refine v_iconst (pc := 5) (z := 1) dX4_does_5 ?_
  refine v_iadd (pc := 6) dX4_does_6 ?_
  refine v_iald (pc := 7) (N := 183) rfl rfl (by decide) (by omega) (by decide) dX4_does_7 ?_
  refine v_istore_n (pc := 8) (by decide) rfl dX4_does_8 ?_
  refine v_aload_n (pc := 9) rfl dX4_does_9 ?_
  refine v_getR (pc := 10) (j := 118) fd_X4_51 (rfl) (by decide) rfl dX4_does_10 ?_
  refine v_iload_n (pc := 13) rfl dX4_does_13 ?_
  refine v_iconst (pc := 14) (z := 2) dX4_does_14 ?_
  refine v_iadd (pc := 15) dX4_does_15 ?_
  refine v_iald (pc := 16) (N := 183) rfl rfl (by decide) (by omega) (by decide) dX4_does_16 ?_
  refine v_istore_n (pc := 17) (by decide) rfl dX4_does_17 ?_
  refine v_aload_n (pc := 18) rfl dX4_does_18 ?_
  refine v_getR (pc := 19) (j := 118) fd_X4_51 (rfl) (by decide) rfl dX4_does_19 ?_
  refine v_iload_n (pc := 22) rfl dX4_does_22 ?_
  refine v_iald (pc := 23) (N := 183) rfl rfl (by decide) (by omega) (by decide) dX4_does_23 ?_
  by_cases hs1 : G 118 z = 0
  · skip
    refine v_table (pc := 24) (tgt := 64) (off := 40) (by omega) (by omega) (by omega) (by rw [hs1]; rfl) dX4_does_24 (by decide) ?_
    refine v_aload_n (pc := 64) rfl dX4_does_64 ?_
    refine v_iload_n (pc := 65) rfl dX4_does_65 ?_
    refine v_iload_n (pc := 66) rfl dX4_does_66 ?_
    have hve : G 118 z = 0 := by omega
    have hsx := hs (by omega)
    refine v_callV (pc := 67) (rest := []) (c_X4_dieIt hM h8  (by omega) (by have := hs (by omega); omega)) iok_X4_dieIt wM_X4_90 (rfl) (by decide) (by decide) rfl (rmOk (by decide) (by decide)) ⟨Nat.le_of_ble_eq_true rfl, Nat.le_of_ble_eq_true rfl⟩ (Nat.le_of_ble_eq_true rfl) rfl dX4_does_67 (fun v G9 hq => ?_) (fun _ _ h => h.elim)
    obtain ⟨w, rfl, hit⟩ := hq
    refine v_stk (st' := [vI w]) rfl ?_
    have hok : ∃ r q, ItM G G9 (G 118 z) (G 118 (z + 1)) (if G 118 z = 0 ∨ G 118 z = 3 then G 118 (z + 2) else 0) r q := by
      obtain ⟨q, hf, he⟩ := hit
      rw [hve]
      exact ⟨w, q, hf, he⟩
    refine v_pop (pc := 70) rfl dX4_does_70 ?_
    refine v_goto (pc := 71) (tgt := 126) dX4_does_71 (by decide) ?_
    exact v_vret (pc := 126) E (⟨rfl, hok⟩) (Nat.le_of_ble_eq_true rfl) (Nat.le_of_ble_eq_true rfl) dX4_does_126
  · skip
    by_cases hs2 : G 118 z = 1
    · skip
      refine v_table (pc := 24) (tgt := 74) (off := 50) (by omega) (by omega) (by omega) (by rw [hs2]; rfl) dX4_does_24 (by decide) ?_
      refine v_aload_n (pc := 74) rfl dX4_does_74 ?_
      refine v_iload_n (pc := 75) rfl dX4_does_75 ?_
      have hve : G 118 z = 1 := by omega
      refine v_callV (pc := 76) (rest := []) (c_X4_sharpenIt hM h8  (by omega)) iok_X4_sharpenIt wM_X4_100 (rfl) (by decide) (by decide) rfl (rmOk (by decide) (by decide)) ⟨Nat.le_of_ble_eq_true rfl, Nat.le_of_ble_eq_true rfl⟩ (Nat.le_of_ble_eq_true rfl) rfl dX4_does_76 (fun v G9 hq => ?_) (fun _ _ h => h.elim)
      obtain ⟨w, rfl, hit⟩ := hq
      refine v_stk (st' := [vI w]) rfl ?_
      have hok : ∃ r q, ItM G G9 (G 118 z) (G 118 (z + 1)) (if G 118 z = 0 ∨ G 118 z = 3 then G 118 (z + 2) else 0) r q := by
        obtain ⟨q, hf, he⟩ := hit
        rw [hve]
        exact ⟨w, q, hf, he⟩
      refine v_pop (pc := 79) rfl dX4_does_79 ?_
      refine v_goto (pc := 80) (tgt := 126) dX4_does_80 (by decide) ?_
      exact v_vret (pc := 126) E (⟨rfl, hok⟩) (Nat.le_of_ble_eq_true rfl) (Nat.le_of_ble_eq_true rfl) dX4_does_126
    · skip
      by_cases hs3 : G 118 z = 2
      · skip
        refine v_table (pc := 24) (tgt := 83) (off := 59) (by omega) (by omega) (by omega) (by rw [hs3]; rfl) dX4_does_24 (by decide) ?_
        refine v_aload_n (pc := 83) rfl dX4_does_83 ?_
        refine v_iload_n (pc := 84) rfl dX4_does_84 ?_
        have hve : G 118 z = 2 := by omega
        refine v_callV (pc := 85) (rest := []) (c_X4_leafIt hM h8 hlv (by omega)) iok_X4_leafIt wM_X4_105 (rfl) (by decide) (by decide) rfl (rmOk (by decide) (by decide)) ⟨Nat.le_of_ble_eq_true rfl, Nat.le_of_ble_eq_true rfl⟩ (Nat.le_of_ble_eq_true rfl) rfl dX4_does_85 (fun v G9 hq => ?_) (fun _ _ h => h.elim)
        obtain ⟨w, rfl, hit⟩ := hq
        refine v_stk (st' := [vI w]) rfl ?_
        have hok : ∃ r q, ItM G G9 (G 118 z) (G 118 (z + 1)) (if G 118 z = 0 ∨ G 118 z = 3 then G 118 (z + 2) else 0) r q := by
          obtain ⟨q, hf, he⟩ := hit
          rw [hve]
          exact ⟨w, q, hf, he⟩
        refine v_pop (pc := 88) rfl dX4_does_88 ?_
        refine v_goto (pc := 89) (tgt := 126) dX4_does_89 (by decide) ?_
        exact v_vret (pc := 126) E (⟨rfl, hok⟩) (Nat.le_of_ble_eq_true rfl) (Nat.le_of_ble_eq_true rfl) dX4_does_126
      · skip
        by_cases hs4 : G 118 z = 3
        · skip
          refine v_table (pc := 24) (tgt := 92) (off := 68) (by omega) (by omega) (by omega) (by rw [hs4]; rfl) dX4_does_24 (by decide) ?_
          refine v_aload_n (pc := 92) rfl dX4_does_92 ?_
          refine v_iload_n (pc := 93) rfl dX4_does_93 ?_
          refine v_iload_n (pc := 94) rfl dX4_does_94 ?_
          have hve : G 118 z = 3 := by omega
          have hsx := hs (by omega)
          refine v_callV (pc := 95) (rest := []) (c_X4_strikeIt hM h8 hlv (by omega) (by have := hs (by omega); omega)) iok_X4_strikeIt wM_X4_111 (rfl) (by decide) (by decide) rfl (rmOk (by decide) (by decide)) ⟨Nat.le_of_ble_eq_true rfl, Nat.le_of_ble_eq_true rfl⟩ (Nat.le_of_ble_eq_true rfl) rfl dX4_does_95 (fun v G9 hq => ?_) (fun _ _ h => h.elim)
          obtain ⟨w, rfl, hit⟩ := hq
          refine v_stk (st' := [vI w]) rfl ?_
          have hok : ∃ r q, ItM G G9 (G 118 z) (G 118 (z + 1)) (if G 118 z = 0 ∨ G 118 z = 3 then G 118 (z + 2) else 0) r q := by
            obtain ⟨q, hf, he⟩ := hit
            rw [hve]
            exact ⟨w, q, hf, he⟩
          refine v_pop (pc := 98) rfl dX4_does_98 ?_
          refine v_goto (pc := 99) (tgt := 126) dX4_does_99 (by decide) ?_
          exact v_vret (pc := 126) E (⟨rfl, hok⟩) (Nat.le_of_ble_eq_true rfl) (Nat.le_of_ble_eq_true rfl) dX4_does_126
        · skip
          by_cases hs5 : G 118 z = 4
          · skip
            refine v_table (pc := 24) (tgt := 102) (off := 78) (by omega) (by omega) (by omega) (by rw [hs5]; rfl) dX4_does_24 (by decide) ?_
            refine v_aload_n (pc := 102) rfl dX4_does_102 ?_
            refine v_iload_n (pc := 103) rfl dX4_does_103 ?_
            have hve : G 118 z = 4 := by omega
            refine v_callV (pc := 104) (rest := []) (c_X4_yearsIt hM h8 hyy (by omega)) iok_X4_yearsIt wM_X4_116 (rfl) (by decide) (by decide) rfl (rmOk (by decide) (by decide)) ⟨Nat.le_of_ble_eq_true rfl, Nat.le_of_ble_eq_true rfl⟩ (Nat.le_of_ble_eq_true rfl) rfl dX4_does_104 (fun v G9 hq => ?_) (fun _ _ h => h.elim)
            obtain ⟨w, rfl, hit⟩ := hq
            refine v_stk (st' := [vI w]) rfl ?_
            have hok : ∃ r q, ItM G G9 (G 118 z) (G 118 (z + 1)) (if G 118 z = 0 ∨ G 118 z = 3 then G 118 (z + 2) else 0) r q := by
              obtain ⟨q, hf, he⟩ := hit
              rw [hve]
              exact ⟨w, q, hf, he⟩
            refine v_pop (pc := 107) rfl dX4_does_107 ?_
            refine v_goto (pc := 108) (tgt := 126) dX4_does_108 (by decide) ?_
            exact v_vret (pc := 126) E (⟨rfl, hok⟩) (Nat.le_of_ble_eq_true rfl) (Nat.le_of_ble_eq_true rfl) dX4_does_126
          · skip
            by_cases hs6 : G 118 z = 5
            · skip
              refine v_table (pc := 24) (tgt := 111) (off := 87) (by omega) (by omega) (by omega) (by rw [hs6]; rfl) dX4_does_24 (by decide) ?_
              refine v_aload_n (pc := 111) rfl dX4_does_111 ?_
              refine v_iload_n (pc := 112) rfl dX4_does_112 ?_
              have hve : G 118 z = 5 := by omega
              refine v_callV (pc := 113) (rest := []) (c_X4_recallIt hM h8 hlv (by omega)) iok_X4_recallIt wM_X4_135 (rfl) (by decide) (by decide) rfl (rmOk (by decide) (by decide)) ⟨Nat.le_of_ble_eq_true rfl, Nat.le_of_ble_eq_true rfl⟩ (Nat.le_of_ble_eq_true rfl) rfl dX4_does_113 (fun v G9 hq => ?_) (fun _ _ h => h.elim)
              obtain ⟨w, rfl, hit⟩ := hq
              refine v_stk (st' := [vI w]) rfl ?_
              have hok : ∃ r q, ItM G G9 (G 118 z) (G 118 (z + 1)) (if G 118 z = 0 ∨ G 118 z = 3 then G 118 (z + 2) else 0) r q := by
                obtain ⟨q, hf, he⟩ := hit
                rw [hve]
                exact ⟨w, q, hf, he⟩
              refine v_pop (pc := 116) rfl dX4_does_116 ?_
              refine v_goto (pc := 117) (tgt := 126) dX4_does_117 (by decide) ?_
              exact v_vret (pc := 126) E (⟨rfl, hok⟩) (Nat.le_of_ble_eq_true rfl) (Nat.le_of_ble_eq_true rfl) dX4_does_126
            · skip
              refine v_tabled (pc := 24) (tgt := 120) (by omega) (by omega) dX4_does_24 (by decide) ?_
              refine v_aload_n (pc := 120) rfl dX4_does_120 ?_
              refine v_iload_n (pc := 121) rfl dX4_does_121 ?_
              have hve : G 118 z = 6 := by omega
              refine v_callV (pc := 122) (rest := []) (c_X4_payIt hM h8  (by omega)) iok_X4_payIt wM_X4_159 (rfl) (by decide) (by decide) rfl (rmOk (by decide) (by decide)) ⟨Nat.le_of_ble_eq_true rfl, Nat.le_of_ble_eq_true rfl⟩ (Nat.le_of_ble_eq_true rfl) rfl dX4_does_122 (fun v G9 hq => ?_) (fun _ _ h => h.elim)
              obtain ⟨w, rfl, hit⟩ := hq
              refine v_stk (st' := [vI w]) rfl ?_
              have hok : ∃ r q, ItM G G9 (G 118 z) (G 118 (z + 1)) (if G 118 z = 0 ∨ G 118 z = 3 then G 118 (z + 2) else 0) r q := by
                obtain ⟨q, hf, he⟩ := hit
                rw [hve]
                exact ⟨w, q, hf, he⟩
              refine v_pop (pc := 125) rfl dX4_does_125 ?_
              exact v_vret (pc := 126) E (⟨rfl, hok⟩) (Nat.le_of_ble_eq_true rfl) (Nat.le_of_ble_eq_true rfl) dX4_does_126
