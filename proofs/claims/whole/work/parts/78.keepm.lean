-- what the class's side leaves to the model
def KP9 (G G1 : Mem) : Prop := ∀ (p : Nat) (z : Int), 106 ≤ p → p ≤ 118 → G1 p z = G p z
theorem KP9_r (G : Mem) : KP9 G G := fun _ _ _ _ => rfl
theorem KP9_7 {G G1 : Mem} (h : KP9 G G1) (p : Nat) (a : 106 ≤ p) (b : p ≤ 118) : G1 p = G p := funext fun z => h p z a b
theorem LQ_k {G G1 : Mem} {Q : Option Value → Mem → Prop} {X : String → Mem → Prop} {cl : List String} {v : Option Value} (h : LQ Q X cl v G1) (hQ : ∀ u G9, Q u G9 → KP9 G G9) (hX : ∀ e G9, X e G9 → KP9 G G9) : (∃ c, v = some (vI c)) ∧ KP9 G G1 := by
  rcases h with ⟨rfl, r1, G9, hr, hq, rfl⟩ | ⟨i, e, hc, hx, rfl⟩
  · exact ⟨⟨_, rfl⟩, fun p z a b => (upd2_i (by omega)).trans (hQ _ _ hq p z a b)⟩
  · exact ⟨⟨_, rfl⟩, hX _ _ hx⟩
theorem LQD_k {G G1 : Mem} {Q : Option Value → Mem → Prop} {X : String → Mem → Prop} {cl : List String} {v : Option Value} (h : LQD Q X cl v G1) (hQ : ∀ u G9, Q u G9 → KP9 G G9) (hX : ∀ e G9, X e G9 → KP9 G G9) : (∃ c, v = some (vI c)) ∧ KP9 G G1 := by
  rcases h with ⟨rfl, r1, G9, hq, rfl⟩ | ⟨i, e, hc, hx, rfl⟩
  · exact ⟨⟨_, rfl⟩, fun p z a b => (upd2_i (by omega)).trans (hQ _ _ hq p z a b)⟩
  · exact ⟨⟨_, rfl⟩, hX _ _ hx⟩
theorem LQF_k {G G1 : Mem} {Q : Option Value → Mem → Prop} {X : String → Mem → Prop} {cl : List String} {v : Option Value} (h : LQF Q X cl v G1) (hQ : ∀ u G9, Q u G9 → KP9 G G9) (hX : ∀ e G9, X e G9 → KP9 G G9) : (∃ c, v = some (vI c)) ∧ KP9 G G1 := by
  rcases h with ⟨rfl, r1, G9, hq, rfl⟩ | ⟨i, e, hc, hx, rfl⟩
  · exact ⟨⟨_, rfl⟩, fun p z a b => (upd2_i (by omega)).trans (hQ _ _ hq p z a b)⟩
  · exact ⟨⟨_, rfl⟩, hX _ _ hx⟩
theorem KP9_e {G G9 : Mem} (h : G9 = G) : KP9 G G9 := by rw [h]; exact KP9_r G
theorem KP9_P {G G9 : Mem} (h : FrP G G9) : KP9 G G9 := fun p z a b => h p z (by omega) (by omega)
theorem kp_dieValue {G G1 : Mem} {v : Option Value} {Y A : Int} {d : Int} (hI : LawI G Y A) (h1 : LQ (fun v G' => v = some (vI (G 5 d)) ∧ G' = G ∧ 0 ≤ d ∧ d < G 4 0) (fun e G' => e = eIB ∧ G' = G ∧ ¬ (0 ≤ d ∧ d < G 4 0)) [eIB] v G1) : (∃ c, v = some (vI c)) ∧ KP9 G G1 :=
  LQ_k h1 (fun u G9 h => KP9_e h.2.1) (fun e G9 h => KP9_e h.2.1)
theorem kp_coinWeight {G G1 : Mem} {v : Option Value} {Y A : Int} {d : Int} (hI : LawI G Y A) (h1 : LQ (fun v G' => v = some (vI (G 6 d)) ∧ G' = G ∧ 0 ≤ d ∧ d < G 4 0) (fun e G' => e = eIB ∧ G' = G ∧ ¬ (0 ≤ d ∧ d < G 4 0)) [eIB] v G1) : (∃ c, v = some (vI c)) ∧ KP9 G G1 :=
  LQ_k h1 (fun u G9 h => KP9_e h.2.1) (fun e G9 h => KP9_e h.2.1)
theorem kp_wear {G G1 : Mem} {v : Option Value} {Y A : Int} {d : Int} (hI : LawI G Y A) (h1 : LQ (fun v G' => v = some (vI (G 7 d)) ∧ G' = G ∧ 0 ≤ d ∧ d < G 4 0) (fun e G' => e = eIB ∧ G' = G ∧ ¬ (0 ≤ d ∧ d < G 4 0)) [eIB] v G1) : (∃ c, v = some (vI c)) ∧ KP9 G G1 :=
  LQ_k h1 (fun u G9 h => KP9_e h.2.1) (fun e G9 h => KP9_e h.2.1)
theorem kp_coinsOfGrade {G G1 : Mem} {v : Option Value} {Y A : Int} {c : Int} (hI : LawI G Y A) (h1 : LQ (fun v G' => v = some (vI (cntE (G 4 5) (G 11) (c - 65))) ∧ G' = G ∧ 65 ≤ c ∧ c ≤ 67) (fun e G' => e = eIA ∧ G' = G ∧ ¬ (65 ≤ c ∧ c ≤ 67)) [eIA] v G1) : (∃ c, v = some (vI c)) ∧ KP9 G G1 :=
  LQ_k h1 (fun u G9 h => KP9_e h.2.1) (fun e G9 h => KP9_e h.2.1)
theorem kp_outputAt {G G1 : Mem} {v : Option Value} {Y A : Int} {d : Int} (hI : LawI G Y A) (h1 : LQ (fun v G' => v = some (vI (G 121 d)) ∧ G' = G ∧ 0 ≤ d ∧ d < G 122 0) (fun e G' => e = eIB ∧ G' = G ∧ ¬ (0 ≤ d ∧ d < G 122 0)) [eIB] v G1) : (∃ c, v = some (vI c)) ∧ KP9 G G1 :=
  LQ_k h1 (fun u G9 h => KP9_e h.2.1) (fun e G9 h => KP9_e h.2.1)
theorem kp_errorPosition {G G1 : Mem} {v : Option Value} {Y A : Int} (hI : LawI G Y A) (h1 : LQ (fun v G' => v = some (vI (G 0 9)) ∧ G' = G ∧ G 0 9 ≠ -1) (fun e G' => e = eNE ∧ G' = G ∧ G 0 9 = -1) [eNE] v G1) : (∃ c, v = some (vI c)) ∧ KP9 G G1 :=
  LQ_k h1 (fun u G9 h => KP9_e h.2.1) (fun e G9 h => KP9_e h.2.1)
theorem kp_failedCommand {G G1 : Mem} {v : Option Value} {Y A : Int} (hI : LawI G Y A) (h1 : LQ (fun v G' => v = some (vI (G 0 10)) ∧ G' = G ∧ G 0 10 ≠ -1) (fun e G' => e = eNE ∧ G' = G ∧ G 0 10 = -1) [eNE] v G1) : (∃ c, v = some (vI c)) ∧ KP9 G G1 :=
  LQ_k h1 (fun u G9 h => KP9_e h.2.1) (fun e G9 h => KP9_e h.2.1)
theorem kp_nextGrade {G G1 : Mem} {v : Option Value} {Y A : Int} {d : Int} (hI : LawI G Y A) (h1 : LQ (fun v G' => v = some (vI (65 + gow (G 7 d))) ∧ G' = G ∧ (0 ≤ d ∧ d < G 4 0) ∧ G 7 d < 30) (fun e G' => G' = G ∧ ((e = eIB ∧ ¬ (0 ≤ d ∧ d < G 4 0)) ∨ (e = eIS ∧ (0 ≤ d ∧ d < G 4 0) ∧ 30 ≤ G 7 d))) [eIB, eIS] v G1) : (∃ c, v = some (vI c)) ∧ KP9 G G1 :=
  LQ_k h1 (fun u G9 h => KP9_e h.2.1) (fun e G9 h => KP9_e h.1)
theorem kp_dieByWear {G G1 : Mem} {v : Option Value} {Y A : Int} {x : Int} (hI : LawI G Y A) (h1 : LQ (fun v G' => ∃ d, v = some (vI d) ∧ G' = G ∧ (0 ≤ d ∧ d < G 4 0) ∧ ahd (G 4 0) (G 7) (G 5) d = x ∧ ∀ e, 0 ≤ e → e < d → ahd (G 4 0) (G 7) (G 5) e ≠ x) (fun e G' => e = eNE ∧ G' = G ∧ ∀ d, 0 ≤ d → d < G 4 0 → ahd (G 4 0) (G 7) (G 5) d ≠ x) [eNE] v G1) : (∃ c, v = some (vI c)) ∧ KP9 G G1 :=
  LQ_k h1 (fun u G9 h => by obtain ⟨d, h⟩ := h; exact KP9_e h.2.1) (fun e G9 h => KP9_e h.2.1)
theorem kp_coinsOfValue {G G1 : Mem} {v : Option Value} {Y A : Int} {x : Int} (hI : LawI G Y A) (h1 : LQ (fun v G' => ∃ d, v = some (vI (cntE (G 4 5) (G 9) d)) ∧ G' = G ∧ (0 ≤ d ∧ d < G 4 0) ∧ G 5 d = x) (fun e G' => e = eNE ∧ G' = G ∧ ∀ i, 0 ≤ i → i < G 4 0 → G 5 i ≠ x) [eNE] v G1) : (∃ c, v = some (vI c)) ∧ KP9 G G1 :=
  LQ_k h1 (fun u G9 h => by obtain ⟨d, h⟩ := h; exact KP9_e h.2.1) (fun e G9 h => KP9_e h.2.1)
theorem kp_canPay {G G1 : Mem} {v : Option Value} {Y A : Int} {a : Int} (hI : LawI G Y A) (h1 : LQ (fun v G' => v = some (vI (bI ((Tab (vsR G 4) (cnR G 4) (G 4 0).toNat a) ≠ 1000))) ∧ (∀ i z, ¬ (94 ≤ i ∧ i ≤ 99) → ¬ (i = 1 ∧ z = 4) → G' i z = G i z) ∧ (1 ≤ a ∧ a ≤ 99)) (fun e G' => e = eIA ∧ G' = G ∧ ¬ (1 ≤ a ∧ a ≤ 99)) [eIA] v G1) : (∃ c, v = some (vI c)) ∧ KP9 G G1 :=
  LQ_k h1 (fun u G9 h => fun p z a b => h.2.1 p z (by omega) (by omega)) (fun e G9 h => KP9_e h.2.1)
theorem kp_fewestCoins {G G1 : Mem} {v : Option Value} {Y A : Int} {a : Int} (hI : LawI G Y A) (h1 : LQ (fun v G' => v = some (vI (Tab (vsR G 4) (cnR G 4) (G 4 0).toNat a)) ∧ (∀ i z, ¬ (94 ≤ i ∧ i ≤ 99) → ¬ (i = 1 ∧ z = 4) → G' i z = G i z) ∧ (1 ≤ a ∧ a ≤ 99) ∧ (Tab (vsR G 4) (cnR G 4) (G 4 0).toNat a) ≠ 1000) (fun e G' => (e = eIA ∧ G' = G ∧ ¬ (1 ≤ a ∧ a ≤ 99)) ∨ (e = eNE ∧ (∀ i z, ¬ (94 ≤ i ∧ i ≤ 99) → ¬ (i = 1 ∧ z = 4) → G' i z = G i z) ∧ (1 ≤ a ∧ a ≤ 99) ∧ (Tab (vsR G 4) (cnR G 4) (G 4 0).toNat a) = 1000)) [eIA, eNE] v G1) : (∃ c, v = some (vI c)) ∧ KP9 G G1 :=
  LQ_k h1 (fun u G9 h => fun p z a b => h.2.1 p z (by omega) (by omega)) (fun e G9 h => h.elim (fun h => KP9_e h.2.1) (fun h => fun p z a b => h.2.1 p z (by omega) (by omega)))
theorem kp_fewestCoinsBySets {G G1 : Mem} {v : Option Value} {Y A : Int} {a : Int} (hI : LawI G Y A) (h1 : LQ (fun v G' => ∃ r, v = some (vI r) ∧ (∀ i z, i ≠ 100 ∧ i ≠ 101 → ¬ (i = 1 ∧ z = 5) → G' i z = G i z) ∧ (1 ≤ a ∧ a ≤ 99) ∧ r ≠ 1000 ∧ SetR (fun k => PS (fun k => G 5 (G 9 k)) (G 4 5).toNat k a) (G 4 5) r) (fun e G' => (e = eIA ∧ G' = G ∧ ¬ (1 ≤ a ∧ a ≤ 99)) ∨ (e = eNE ∧ (∀ i z, i ≠ 100 ∧ i ≠ 101 → ¬ (i = 1 ∧ z = 5) → G' i z = G i z) ∧ (1 ≤ a ∧ a ≤ 99) ∧ SetR (fun k => PS (fun k => G 5 (G 9 k)) (G 4 5).toNat k a) (G 4 5) 1000)) [eIA, eNE] v G1) : (∃ c, v = some (vI c)) ∧ KP9 G G1 :=
  LQ_k h1 (fun u G9 h => by obtain ⟨d, -, h, -⟩ := h; exact fun p z a b => h p z (by omega) (by omega)) (fun e G9 h => h.elim (fun h => KP9_e h.2.1) (fun h => fun p z a b => h.2.1 p z (by omega) (by omega)))
theorem kp_greedyCoins {G G1 : Mem} {v : Option Value} {Y A : Int} {a : Int} (hI : LawI G Y A) (h1 : LQ (fun v G' => ∃ r, v = some (vI r) ∧ r = (if grR (vsR G 4) (cnR G 4) (G 4 0) a (G 4 0).toNat = 0 then sz (G 4 0) (grU (vsR G 4) (cnR G 4) (G 4 0) a) else 1000) ∧ G' = G ∧ (1 ≤ a ∧ a ≤ 99) ∧ r ≠ 1000) (fun e G' => (e = eIA ∧ G' = G ∧ ¬ (1 ≤ a ∧ a ≤ 99)) ∨ (e = eNE ∧ G' = G ∧ (1 ≤ a ∧ a ≤ 99) ∧ (if grR (vsR G 4) (cnR G 4) (G 4 0) a (G 4 0).toNat = 0 then sz (G 4 0) (grU (vsR G 4) (cnR G 4) (G 4 0) a) else 1000) = 1000)) [eIA, eNE] v G1) : (∃ c, v = some (vI c)) ∧ KP9 G G1 :=
  LQ_k h1 (fun u G9 h => by obtain ⟨d, -, -, h, -⟩ := h; exact KP9_e h) (fun e G9 h => h.elim (fun h => KP9_e h.2.1) (fun h => KP9_e h.2.1))
theorem kp_coinsUsed {G G1 : Mem} {v : Option Value} {Y A : Int} {a : Int} {x : Int} (hI : LawI G Y A) (h1 : LQ (fun v G' => ∃ d, v = some (vI (G' 92 d)) ∧ (1 ≤ a ∧ a ≤ 99) ∧ (0 ≤ d ∧ d < G 4 0) ∧ G 5 d = x ∧ (Tab (vsR G 4) (cnR G 4) (G 4 0).toNat a) ≠ 1000 ∧ FrP G G' ∧ ∀ s, 0 ≤ s → s < G 4 0 → G' 92 (G 8 s) = usF (vsR G 4) (cnR G 4) (G 4 0) a s) (fun e G' => (e = eIA ∧ G' = G ∧ ¬ (1 ≤ a ∧ a ≤ 99)) ∨ (e = eNE ∧ G' = G ∧ (1 ≤ a ∧ a ≤ 99) ∧ ∀ i, 0 ≤ i → i < G 4 0 → G 5 i ≠ x) ∨ (e = eUO ∧ FrP G G' ∧ (1 ≤ a ∧ a ≤ 99) ∧ (∃ d, (0 ≤ d ∧ d < G 4 0) ∧ G 5 d = x) ∧ (Tab (vsR G 4) (cnR G 4) (G 4 0).toNat a) = 1000)) [eIA, eNE, eUO] v G1) : (∃ c, v = some (vI c)) ∧ KP9 G G1 :=
  LQ_k h1 (fun u G9 h => by obtain ⟨d, -, -, -, -, -, h, -⟩ := h; exact KP9_P h) (fun e G9 h => h.elim (fun h => KP9_e h.2.1) (fun h => h.elim (fun h => KP9_e h.2.1) (fun h => KP9_P h.2.1)))
theorem kp_type {G G1 : Mem} {v : Option Value} {Y A : Int} {c : Int} (hI : LawI G Y A) (h1 : LQ (fun v G' => v = some (vI (G 2 1 + 1)) ∧ (32 ≤ c ∧ c ≤ 126) ∧ G 2 1 < 60 ∧ G' = upd2 (upd2 G 102 (G 2 1) c) 2 1 (G 2 1 + 1)) (fun e G' => G' = G ∧ ((e = eIA ∧ ¬ (32 ≤ c ∧ c ≤ 126)) ∨ (e = eIS ∧ (32 ≤ c ∧ c ≤ 126) ∧ 60 ≤ G 2 1))) [eIA, eIS] v G1) : (∃ c, v = some (vI c)) ∧ KP9 G G1 :=
  LQ_k h1 (fun u G9 h => by rw [h.2.2.2]; exact fun p z a b => (upd2_i (by omega)).trans (upd2_i (by omega))) (fun e G9 h => KP9_e h.1)
theorem kp_undo {G G1 : Mem} {v : Option Value} {Y A : Int} (hI : LawI G Y A) (h1 : LQ (fun v G' => v = some (vI (G 0 8 - 1)) ∧ G 0 8 ≠ 0 ∧ CpS (upd2 G 0 8 (G 0 8 - 1)) G' 4 (G 3 (G 0 8 - 1)).toNat) (fun e G' => e = eIS ∧ G' = G ∧ G 0 8 = 0) [eIS] v G1) : (∃ c, v = some (vI c)) ∧ KP9 G G1 :=
  LQ_k h1 (fun u G9 h => fun p z a b => (h.2.2.2.2.2 p z (by omega)).trans (upd2_i (by omega))) (fun e G9 h => KP9_e h.2.1)
theorem kp_restore {G G1 : Mem} {v : Option Value} {Y A : Int} (hI : LawI G Y A) (h1 : LQ (fun v G' => v = some (vI (G 20 5)) ∧ G 0 7 ≠ 0 ∧ ∃ G2, CpS G G2 4 20 ∧ G' = upd2 G2 0 8 0) (fun e G' => e = eIS ∧ G' = G ∧ G 0 7 = 0) [eIS] v G1) : (∃ c, v = some (vI c)) ∧ KP9 G G1 :=
  LQ_k h1 (fun u G9 h => by obtain ⟨-, -, Gx, hc, rfl⟩ := h; exact fun p z a b => (upd2_i (by omega)).trans (hc.2.2.2 p z (by omega))) (fun e G9 h => KP9_e h.2.1)
theorem kp_renderDie {G G1 : Mem} {v : Option Value} {Y A : Int} {d : Int} (hI : LawI G Y A) (h1 : LQ (fun v G' => (0 ≤ d ∧ d < G 4 0) ∧ v = some (vI (tnum (tc (tnum (tc (tnum (tc (tnum t0 d) 58) (G 5 d)) 119) (G 6 d)) 47) (G 7 d)).1) ∧ G' = sbG G (tnum (tc (tnum (tc (tnum (tc (tnum t0 d) 58) (G 5 d)) 119) (G 6 d)) 47) (G 7 d))) (fun e G' => e = eIB ∧ G' = G ∧ ¬ (0 ≤ d ∧ d < G 4 0)) [eIB] v G1) : (∃ c, v = some (vI c)) ∧ KP9 G G1 :=
  LQ_k h1 (fun u G9 h => by rw [h.2.2]; exact fun p z a b => congrFun (sbG_i (by omega)) z) (fun e G9 h => KP9_e h.2.1)
theorem kp_meanWear {G G1 : Mem} {v : Option Value} {Y A : Int} (hI : LawI G Y A) (h1 : LQD (fun v G' => v = some (.double (mwD (sz (G 4 0) (G 7)) (G 4 0))) ∧ G' = G ∧ G 4 0 ≠ 0) (fun e G' => e = eAR ∧ G' = G ∧ G 4 0 = 0) [eAR] v G1) : (∃ c, v = some (vI c)) ∧ KP9 G G1 :=
  LQD_k h1 (fun u G9 h => KP9_e h.2.1) (fun e G9 h => KP9_e h.2.1)
theorem kp_gradeShare {G G1 : Mem} {v : Option Value} {Y A : Int} {c : Int} (hI : LawI G Y A) (h1 : LQF (fun v G' => v = some (.float (gsF (cntE (G 4 5) (G 11) (c - 65)) (G 4 5))) ∧ G' = G ∧ (65 ≤ c ∧ c ≤ 67) ∧ G 4 5 ≠ 0) (fun e G' => G' = G ∧ ((e = eIA ∧ ¬ (65 ≤ c ∧ c ≤ 67)) ∨ (e = eAR ∧ (65 ≤ c ∧ c ≤ 67) ∧ G 4 5 = 0))) [eIA, eAR] v G1) : (∃ c, v = some (vI c)) ∧ KP9 G G1 :=
  LQF_k h1 (fun u G9 h => KP9_e h.2.1) (fun e G9 h => KP9_e h.1)
theorem kp_addDie {G G1 : Mem} {v : Option Value} {Y A : Int} {f s : Int} (hI : LawI G Y A) (h1 : LQ (ChQ G 0 f s) (ChX G 0 f s) [eIA, eIS, eUO] v G1) : (∃ c, v = some (vI c)) ∧ KP9 G G1 :=
  LQ_k h1 (fun u G9 h => by obtain ⟨-, Ga, Gb, r, hF, hrem, hpf, -⟩ := h; exact fun p z a b => (Pf_fr hpf p z (by omega) (by omega) (by omega)).trans ((RemR_k (past_FrP hF hI.2.1.1) hrem p z (by omega)).trans (hF p z (by omega) (by omega)))) (fun e G9 h => KP9_P h.1)
theorem kp_sharpen {G G1 : Mem} {v : Option Value} {Y A : Int} {f : Int} (hI : LawI G Y A) (h1 : LQ (ChQ G 1 f 0) (ChX G 1 f 0) [eIB, eIS] v G1) : (∃ c, v = some (vI c)) ∧ KP9 G G1 :=
  LQ_k h1 (fun u G9 h => by obtain ⟨-, Ga, Gb, r, hF, hrem, hpf, -⟩ := h; exact fun p z a b => (Pf_fr hpf p z (by omega) (by omega) (by omega)).trans ((RemR_k (past_FrP hF hI.2.1.1) hrem p z (by omega)).trans (hF p z (by omega) (by omega)))) (fun e G9 h => KP9_P h.1)
theorem kp_addLeaves {G G1 : Mem} {v : Option Value} {Y A : Int} {f : Int} (hI : LawI G Y A) (h1 : LQ (ChQ G 2 f 0) (ChX G 2 f 0) [eIA, eIS] v G1) : (∃ c, v = some (vI c)) ∧ KP9 G G1 :=
  LQ_k h1 (fun u G9 h => by obtain ⟨-, Ga, Gb, r, hF, hrem, hpf, -⟩ := h; exact fun p z a b => (Pf_fr hpf p z (by omega) (by omega) (by omega)).trans ((RemR_k (past_FrP hF hI.2.1.1) hrem p z (by omega)).trans (hF p z (by omega) (by omega)))) (fun e G9 h => KP9_P h.1)
theorem kp_strike {G G1 : Mem} {v : Option Value} {Y A : Int} {f s : Int} (hI : LawI G Y A) (h1 : LQ (ChQ G 3 f s) (ChX G 3 f s) [eIB, eIA, eIS, eUO] v G1) : (∃ c, v = some (vI c)) ∧ KP9 G G1 :=
  LQ_k h1 (fun u G9 h => by obtain ⟨-, Ga, Gb, r, hF, hrem, hpf, -⟩ := h; exact fun p z a b => (Pf_fr hpf p z (by omega) (by omega) (by omega)).trans ((RemR_k (past_FrP hF hI.2.1.1) hrem p z (by omega)).trans (hF p z (by omega) (by omega)))) (fun e G9 h => KP9_P h.1)
theorem kp_passYears {G G1 : Mem} {v : Option Value} {Y A : Int} {f : Int} (hI : LawI G Y A) (h1 : LQ (ChQ G 4 f 0) (ChX G 4 f 0) [eIA] v G1) : (∃ c, v = some (vI c)) ∧ KP9 G G1 :=
  LQ_k h1 (fun u G9 h => by obtain ⟨-, Ga, Gb, r, hF, hrem, hpf, -⟩ := h; exact fun p z a b => (Pf_fr hpf p z (by omega) (by omega) (by omega)).trans ((RemR_k (past_FrP hF hI.2.1.1) hrem p z (by omega)).trans (hF p z (by omega) (by omega)))) (fun e G9 h => KP9_P h.1)
theorem kp_recall {G G1 : Mem} {v : Option Value} {Y A : Int} {f : Int} (hI : LawI G Y A) (h1 : LQ (ChQ G 5 f 0) (ChX G 5 f 0) [eIA, eNE] v G1) : (∃ c, v = some (vI c)) ∧ KP9 G G1 :=
  LQ_k h1 (fun u G9 h => by obtain ⟨-, Ga, Gb, r, hF, hrem, hpf, -⟩ := h; exact fun p z a b => (Pf_fr hpf p z (by omega) (by omega) (by omega)).trans ((RemR_k (past_FrP hF hI.2.1.1) hrem p z (by omega)).trans (hF p z (by omega) (by omega)))) (fun e G9 h => KP9_P h.1)
theorem kp_pay {G G1 : Mem} {v : Option Value} {Y A : Int} {f : Int} (hI : LawI G Y A) (h1 : LQ (ChQ G 6 f 0) (ChX G 6 f 0) [eIA, eUO] v G1) : (∃ c, v = some (vI c)) ∧ KP9 G G1 :=
  LQ_k h1 (fun u G9 h => by obtain ⟨-, Ga, Gb, r, hF, hrem, hpf, -⟩ := h; exact fun p z a b => (Pf_fr hpf p z (by omega) (by omega) (by omega)).trans ((RemR_k (past_FrP hF hI.2.1.1) hrem p z (by omega)).trans (hF p z (by omega) (by omega)))) (fun e G9 h => KP9_P h.1)
theorem kp_runScript {G G1 : Mem} {v : Option Value} {Y A : Int} (hI : LawI G Y A) (h1 : LQ (fun v G' => ∃ Gp Gc Gk Gr, (prs (G 102) (G 2 1)).1 = 1 ∧ FrPr G Gp ∧ CpS (upd2 Gp 2 1 0) Gc 12 4 ∧ RunR (G 102) (G 2 1) Gc (prs (G 102) (G 2 1)).2.1.toNat Gk ∧ RemR Gk Gr ∧ CpS Gr G' 4 12 ∧ v = some (vI (prs (G 102) (G 2 1)).2.1)) (fun e G' => (e = eIA ∧ (prs (G 102) (G 2 1)).1 ≠ 1 ∧ ∃ Gp, FrPr G Gp ∧ G' = upd2 (upd2 Gp 2 1 0) 0 9 (prs (G 102) (G 2 1)).2.2) ∨ (e = eIS ∧ (prs (G 102) (G 2 1)).1 = 1 ∧ ∃ Gp Gc Gk Gn, ∃ k r : Int, FrPr G Gp ∧ CpS (upd2 Gp 2 1 0) Gc 12 4 ∧ (0 ≤ k ∧ k < (prs (G 102) (G 2 1)).2.1) ∧ RunR (G 102) (G 2 1) Gc k.toNat Gk ∧ FltV Gk 12 (vb (G 102) (G 2 1) (ps (G 102) (G 2 1) k.toNat)) (cA (G 102) (G 2 1) (ps (G 102) (G 2 1) k.toNat)) (cB (G 102) (G 2 1) (ps (G 102) (G 2 1) k.toNat)) r ∧ r ≠ 0 ∧ FrP Gk Gn ∧ G' = upd2 Gn 0 10 k)) [eIA, eIS] v G1) : (∃ c, v = some (vI c)) ∧ KP9 G G1 := by
  refine LQ_k h1 (fun u G9 h => ?_) (fun e G9 h => ?_)
  · obtain ⟨Gp, Gc, Gk, Gr, hp1, hpr, hcp, hrun, hrem, hcp2, hv⟩ := h
    have hkc := RunR_fr _ _ hrun
    have gk : ∀ i z, ¬ (12 ≤ i ∧ i ≤ 19) → i ≠ 2 → ¬ (103 ≤ i ∧ i ≤ 105) → ¬ (92 ≤ i ∧ i ≤ 99) → i ≠ 1 → Gk i z = G i z := fun i z a b c d e => (hkc i z a d (by omega)).trans ((hcp.2.2.2 i z (by omega)).trans ((upd2_i b).trans (hpr i z (by omega) (by omega))))
    have hpk : PastI Gk := by
      unfold PastI
      rw [gk 0 8 (by omega) (by omega) (by omega) (by omega) (by omega), show Gk 3 = G 3 from funext fun z => gk 3 z (by omega) (by omega) (by omega) (by omega) (by omega)]
      exact hI.2.1.1
    exact fun p z a b => (hcp2.2.2.2 p z (by omega)).trans ((RemR_k hpk hrem p z (by omega)).trans (gk p z (by omega) (by omega) (by omega) (by omega) (by omega)))
  · rcases h with ⟨-, -, Gp, hpr, rfl⟩ | ⟨-, -, Gp, Gc, Gk, Gn, kk, r0, hpr, hcp, -, hrun, -, -, hF, rfl⟩
    · exact fun p z a b => (upd2_i (by omega)).trans ((upd2_i (by omega)).trans (hpr p z (by omega) (by omega)))
    · exact fun p z a b => (upd2_i (by omega)).trans ((hF p z (by omega) (by omega)).trans ((RunR_fr _ _ hrun p z (by omega) (by omega) (by omega)).trans ((hcp.2.2.2 p z (by omega)).trans ((upd2_i (by omega)).trans (hpr p z (by omega) (by omega))))))
