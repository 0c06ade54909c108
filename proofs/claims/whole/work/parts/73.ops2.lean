-- questions that both answer at once, and payments
def OpD (G2 : Mem) (v w : Option Value) (Y A : Int) : Prop := ∃ r : Int, v = some (vI r) ∧ w = some (vI r) ∧ (-2147483648 ≤ r ∧ r < 2147483648) ∧ LawI G2 Y A
theorem opd {G G1 G2 : Mem} {v w : Option Value} {Y A X X' : Int} (hI : LawI G Y A) (hf : LFr G G1) (h1 : v = some (vI X)) (h2 : RM X' (upd2 G1 106 8 0) w G2) (e : X' = X) : OpD G2 v w Y A := by
  obtain ⟨hw, rfl⟩ := h2
  subst e
  obtain ⟨r, hr, he⟩ := int_norm ⟨_, h1⟩
  exact ⟨r, he, by rw [hw, ← he, h1], hr, LawI_fr hI (LFr_t hf (LFr_106 _ _))⟩

theorem op_dieCount {G G1 G2 : Mem} {v w : Option Value} {Y A : Int} (hI : LawI G Y A) (h1 : (RM (G 4 0) G) v G1) (h2 : (RM (G1 107 0) (upd2 G1 106 8 0)) w G2) : OpD G2 v w Y A := by
  obtain ⟨hSt, hM, hR, -⟩ := id hI.1
  obtain ⟨hv, rfl⟩ := h1
  exact opd hI (LFr_r _) hv h2 (hR.1.1)
theorem op_leaves {G G1 G2 : Mem} {v w : Option Value} {Y A : Int} (hI : LawI G Y A) (h1 : (RM (G 4 9) G) v G1) (h2 : (RM (G1 107 1) (upd2 G1 106 8 0)) w G2) : OpD G2 v w Y A := by
  obtain ⟨hSt, hM, hR, -⟩ := id hI.1
  obtain ⟨hv, rfl⟩ := h1
  exact opd hI (LFr_r _) hv h2 (hR.1.2.1)
theorem op_year {G G1 G2 : Mem} {v w : Option Value} {Y A : Int} (hI : LawI G Y A) (h1 : (RM (G 4 10) G) v G1) (h2 : (RM (G1 107 2) (upd2 G1 106 8 0)) w G2) : OpD G2 v w Y A := by
  obtain ⟨hSt, hM, hR, -⟩ := id hI.1
  obtain ⟨hv, rfl⟩ := h1
  exact opd hI (LFr_r _) hv h2 (hR.1.2.2.1)
theorem op_vaultCoins {G G1 G2 : Mem} {v w : Option Value} {Y A : Int} (hI : LawI G Y A) (h1 : (RM (G 4 5) G) v G1) (h2 : (RM (G1 107 3) (upd2 G1 106 8 0)) w G2) : OpD G2 v w Y A := by
  obtain ⟨hSt, hM, hR, -⟩ := id hI.1
  obtain ⟨hv, rfl⟩ := h1
  exact opd hI (LFr_r _) hv h2 (hR.1.2.2.2.1)
theorem op_struckTotal {G G1 G2 : Mem} {v w : Option Value} {Y A : Int} (hI : LawI G Y A) (h1 : (RM (G 4 11) G) v G1) (h2 : (RM (G1 107 4) (upd2 G1 106 8 0)) w G2) : OpD G2 v w Y A := by
  obtain ⟨hSt, hM, hR, -⟩ := id hI.1
  obtain ⟨hv, rfl⟩ := h1
  exact opd hI (LFr_r _) hv h2 (hR.1.2.2.2.2.1)
theorem op_paidTotal {G G1 G2 : Mem} {v w : Option Value} {Y A : Int} (hI : LawI G Y A) (h1 : (RM (G 4 12) G) v G1) (h2 : (RM (G1 107 5) (upd2 G1 106 8 0)) w G2) : OpD G2 v w Y A := by
  obtain ⟨hSt, hM, hR, -⟩ := id hI.1
  obtain ⟨hv, rfl⟩ := h1
  exact opd hI (LFr_r _) hv h2 (hR.1.2.2.2.2.2.1)
theorem op_paidWeight {G G1 G2 : Mem} {v w : Option Value} {Y A : Int} (hI : LawI G Y A) (h1 : (RM (G 4 13) G) v G1) (h2 : (RM (G1 107 6) (upd2 G1 106 8 0)) w G2) : OpD G2 v w Y A := by
  obtain ⟨hSt, hM, hR, -⟩ := id hI.1
  obtain ⟨hv, rfl⟩ := h1
  exact opd hI (LFr_r _) hv h2 (hR.1.2.2.2.2.2.2.1)
theorem op_lostWeight {G G1 G2 : Mem} {v w : Option Value} {Y A : Int} (hI : LawI G Y A) (h1 : (RM (G 4 14) G) v G1) (h2 : (RM (G1 107 7) (upd2 G1 106 8 0)) w G2) : OpD G2 v w Y A := by
  obtain ⟨hSt, hM, hR, -⟩ := id hI.1
  obtain ⟨hv, rfl⟩ := h1
  exact opd hI (LFr_r _) hv h2 (hR.1.2.2.2.2.2.2.2.1)
theorem op_addedWeight {G G1 G2 : Mem} {v w : Option Value} {Y A : Int} (hI : LawI G Y A) (h1 : (RM (G 4 15) G) v G1) (h2 : (RM (G1 107 8) (upd2 G1 106 8 0)) w G2) : OpD G2 v w Y A := by
  obtain ⟨hSt, hM, hR, -⟩ := id hI.1
  obtain ⟨hv, rfl⟩ := h1
  exact opd hI (LFr_r _) hv h2 (hR.1.2.2.2.2.2.2.2.2)
theorem op_vaultValue {G G1 G2 : Mem} {v w : Option Value} {Y A : Int} (hI : LawI G Y A) (h1 : (RM (sz (G 4 5) (fun k => G 5 (G 9 k))) G) v G1) (h2 : (RM (sz (G1 107 3) (fun k => G1 107 (9 + 3 * G1 107 (24 + 3 * k)))) (upd2 G1 106 8 0)) w G2) : OpD G2 v w Y A := by
  obtain ⟨hSt, hM, hR, -⟩ := id hI.1
  obtain ⟨hv, rfl⟩ := h1
  exact opd hI (LFr_r _) hv h2 (qr_value hSt hR)
theorem op_vaultValueByDies {G G1 G2 : Mem} {v w : Option Value} {Y A : Int} (hI : LawI G Y A) (h1 : (RM (sz (G 4 0) (fun i => G 5 i * cntE (G 4 5) (G 9) i)) G) v G1) (h2 : (RM (sz (G1 107 3) (fun k => G1 107 (9 + 3 * G1 107 (24 + 3 * k)))) (upd2 G1 106 8 0)) w G2) : OpD G2 v w Y A := by
  obtain ⟨hSt, hM, hR, -⟩ := id hI.1
  obtain ⟨hv, rfl⟩ := h1
  exact opd hI (LFr_r _) hv h2 ((qr_value hSt hR).trans (val_both hSt))
theorem op_vaultWeight {G G1 G2 : Mem} {v w : Option Value} {Y A : Int} (hI : LawI G Y A) (h1 : (RM (wgt (G 4 5) (G 9) (G 6)) G) v G1) (h2 : (RM (sz (G1 107 3) (fun k => G1 107 (9 + 3 * G1 107 (24 + 3 * k) + 1))) (upd2 G1 106 8 0)) w G2) : OpD G2 v w Y A := by
  obtain ⟨hSt, hM, hR, -⟩ := id hI.1
  obtain ⟨hv, rfl⟩ := h1
  exact opd hI (LFr_r _) hv h2 (qr_weight hSt hR)
theorem op_coinsOfYear {G G1 G2 : Mem} {v w : Option Value} {Y A : Int} {y : Int} (hI : LawI G Y A) (h1 : (RM (cntE (G 4 5) (G 10) y) G) v G1) (h2 : (RM (cntE (G1 107 3) (fun k => G1 107 (24 + 3 * k + 1)) y) (upd2 G1 106 8 0)) w G2) : OpD G2 v w Y A := by
  obtain ⟨hSt, hM, hR, -⟩ := id hI.1
  obtain ⟨hv, rfl⟩ := h1
  exact opd hI (LFr_r _) hv h2 (qr_year hR _)
theorem op_kinds {G G1 G2 : Mem} {v w : Option Value} {Y A : Int} (hI : LawI G Y A) (h1 : (RM (sz (G 4 5) (fun k => bI (isFirst (G 9) (G 10) (G 11) k))) G) v G1) (h2 : (RM (sz (G1 107 3) (fun k => bI (isFirst (fun k => G1 107 (24 + 3 * k)) (fun k => G1 107 (24 + 3 * k + 1)) (fun k => G1 107 (24 + 3 * k + 2)) k))) (upd2 G1 106 8 0)) w G2) : OpD G2 v w Y A := by
  obtain ⟨hSt, hM, hR, -⟩ := id hI.1
  obtain ⟨hv, rfl⟩ := h1
  exact opd hI (LFr_r _) hv h2 (qr_kinds hM hSt hR)
theorem op_recallGrams {G G1 G2 : Mem} {v w : Option Value} {Y A : Int} {y : Int} (hI : LawI G Y A) (h1 : (RM (mlt (G 4 5) (G 9) (G 6) (G 10) (G 11) y) G) v G1) (h2 : (RM (mlt (G1 107 3) (fun k => G1 107 (24 + 3 * k)) (fun i => G1 107 (9 + 3 * i + 1)) (fun k => G1 107 (24 + 3 * k + 1)) (fun k => G1 107 (24 + 3 * k + 2)) y) (upd2 G1 106 8 0)) w G2) : OpD G2 v w Y A := by
  obtain ⟨hSt, hM, hR, -⟩ := id hI.1
  obtain ⟨hv, rfl⟩ := h1
  exact opd hI (LFr_r _) hv h2 (qr_mlt hSt hR _)
theorem op_isConsistent {G G1 G2 : Mem} {v w : Option Value} {Y A : Int} (hI : LawI G Y A) (h1 : (fun v G' => v = some (vI 1) ∧ ∀ i z, ¬ (94 ≤ i ∧ i ≤ 101) → ¬ (i = 1 ∧ (z = 4 ∨ z = 5)) → G' i z = G i z) v G1) (h2 : (RM 1 (upd2 G1 106 8 0)) w G2) : OpD G2 v w Y A :=
  opd hI (fun p z k => h1.2 p z (by unfold lawK at k; omega) (by unfold lawK at k; omega)) h1.1 h2 rfl
theorem op_payableAmounts {G G1 G2 : Mem} {v w : Option Value} {Y A : Int} (hI : LawI G Y A) (h1 : (RP (fun r G' => r = sz 99 (fun i => bI (Tab (vsR G 4) (cnR G 4) (G 4 0).toNat (i + 1) ≠ 1000)) ∧ ∀ i z, ¬ (94 ≤ i ∧ i ≤ 99) → ¬ (i = 1 ∧ z = 4) → G' i z = G i z)) v G1) (h2 : (RP (fun r G' => G' 106 8 = 0 ∧ FrW G1 G' ∧ ∃ β, SrtM (G1 107) β ∧ r = sz 99 (fun i => bI (Tab (vsB (G1 107) β) (cnB (G1 107) β) (G1 107 0).toNat (i + 1) ≠ 1000)))) w G2) : OpD G2 v w Y A := by
  obtain ⟨hSt, hM, hR, -⟩ := id hI.1
  obtain ⟨r1, hv, hr1, hf1⟩ := h1
  have hf : LFr G G1 := fun p z k => hf1 p z (by unfold lawK at k; omega) (by unfold lawK at k; omega)
  have e7 : G1 107 = G 107 := funext fun z => hf 107 z (by unfold lawK; omega)
  obtain ⟨r2, hw, -, hfw, β, hβ, hr2⟩ := h2
  rw [e7] at hβ hr2
  have e : r2 = r1 := by
    rw [hr1, hr2]
    exact sz_congr fun k _ _ => by rw [Tab_rel hSt hR hβ (k + 1)]
  subst e
  obtain ⟨r, hr, he⟩ := int_norm ⟨_, hv⟩
  refine ⟨r, he, by rw [hw, ← he, hv], hr, LawI_fr hI (LFr_t hf fun p z k => hfw p z ?_ ?_ ?_)⟩
  · unfold lawK at k; omega
  · unfold lawK at k; omega
  · unfold lawK at k; omega
theorem opr {G G1 G2 : Mem} {Q : Option Value → Mem → Prop} {X : String → Mem → Prop} {cl : List String} {v w : Option Value} {P : Mem → Int → Mem → Prop} {Y A : Int} (hI : LawI G Y A) (h1 : LQ Q X cl v G1) (h2 : RP (P G1) w G2) (hQ : ∀ u G9, Q u G9 → LFr G G9) (hX : ∀ e G9, X e G9 → LFr G G9)
    (hP : ∀ r, P G1 r G2 → LFr G1 G2 ∧ G2 119 0 = G1 119 0 ∧ 0 ≤ G2 106 8 ∧ G2 106 8 ≤ 5)
    (ok : ∀ r1 r G9, Q (some (vI r1)) G9 → G1 107 = G 107 → (∀ i : Nat, i ≠ 119 → G1 i = G9 i) → P G1 r G2 → G2 106 8 = 0 ∧ some (vI r1) = some (vI r))
    (bad : ∀ (i : Nat) e r, cl[i]? = some e → X e G1 → G1 107 = G 107 → P G1 r G2 → G2 106 8 = (i : Int) + 1) : OpJ G2 v w Y A := by
  obtain ⟨r, rfl, hp⟩ := h2
  obtain ⟨hf2, h119, h106⟩ := hP r hp
  rcases h1 with ⟨rfl, r1, G9, hr, hq, rfl⟩ | ⟨i, e, hc, hx, rfl⟩
  · have hf := hQ _ _ hq
    have e7 : (upd2 G9 119 0 r1) 107 = G 107 := funext fun z => (upd2_i (by decide)).trans (hf 107 z (by unfold lawK; omega))
    obtain ⟨h8, he⟩ := ok r1 r G9 hq e7 (fun i hi => funext fun z => upd2_i hi) hp
    exact ⟨0, r1, rfl, he.symm, by omega, hr, h8, fun _ => h119.trans (upd2_s _ _ _ _), LawI_fr hI (LFr_t hf (LFr_t (LFr_119 _ _) hf2))⟩
  · have hf := hX _ _ hx
    have e7 : G1 107 = G 107 := funext fun z => hf 107 z (by unfold lawK; omega)
    have hi := bad i e r hc hx e7 hp
    obtain ⟨r2, hr2, he2⟩ := int_norm (v := some (vI r)) ⟨r, rfl⟩
    exact ⟨(i : Int) + 1, r2, rfl, he2, by omega, hr2, hi, fun q => by omega, LawI_fr hI (LFr_t hf hf2)⟩
theorem sz_gr {G : Mem} (hI : StI G 4) (a : Int) : sz (G 4 0) (grU (vsR G 4) (cnR G 4) (G 4 0) a) ≤ 200 := by
  have hn := StI_n hI
  have h := sz_monoI (f := grU (vsR G 4) (cnR G 4) (G 4 0) a) (g := fun _ => 40) hn.1 (fun k k0 k1 => by
    have := cnR_r hI (G 4 0 - 1 - k)
    unfold grU mnI
    split <;> omega)
  rw [sz_k hn.1] at h
  omega
theorem FrW_l {G G' : Mem} (h : FrW G G') : LFr G G' := fun p z k => h p z (by unfold lawK at k; omega) (by unfold lawK at k; omega) (by unfold lawK at k; omega)
theorem FrW_9 {G G' : Mem} (h : FrW G G') : G' 119 0 = G 119 0 := h 119 0 (by omega) (by omega) (by omega)
theorem u8_l (G : Mem) (k : Int) (hk : 0 ≤ k ∧ k ≤ 5) : LFr G (upd2 G 106 8 k) ∧ (upd2 G 106 8 k) 119 0 = G 119 0 ∧ 0 ≤ (upd2 G 106 8 k) 106 8 ∧ (upd2 G 106 8 k) 106 8 ≤ 5 := ⟨LFr_106 _ _, upd2_i (by decide), by rw [upd2_s]; exact hk⟩
theorem FrP_l {G G' : Mem} (h : FrP G G') : LFr G G' := fun p z k => h p z (by unfold lawK at k; omega) (by unfold lawK at k; omega)

theorem op_canPay {G G1 G2 : Mem} {v w : Option Value} {Y A : Int} {a : Int} (hI : LawI G Y A) (h1 : LQ (fun v G' => v = some (vI (bI ((Tab (vsR G 4) (cnR G 4) (G 4 0).toNat a) ≠ 1000))) ∧ (∀ i z, ¬ (94 ≤ i ∧ i ≤ 99) → ¬ (i = 1 ∧ z = 4) → G' i z = G i z) ∧ (1 ≤ a ∧ a ≤ 99)) (fun e G' => e = eIA ∧ G' = G ∧ ¬ (1 ≤ a ∧ a ≤ 99)) [eIA] v G1) (h2 : RP (fun r G' => (¬ (1 ≤ a ∧ a ≤ 99) ∧ G' = upd2 G1 106 8 1) ∨ ((1 ≤ a ∧ a ≤ 99) ∧ G' 106 8 = 0 ∧ FrW G1 G' ∧ ∃ β, SrtM (G1 107) β ∧ r = bI (Tab (vsB (G1 107) β) (cnB (G1 107) β) (G1 107 0).toNat a ≠ 1000))) w G2) : OpJ G2 v w Y A := by
  obtain ⟨hSt, hM, hR, -⟩ := id hI.1
  have e0 : G 107 0 = G 4 0 := qr_n hR
  have ed : ∀ d, 0 ≤ d → d < G 4 0 → G 107 (9 + 3 * d) = G 5 d ∧ G 107 (9 + 3 * d + 1) = G 6 d ∧ G 107 (9 + 3 * d + 2) = G 7 d := hR.2.1
  refine opr (P := fun G => (fun r G' => (¬ (1 ≤ a ∧ a ≤ 99) ∧ G' = upd2 G 106 8 1) ∨ ((1 ≤ a ∧ a ≤ 99) ∧ G' 106 8 = 0 ∧ FrW G G' ∧ ∃ β, SrtM (G 107) β ∧ r = bI (Tab (vsB (G 107) β) (cnB (G 107) β) (G 107 0).toNat a ≠ 1000)))) hI h1 h2 (fun u G9 h => by exact fun p z k => h.2.1 p z (by unfold lawK at k; omega) (by unfold lawK at k; omega)) (fun e G9 h => by rw [h.2.1]; exact LFr_r G) ?_ ?_ ?_
  · intro r hp
    rcases hp with ⟨-, h⟩ | ⟨-, h8, hf, -⟩
    · rw [h]; exact u8_l _ _ (by decide)
    · exact ⟨FrW_l hf, FrW_9 hf, by omega⟩
  · intro r1 r G9 hq e7 e9 hp
    rw [e7] at hp
    rcases hp with ⟨hk, -⟩ | ⟨hk, h8, hf, β, hβ, hr⟩
    · exact absurd hq.2.2 hk
    · exact ⟨h8, by rw [hq.1, hr, Tab_rel hSt hR hβ a]⟩
  · intro i e r hc hx e7 hp
    rcases i with _ | i
    · rcases hp with ⟨hk, h⟩ | ⟨hk, h⟩
      · rw [h, upd2_s]; rfl
      · exact absurd hk hx.2.2
    · cases hc
theorem op_fewestCoins {G G1 G2 : Mem} {v w : Option Value} {Y A : Int} {a : Int} (hI : LawI G Y A) (h1 : LQ (fun v G' => v = some (vI (Tab (vsR G 4) (cnR G 4) (G 4 0).toNat a)) ∧ (∀ i z, ¬ (94 ≤ i ∧ i ≤ 99) → ¬ (i = 1 ∧ z = 4) → G' i z = G i z) ∧ (1 ≤ a ∧ a ≤ 99) ∧ (Tab (vsR G 4) (cnR G 4) (G 4 0).toNat a) ≠ 1000) (fun e G' => (e = eIA ∧ G' = G ∧ ¬ (1 ≤ a ∧ a ≤ 99)) ∨ (e = eNE ∧ (∀ i z, ¬ (94 ≤ i ∧ i ≤ 99) → ¬ (i = 1 ∧ z = 4) → G' i z = G i z) ∧ (1 ≤ a ∧ a ≤ 99) ∧ (Tab (vsR G 4) (cnR G 4) (G 4 0).toNat a) = 1000)) [eIA, eNE] v G1) (h2 : RP (fun r G' => (¬ (1 ≤ a ∧ a ≤ 99) ∧ G' = upd2 G1 106 8 1) ∨ ((1 ≤ a ∧ a ≤ 99) ∧ FrW G1 G' ∧ ∃ β, SrtM (G1 107) β ∧ ((Tab (vsB (G1 107) β) (cnB (G1 107) β) (G1 107 0).toNat a ≠ 1000 ∧ G' 106 8 = 0 ∧ r = Tab (vsB (G1 107) β) (cnB (G1 107) β) (G1 107 0).toNat a) ∨ (Tab (vsB (G1 107) β) (cnB (G1 107) β) (G1 107 0).toNat a = 1000 ∧ G' 106 8 = 2)))) w G2) : OpJ G2 v w Y A := by
  obtain ⟨hSt, hM, hR, -⟩ := id hI.1
  have e0 : G 107 0 = G 4 0 := qr_n hR
  have ed : ∀ d, 0 ≤ d → d < G 4 0 → G 107 (9 + 3 * d) = G 5 d ∧ G 107 (9 + 3 * d + 1) = G 6 d ∧ G 107 (9 + 3 * d + 2) = G 7 d := hR.2.1
  refine opr (P := fun G => (fun r G' => (¬ (1 ≤ a ∧ a ≤ 99) ∧ G' = upd2 G 106 8 1) ∨ ((1 ≤ a ∧ a ≤ 99) ∧ FrW G G' ∧ ∃ β, SrtM (G 107) β ∧ ((Tab (vsB (G 107) β) (cnB (G 107) β) (G 107 0).toNat a ≠ 1000 ∧ G' 106 8 = 0 ∧ r = Tab (vsB (G 107) β) (cnB (G 107) β) (G 107 0).toNat a) ∨ (Tab (vsB (G 107) β) (cnB (G 107) β) (G 107 0).toNat a = 1000 ∧ G' 106 8 = 2))))) hI h1 h2 (fun u G9 h => by exact fun p z k => h.2.1 p z (by unfold lawK at k; omega) (by unfold lawK at k; omega)) (fun e G9 h => by exact h.elim (fun h => by rw [h.2.1]; exact LFr_r G) (fun h => fun p z k => h.2.1 p z (by unfold lawK at k; omega) (by unfold lawK at k; omega))) ?_ ?_ ?_
  · intro r hp
    rcases hp with ⟨-, h⟩ | ⟨-, hf, β, hβ, h | h⟩
    · rw [h]; exact u8_l _ _ (by decide)
    · exact ⟨FrW_l hf, FrW_9 hf, by omega⟩
    · exact ⟨FrW_l hf, FrW_9 hf, by omega⟩
  · intro r1 r G9 hq e7 e9 hp
    rw [e7] at hp
    rcases hp with ⟨hk, -⟩ | ⟨hk, hf, β, hβ, ⟨hn, h8, hr⟩ | ⟨hn, h8⟩⟩
    · exact absurd hq.2.2.1 hk
    · exact ⟨h8, by rw [hq.1, hr, Tab_rel hSt hR hβ a]⟩
    · rw [Tab_rel hSt hR hβ a] at hn
      exact absurd hn hq.2.2.2
  · intro i e r hc hx e7 hp
    rcases i with _ | _ | i
    · have he := Option.some.inj hc
      subst he
      rw [e7] at hp
      rcases hx with ⟨-, -, hx⟩ | ⟨q, -⟩
      · rcases hp with ⟨hk, h⟩ | ⟨hk, -⟩
        · rw [h, upd2_s]; rfl
        · exact absurd hk hx
      · exact absurd q (by decide +kernel)
    · have he := Option.some.inj hc
      subst he
      rw [e7] at hp
      rcases hx with ⟨q, -⟩ | ⟨-, -, hx, hx2⟩
      · exact absurd q (by decide +kernel)
      · rcases hp with ⟨hk, h⟩ | ⟨hk, hf, β, hβ, ⟨hn, -⟩ | ⟨hn, h8⟩⟩
        · exact absurd hx hk
        · rw [Tab_rel hSt hR hβ a] at hn
          exact absurd hx2 hn
        · rw [h8]; rfl
    · cases hc
theorem op_fewestCoinsBySets {G G1 G2 : Mem} {v w : Option Value} {Y A : Int} {a : Int} (hI : LawI G Y A) (h1 : LQ (fun v G' => ∃ r, v = some (vI r) ∧ (∀ i z, i ≠ 100 ∧ i ≠ 101 → ¬ (i = 1 ∧ z = 5) → G' i z = G i z) ∧ (1 ≤ a ∧ a ≤ 99) ∧ r ≠ 1000 ∧ SetR (fun k => PS (fun k => G 5 (G 9 k)) (G 4 5).toNat k a) (G 4 5) r) (fun e G' => (e = eIA ∧ G' = G ∧ ¬ (1 ≤ a ∧ a ≤ 99)) ∨ (e = eNE ∧ (∀ i z, i ≠ 100 ∧ i ≠ 101 → ¬ (i = 1 ∧ z = 5) → G' i z = G i z) ∧ (1 ≤ a ∧ a ≤ 99) ∧ SetR (fun k => PS (fun k => G 5 (G 9 k)) (G 4 5).toNat k a) (G 4 5) 1000)) [eIA, eNE] v G1) (h2 : RP (fun r G' => (¬ (1 ≤ a ∧ a ≤ 99) ∧ G' = upd2 G1 106 8 1) ∨ ((1 ≤ a ∧ a ≤ 99) ∧ FrW G1 G' ∧ ∃ β, SrtM (G1 107) β ∧ ((Tab (vsB (G1 107) β) (cnB (G1 107) β) (G1 107 0).toNat a ≠ 1000 ∧ G' 106 8 = 0 ∧ r = Tab (vsB (G1 107) β) (cnB (G1 107) β) (G1 107 0).toNat a) ∨ (Tab (vsB (G1 107) β) (cnB (G1 107) β) (G1 107 0).toNat a = 1000 ∧ G' 106 8 = 2)))) w G2) : OpJ G2 v w Y A := by
  obtain ⟨hSt, hM, hR, -⟩ := id hI.1
  have e0 : G 107 0 = G 4 0 := qr_n hR
  have ed : ∀ d, 0 ≤ d → d < G 4 0 → G 107 (9 + 3 * d) = G 5 d ∧ G 107 (9 + 3 * d + 1) = G 6 d ∧ G 107 (9 + 3 * d + 2) = G 7 d := hR.2.1
  refine opr (P := fun G => (fun r G' => (¬ (1 ≤ a ∧ a ≤ 99) ∧ G' = upd2 G 106 8 1) ∨ ((1 ≤ a ∧ a ≤ 99) ∧ FrW G G' ∧ ∃ β, SrtM (G 107) β ∧ ((Tab (vsB (G 107) β) (cnB (G 107) β) (G 107 0).toNat a ≠ 1000 ∧ G' 106 8 = 0 ∧ r = Tab (vsB (G 107) β) (cnB (G 107) β) (G 107 0).toNat a) ∨ (Tab (vsB (G 107) β) (cnB (G 107) β) (G 107 0).toNat a = 1000 ∧ G' 106 8 = 2))))) hI h1 h2 (fun u G9 h => by obtain ⟨r9, -, h, -⟩ := h; exact fun p z k => h p z (by unfold lawK at k; omega) (by unfold lawK at k; omega)) (fun e G9 h => by exact h.elim (fun h => by rw [h.2.1]; exact LFr_r G) (fun h => fun p z k => h.2.1 p z (by unfold lawK at k; omega) (by unfold lawK at k; omega))) ?_ ?_ ?_
  · intro r hp
    rcases hp with ⟨-, h⟩ | ⟨-, hf, β, hβ, h | h⟩
    · rw [h]; exact u8_l _ _ (by decide)
    · exact ⟨FrW_l hf, FrW_9 hf, by omega⟩
    · exact ⟨FrW_l hf, FrW_9 hf, by omega⟩
  · intro r1 r G9 hq e7 e9 hp
    rw [e7] at hp
    obtain ⟨r9, hv, -, ha, hn9, hset⟩ := hq
    have hT := tab_sets hSt a r9 hset
    rcases hp with ⟨hk, -⟩ | ⟨hk, hf, β, hβ, ⟨hn, h8, hr⟩ | ⟨hn, h8⟩⟩
    · exact absurd ha hk
    · exact ⟨h8, by rw [hv, hr, Tab_rel hSt hR hβ a, ← hT]⟩
    · rw [Tab_rel hSt hR hβ a, ← hT] at hn
      exact absurd hn hn9
  · intro i e r hc hx e7 hp
    rcases i with _ | _ | i
    · have he := Option.some.inj hc
      subst he
      rw [e7] at hp
      rcases hx with ⟨-, -, hx⟩ | ⟨q, -⟩
      · rcases hp with ⟨hk, h⟩ | ⟨hk, -⟩
        · rw [h, upd2_s]; rfl
        · exact absurd hk hx
      · exact absurd q (by decide +kernel)
    · have he := Option.some.inj hc
      subst he
      rw [e7] at hp
      rcases hx with ⟨q, -⟩ | ⟨-, -, hx, hx2⟩
      · exact absurd q (by decide +kernel)
      · have hT := tab_sets hSt a 1000 hx2
        rcases hp with ⟨hk, h⟩ | ⟨hk, hf, β, hβ, ⟨hn, -⟩ | ⟨hn, h8⟩⟩
        · exact absurd hx hk
        · rw [Tab_rel hSt hR hβ a] at hn
          exact absurd hT.symm hn
        · rw [h8]; rfl
    · cases hc
theorem op_greedyCoins {G G1 G2 : Mem} {v w : Option Value} {Y A : Int} {a : Int} (hI : LawI G Y A) (h1 : LQ (fun v G' => ∃ r, v = some (vI r) ∧ r = (if grR (vsR G 4) (cnR G 4) (G 4 0) a (G 4 0).toNat = 0 then sz (G 4 0) (grU (vsR G 4) (cnR G 4) (G 4 0) a) else 1000) ∧ G' = G ∧ (1 ≤ a ∧ a ≤ 99) ∧ r ≠ 1000) (fun e G' => (e = eIA ∧ G' = G ∧ ¬ (1 ≤ a ∧ a ≤ 99)) ∨ (e = eNE ∧ G' = G ∧ (1 ≤ a ∧ a ≤ 99) ∧ (if grR (vsR G 4) (cnR G 4) (G 4 0) a (G 4 0).toNat = 0 then sz (G 4 0) (grU (vsR G 4) (cnR G 4) (G 4 0) a) else 1000) = 1000)) [eIA, eNE] v G1) (h2 : RP (fun r G' => (¬ (1 ≤ a ∧ a ≤ 99) ∧ G' = upd2 G1 106 8 1) ∨ ((1 ≤ a ∧ a ≤ 99) ∧ FrW G1 G' ∧ ∃ β, SrtM (G1 107) β ∧ ((grR (vsB (G1 107) β) (cnB (G1 107) β) (G1 107 0) a (G1 107 0).toNat = 0 ∧ G' 106 8 = 0 ∧ r = sz (G1 107 0) (grU (vsB (G1 107) β) (cnB (G1 107) β) (G1 107 0) a)) ∨ (grR (vsB (G1 107) β) (cnB (G1 107) β) (G1 107 0) a (G1 107 0).toNat ≠ 0 ∧ G' 106 8 = 2)))) w G2) : OpJ G2 v w Y A := by
  obtain ⟨hSt, hM, hR, -⟩ := id hI.1
  have e0 : G 107 0 = G 4 0 := qr_n hR
  have ed : ∀ d, 0 ≤ d → d < G 4 0 → G 107 (9 + 3 * d) = G 5 d ∧ G 107 (9 + 3 * d + 1) = G 6 d ∧ G 107 (9 + 3 * d + 2) = G 7 d := hR.2.1
  have hgr : ∀ β, SrtM (G 107) β → grR (vsB (G 107) β) (cnB (G 107) β) (G 107 0) a (G 107 0).toNat = grR (vsR G 4) (cnR G 4) (G 4 0) a (G 4 0).toNat ∧ sz (G 107 0) (grU (vsB (G 107) β) (cnB (G 107) β) (G 107 0) a) = sz (G 4 0) (grU (vsR G 4) (cnR G 4) (G 4 0) a) := fun β hβ => by
    have hn := StI_n hSt
    rw [e0]
    exact ⟨grR_cg (vs_all hSt hR hβ) _ (by omega), sz_congr fun k k0 k1 => grU_cg (vs_all hSt hR hβ) ⟨k0, k1⟩⟩
  refine opr (P := fun G => (fun r G' => (¬ (1 ≤ a ∧ a ≤ 99) ∧ G' = upd2 G 106 8 1) ∨ ((1 ≤ a ∧ a ≤ 99) ∧ FrW G G' ∧ ∃ β, SrtM (G 107) β ∧ ((grR (vsB (G 107) β) (cnB (G 107) β) (G 107 0) a (G 107 0).toNat = 0 ∧ G' 106 8 = 0 ∧ r = sz (G 107 0) (grU (vsB (G 107) β) (cnB (G 107) β) (G 107 0) a)) ∨ (grR (vsB (G 107) β) (cnB (G 107) β) (G 107 0) a (G 107 0).toNat ≠ 0 ∧ G' 106 8 = 2))))) hI h1 h2 (fun u G9 h => by obtain ⟨r9, -, -, h, -⟩ := h; rw [h]; exact LFr_r G) (fun e G9 h => by exact h.elim (fun h => by rw [h.2.1]; exact LFr_r G) (fun h => by rw [h.2.1]; exact LFr_r G)) ?_ ?_ ?_
  · intro r hp
    rcases hp with ⟨-, h⟩ | ⟨-, hf, β, hβ, h | h⟩
    · rw [h]; exact u8_l _ _ (by decide)
    · exact ⟨FrW_l hf, FrW_9 hf, by omega⟩
    · exact ⟨FrW_l hf, FrW_9 hf, by omega⟩
  · intro r1 r G9 hq e7 e9 hp
    rw [e7] at hp
    obtain ⟨r9, hv, hr9, -, ha, hn9⟩ := hq
    rcases hp with ⟨hk, -⟩ | ⟨hk, hf, β, hβ, ⟨hn, h8, hr⟩ | ⟨hn, h8⟩⟩
    · exact absurd ha hk
    · rw [(hgr β hβ).1] at hn
      rw [if_pos hn] at hr9
      exact ⟨h8, by rw [hv, hr, hr9, (hgr β hβ).2]⟩
    · rw [(hgr β hβ).1] at hn
      rw [if_neg hn] at hr9
      exact absurd hr9 hn9
  · intro i e r hc hx e7 hp
    rcases i with _ | _ | i
    · have he := Option.some.inj hc
      subst he
      rw [e7] at hp
      rcases hx with ⟨-, -, hx⟩ | ⟨q, -⟩
      · rcases hp with ⟨hk, h⟩ | ⟨hk, -⟩
        · rw [h, upd2_s]; rfl
        · exact absurd hk hx
      · exact absurd q (by decide +kernel)
    · have he := Option.some.inj hc
      subst he
      rw [e7] at hp
      rcases hx with ⟨q, -⟩ | ⟨-, -, hx, hx2⟩
      · exact absurd q (by decide +kernel)
      · rcases hp with ⟨hk, h⟩ | ⟨hk, hf, β, hβ, ⟨hn, -⟩ | ⟨hn, h8⟩⟩
        · exact absurd hx hk
        · rw [(hgr β hβ).1] at hn
          rw [if_pos hn] at hx2
          have hs := sz_gr hSt a
          exfalso; omega
        · rw [h8]; rfl
    · cases hc
theorem op_coinsUsed {G G1 G2 : Mem} {v w : Option Value} {Y A : Int} {a : Int} {x : Int} (hI : LawI G Y A) (h1 : LQ (fun v G' => ∃ d, v = some (vI (G' 92 d)) ∧ (1 ≤ a ∧ a ≤ 99) ∧ (0 ≤ d ∧ d < G 4 0) ∧ G 5 d = x ∧ (Tab (vsR G 4) (cnR G 4) (G 4 0).toNat a) ≠ 1000 ∧ FrP G G' ∧ ∀ s, 0 ≤ s → s < G 4 0 → G' 92 (G 8 s) = usF (vsR G 4) (cnR G 4) (G 4 0) a s) (fun e G' => (e = eIA ∧ G' = G ∧ ¬ (1 ≤ a ∧ a ≤ 99)) ∨ (e = eNE ∧ G' = G ∧ (1 ≤ a ∧ a ≤ 99) ∧ ∀ i, 0 ≤ i → i < G 4 0 → G 5 i ≠ x) ∨ (e = eUO ∧ FrP G G' ∧ (1 ≤ a ∧ a ≤ 99) ∧ (∃ d, (0 ≤ d ∧ d < G 4 0) ∧ G 5 d = x) ∧ (Tab (vsR G 4) (cnR G 4) (G 4 0).toNat a) = 1000)) [eIA, eNE, eUO] v G1) (h2 : RP (fun r G' => (¬ (1 ≤ a ∧ a ≤ 99) ∧ G' = upd2 G1 106 8 1) ∨ ((1 ≤ a ∧ a ≤ 99) ∧ (∀ i, 0 ≤ i → i < G1 107 0 → G1 107 (9 + 3 * i) ≠ x) ∧ G' = upd2 G1 106 8 2) ∨ ((1 ≤ a ∧ a ≤ 99) ∧ FrW G1 G' ∧ (∃ i, (0 ≤ i ∧ i < G1 107 0) ∧ G1 107 (9 + 3 * i) = x) ∧ ∃ β, SrtM (G1 107) β ∧ ((Tab (vsB (G1 107) β) (cnB (G1 107) β) (G1 107 0).toNat a ≠ 1000 ∧ G' 106 8 = 0 ∧ ∃ h, (0 ≤ h ∧ h < G1 107 0) ∧ G1 107 (9 + 3 * β h) = x ∧ r = usB (G1 107) β a h) ∨ (Tab (vsB (G1 107) β) (cnB (G1 107) β) (G1 107 0).toNat a = 1000 ∧ G' 106 8 = 3)))) w G2) : OpJ G2 v w Y A := by
  obtain ⟨hSt, hM, hR, -⟩ := id hI.1
  have e0 : G 107 0 = G 4 0 := qr_n hR
  have ed : ∀ d, 0 ≤ d → d < G 4 0 → G 107 (9 + 3 * d) = G 5 d ∧ G 107 (9 + 3 * d + 1) = G 6 d ∧ G 107 (9 + 3 * d + 2) = G 7 d := hR.2.1
  refine opr (P := fun G => (fun r G' => (¬ (1 ≤ a ∧ a ≤ 99) ∧ G' = upd2 G 106 8 1) ∨ ((1 ≤ a ∧ a ≤ 99) ∧ (∀ i, 0 ≤ i → i < G 107 0 → G 107 (9 + 3 * i) ≠ x) ∧ G' = upd2 G 106 8 2) ∨ ((1 ≤ a ∧ a ≤ 99) ∧ FrW G G' ∧ (∃ i, (0 ≤ i ∧ i < G 107 0) ∧ G 107 (9 + 3 * i) = x) ∧ ∃ β, SrtM (G 107) β ∧ ((Tab (vsB (G 107) β) (cnB (G 107) β) (G 107 0).toNat a ≠ 1000 ∧ G' 106 8 = 0 ∧ ∃ h, (0 ≤ h ∧ h < G 107 0) ∧ G 107 (9 + 3 * β h) = x ∧ r = usB (G 107) β a h) ∨ (Tab (vsB (G 107) β) (cnB (G 107) β) (G 107 0).toNat a = 1000 ∧ G' 106 8 = 3))))) hI h1 h2 (fun u G9 h => by obtain ⟨d, -, -, -, -, -, h, -⟩ := h; exact FrP_l h) (fun e G9 h => by exact h.elim (fun h => by rw [h.2.1]; exact LFr_r G) (fun h => h.elim (fun h => by rw [h.2.1]; exact LFr_r G) (fun h => FrP_l h.2.1))) ?_ ?_ ?_
  · intro r hp
    rcases hp with ⟨-, h⟩ | ⟨-, -, h⟩ | ⟨-, hf, -, β, hβ, h | h⟩
    · rw [h]; exact u8_l _ _ (by decide)
    · rw [h]; exact u8_l _ _ (by decide)
    · exact ⟨FrW_l hf, FrW_9 hf, by omega⟩
    · exact ⟨FrW_l hf, FrW_9 hf, by omega⟩
  · intro r1 r G9 hq e7 e9 hp
    rw [e7] at hp
    obtain ⟨d, hv, ha, hd, hdx, hn9, hF, hu⟩ := hq
    rcases hp with ⟨hk, -⟩ | ⟨-, hno, -⟩ | ⟨-, hf, -, β, hβ, ⟨hn, h8, h, hh0, hhx, hr⟩ | ⟨hn, h8⟩⟩
    · exact absurd ha hk
    · exact absurd ((ed d hd.1 hd.2).1.trans hdx) (hno d hd.1 (by omega))
    · have hs := hβ.2 h hh0.1 hh0.2
      have eβ : β h = d := by
        have b1 := ed (β h) hs.1.1 (by omega)
        have b2 := ed d hd.1 hd.2
        rcases Int.lt_trichotomy (β h) d with q | q | q
        · exact absurd (show G 107 (9 + 3 * β h) = G 107 (9 + 3 * d) by omega) (hM.2.2.2.2.2.2 _ d hs.1.1 q (by omega))
        · exact q
        · exact absurd (show G 107 (9 + 3 * d) = G 107 (9 + 3 * β h) by omega) (hM.2.2.2.2.2.2 d _ hd.1 q hs.1.2)
      have hρ : β h = G 8 (G 4 0 - 1 - h) := by
        have q := β_ρ (s := G 4 0 - 1 - h) hSt hR hβ (by omega) (by omega)
        rw [show G 107 0 - 1 - (G 4 0 - 1 - h) = h by omega] at q
        exact q
      have hus := us_rel hSt hR hβ a (k := h) (by omega)
      have hu2 := hu (G 4 0 - 1 - h) (by omega) (by omega)
      exact ⟨h8, by rw [hv, hr, hus, ← hu2, ← hρ, eβ]⟩
    · rw [Tab_rel hSt hR hβ a] at hn
      exact absurd hn hn9
  · intro i e r hc hx e7 hp
    rw [e7] at hp
    rcases i with _ | _ | _ | i
    · have he := Option.some.inj hc
      subst he
      rcases hx with ⟨-, -, hx⟩ | ⟨q, -⟩ | ⟨q, -⟩
      · rcases hp with ⟨hk, h⟩ | ⟨hk, -⟩ | ⟨hk, -⟩
        · rw [h, upd2_s]; rfl
        · exact absurd hk hx
        · exact absurd hk hx
      · exact absurd q (by decide +kernel)
      · exact absurd q (by decide +kernel)
    · have he := Option.some.inj hc
      subst he
      rcases hx with ⟨q, -⟩ | ⟨-, -, hx, hx2⟩ | ⟨q, -⟩
      · exact absurd q (by decide +kernel)
      · rcases hp with ⟨hk, h⟩ | ⟨hk, hno, h⟩ | ⟨hk, hf, ⟨d2, hd2, hdx⟩, -⟩
        · exact absurd hx hk
        · rw [h, upd2_s]; rfl
        · exact absurd ((ed d2 hd2.1 (by omega)).1.symm.trans hdx) (hx2 d2 hd2.1 (by omega))
      · exact absurd q (by decide +kernel)
    · have he := Option.some.inj hc
      subst he
      rcases hx with ⟨q, -⟩ | ⟨q, -⟩ | ⟨-, -, hx, ⟨d2, hd2, hdx⟩, hT⟩
      · exact absurd q (by decide +kernel)
      · exact absurd q (by decide +kernel)
      · rcases hp with ⟨hk, h⟩ | ⟨hk, hno, h⟩ | ⟨hk, hf, -, β, hβ, ⟨hn, -⟩ | ⟨hn, h8⟩⟩
        · exact absurd hx hk
        · exact absurd ((ed d2 hd2.1 hd2.2).1.trans hdx) (hno d2 hd2.1 (by omega))
        · rw [Tab_rel hSt hR hβ a] at hn
          exact absurd hT hn
        · rw [h8]; rfl
    · cases hc
