-- typing, undoing, saving, restoring; the mean wear and the share of a grade
def SavI (G : Mem) (Y A : Int) : Prop := (G 0 7 = 0 ∨ G 0 7 = 1) ∧ G 106 3 = G 0 7 ∧ (G 0 7 = 1 → SSk (G 109) G 20 Y A)
def ScrI (G : Mem) : Prop := (0 ≤ G 2 1 ∧ G 2 1 ≤ 60) ∧ G 106 10 = G 2 1 ∧ (∀ j, G 111 j = G 102 j) ∧ ∀ j, 0 ≤ j → j < G 2 1 → 32 ≤ G 102 j ∧ G 102 j ≤ 126
def ErrI (G : Mem) : Prop := (-1 ≤ G 0 9 ∧ G 0 9 ≤ 1000) ∧ G 106 6 = G 0 9 ∧ (-1 ≤ G 0 10 ∧ G 0 10 ≤ 1000) ∧ G 106 7 = G 0 10
theorem LawI_ge {G G' : Mem} {Y A : Int} (h : LawI G Y A) (hS : SSk (G' 107) G' 4 Y A ∨ ∀ p z, (4 ≤ p ∧ p < 12) ∨ p = 107 → G' p z = G p z)
    (hP : PastL G' (G' 110) (G' 106 5) Y A ∨ ∀ p z, (p = 0 ∧ z = 8) ∨ p = 3 ∨ (28 ≤ p ∧ p < 92) ∨ p = 110 ∨ (p = 106 ∧ z = 5) → G' p z = G p z)
    (hV : SavI G' Y A ∨ ∀ p z, (p = 0 ∧ z = 7) ∨ (20 ≤ p ∧ p < 28) ∨ p = 109 ∨ (p = 106 ∧ z = 3) → G' p z = G p z)
    (hC : ScrI G' ∨ ∀ p z, p = 102 ∨ p = 111 ∨ (p = 2 ∧ z = 1) ∨ (p = 106 ∧ z = 10) → G' p z = G p z)
    (hE : ErrI G' ∨ ∀ p z, (p = 0 ∧ (z = 9 ∨ z = 10)) ∨ (p = 106 ∧ (z = 6 ∨ z = 7)) → G' p z = G p z)
    (hT : TextI G' ∨ ∀ p z, p = 115 ∨ 121 ≤ p ∨ (p = 106 ∧ z = 15) → G' p z = G p z) (hM : ∀ p z, p = 116 ∨ p = 117 → G' p z = G p z) : LawI G' Y A := by
  obtain ⟨a1, ⟨a2, a3, a4⟩, a5, a6, a7, a8, a9⟩ := h
  refine ⟨?_, ?_, ?_, ?_, ?_, ?_, ?_⟩
  · rcases hS with q | k
    · exact q
    · rw [show G' 107 = G 107 from funext fun z => k 107 z (by omega)]
      exact SSk_fr a1 fun j hj w => k (4 + j) w (by omega)
  · rcases hP with q | k
    · exact q
    · have e8 : G' 0 8 = G 0 8 := k 0 8 (by omega)
      have e3 : G' 3 = G 3 := funext fun z => k 3 z (by omega)
      have e10 : G' 110 = G 110 := funext fun z => k 110 z (by omega)
      refine ⟨by unfold PastI; rw [e8, e3]; exact a2, by rw [e8, k 106 5 (by omega)]; exact a3, fun j j0 j1 => ?_⟩
      rw [e8] at j1
      rw [e3, e10]
      have hl := a2.2.1 j j0 (by have := a2.1; omega)
      have hl2 := isS_lt hl.2
      exact SSk_fr (a4 j j0 j1) fun i hi w => k _ w (by omega)
  · rcases hV with q | k
    · exact q
    · obtain ⟨b1, b2, b3⟩ := a5
      refine ⟨by rw [k 0 7 (by omega)]; exact b1, by rw [k 0 7 (by omega), k 106 3 (by omega)]; exact b2, fun h1 => ?_⟩
      rw [k 0 7 (by omega)] at h1
      rw [show G' 109 = G 109 from funext fun z => k 109 z (by omega)]
      exact SSk_fr (b3 h1) fun j hj w => k (20 + j) w (by omega)
  · rcases hC with q | k
    · exact q
    · obtain ⟨b1, b2, b3⟩ := a6
      rw [k 2 1 (by omega), k 106 10 (by omega), show G' 111 = G 111 from funext fun z => k 111 z (by omega), show G' 102 = G 102 from funext fun z => k 102 z (by omega)]
      exact ⟨b1, b2, b3⟩
  · rcases hE with q | k
    · exact q
    · rw [k 0 9 (by omega), k 0 10 (by omega), k 106 6 (by omega), k 106 7 (by omega)]
      exact a7
  · rcases hT with q | k
    · exact q
    · unfold TextI
      rw [k 122 0 (by omega), k 106 15 (by omega), show G' 115 = G 115 from funext fun z => k 115 z (by omega), show G' 121 = G 121 from funext fun z => k 121 z (by omega)]
      exact a8
  · unfold McL
    rw [show G' 116 = G 116 from funext fun z => hM 116 z (by omega), show G' 117 = G 117 from funext fun z => hM 117 z (by omega)]
    exact a9
theorem opz {G1 G2 : Mem} {Q : Option Value → Mem → Prop} {X : String → Mem → Prop} {cl : List String} {v w : Option Value} {P : Mem → Int → Mem → Prop} {Y A : Int} (h1 : LQ Q X cl v G1) (h2 : RP (P G1) w G2)
    (ok : ∀ r1 r G9, Q (some (vI r1)) G9 → G1 = upd2 G9 119 0 r1 → P G1 r G2 → G2 106 8 = 0 ∧ some (vI r1) = some (vI r) ∧ G2 119 0 = r1 ∧ LawI G2 Y A)
    (bad : ∀ (i : Nat) e r, cl[i]? = some e → X e G1 → P G1 r G2 → G2 106 8 = (i : Int) + 1 ∧ (i : Int) + 1 ≤ 5 ∧ LawI G2 Y A) : OpJ G2 v w Y A := by
  obtain ⟨r, rfl, hp⟩ := h2
  rcases h1 with ⟨rfl, r1, G9, hr, hq, e1⟩ | ⟨i, e, hc, hx, rfl⟩
  · obtain ⟨h8, he, h9, hl⟩ := ok r1 r G9 hq e1 hp
    exact ⟨0, r1, rfl, he.symm, by omega, hr, h8, fun _ => h9, hl⟩
  · obtain ⟨h8, h5, hl⟩ := bad i e r hc hx hp
    obtain ⟨r2, hr2, he2⟩ := int_norm (v := some (vI r)) ⟨r, rfl⟩
    exact ⟨(i : Int) + 1, r2, rfl, he2, by omega, hr2, h8, fun q => by omega, hl⟩
theorem op_type {G G1 G2 : Mem} {v w : Option Value} {Y A : Int} {c : Int} (hI : LawI G Y A) (h1 : LQ (fun v G' => v = some (vI (G 2 1 + 1)) ∧ (32 ≤ c ∧ c ≤ 126) ∧ G 2 1 < 60 ∧ G' = upd2 (upd2 G 102 (G 2 1) c) 2 1 (G 2 1 + 1)) (fun e G' => G' = G ∧ ((e = eIA ∧ ¬ (32 ≤ c ∧ c ≤ 126)) ∨ (e = eIS ∧ (32 ≤ c ∧ c ≤ 126) ∧ 60 ≤ G 2 1))) [eIA, eIS] v G1) (h2 : RP (fun r G' => ((32 ≤ c ∧ c ≤ 126) ∧ G1 106 10 < 60 ∧ r = G1 106 10 + 1 ∧ G' 106 8 = 0 ∧ G' 106 10 = G1 106 10 + 1 ∧ G' 111 (G1 106 10) = c ∧ ∀ i z, ¬ (i = 106 ∧ (z = 8 ∨ z = 10)) → ¬ (i = 111 ∧ z = G1 106 10) → G' i z = G1 i z) ∨ (G' = upd2 G1 106 8 1 ∧ ¬ (32 ≤ c ∧ c ≤ 126)) ∨ (G' = upd2 G1 106 8 2 ∧ (32 ≤ c ∧ c ≤ 126) ∧ G1 106 10 = 60)) w G2) : OpJ G2 v w Y A := by
  obtain ⟨aS, ⟨p1, p2, p3⟩, ⟨s1, s2, s3⟩, ⟨c1, c2, c3, c4⟩, aE, aT, aM⟩ := id hI
  refine opz (P := fun G => (fun r G' => ((32 ≤ c ∧ c ≤ 126) ∧ G 106 10 < 60 ∧ r = G 106 10 + 1 ∧ G' 106 8 = 0 ∧ G' 106 10 = G 106 10 + 1 ∧ G' 111 (G 106 10) = c ∧ ∀ i z, ¬ (i = 106 ∧ (z = 8 ∨ z = 10)) → ¬ (i = 111 ∧ z = G 106 10) → G' i z = G i z) ∨ (G' = upd2 G 106 8 1 ∧ ¬ (32 ≤ c ∧ c ≤ 126)) ∨ (G' = upd2 G 106 8 2 ∧ (32 ≤ c ∧ c ≤ 126) ∧ G 106 10 = 60))) h1 h2 ?_ ?_
  · intro r1 r G9 hq e1 hp
    obtain ⟨hv, hcr, hn, hG⟩ := hq
    subst hG
    have g : ∀ p z, p ≠ 119 → p ≠ 102 → ¬ (p = 2 ∧ z = 1) → G1 p z = G p z := fun p z a b c => by rw [e1, upd2_i a, upd2_n (by omega), upd2_i b]
    have g21 : G1 2 1 = G 2 1 + 1 := by rw [e1, upd2_i (by decide), upd2_s]
    have g102 : G1 102 (G 2 1) = c := by rw [e1, upd2_i (by decide), upd2_i (by decide), upd2_s]
    have g102o : ∀ z, z ≠ G 2 1 → G1 102 z = G 102 z := fun z hz => by rw [e1, upd2_i (by decide), upd2_i (by decide), upd2_z hz]
    have g10 : G1 106 10 = G 2 1 := (g 106 10 (by omega) (by omega) (by omega)).trans c2
    rcases hp with ⟨-, -, hr, h8, h10, h11, hf⟩ | ⟨-, hne⟩ | ⟨-, -, h60⟩
    · rw [g10] at hr h10 h11 hf
      have k : ∀ p z, p ≠ 119 → p ≠ 102 → ¬ (p = 2 ∧ z = 1) → ¬ (p = 106 ∧ (z = 8 ∨ z = 10)) → ¬ (p = 111 ∧ z = G 2 1) → G2 p z = G p z := fun p z a b c d e => (hf p z d e).trans (g p z a b c)
      refine ⟨h8, by rw [hv, hr], by rw [hf 119 0 (by omega) (by omega), e1, upd2_s], LawI_ge hI (Or.inr fun p z h => k p z (by omega) (by omega) (by omega) (by omega) (by omega)) (Or.inr fun p z h => k p z (by omega) (by omega) (by omega) (by omega) (by omega)) (Or.inr fun p z h => k p z (by omega) (by omega) (by omega) (by omega) (by omega)) (Or.inl ?_) (Or.inr fun p z h => k p z (by omega) (by omega) (by omega) (by omega) (by omega)) (Or.inr fun p z h => k p z (by omega) (by omega) (by omega) (by omega) (by omega)) (fun p z h => k p z (by omega) (by omega) (by omega) (by omega) (by omega))⟩
      have e21 : G2 2 1 = G 2 1 + 1 := (hf 2 1 (by omega) (by omega)).trans g21
      refine ⟨by rw [e21]; omega, by rw [e21, h10], fun j => ?_, fun j j0 j1 => ?_⟩
      · by_cases q : j = G 2 1
        · rw [q, h11, hf 102 _ (by omega) (by omega), g102]
        · rw [k 111 j (by omega) (by omega) (by omega) (by omega) (by omega), hf 102 j (by omega) (by omega), g102o j q]
          exact c3 j
      rw [e21] at j1
      by_cases q : j = G 2 1
      · rw [q, hf 102 _ (by omega) (by omega), g102]
        exact hcr
      · rw [hf 102 j (by omega) (by omega), g102o j q]
        exact c4 j j0 (by omega)
    · exact absurd hcr hne
    · exfalso; omega
  · intro i e r hc hx hp
    rcases i with _ | _ | i
    · have he := Option.some.inj hc
      subst he
      rcases hx with ⟨rfl, ⟨-, hx⟩ | ⟨q, -⟩⟩
      · rcases hp with ⟨hk, -⟩ | ⟨h, -⟩ | ⟨-, hk, -⟩
        · exact absurd hk hx
        · exact ⟨by rw [h, upd2_s]; rfl, by omega, by rw [h]; exact LawI_fr hI (LFr_106 _ _)⟩
        · exact absurd hk hx
      · exact absurd q (by decide +kernel)
    · have he := Option.some.inj hc
      subst he
      rcases hx with ⟨rfl, ⟨q, -⟩ | ⟨-, hx, h60⟩⟩
      · exact absurd q (by decide +kernel)
      · rcases hp with ⟨-, hk, -⟩ | ⟨-, hk⟩ | ⟨h, -, -⟩
        · exfalso; omega
        · exact absurd hx hk
        · exact ⟨by rw [h, upd2_s]; rfl, by omega, by rw [h]; exact LawI_fr hI (LFr_106 _ _)⟩
    · cases hc
theorem op_undo {G G1 G2 : Mem} {v w : Option Value} {Y A : Int} (hI : LawI G Y A) (h1 : LQ (fun v G' => v = some (vI (G 0 8 - 1)) ∧ G 0 8 ≠ 0 ∧ CpS (upd2 G 0 8 (G 0 8 - 1)) G' 4 (G 3 (G 0 8 - 1)).toNat) (fun e G' => e = eIS ∧ G' = G ∧ G 0 8 = 0) [eIS] v G1) (h2 : RP (fun r G' => (G1 106 5 = 0 ∧ G' = upd2 G1 106 8 1) ∨ (G1 106 5 ≠ 0 ∧ r = G1 106 5 - 1 ∧ G' 106 8 = 0 ∧ G' 106 5 = G1 106 5 - 1 ∧ (∀ k, 0 ≤ k → k < 144 → G' 107 k = G1 110 (144 * (G1 106 5 - 1) + k)) ∧ ∀ i z, i ≠ 107 → ¬ (i = 106 ∧ (z = 5 ∨ z = 8)) → G' i z = G1 i z)) w G2) : OpJ G2 v w Y A := by
  obtain ⟨aS, ⟨p1, p2, p3⟩, ⟨s1, s2, s3⟩, ⟨c1, c2, c3, c4⟩, aE, aT, aM⟩ := id hI
  refine opz (P := fun G => (fun r G' => (G 106 5 = 0 ∧ G' = upd2 G 106 8 1) ∨ (G 106 5 ≠ 0 ∧ r = G 106 5 - 1 ∧ G' 106 8 = 0 ∧ G' 106 5 = G 106 5 - 1 ∧ (∀ k, 0 ≤ k → k < 144 → G' 107 k = G 110 (144 * (G 106 5 - 1) + k)) ∧ ∀ i z, i ≠ 107 → ¬ (i = 106 ∧ (z = 5 ∨ z = 8)) → G' i z = G i z))) h1 h2 ?_ ?_
  · intro r1 r G9 hq e1 hp
    obtain ⟨hv, hn0, hcp⟩ := hq
    have hp8 := p1.1
    have hb := p1.2.1 (G 0 8 - 1) (by omega) (by omega)
    have hbl := isS_lt hb.2
    have hcf : ∀ i z, ¬ (4 ≤ i ∧ i ≤ 11) → G9 i z = upd2 G 0 8 (G 0 8 - 1) i z := fun i z h => hcp.2.2.2 i z (by omega)
    have g : ∀ p z, p ≠ 119 → ¬ (4 ≤ p ∧ p ≤ 11) → ¬ (p = 0 ∧ z = 8) → G1 p z = G p z := fun p z a b c => by rw [e1, upd2_i a, hcf p z b, upd2_n c]
    have g8 : G1 0 8 = G 0 8 - 1 := by rw [e1, upd2_i (by decide), hcf 0 8 (by omega), upd2_s]
    rcases hp with ⟨h5, -⟩ | ⟨h5, hr, h8, h5', h7, hf⟩
    · rw [g 106 5 (by omega) (by omega) (by omega)] at h5
      exfalso; omega
    · rw [g 106 5 (by omega) (by omega) (by omega), p2] at hr h5' h7
      have k : ∀ p z, p ≠ 119 → p ≠ 107 → ¬ (4 ≤ p ∧ p ≤ 11) → ¬ (p = 0 ∧ z = 8) → ¬ (p = 106 ∧ (z = 5 ∨ z = 8)) → G2 p z = G p z := fun p z a b c d e => (hf p z b e).trans (g p z a c d)
      have e8 : G2 0 8 = G 0 8 - 1 := (hf 0 8 (by omega) (by omega)).trans g8
      have e3 : G2 3 = G 3 := funext fun z => k 3 z (by omega) (by omega) (by omega) (by omega) (by omega)
      have e10 : G2 110 = G 110 := funext fun z => k 110 z (by omega) (by omega) (by omega) (by omega) (by omega)
      have hs := p3 (G 0 8 - 1) (by omega) (by omega)
      have hsu : SSk (fun k => G 110 (144 * (G 0 8 - 1) + k)) (upd2 G 0 8 (G 0 8 - 1)) (G 3 (G 0 8 - 1)).toNat Y A := SSk_fr hs fun j hj w => upd2_i (by omega)
      have hs9 := SSk_cp hsu hcp
      have hs2 : SSk (G2 107) G2 4 Y A := SSk_144 (SSk_fr hs9 fun j hj w => by rw [hf (4 + j) w (by omega) (by omega), e1, upd2_i (by omega)]) fun z z0 z1 => by
        rw [h7 z z0 z1, g 110 _ (by omega) (by omega) (by omega)]
      refine ⟨h8, by rw [hv, hr], by rw [hf 119 0 (by omega) (by omega), e1, upd2_s], LawI_ge hI (Or.inl hs2) (Or.inl ?_) (Or.inr fun p z h => k p z (by omega) (by omega) (by omega) (by omega) (by omega)) (Or.inr fun p z h => k p z (by omega) (by omega) (by omega) (by omega) (by omega)) (Or.inr fun p z h => k p z (by omega) (by omega) (by omega) (by omega) (by omega)) (Or.inr fun p z h => k p z (by omega) (by omega) (by omega) (by omega) (by omega)) (fun p z h => k p z (by omega) (by omega) (by omega) (by omega) (by omega))⟩
      refine ⟨⟨by rw [e8]; omega, by rw [e3]; exact p1.2.1, by rw [e3]; exact p1.2.2⟩, by rw [e8, h5'], fun j j0 j1 => ?_⟩
      rw [e8] at j1
      rw [e3, e10]
      have hj := p1.2.1 j j0 (by omega)
      have hjl := isS_lt hj.2
      exact SSk_fr (p3 j j0 (by omega)) fun i hi w => k _ w (by omega) (by omega) (by omega) (by omega) (by omega)
  · intro i e r hc hx hp
    rcases i with _ | i
    · obtain ⟨-, rfl, hx⟩ := hx
      rcases hp with ⟨-, h⟩ | ⟨hk, -⟩
      · exact ⟨by rw [h, upd2_s]; rfl, by omega, by rw [h]; exact LawI_fr hI (LFr_106 _ _)⟩
      · rw [p2] at hk
        exact absurd hx hk
    · cases hc
theorem op_restore {G G1 G2 : Mem} {v w : Option Value} {Y A : Int} (hI : LawI G Y A) (h1 : LQ (fun v G' => v = some (vI (G 20 5)) ∧ G 0 7 ≠ 0 ∧ ∃ G2, CpS G G2 4 20 ∧ G' = upd2 G2 0 8 0) (fun e G' => e = eIS ∧ G' = G ∧ G 0 7 = 0) [eIS] v G1) (h2 : RP (fun r G' => (G1 106 3 = 0 ∧ G' = upd2 G1 106 8 1) ∨ (G1 106 3 ≠ 0 ∧ r = G1 109 3 ∧ G' 106 8 = 0 ∧ G' 106 5 = 0 ∧ (∀ k, 0 ≤ k → k < 144 → G' 107 k = G1 109 k) ∧ ∀ i z, i ≠ 107 → ¬ (i = 106 ∧ (z = 5 ∨ z = 8)) → G' i z = G1 i z)) w G2) : OpJ G2 v w Y A := by
  obtain ⟨aS, ⟨p1, p2, p3⟩, ⟨s1, s2, s3⟩, ⟨c1, c2, c3, c4⟩, aE, aT, aM⟩ := id hI
  refine opz (P := fun G => (fun r G' => (G 106 3 = 0 ∧ G' = upd2 G 106 8 1) ∨ (G 106 3 ≠ 0 ∧ r = G 109 3 ∧ G' 106 8 = 0 ∧ G' 106 5 = 0 ∧ (∀ k, 0 ≤ k → k < 144 → G' 107 k = G 109 k) ∧ ∀ i z, i ≠ 107 → ¬ (i = 106 ∧ (z = 5 ∨ z = 8)) → G' i z = G i z))) h1 h2 ?_ ?_
  · intro r1 r G9 hq e1 hp
    obtain ⟨hv, hn7, Gx, hcp, hG⟩ := hq
    subst hG
    have h71 : G 0 7 = 1 := by omega
    have hcf : ∀ i z, ¬ (4 ≤ i ∧ i ≤ 11) → Gx i z = G i z := fun i z h => hcp.2.2.2 i z (by omega)
    have g : ∀ p z, p ≠ 119 → ¬ (4 ≤ p ∧ p ≤ 11) → ¬ (p = 0 ∧ z = 8) → G1 p z = G p z := fun p z a b c => by rw [e1, upd2_i a, upd2_n c, hcf p z b]
    have g8 : G1 0 8 = 0 := by rw [e1, upd2_i (by decide), upd2_s]
    rcases hp with ⟨h3, -⟩ | ⟨h3, hr, h8, h5, h7, hf⟩
    · rw [g 106 3 (by omega) (by omega) (by omega)] at h3
      exfalso; omega
    · have k : ∀ p z, p ≠ 119 → p ≠ 107 → ¬ (4 ≤ p ∧ p ≤ 11) → ¬ (p = 0 ∧ z = 8) → ¬ (p = 106 ∧ (z = 5 ∨ z = 8)) → G2 p z = G p z := fun p z a b c d e => (hf p z b e).trans (g p z a c d)
      have e8 : G2 0 8 = 0 := (hf 0 8 (by omega) (by omega)).trans g8
      have e3 : G2 3 = G 3 := funext fun z => k 3 z (by omega) (by omega) (by omega) (by omega) (by omega)
      have hs := s3 h71
      have hs9 := SSk_cp hs hcp
      have hs2 : SSk (G2 107) G2 4 Y A := SSk_144 (SSk_fr hs9 fun j hj w => by rw [hf (4 + j) w (by omega) (by omega), e1, upd2_i (by omega), upd2_i (by omega)]) fun z z0 z1 => by
        rw [h7 z z0 z1, g 109 _ (by omega) (by omega) (by omega)]
      have h93 : G 109 3 = G 20 5 := qr_c hs.2.2.1
      refine ⟨h8, by rw [hv, hr, g 109 3 (by omega) (by omega) (by omega), h93], by rw [hf 119 0 (by omega) (by omega), e1, upd2_s], LawI_ge hI (Or.inl hs2) (Or.inl ?_) (Or.inr fun p z h => k p z (by omega) (by omega) (by omega) (by omega) (by omega)) (Or.inr fun p z h => k p z (by omega) (by omega) (by omega) (by omega) (by omega)) (Or.inr fun p z h => k p z (by omega) (by omega) (by omega) (by omega) (by omega)) (Or.inr fun p z h => k p z (by omega) (by omega) (by omega) (by omega) (by omega)) (fun p z h => k p z (by omega) (by omega) (by omega) (by omega) (by omega))⟩
      exact ⟨⟨by rw [e8]; omega, by rw [e3]; exact p1.2.1, by rw [e3]; exact p1.2.2⟩, by rw [e8, h5], fun j j0 j1 => by rw [e8] at j1; omega⟩
  · intro i e r hc hx hp
    rcases i with _ | i
    · obtain ⟨-, rfl, hx⟩ := hx
      rcases hp with ⟨-, h⟩ | ⟨hk, -⟩
      · exact ⟨by rw [h, upd2_s]; rfl, by omega, by rw [h]; exact LawI_fr hI (LFr_106 _ _)⟩
      · rw [s2] at hk
        exact absurd hx hk
    · cases hc
theorem op_save {G G1 G2 : Mem} {v w : Option Value} {Y A : Int} (hI : LawI G Y A) (h1 : (fun v G' => v = some (vI (G 4 5)) ∧ ∃ G2, CpS G G2 20 4 ∧ G' = upd2 G2 0 7 1) v G1) (h2 : (RP (fun r G' => r = G1 107 3 ∧ G' 106 8 = 0 ∧ G' 106 3 = 1 ∧ (∀ k, 0 ≤ k → k < 144 → G' 109 k = G1 107 k) ∧ ∀ i z, i ≠ 109 → ¬ (i = 106 ∧ (z = 3 ∨ z = 8)) → G' i z = G1 i z)) w G2) : OpD G2 v w Y A := by
  obtain ⟨aS, ⟨p1, p2, p3⟩, ⟨s1, s2, s3⟩, ⟨c1, c2, c3, c4⟩, aE, aT, aM⟩ := id hI
  obtain ⟨hv, Gx, hcp, hG⟩ := h1
  subst hG
  obtain ⟨r, hw, hr, h8, h3, h9, hf⟩ := h2
  have g : ∀ p z, ¬ (20 ≤ p ∧ p ≤ 27) → ¬ (p = 0 ∧ z = 7) → upd2 Gx 0 7 1 p z = G p z := fun p z a b => (upd2_n b).trans (hcp.2.2.2 p z (by omega))
  have k : ∀ p z, p ≠ 109 → ¬ (20 ≤ p ∧ p ≤ 27) → ¬ (p = 0 ∧ z = 7) → ¬ (p = 106 ∧ (z = 3 ∨ z = 8)) → G2 p z = G p z := fun p z a b c d => (hf p z a d).trans (g p z b c)
  have e7 : G2 0 7 = 1 := (hf 0 7 (by omega) (by omega)).trans (upd2_s _ _ _ _)
  have hs : SSk (G2 109) G2 20 Y A := SSk_144 (SSk_fr (SSk_cp aS hcp) fun j hj w => (hf (20 + j) w (by omega) (by omega)).trans (upd2_i (by omega))) fun z z0 z1 => (h9 z z0 z1).trans (g 107 z (by omega) (by omega))
  obtain ⟨r2, hr2, he⟩ := int_norm ⟨_, hv⟩
  have e3 : G 107 3 = G 4 5 := qr_c aS.2.2.1
  refine ⟨r2, he, by rw [hw, ← he, hv, hr, g 107 3 (by omega) (by omega), e3], hr2, LawI_ge hI (Or.inr fun p z h => k p z (by omega) (by omega) (by omega) (by omega)) (Or.inl ?_) (Or.inl ⟨Or.inr e7, by rw [e7, h3], fun _ => hs⟩) (Or.inr fun p z h => k p z (by omega) (by omega) (by omega) (by omega)) (Or.inr fun p z h => k p z (by omega) (by omega) (by omega) (by omega)) (Or.inr fun p z h => k p z (by omega) (by omega) (by omega) (by omega)) (fun p z h => k p z (by omega) (by omega) (by omega) (by omega))⟩
  have e8 : G2 0 8 = G 0 8 := k 0 8 (by omega) (by omega) (by omega) (by omega)
  have e33 : G2 3 = G 3 := funext fun z => k 3 z (by omega) (by omega) (by omega) (by omega)
  refine ⟨⟨by rw [e8]; exact p1.1, by rw [e33]; exact p1.2.1, by rw [e33]; exact p1.2.2⟩, by rw [e8, k 106 5 (by omega) (by omega) (by omega) (by omega)]; exact p2, fun j j0 j1 => ?_⟩
  rw [e8] at j1
  rw [e33, show G2 110 = G 110 from funext fun z => k 110 z (by omega) (by omega) (by omega) (by omega)]
  have hj := p1.2.1 j j0 (by have := p1.1; omega)
  have hjl := isS_lt hj.2
  exact SSk_fr (p3 j j0 j1) fun i hi w => k _ w (by omega) (by omega) (by omega) (by omega)
theorem LFr_120 (G : Mem) (v : Int) : LFr G (upd2 G 120 0 v) := LFr_u (by unfold lawK; omega)
theorem u64_b (x : UInt64) : UInt64.ofNat ((x.toNat : Int)).toNat = x := by
  rw [Int.toNat_natCast]
  exact UInt64.ofNat_toNat
def OpE (G2 : Mem) (v w : Option Value) (Y A : Int) : Prop := ∃ (c : Int) (x : UInt64), v = some (vI c) ∧ w = some (.double x) ∧ (0 ≤ c ∧ c ≤ 5) ∧ G2 106 8 = c ∧ (c = 0 → UInt64.ofNat (G2 120 0).toNat = x ∧ Op.cmpValue (FP.dcmp x x) .l = 0) ∧ LawI G2 Y A
def OpF (G2 : Mem) (v w : Option Value) (Y A : Int) : Prop := ∃ (c : Int) (x : UInt32), v = some (vI c) ∧ w = some (.float x) ∧ (0 ≤ c ∧ c ≤ 5) ∧ G2 106 8 = c ∧ (c = 0 → UInt64.ofNat (G2 120 0).toNat = FP.f2d x ∧ vf_n64 (FP.f2d x) ∧ Op.cmpValue (FP.dcmp (FP.f2d x) (FP.f2d x)) .l = 0) ∧ LawI G2 Y A
theorem op_meanWear {G G1 G2 : Mem} {v w : Option Value} {Y A : Int} (hI : LawI G Y A) (h1 : LQD (fun v G' => v = some (.double (mwD (sz (G 4 0) (G 7)) (G 4 0))) ∧ G' = G ∧ G 4 0 ≠ 0) (fun e G' => e = eAR ∧ G' = G ∧ G 4 0 = 0) [eAR] v G1) (h2 : (fun v G' => ∃ (x : UInt64) (k : Int), v = some (.double x) ∧ G' = upd2 G1 106 8 k ∧ ((k = 0 ∧ G1 107 0 ≠ 0 ∧ x = mwD (sz (G1 107 0) (fun k => G1 107 (9 + 3 * k + 2))) (G1 107 0)) ∨ (k = 1 ∧ G1 107 0 = 0))) w G2) : OpE G2 v w Y A := by
  obtain ⟨hSt, hM, hR, -⟩ := id hI.1
  have e0 : G 107 0 = G 4 0 := qr_n hR
  have ew := qr_wear hR
  have hn := StI_n hSt
  obtain ⟨x2, k, rfl, rfl, hp⟩ := h2
  rcases h1 with ⟨rfl, x, G9, ⟨hx, rfl, hn0⟩, rfl⟩ | ⟨i, e, hc, ⟨he, rfl, hn0⟩, rfl⟩
  · have ex : x = mwD (sz (G9 4 0) (G9 7)) (G9 4 0) := Value.double.inj (Option.some.inj hx)
    have e7 : ∀ z, upd2 G9 120 0 (x.toNat : Int) 107 z = G9 107 z := fun z => upd2_i (by decide)
    have e77 : upd2 G9 120 0 (x.toNat : Int) 107 = G9 107 := funext e7
    rw [e77] at hp
    rcases hp with ⟨rfl, hn1, hx2⟩ | ⟨-, hz⟩
    · rw [ew, e0] at hx2
      have hsm := sz_le (f := G9 7) (b := 30) hn.1 (fun i a c => (S4_d hSt a c).2.2) (by omega)
      have hok := mwD_ok (s := sz (G9 4 0) (G9 7)) (n := G9 4 0) (by omega) (by omega)
      refine ⟨0, x2, rfl, rfl, by omega, upd2_s _ _ _ _, fun _ => ⟨?_, by rw [hx2]; exact hok.2⟩, LawI_fr hI (LFr_t (LFr_120 _ _) (LFr_106 _ _))⟩
      rw [upd2_i (by decide), upd2_s, u64_b, hx2, ex]
    · exfalso; omega
  · rcases hp with ⟨-, hn1, -⟩ | ⟨rfl, -⟩
    · exfalso; omega
    · rcases i with _ | i
      · exact ⟨1, x2, rfl, rfl, by omega, upd2_s _ _ _ _, fun q => by omega, LawI_fr hI (LFr_106 _ _)⟩
      · cases hc
theorem op_gradeShare {G G1 G2 : Mem} {v w : Option Value} {Y A c : Int} (hI : LawI G Y A) (h1 : LQF (fun v G' => v = some (.float (gsF (cntE (G 4 5) (G 11) (c - 65)) (G 4 5))) ∧ G' = G ∧ (65 ≤ c ∧ c ≤ 67) ∧ G 4 5 ≠ 0) (fun e G' => G' = G ∧ ((e = eIA ∧ ¬ (65 ≤ c ∧ c ≤ 67)) ∨ (e = eAR ∧ (65 ≤ c ∧ c ≤ 67) ∧ G 4 5 = 0))) [eIA, eAR] v G1) (h2 : (fun v G' => ∃ (x : UInt32) (k : Int), v = some (.float x) ∧ G' = upd2 G1 106 8 k ∧ ((k = 0 ∧ ((65 ≤ c ∧ c ≤ 67) ∧ G1 107 3 ≠ 0) ∧ x = gsF (cntE (G1 107 3) (fun k => G1 107 (24 + 3 * k + 2)) (c - 65)) (G1 107 3)) ∨ (k = 1 ∧ ¬ (65 ≤ c ∧ c ≤ 67)) ∨ (k = 2 ∧ (65 ≤ c ∧ c ≤ 67) ∧ G1 107 3 = 0))) w G2) : OpF G2 v w Y A := by
  obtain ⟨hSt, hM, hR, -⟩ := id hI.1
  have e3 : G 107 3 = G 4 5 := qr_c hR
  have eg : cntE (G 107 3) (fun k => G 107 (24 + 3 * k + 2)) (c - 65) = cntE (G 4 5) (G 11) (c - 65) := qr_grade hR (c - 65)
  have hc5 := StI_c hSt
  have hk : 0 ≤ cntE (G 4 5) (G 11) (c - 65) ∧ cntE (G 4 5) (G 11) (c - 65) ≤ G 4 5 := sz_cnt (n := G 4 5) (p := fun k => G 11 k = c - 65) (fun k => Int.instDecidableEq _ _) hc5.1
  obtain ⟨x2, k, rfl, rfl, hp⟩ := h2
  rcases h1 with ⟨rfl, x, G9, ⟨hx, rfl, hcr, hn0⟩, rfl⟩ | ⟨i, e, hc, ⟨rfl, hx⟩, rfl⟩
  · have ex : x = gsF (cntE (G9 4 5) (G9 11) (c - 65)) (G9 4 5) := Value.float.inj (Option.some.inj hx)
    have e77 : upd2 G9 120 0 ((FP.f2d x).toNat : Int) 107 = G9 107 := funext fun z => upd2_i (by decide)
    rw [e77] at hp
    rcases hp with ⟨rfl, hn1, hx2⟩ | ⟨-, hz⟩ | ⟨-, -, hz⟩
    · rw [eg, e3] at hx2
      have hok := gsF_ok (s := cntE (G9 4 5) (G9 11) (c - 65)) (n := G9 4 5) (by omega) (by omega)
      refine ⟨0, x2, rfl, rfl, by omega, upd2_s _ _ _ _, fun _ => ⟨?_, by rw [hx2]; exact hok.2⟩, LawI_fr hI (LFr_t (LFr_120 _ _) (LFr_106 _ _))⟩
      rw [upd2_i (by decide), upd2_s, u64_b, hx2, ex]
    · exact absurd hcr hz
    · exfalso; omega
  · rcases i with _ | _ | i
    · have he := Option.some.inj hc
      subst he
      rcases hx with ⟨-, hx⟩ | ⟨q, -⟩
      · rcases hp with ⟨-, hn1, -⟩ | ⟨rfl, -⟩ | ⟨-, hz, -⟩
        · exact absurd hn1.1 hx
        · exact ⟨1, x2, rfl, rfl, by omega, upd2_s _ _ _ _, fun q => by omega, LawI_fr hI (LFr_106 _ _)⟩
        · exact absurd hz hx
      · exact absurd q (by decide +kernel)
    · have he := Option.some.inj hc
      subst he
      rcases hx with ⟨q, -⟩ | ⟨-, hx, h0⟩
      · exact absurd q (by decide +kernel)
      · rcases hp with ⟨-, hn1, -⟩ | ⟨-, hz⟩ | ⟨rfl, -, -⟩
        · exfalso; omega
        · exact absurd hx hz
        · exact ⟨2, x2, rfl, rfl, by omega, upd2_s _ _ _ _, fun q => by omega, LawI_fr hI (LFr_106 _ _)⟩
    · cases hc
