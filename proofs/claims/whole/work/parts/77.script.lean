-- running a script, on both
theorem prsF_ok {S : Int → Int} {n : Int} : ∀ (f j : Nat), (prsF S n f (j : Int) (ps S n j)).1 = 1 → ∀ i : Nat, j ≤ i → (i : Int) < (prsF S n f (j : Int) (ps S n j)).2.1 → cOk S n (ps S n i)
  | 0, j => fun h => absurd h (by show ¬ (0 : Int) = 1; omega)
  | f + 1, j => by
    intro h i h1 h2
    unfold prsF at h h2
    by_cases q : bI (cOk S n (ps S n j)) = 1
    · have hc : cOk S n (ps S n j) := by
        by_cases z : cOk S n (ps S n j)
        · exact z
        · rw [bI_f z] at q; exact absurd q (by decide)
      rw [if_pos q] at h h2
      by_cases q2 : ce S n (ps S n j) = n
      · rw [if_pos q2] at h2
        have h3 : (i : Int) < (j : Int) + 1 := h2
        have e : i = j := by omega
        rw [e]
        exact hc
      · rw [if_neg q2] at h h2
        by_cases q3 : sg S n (ce S n (ps S n j)) 59
        · rw [if_pos q3] at h h2
          by_cases e : i = j
          · rw [e]
            exact hc
          · exact prsF_ok f (j + 1) h i (by omega) h2
        · rw [if_neg q3] at h
          exact absurd h (by show ¬ (0 : Int) = 1; omega)
    · rw [if_neg q] at h
      exact absurd h (by show ¬ (0 : Int) = 1; omega)
theorem prsF_e {S : Int → Int} {n : Int} : ∀ (f : Nat) (j p : Int), 0 ≤ p → p ≤ n → 0 ≤ (prsF S n f j p).2.2 ∧ (prsF S n f j p).2.2 ≤ n
  | 0, j, p, a, b => ⟨a, b⟩
  | f + 1, j, p, a, b => by
    have hc := ce_r (S := S) b
    unfold prsF
    split
    · split
      · exact ⟨by show 0 ≤ n; omega, Int.le_refl n⟩
      · split
        · rename_i q
          have hq : ce S n p < n := by unfold sg at q; omega
          exact prsF_e f (j + 1) (ce S n p + 1) (by omega) (by omega)
        · exact ⟨by show 0 ≤ ce S n p; omega, hc.2.1⟩
    · exact ⟨by show 0 ≤ ce S n p; omega, hc.2.1⟩
abbrev pV (S : Int → Int) (n : Int) (k : Nat) : Int := vb S n (ps S n k)
abbrev pA (S : Int → Int) (n : Int) (k : Nat) : Int := cA S n (ps S n k)
abbrev pB (S : Int → Int) (n : Int) (k : Nat) : Int := cB S n (ps S n k)
theorem RunR_pre {S : Int → Int} {n : Int} {Gc : Mem} : ∀ (j : Nat) (G1 : Mem), RunR S n Gc j G1 → ∀ k : Nat, k < j → ∃ Gm, RunR S n Gc k Gm ∧ FltV Gm 12 (pV S n k) (pA S n k) (pB S n k) 0
  | 0, _, _, k, h => absurd h (Nat.not_lt_zero k)
  | j + 1, G1, ⟨Gm, Gn, r, h1, h2, _, _⟩, k, hk => by
    by_cases e : k = j
    · rw [e]
      exact ⟨Gm, h1, h2⟩
    · exact RunR_pre j Gm h1 k (by omega)
theorem RunM_pre {S : Int → Int} {n : Int} {M0 : Int → Int} : ∀ (j : Nat) (M1 : Int → Int), RunM S n M0 j M1 → ∀ k : Nat, k < j → ∃ Mm, RunM S n M0 k Mm ∧ FltM Mm (pV S n k) (pA S n k) (pB S n k) 0
  | 0, _, _, k, h => absurd h (Nat.not_lt_zero k)
  | j + 1, M1, ⟨Mm, r, h1, h2, _, _⟩, k, hk => by
    by_cases e : k = j
    · rw [e]
      exact ⟨Mm, h1, h2⟩
    · exact RunM_pre j Mm h1 k (by omega)
theorem RunR_fr {S : Int → Int} {n : Int} {Gc : Mem} : ∀ (j : Nat) (G1 : Mem), RunR S n Gc j G1 → ∀ i z, ¬ (12 ≤ i ∧ i ≤ 19) → ¬ (92 ≤ i ∧ i ≤ 99) → ¬ (i = 1 ∧ z = 4) → G1 i z = Gc i z
  | 0, G1, h => fun i z _ _ _ => by rw [show G1 = Gc from h]
  | j + 1, G1, ⟨Gm, Gn, r, h1, _, h3, h4⟩ => fun i z a b c => (Pf_fr h4 i z (by omega) (by omega) (by omega)).trans ((h3 i z (by omega) (by omega)).trans (RunR_fr j Gm h1 i z a b c))
theorem run_rel {S : Int → Int} {n : Int} {Gc : Mem} {M0 : Int → Int} {Y A : Int} {J : Nat} (h : SSk M0 Gc 12 Y A) (hv : ∀ i : Nat, i < J → cOk S n (ps S n i)) (hJ : J ≤ 60) (hY : Y + 1200 ≤ 1000000) : ∀ (j : Nat) (G1 : Mem) (M1 : Int → Int), j ≤ J → RunR S n Gc j G1 → RunM S n M0 j M1 → SSk M1 G1 12 (Y + 20 * j) (A + 99 * j)
  | 0, G1, M1, _, h1, h2 => by
    rw [show G1 = Gc from h1, show M1 = M0 from h2]
    exact SSk_up h (by omega) (by omega)
  | j + 1, G1, M1, hj, ⟨Gm, Gn, r, a1, a2, a3, a4⟩, ⟨Mp, r', b1, b2, b3, b4⟩ => by
    have ih := run_rel h hv hJ hY j Gm Mp (by omega) a1 b1
    have hn : SSk Mp Gn 12 (Y + 20 * j) (A + 99 * j) := SSk_fr ih (FrP_s isS12 a3)
    have hc := cAB_r (hv j (by omega))
    have st := SSk_step isS12 hc.1 hn (by omega) (flt_same isS12 (FrP_s isS12 a3) a2) a4 b4 b3
    exact SSk_up st.2 (by omega) (by omega)
theorem op_runScript {G G1 G2 : Mem} {v w : Option Value} {Y A : Int} (hI : LawI G Y A) (hY : Y + 1200 ≤ 1000000) (h1 : LQ (fun v G' => ∃ Gp Gc Gk Gr, (prs (G 102) (G 2 1)).1 = 1 ∧ FrPr G Gp ∧ CpS (upd2 Gp 2 1 0) Gc 12 4 ∧ RunR (G 102) (G 2 1) Gc (prs (G 102) (G 2 1)).2.1.toNat Gk ∧ RemR Gk Gr ∧ CpS Gr G' 4 12 ∧ v = some (vI (prs (G 102) (G 2 1)).2.1)) (fun e G' => (e = eIA ∧ (prs (G 102) (G 2 1)).1 ≠ 1 ∧ ∃ Gp, FrPr G Gp ∧ G' = upd2 (upd2 Gp 2 1 0) 0 9 (prs (G 102) (G 2 1)).2.2) ∨ (e = eIS ∧ (prs (G 102) (G 2 1)).1 = 1 ∧ ∃ Gp Gc Gk Gn, ∃ k r : Int, FrPr G Gp ∧ CpS (upd2 Gp 2 1 0) Gc 12 4 ∧ (0 ≤ k ∧ k < (prs (G 102) (G 2 1)).2.1) ∧ RunR (G 102) (G 2 1) Gc k.toNat Gk ∧ FltV Gk 12 (vb (G 102) (G 2 1) (ps (G 102) (G 2 1) k.toNat)) (cA (G 102) (G 2 1) (ps (G 102) (G 2 1) k.toNat)) (cB (G 102) (G 2 1) (ps (G 102) (G 2 1) k.toNat)) r ∧ r ≠ 0 ∧ FrP Gk Gn ∧ G' = upd2 Gn 0 10 k)) [eIA, eIS] v G1) (h2 : RP (fun r G' => G' 106 10 = 0 ∧ (∀ i z, i ≠ 107 → i ≠ 108 → i ≠ 110 → i ≠ 118 → ¬ (112 ≤ i ∧ i ≤ 114) → ¬ (i = 106 ∧ (z = 5 ∨ z = 6 ∨ z = 7 ∨ z = 8 ∨ z = 10 ∨ 19 ≤ z)) → G' i z = G1 i z) ∧ (((prs (G1 111) (G1 106 10)).1 ≠ 1 ∧ G' 106 8 = 1 ∧ G' 106 6 = (prs (G1 111) (G1 106 10)).2.2 ∧ G' 106 7 = G1 106 7 ∧ G' 106 5 = G1 106 5 ∧ G' 107 = G1 107 ∧ G' 110 = G1 110) ∨ ((prs (G1 111) (G1 106 10)).1 = 1 ∧ G' 106 8 = 2 ∧ G' 106 6 = G1 106 6 ∧ G' 106 5 = G1 106 5 ∧ (∀ z, 0 ≤ z → z < 144 → G' 107 z = G1 107 z) ∧ G' 110 = G1 110 ∧ ∃ (k : Int) (Mk : Int → Int) (q : Int), (0 ≤ k ∧ k < (prs (G1 111) (G1 106 10)).2.1) ∧ RunM (G1 111) (G1 106 10) (G1 107) k.toNat Mk ∧ FltM Mk (vb (G1 111) (G1 106 10) (ps (G1 111) (G1 106 10) k.toNat)) (cA (G1 111) (G1 106 10) (ps (G1 111) (G1 106 10) k.toNat)) (cB (G1 111) (G1 106 10) (ps (G1 111) (G1 106 10) k.toNat)) q ∧ q ≠ 0 ∧ G' 106 7 = k) ∨ ((prs (G1 111) (G1 106 10)).1 = 1 ∧ G' 106 8 = 0 ∧ G' 106 6 = G1 106 6 ∧ G' 106 7 = G1 106 7 ∧ r = (prs (G1 111) (G1 106 10)).2.1 ∧ MoI (G' 107) ∧ RunM (G1 111) (G1 106 10) (G1 107) (prs (G1 111) (G1 106 10)).2.1.toNat (G' 107) ∧ ∃ c sh : Int, ((G1 106 5 < 8 ∧ c = G1 106 5 ∧ sh = 0) ∨ (G1 106 5 = 8 ∧ c = 7 ∧ sh = 144)) ∧ G' 106 5 = c + 1 ∧ (∀ z, 0 ≤ z → z < 144 * c → G' 110 z = G1 110 (z + sh)) ∧ ∀ k, 0 ≤ k → k < 144 → G' 110 (144 * c + k) = G1 107 k))) w G2) : OpJ G2 v w (Y + 1200) (A + 6000) := by
  obtain ⟨aS, ⟨p1, p2, p3⟩, ⟨s1, s2, s3⟩, ⟨c1, c2, c3, c4⟩, ⟨e1, e2, e3, e4⟩, aT, aM⟩ := id hI
  have eS : G 111 = G 102 := funext c3
  have hUp := LawI_up (Y' := Y + 1200) (A' := A + 6000) hI (by omega) (by omega)
  have hJr := prsF_n (S := G 102) (n := G 2 1) 60 0 0
  have hEr := prsF_e (S := G 102) (n := G 2 1) 60 0 0 (by omega) c1.1
  have hJ : 0 ≤ (prs (G 102) (G 2 1)).2.1 ∧ (prs (G 102) (G 2 1)).2.1 ≤ 60 := by
    unfold prs
    omega
  have hE : 0 ≤ (prs (G 102) (G 2 1)).2.2 ∧ (prs (G 102) (G 2 1)).2.2 ≤ 60 := by
    unfold prs
    omega
  have hok : (prs (G 102) (G 2 1)).1 = 1 → ∀ i : Nat, i < (prs (G 102) (G 2 1)).2.1.toNat → cOk (G 102) (G 2 1) (ps (G 102) (G 2 1) i) := fun h i hi => prsF_ok 60 0 h i (Nat.zero_le _) (by
    have q : (i : Int) < (prs (G 102) (G 2 1)).2.1 := by omega
    exact q)
  -- the class's and the model's runs, from the same beginning
  have same : ∀ (Gp Gc : Mem), FrPr G Gp → CpS (upd2 Gp 2 1 0) Gc 12 4 → SSk (G 107) Gc 12 Y A := fun Gp Gc hpr hcp => SSk_cp (SSk_fr aS fun j hj w => (upd2_i (by omega)).trans (hpr (4 + j) w (by omega) (by omega))) hcp
  have gc : ∀ (Gp Gc : Mem), FrPr G Gp → CpS (upd2 Gp 2 1 0) Gc 12 4 → ∀ i z, ¬ (12 ≤ i ∧ i ≤ 19) → i ≠ 2 → ¬ (103 ≤ i ∧ i ≤ 105) → Gc i z = G i z := fun Gp Gc hpr hcp i z a b c => (hcp.2.2.2 i z (by omega)).trans ((upd2_i b).trans (hpr i z (by omega) (by omega)))
  obtain ⟨r, rfl, hp⟩ := h2
  obtain ⟨m10, mf, hp⟩ := hp
  rcases h1 with ⟨rfl, r1, G9, hr, ⟨Gp, Gc, Gk, Gr, hp1, hpr, hcp, hrun, hrem, hcp2, hv⟩, hG1⟩ | ⟨i, e, hc, hx, rfl⟩
  · -- the script has run
    have hkc := RunR_fr _ _ hrun
    have gk : ∀ i z, ¬ (12 ≤ i ∧ i ≤ 19) → i ≠ 2 → ¬ (103 ≤ i ∧ i ≤ 105) → ¬ (92 ≤ i ∧ i ≤ 99) → i ≠ 1 → Gk i z = G i z := fun i z a b c d e => (hkc i z a d (by omega)).trans (gc Gp Gc hpr hcp i z a b c)
    have hpk : PastI Gk := by
      unfold PastI
      rw [gk 0 8 (by omega) (by omega) (by omega) (by omega) (by omega), show Gk 3 = G 3 from funext fun z => gk 3 z (by omega) (by omega) (by omega) (by omega) (by omega)]
      exact p1
    have rk := RemR_k hpk hrem
    have g : ∀ p z, (20 ≤ p ∧ p < 28) ∨ p = 102 ∨ (106 ≤ p ∧ p ≠ 119) ∨ (p = 0 ∧ z ≠ 8) → G1 p z = G p z := fun p z a => by
      rw [hG1, upd2_i (by omega), hcp2.2.2.2 p z (by omega), rk p z (by omega)]
      exact gk p z (by omega) (by omega) (by omega) (by omega) (by omega)
    have gf : ∀ p : Nat, (20 ≤ p ∧ p < 28) ∨ p = 102 ∨ (106 ≤ p ∧ p ≠ 119) → G1 p = G p := fun p a => funext fun z => g p z (by omega)
    have g21 : G1 2 1 = 0 := by
      rw [hG1, upd2_i (by omega), hcp2.2.2.2 2 1 (by omega), rk 2 1 (by omega), hkc 2 1 (by omega) (by omega) (by omega), hcp.2.2.2 2 1 (by omega), upd2_s]
    rw [gf 111 (by omega), gf 107 (by omega), g 106 10 (by omega), eS, c2] at hp
    have hS12 := same Gp Gc hpr hcp
    have hcok := hok hp1
    rcases hp with ⟨hne, -⟩ | ⟨-, -, -, -, -, -, k, Mk, q, hk, hM, hfl, hq0, -⟩ | ⟨-, h8, h6, h7, hrr, hMo, hM, hRem⟩
    · exact absurd hp1 hne
    · obtain ⟨Gm, b1, b2⟩ := RunR_pre _ _ hrun k.toNat (by omega)
      have rr := run_rel hS12 hcok (by omega) hY k.toNat Gm Mk (by omega) b1 hM
      exact absurd (Flt_rel rr.1 rr.2.2.1 b2 hfl) hq0
    · have rr := run_rel hS12 hcok (by omega) hY _ Gk (G2 107) (Nat.le_refl _) hrun hM
      have rr2 : SSk (G2 107) Gr 12 (Y + 1200) (A + 6000) := SSk_up (SSk_fr rr fun j hj w => rk (12 + j) w (by omega)) (by omega) (by omega)
      have hs9 := SSk_cp rr2 hcp2
      have hS2 : SSk (G2 107) G2 4 (Y + 1200) (A + 6000) := SSk_fr hs9 fun j hj w => by
        rw [mf (4 + j) w (by omega) (by omega) (by omega) (by omega) (by omega) (by omega), hG1, upd2_i (by omega)]
      have hpl : PastL Gk (G 110) (G 106 5) Y A := ⟨hpk, by rw [gk 0 8 (by omega) (by omega) (by omega) (by omega) (by omega)]; exact p2, fun j j0 j1 => by
        rw [gk 0 8 (by omega) (by omega) (by omega) (by omega) (by omega)] at j1
        rw [show Gk 3 j = G 3 j from gk 3 j (by omega) (by omega) (by omega) (by omega) (by omega)]
        have hj := p1.2.1 j j0 (by have := p1.1; omega)
        have hjl := isS_lt hj.2
        exact SSk_fr (p3 j j0 j1) fun i hi w => gk _ w (by omega) (by omega) (by omega) (by omega) (by omega)⟩
      have hk4 : SSk (G 107) Gk 4 Y A := SSk_fr aS fun j hj w => gk (4 + j) w (by omega) (by omega) (by omega) (by omega) (by omega)
      rw [g 106 5 (by omega), gf 110 (by omega)] at hRem
      have hps := past_step (R := G 110) (R' := G2 110) (n := G 106 5) (n' := G2 106 5) hpl hk4 hrem hRem
      obtain ⟨q1, q2, q3⟩ := hps
      have pb : ∀ p z, p = 0 ∨ p = 3 ∨ (28 ≤ p ∧ p < 92) → G2 p z = Gr p z := fun p z a => by
        rw [mf p z (by omega) (by omega) (by omega) (by omega) (by omega) (by omega), hG1, upd2_i (by omega), hcp2.2.2.2 p z (by omega)]
      have k : ∀ p z, (20 ≤ p ∧ p < 28) ∨ p = 102 ∨ p = 109 ∨ p = 111 ∨ (115 ≤ p ∧ p ≤ 117) ∨ 121 ≤ p ∨ (p = 0 ∧ z ≠ 8) ∨ (p = 106 ∧ (z = 3 ∨ z = 15)) → G2 p z = G p z := fun p z a => (mf p z (by omega) (by omega) (by omega) (by omega) (by omega) (by omega)).trans (g p z (by omega))
      refine ⟨0, r1, rfl, ?_, by omega, hr, h8, fun _ => ?_, LawI_ge hUp (Or.inl hS2) (Or.inl ?_) (Or.inr fun p z h => k p z (by omega)) (Or.inl ?_) (Or.inl ?_) (Or.inr fun p z h => k p z (by omega)) (fun p z h => k p z (by omega))⟩
      · rw [hv, hrr]
      · rw [mf 119 0 (by omega) (by omega) (by omega) (by omega) (by omega) (by omega), hG1, upd2_s]
      · have e8 := pb 0 8 (by omega)
        have e33 : G2 3 = Gr 3 := funext fun z => pb 3 z (by omega)
        refine ⟨by unfold PastI; rw [e8, e33]; exact q1, by rw [e8]; exact q2, fun j j0 j1 => ?_⟩
        rw [e8] at j1
        rw [e33]
        have hj := q1.2.1 j j0 (by have := q1.1; omega)
        have hjl := isS_lt hj.2
        exact SSk_up (SSk_fr (q3 j j0 j1) fun i hi w => pb _ w (by omega)) (by omega) (by omega)
      · have e21 : G2 2 1 = 0 := (mf 2 1 (by omega) (by omega) (by omega) (by omega) (by omega) (by omega)).trans g21
        exact ⟨by rw [e21]; omega, by rw [e21]; exact m10, fun j => by rw [k 111 j (by omega), k 102 j (by omega)]; exact c3 j, fun j j0 j1 => by rw [e21] at j1; omega⟩
      · unfold ErrI
        rw [k 0 9 (by omega), k 0 10 (by omega), h6, h7, g 106 6 (by omega), g 106 7 (by omega)]
        exact ⟨e1, e2, e3, e4⟩
  · rcases i with _ | _ | i
    · have he := Option.some.inj hc
      subst he
      rcases hx with ⟨-, hp1, Gp, hpr, hG1⟩ | ⟨q, -⟩
      · have g : ∀ p z, p ≠ 2 → ¬ (103 ≤ p ∧ p ≤ 105) → ¬ (p = 0 ∧ z = 9) → G1 p z = G p z := fun p z a b c => by rw [hG1, upd2_n c, upd2_i a, hpr p z (by omega) b]
        have gf : ∀ p : Nat, 106 ≤ p → G1 p = G p := fun p a => funext fun z => g p z (by omega) (by omega) (by omega)
        have g21 : G1 2 1 = 0 := by rw [hG1, upd2_i (by decide), upd2_s]
        have g09 : G1 0 9 = (prs (G 102) (G 2 1)).2.2 := by rw [hG1, upd2_s]
        rw [gf 111 (by omega), g 106 10 (by omega) (by omega) (by omega), eS, c2] at hp
        rcases hp with ⟨-, h8, h6, h7, h5, h107, h110⟩ | ⟨hk, -⟩ | ⟨hk, -⟩
        · obtain ⟨r2, hr2, he2⟩ := int_norm (v := some (vI r)) ⟨r, rfl⟩
          have k : ∀ p z, p ≠ 2 → ¬ (103 ≤ p ∧ p ≤ 105) → ¬ (p = 0 ∧ z = 9) → p ≠ 108 → p ≠ 118 → ¬ (112 ≤ p ∧ p ≤ 114) → ¬ (p = 106 ∧ (z = 6 ∨ z = 7 ∨ z = 8 ∨ z = 10 ∨ 19 ≤ z)) → G2 p z = G p z := fun p z a b c d e f h => by
            rw [← g p z a b c]
            by_cases t1 : p = 107
            · rw [t1, h107]
            · by_cases t2 : p = 110
              · rw [t2, h110]
              · by_cases t3 : p = 106 ∧ z = 5
                · rw [t3.1, t3.2, h5]
                · exact mf p z t1 d t2 e f (by omega)
          refine ⟨1, r2, rfl, he2, by omega, hr2, h8, fun z => by omega, LawI_ge hUp (Or.inr fun p z h => k p z (by omega) (by omega) (by omega) (by omega) (by omega) (by omega) (by omega)) (Or.inr fun p z h => k p z (by omega) (by omega) (by omega) (by omega) (by omega) (by omega) (by omega)) (Or.inr fun p z h => k p z (by omega) (by omega) (by omega) (by omega) (by omega) (by omega) (by omega)) (Or.inl ?_) (Or.inl ?_) (Or.inr fun p z h => k p z (by omega) (by omega) (by omega) (by omega) (by omega) (by omega) (by omega)) (fun p z h => k p z (by omega) (by omega) (by omega) (by omega) (by omega) (by omega) (by omega))⟩
          · have e21 : G2 2 1 = 0 := (mf 2 1 (by omega) (by omega) (by omega) (by omega) (by omega) (by omega)).trans g21
            exact ⟨by rw [e21]; omega, by rw [e21]; exact m10, fun j => by rw [k 111 j (by omega) (by omega) (by omega) (by omega) (by omega) (by omega) (by omega), k 102 j (by omega) (by omega) (by omega) (by omega) (by omega) (by omega) (by omega)]; exact c3 j, fun j j0 j1 => by rw [e21] at j1; omega⟩
          · have e09 : G2 0 9 = (prs (G 102) (G 2 1)).2.2 := (mf 0 9 (by omega) (by omega) (by omega) (by omega) (by omega) (by omega)).trans g09
            have e010 : G2 0 10 = G 0 10 := k 0 10 (by omega) (by omega) (by omega) (by omega) (by omega) (by omega) (by omega)
            exact ⟨by rw [e09]; omega, by rw [e09]; exact h6, by rw [e010]; exact e3, by rw [e010, h7, g 106 7 (by omega) (by omega) (by omega)]; exact e4⟩
        · exact absurd hk hp1
        · exact absurd hk hp1
      · exact absurd q (by decide +kernel)
    · have he := Option.some.inj hc
      subst he
      rcases hx with ⟨q, -⟩ | ⟨-, hp1, Gp, Gc, Gk, Gn, kk, r0, hpr, hcp, hkk, hrun, hfl0, hr0, hF, hG1⟩
      · exact absurd q (by decide +kernel)
      · have hkc := RunR_fr _ _ hrun
        have gn : ∀ i z, ¬ (12 ≤ i ∧ i ≤ 19) → i ≠ 2 → ¬ (103 ≤ i ∧ i ≤ 105) → ¬ (92 ≤ i ∧ i ≤ 99) → i ≠ 1 → Gn i z = G i z := fun i z a b c d e => (hF i z (by omega) (by omega)).trans ((hkc i z a d (by omega)).trans (gc Gp Gc hpr hcp i z a b c))
        have g : ∀ p z, ¬ (12 ≤ p ∧ p ≤ 19) → p ≠ 2 → ¬ (103 ≤ p ∧ p ≤ 105) → ¬ (92 ≤ p ∧ p ≤ 99) → p ≠ 1 → ¬ (p = 0 ∧ z = 10) → G1 p z = G p z := fun p z a b c d e f => by rw [hG1, upd2_n f, gn p z a b c d e]
        have gf : ∀ p : Nat, 106 ≤ p → G1 p = G p := fun p a => funext fun z => g p z (by omega) (by omega) (by omega) (by omega) (by omega) (by omega)
        have g21 : G1 2 1 = 0 := by rw [hG1, upd2_i (by decide), hF 2 1 (by omega) (by omega), hkc 2 1 (by omega) (by omega) (by omega), hcp.2.2.2 2 1 (by omega), upd2_s]
        have g010 : G1 0 10 = kk := by rw [hG1, upd2_s]
        rw [gf 111 (by omega), gf 107 (by omega), g 106 10 (by omega) (by omega) (by omega) (by omega) (by omega) (by omega), eS, c2] at hp
        have hS12 := same Gp Gc hpr hcp
        have hcok := hok hp1
        rcases hp with ⟨hne, -⟩ | ⟨-, h8, h6, h5, h107, h110, km, Mk, q, hkm, hM, hfl, hq0, h7⟩ | ⟨-, -, -, -, -, -, hM, -⟩
        · exact absurd hp1 hne
        · have ek : km = kk := by
            rcases Int.lt_trichotomy km kk with z | z | z
            · obtain ⟨Gm, b1, b2⟩ := RunR_pre _ _ hrun km.toNat (by omega)
              have rr := run_rel hS12 hcok (by omega) hY km.toNat Gm Mk (by omega) b1 hM
              exact absurd (Flt_rel rr.1 rr.2.2.1 b2 hfl) hq0
            · exact z
            · obtain ⟨Mm, b1, b2⟩ := RunM_pre _ _ hM kk.toNat (by omega)
              have rr := run_rel hS12 hcok (by omega) hY kk.toNat Gk Mm (by omega) hrun b1
              exact absurd (Flt_rel rr.1 rr.2.2.1 hfl0 b2).symm hr0
          obtain ⟨r2, hr2, he2⟩ := int_norm (v := some (vI r)) ⟨r, rfl⟩
          have k : ∀ p z, ¬ (12 ≤ p ∧ p ≤ 19) → p ≠ 2 → ¬ (103 ≤ p ∧ p ≤ 105) → ¬ (92 ≤ p ∧ p ≤ 99) → p ≠ 1 → ¬ (p = 0 ∧ z = 10) → p ≠ 107 → p ≠ 108 → p ≠ 118 → ¬ (112 ≤ p ∧ p ≤ 114) → ¬ (p = 106 ∧ (z = 6 ∨ z = 7 ∨ z = 8 ∨ z = 10 ∨ 19 ≤ z)) → G2 p z = G p z := fun p z a1 a2 a3 a4 a5 a6 a7 a8 a9 a10 a11 => by
            rw [← g p z a1 a2 a3 a4 a5 a6]
            by_cases t2 : p = 110
            · rw [t2, h110]
            · by_cases t3 : p = 106 ∧ z = 5
              · rw [t3.1, t3.2, h5]
              · exact mf p z a7 a8 t2 a9 a10 (by omega)
          have K : ∀ p z, (20 ≤ p ∧ p < 92) ∨ (4 ≤ p ∧ p < 12) ∨ p = 3 ∨ (p = 0 ∧ z ≠ 10) ∨ p = 102 ∨ p = 109 ∨ p = 110 ∨ p = 111 ∨ (115 ≤ p ∧ p ≤ 117) ∨ 121 ≤ p ∨ (p = 106 ∧ (z = 3 ∨ z = 5 ∨ z = 15)) → G2 p z = G p z := fun p z a => k p z (by omega) (by omega) (by omega) (by omega) (by omega) (by omega) (by omega) (by omega) (by omega) (by omega) (by omega)
          have hS2 : SSk (G2 107) G2 4 (Y + 1200) (A + 6000) := SSk_144 (SSk_fr hUp.1 fun j hj w => K (4 + j) w (by omega)) fun z z0 z1 => h107 z z0 z1
          refine ⟨2, r2, rfl, he2, by omega, hr2, h8, fun z => by omega, LawI_ge hUp (Or.inl hS2) (Or.inr fun p z h => K p z (by omega)) (Or.inr fun p z h => K p z (by omega)) (Or.inl ?_) (Or.inl ?_) (Or.inr fun p z h => K p z (by omega)) (fun p z h => K p z (by omega))⟩
          · have e21 : G2 2 1 = 0 := (mf 2 1 (by omega) (by omega) (by omega) (by omega) (by omega) (by omega)).trans g21
            exact ⟨by rw [e21]; omega, by rw [e21]; exact m10, fun j => by rw [K 111 j (by omega), K 102 j (by omega)]; exact c3 j, fun j j0 j1 => by rw [e21] at j1; omega⟩
          · have e010 : G2 0 10 = kk := (mf 0 10 (by omega) (by omega) (by omega) (by omega) (by omega) (by omega)).trans g010
            have e09 : G2 0 9 = G 0 9 := K 0 9 (by omega)
            exact ⟨by rw [e09]; exact e1, by rw [e09, h6, g 106 6 (by omega) (by omega) (by omega) (by omega) (by omega) (by omega)]; exact e2, by rw [e010]; omega, by rw [e010, h7, ek]⟩
        · obtain ⟨Mm, b1, b2⟩ := RunM_pre _ _ hM kk.toNat (by omega)
          have rr := run_rel hS12 hcok (by omega) hY kk.toNat Gk Mm (by omega) hrun b1
          exact absurd (Flt_rel rr.1 rr.2.2.1 hfl0 b2).symm hr0
    · cases hc
