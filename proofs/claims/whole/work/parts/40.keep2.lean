-- the numbers of a command; what a command leaves as it was
theorem nV_r {S : Int → Int} {n q : Int} (h : dg S n q) : 0 ≤ nV S n q ∧ nV S n q ≤ 99 := by
  unfold nV
  split <;> omega
theorem cAB_r {S : Int → Int} {n p : Int} (h : cOk S n p) : (0 ≤ vb S n p ∧ vb S n p < 7) ∧ (0 ≤ cA S n p ∧ cA S n p ≤ 99) ∧ 0 ≤ cB S n p ∧ cB S n p ≤ 9 := by
  obtain ⟨h7, ha⟩ := h
  have hv := vb_r S n p
  unfold aOk at ha
  unfold cA cB aA aB
  by_cases e0 : vb S n p = 0
  · rw [if_pos e0] at ha
    have hnv := nV_r ha.1
    rw [if_neg (by omega), if_neg (by omega), if_pos e0]
    omega
  · rw [if_neg e0] at ha
    by_cases e3 : vb S n p = 3
    · rw [if_pos e3] at ha
      rw [if_pos (by omega), if_neg e0, if_pos e3]
      omega
    · rw [if_neg e3] at ha
      by_cases e4 : vb S n p = 4
      · rw [if_pos e4] at ha
        rw [if_neg (by omega), if_pos e4, if_neg e0, if_neg e3]
        unfold yV
        split
        · rename_i q
          have hnv := nV_r (ha q)
          omega
        · omega
      · rw [if_neg e4] at ha
        have hnv := nV_r ha
        rw [if_neg e4, if_neg e0, if_neg e3]
        by_cases e1 : vb S n p = 1
        · rw [if_pos (by omega)]; omega
        · rw [if_neg (by omega)]; omega
theorem Pf_fr {G G' : Mem} {b : Nat} {v f s r : Int} (h : Pf G G' b v f s r) (i : Nat) (z : Int) (h1 : ¬ (b ≤ i ∧ i ≤ b + 7)) (h2 : ¬ (92 ≤ i ∧ i ≤ 99 ∧ i ≠ 93)) (h3 : ¬ (i = 1 ∧ z = 4)) : G' i z = G i z := by
  unfold Pf at h
  by_cases e0 : v = 0
  · rw [if_pos e0] at h
    obtain ⟨-, -, -, -, -, hk⟩ := h
    exact hk i z (by omega) (by omega)
  · rw [if_neg e0] at h
    by_cases e1 : v = 1
    · rw [if_pos e1] at h
      obtain ⟨-, rfl⟩ := h
      exact upd2_i (by omega)
    · rw [if_neg e1] at h
      by_cases e2 : v = 2
      · rw [if_pos e2] at h
        obtain ⟨-, rfl⟩ := h
        exact (upd2_n (by omega)).trans (upd2_n (by omega))
      · rw [if_neg e2] at h
        by_cases e3 : v = 3
        · rw [if_pos e3] at h
          obtain ⟨-, -, -, -, -, -, -, -, hk⟩ := h
          exact hk i z (by omega) (by omega)
        · rw [if_neg e3] at h
          by_cases e4 : v = 4
          · rw [if_pos e4] at h
            obtain ⟨-, -, -, hk⟩ := h
            exact hk i z (by omega) (by omega)
          · rw [if_neg e4] at h
            by_cases e5 : v = 5
            · rw [if_pos e5] at h
              obtain ⟨-, -, -, -, -, hk⟩ := h
              exact hk i z (by omega) (by omega)
            · rw [if_neg e5] at h
              obtain ⟨G1, hF, -, -, -, -, -, -, hk⟩ := h
              exact (hk i z (by omega) (by omega)).trans (hF i z h2 h3)
