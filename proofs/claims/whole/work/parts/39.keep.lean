-- a command without a fault keeps the state's invariant
theorem mlt_r {G : Mem} {b : Nat} (hI : StI G b) (y : Int) : 0 ≤ mlt (G b 5) (G (b + 5)) (G (b + 2)) (G (b + 6)) (G (b + 7)) y ∧ mlt (G b 5) (G (b + 5)) (G (b + 2)) (G (b + 6)) (G (b + 7)) y ≤ 360 := by
  have hc := StI_c hI
  have h : ∀ k, 0 ≤ k → k < G b 5 → 0 ≤ (if G (b + 6) k = y then mxI 0 (G (b + 2) (G (b + 5) k) - G (b + 7) k) else 0) ∧ (if G (b + 6) k = y then mxI 0 (G (b + 2) (G (b + 5) k) - G (b + 7) k) else 0) ≤ 9 := fun k k0 k1 => by
    have hk := StI_k hI k0 k1
    have hd := StI_d hI hk.1.1 hk.1.2
    split
    · unfold mxI
      split <;> omega
    · omega
  have := sz_rng (n := G b 5) (a := 0) (c := 9) (f := fun k => if G (b + 6) k = y then mxI 0 (G (b + 2) (G (b + 5) k) - G (b + 7) k) else 0) (by omega) h
  unfold mlt
  omega
theorem Pf_keep {G G' : Mem} {b : Nat} {v f s r : Int} (hb : isS b) (hI : StI G b) (h_v : 0 ≤ v ∧ v < 7) (hok : FltV G b v f s 0) (hl : 0 ≤ G b 9) (hy : G b 10 + 20 ≤ 1000000) (h : Pf G G' b v f s r) :
    StI G' b ∧ (0 ≤ G' b 9 ∧ G' b 9 ≤ G b 9 + 1000) ∧ G b 10 ≤ G' b 10 ∧ G' b 10 ≤ G b 10 + 20 := by
  have hbl := isS_lt hb
  have hn := StI_n hI
  have hc := StI_c hI
  have hyr := StI_y hI
  unfold Pf at h
  unfold FltV at hok
  by_cases e0 : v = 0
  · rw [if_pos e0] at h
    obtain ⟨-, h2, h3, h4, h5, h6⟩ := h
    have e9 := h6 b 9 (by omega) (by omega)
    have e10 := h6 b 10 (by omega) (by omega)
    exact ⟨h2, by omega, by omega, by omega⟩
  · rw [if_neg e0] at h hok
    by_cases e1 : v = 1
    · rw [if_pos e1] at h hok
      obtain ⟨-, rfl⟩ := h
      have hk : ∀ i z, i ≠ b + 3 → upd2 G (b + 3) f 0 i z = G i z := fun i z q => upd2_i q
      have e9 := hk b 9 (by omega)
      have e10 := hk b 10 (by omega)
      have e5 := hk b 5 (by omega)
      have e00 := hk b 0 (by omega)
      refine ⟨StI_coins hI ⟨by omega, fun k k0 k1 => ?_⟩ e00 (by omega) (fun z z0 z1 => ⟨hk _ _ (by omega), hk _ _ (by omega), ?_, hk _ _ (by omega)⟩), by omega, by omega, by omega⟩
      · rw [e5] at k1
        rw [hk (b + 5) k (by omega), hk (b + 6) k (by omega), hk (b + 7) k (by omega), e00, e10]
        exact StI_k hI k0 k1
      · by_cases q : z = f
        · rw [q, upd2_s]; omega
        · rw [upd2_z q]; exact (StI_d hI z0 z1).2.2
    · rw [if_neg e1] at h hok
      by_cases e2 : v = 2
      · rw [if_pos e2] at h hok
        obtain ⟨-, rfl⟩ := h
        unfold FltLf at hok
        have hk : ∀ i z, ¬ (i = b ∧ (z = 9 ∨ z = 15)) → ptL G b f i z = G i z := fun i z q => (upd2_n (by omega)).trans (upd2_n (by omega))
        have e9 : ptL G b f b 9 = G b 9 + f := (upd2_z (by decide)).trans (upd2_s _ _ _ _)
        have e10 := hk b 10 (by omega)
        have e5 := hk b 5 (by omega)
        have e00 := hk b 0 (by omega)
        refine ⟨StI_coins hI ⟨by omega, fun k k0 k1 => ?_⟩ e00 (by omega) (fun z z0 z1 => ⟨hk _ _ (by omega), hk _ _ (by omega), ?_, hk _ _ (by omega)⟩), by omega, by omega, by omega⟩
        · rw [e5] at k1
          rw [hk (b + 5) k (by omega), hk (b + 6) k (by omega), hk (b + 7) k (by omega), e00, e10]
          exact StI_k hI k0 k1
        · rw [hk _ _ (by omega)]; exact (StI_d hI z0 z1).2.2
      · rw [if_neg e2] at h hok
        by_cases e3 : v = 3
        · rw [if_pos e3] at h hok
          obtain ⟨-, h5, hold, hnew, hw, hwo, h9, h11, hk⟩ := h
          unfold FltSt at hok
          have e10 := hk b 10 (by omega) (by omega)
          have e00 := hk b 0 (by omega) (by omega)
          have hin : (0 ≤ f ∧ f < G b 0) ∧ (1 ≤ s ∧ s ≤ 9) ∧ s * G (b + 2) f ≤ G b 9 ∧ G b 5 + s ≤ 40 ∧ G (b + 3) f + s ≤ 30 := by
            rcases hok with q | ⟨q1, q | ⟨q2, q | ⟨q3, q | q⟩⟩⟩
            · omega
            · omega
            · omega
            · omega
            · exact ⟨q1, q2, q3.1, q3.2, q.1⟩
          have hd := StI_d hI hin.1.1 hin.1.2
          have hm : 0 ≤ s * G (b + 2) f := Int.mul_nonneg (by omega) (by omega)
          refine ⟨StI_coins hI ⟨by omega, fun k k0 k1 => ?_⟩ e00 (by omega) (fun z z0 z1 => ⟨hk _ _ (by omega) (by omega), hk _ _ (by omega) (by omega), ?_, hk _ _ (by omega) (by omega)⟩), by omega, by omega, by omega⟩
          · rw [e00, e10]
            by_cases q : k < G b 5
            · obtain ⟨a1, a2, a3⟩ := hold k k0 q
              rw [a1, a2, a3]
              exact StI_k hI k0 q
            · obtain ⟨a1, a2, a3⟩ := hnew (k - G b 5) (by omega) (by omega)
              rw [show G b 5 + (k - G b 5) = k by omega] at a1 a2 a3
              rw [a1, a2, a3]
              have hg := gow_r (G (b + 3) f + (k - G b 5))
              omega
          · by_cases q : z = f
            · rw [q, hw]; omega
            · rw [hwo z q]; exact (StI_d hI z0 z1).2.2
        · rw [if_neg e3] at h hok
          by_cases e4 : v = 4
          · rw [if_pos e4] at h hok
            obtain ⟨-, h10, hgr, hk⟩ := h
            unfold FltYr at hok
            have e9 := hk b 9 (by omega) (by omega)
            exact ⟨StI_age hI (by omega) (fun k k0 k1 => by rw [hgr k k0 k1]; exact agd_r (StI_k hI k0 k1).2.2 _) hk, by omega, by omega, by omega⟩
          · rw [if_neg e4] at h hok
            by_cases e5 : v = 5
            · rw [if_pos e5] at h
              obtain ⟨hr, h2, -, h9, -, hk⟩ := h
              have hm := mlt_r hI f
              rw [← hr] at hm
              have e10 := hk b 10 (by omega) (by omega)
              exact ⟨h2, by omega, by omega, by omega⟩
            · rw [if_neg e5] at h
              obtain ⟨G1, hF, -, -, h2, -, -, -, hk⟩ := h
              have e9 : G' b 9 = G b 9 := (hk b 9 (by omega) (by omega)).trans (hF b 9 (by omega) (by omega))
              have e10 : G' b 10 = G b 10 := (hk b 10 (by omega) (by omega)).trans (hF b 10 (by omega) (by omega))
              exact ⟨h2, by omega, by omega, by omega⟩
