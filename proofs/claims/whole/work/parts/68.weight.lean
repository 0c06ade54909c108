-- the weights add up: what was added is what is left over, in the vault, paid and lost
def WGT (G : Mem) (b : Nat) : Prop := G b 15 = G b 9 + cs G b (fun d _ _ => G (b + 2) d) + G b 13 + G b 14
theorem cw_eq {G G' : Mem} {b : Nat} (h5 : G' b 5 = G b 5) (h : ∀ k, 0 ≤ k → k < G b 5 → G' (b + 2) (G' (b + 5) k) = G (b + 2) (G (b + 5) k)) : cs G' b (fun d _ _ => G' (b + 2) d) = cs G b (fun d _ _ => G (b + 2) d) := by
  unfold cs
  rw [h5]
  exact sz_congr h
theorem WGT_same {G G' : Mem} {b : Nat} (hI : StI G b) (h0 : ∀ z, z = 5 ∨ z = 9 ∨ z = 13 ∨ z = 14 ∨ z = 15 → G' b z = G b z) (h : ∀ k, 0 ≤ k → k < G b 5 → G' (b + 2) (G' (b + 5) k) = G (b + 2) (G (b + 5) k)) (hW : WGT G b) : WGT G' b := by
  unfold WGT at *
  rw [cw_eq (h0 5 (by omega)) h, h0 9 (by omega), h0 13 (by omega), h0 14 (by omega), h0 15 (by omega)]
  exact hW
theorem sz_k {n c : Int} (hn : 0 ≤ n) : sz n (fun _ => c) = n * c := by
  have e : sz n (fun _ => c) = sz n (fun _ => c * 1) := sz_congr (fun _ _ _ => (Int.mul_one c).symm)
  rw [e, sz_mul (f := fun _ => 1) hn, sz_one hn, Int.mul_comm]
theorem remS_w {F : (Int → Int → Int → Int) → Int} {d u : Int} {w : Int → Int} (hu : 0 ≤ u) : remS F d u (fun dd _ _ => w dd) = u * w d := sz_k hu
theorem Pf_weight {G G' : Mem} {b : Nat} {v f s r : Int} (hb : isS b) (hI : StI G b) (h_v : 0 ≤ v ∧ v < 7) (hok : FltV G b v f s 0) (h : Pf G G' b v f s r) (hW : WGT G b) : WGT G' b := by
  have hbl := isS_lt hb
  have hn := StI_n hI
  have hc := StI_c hI
  unfold Pf at h
  unfold FltV at hok
  by_cases e0 : v = 0
  · rw [if_pos e0] at h
    obtain ⟨-, -, -, -, h5, h6⟩ := h
    have e5 := h6 b 5 (by omega) (by omega)
    refine WGT_same hI (fun z hz => h6 b z (by omega) (by omega)) (fun k k0 k1 => ?_) hW
    have hk := (StI_k hI k0 k1).1
    rw [h6 (b + 5) k (by omega) (by omega)]
    exact (h5 _ hk.1 hk.2).2.1
  · rw [if_neg e0] at h hok
    by_cases e1 : v = 1
    · rw [if_pos e1] at h
      obtain ⟨-, rfl⟩ := h
      have hk : ∀ i z, i ≠ b + 3 → upd2 G (b + 3) f 0 i z = G i z := fun i z q => upd2_i q
      exact WGT_same hI (fun z hz => hk b z (by omega)) (fun k k0 k1 => by rw [hk (b + 5) k (by omega), hk (b + 2) _ (by omega)]) hW
    · rw [if_neg e1] at h hok
      by_cases e2 : v = 2
      · rw [if_pos e2] at h
        obtain ⟨-, rfl⟩ := h
        have hk : ∀ i z, ¬ (i = b ∧ (z = 9 ∨ z = 15)) → ptL G b f i z = G i z := fun i z q => (upd2_n (by omega)).trans (upd2_n (by omega))
        have e9 : ptL G b f b 9 = G b 9 + f := (upd2_z (by decide)).trans (upd2_s _ _ _ _)
        have e15 : ptL G b f b 15 = G b 15 + f := upd2_s _ _ _ _
        unfold WGT at *
        rw [cw_eq (hk b 5 (by omega)) (fun k k0 k1 => by rw [hk (b + 5) k (by omega), hk (b + 2) _ (by omega)]), e9, e15, hk b 13 (by omega), hk b 14 (by omega)]
        omega
      · rw [if_neg e2] at h hok
        by_cases e3 : v = 3
        · rw [if_pos e3] at h hok
          obtain ⟨-, h5, hold, hnew, -, -, h9, -, hk⟩ := h
          unfold FltSt at hok
          have hs : 1 ≤ s := by
            rcases hok with q | ⟨q1, q | ⟨q2, q⟩⟩
            · omega
            · omega
            · omega
          have hwt : ∀ d, G' (b + 2) d = G (b + 2) d := fun d => hk (b + 2) d (by omega) (by omega)
          have hcs : cs G' b (fun d _ _ => G' (b + 2) d) = cs G b (fun d _ _ => G (b + 2) d) + s * G (b + 2) f := by
            have a1 : cs G' b (fun d _ _ => G' (b + 2) d) = cs G' b (fun d _ _ => G (b + 2) d) := sz_congr (fun k _ _ => hwt _)
            rw [a1]
            unfold cs
            rw [h5, cs_more (f := G (b + 5)) (g := G (b + 6)) (k := G (b + 7)) (f' := G' (b + 5)) (g' := G' (b + 6)) (k' := G' (b + 7)) (φ := fun d _ _ => G (b + 2) d) hc.1 (by omega) hold]
            have a2 : sz s (fun j => G (b + 2) (G' (b + 5) (G b 5 + j))) = sz s (fun _ => G (b + 2) f) := sz_congr (fun j j0 j1 => by rw [(hnew j j0 j1).1])
            show _ + sz s (fun j => G (b + 2) (G' (b + 5) (G b 5 + j))) = _
            rw [a2, sz_k (by omega)]
          unfold WGT at *
          rw [hcs, h9, hk b 13 (by omega) (by omega), hk b 14 (by omega) (by omega), hk b 15 (by omega) (by omega)]
          omega
        · rw [if_neg e3] at h hok
          by_cases e4 : v = 4
          · rw [if_pos e4] at h
            obtain ⟨-, h10, -, hk⟩ := h
            exact WGT_same hI (fun z hz => hk b z (by omega) (by omega)) (fun k k0 k1 => by rw [hk (b + 5) k (by omega) (by omega), hk (b + 2) _ (by omega) (by omega)]) hW
          · rw [if_neg e4] at h hok
            by_cases e5 : v = 5
            · rw [if_pos e5] at h
              obtain ⟨-, -, hcs, h9, h14, hk⟩ := h
              have hwt : G' (b + 2) = G (b + 2) := funext fun d => hk (b + 2) d (by omega) (by omega)
              unfold WGT at *
              rw [hwt, hcs, h9, h14, hk b 13 (by omega) (by omega), hk b 15 (by omega) (by omega)]
              omega
            · rw [if_neg e5] at h
              obtain ⟨G1, hF, hu, -, -, hcs, -, h13, hk⟩ := h
              have hwt : G' (b + 2) = G (b + 2) := funext fun d => (hk (b + 2) d (by omega) (by omega)).trans (hF (b + 2) d (by omega) (by omega))
              have hu0 : ∀ e, 0 ≤ e → e < G b 0 → 0 ≤ G1 92 e := fun e e0 e1 => by
                obtain ⟨s9, s0, s1, hs⟩ := hI.2.2.2.2.2.2.2 e e0 e1
                rw [← hs, hu s9 s0 s1]
                have hcr := cnR_r hI s9
                exact (usF_r hcr.1).1
              have hsum : sz (G b 0) (fun e => remS (cs G b) e (G1 92 e) (fun d _ _ => G (b + 2) d)) = sz (G b 0) (fun e => G1 92 e * G (b + 2) e) := sz_congr (fun e e0 e1 => remS_w (w := G (b + 2)) (hu0 e e0 e1))
              have e9 : G' b 9 = G b 9 := (hk b 9 (by omega) (by omega)).trans (hF b 9 (by omega) (by omega))
              have e14 : G' b 14 = G b 14 := (hk b 14 (by omega) (by omega)).trans (hF b 14 (by omega) (by omega))
              have e15 : G' b 15 = G b 15 := (hk b 15 (by omega) (by omega)).trans (hF b 15 (by omega) (by omega))
              unfold WGT at *
              rw [hwt, hcs, hsum, h13, e9, e14, e15]
              omega
