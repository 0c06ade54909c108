-- the model runs a script
theorem MoI_144 {M M' : Int → Int} (h : MoI M) (hz : ∀ z, 0 ≤ z → z < 144 → M' z = M z) : MoI M' := by
  obtain ⟨a1, a2, a3, a4, a5, a6, a7⟩ := h
  have e0 := hz 0 (by omega) (by omega)
  have e3 := hz 3 (by omega) (by omega)
  have e2 := hz 2 (by omega) (by omega)
  refine ⟨by omega, by omega, by omega, fun k k0 k1 => ?_, fun i i0 i1 => ?_, fun i i0 i1 => ?_, fun i j i0 ij j1 => ?_⟩
  · rw [hz (24 + 3 * k) (by omega) (by omega), hz (24 + 3 * k + 1) (by omega) (by omega), hz (24 + 3 * k + 2) (by omega) (by omega), e0, e2]
    exact a4 k k0 (by omega)
  · rw [hz (9 + 3 * i) (by omega) (by omega), hz (9 + 3 * i + 1) (by omega) (by omega), hz (9 + 3 * i + 2) (by omega) (by omega)]
    exact a5 i i0 (by omega)
  · rw [hz (9 + 3 * i + 2) (by omega) (by omega)]
    exact a6 i (by omega) i1
  · rw [hz (9 + 3 * i) (by omega) (by omega), hz (9 + 3 * j) (by omega) (by omega)]
    exact a7 i j i0 ij (by omega)
/-- the model after j commands of the script -/
def RunM (S : Int → Int) (n : Int) (M0 : Int → Int) : Nat → (Int → Int) → Prop
  | 0, M => M = M0
  | j + 1, M => ∃ Mp r, RunM S n M0 j Mp ∧ FltM Mp (vb S n (ps S n j)) (cA S n (ps S n j)) (cB S n (ps S n j)) 0 ∧ PmM Mp M (vb S n (ps S n j)) (cA S n (ps S n j)) (cB S n (ps S n j)) r ∧ MoI M
theorem mltM_r {M : Int → Int} (h : MoI M) (y : Int) : 0 ≤ mltM M y ∧ mltM M y ≤ 360 := by
  have hc := MoI_c h
  have := sz_rng (n := M 3) (a := 0) (c := 9) (f := fun k => if M (24 + 3 * k + 1) = y then mxI 0 (M (9 + 3 * M (24 + 3 * k) + 1) - M (24 + 3 * k + 2)) else 0) hc.1 (fun k k0 k1 => by
    have q := MoI_k h k0 k1
    have q2 := MoI_d h q.1.1 q.1.2
    unfold mxI
    split
    · split <;> omega
    · omega)
  have h2 : mltM M y = sz (M 3) (fun k => if M (24 + 3 * k + 1) = y then mxI 0 (M (9 + 3 * M (24 + 3 * k) + 1) - M (24 + 3 * k + 2)) else 0) := rfl
  rw [h2]
  omega
theorem PmM_b {M M' : Int → Int} {v f s r : Int} (h : MoI M) (h1 : 0 ≤ M 1) (hf : FltM M v f s 0) (hp : PmM M M' v f s r) : (0 ≤ M' 1 ∧ M' 1 ≤ M 1 + 1000) ∧ M' 2 ≤ M 2 + 20 := by
  unfold FltM at hf
  unfold PmM at hp
  by_cases v0 : v = 0
  · rw [if_pos v0] at hp
    have a := hp.2.2.2.2 1 (by omega) (by have := MoI_n h; omega) (by have := MoI_n h; omega)
    have b := hp.2.2.2.2 2 (by omega) (by have := MoI_n h; omega) (by have := MoI_n h; omega)
    omega
  rw [if_neg v0] at hf hp
  by_cases v1 : v = 1
  · rw [if_pos v1] at hf hp
    have hd : 0 ≤ f ∧ f < M 0 := by unfold FltSh at hf; omega
    have a := hp.2.2 1 (by omega)
    have b := hp.2.2 2 (by omega)
    omega
  rw [if_neg v1] at hf hp
  by_cases v2 : v = 2
  · rw [if_pos v2] at hf hp
    unfold FltLf at hf
    have a := hp.2.1
    have b := hp.2.2.2 2 (by omega) (by omega)
    omega
  rw [if_neg v2] at hf hp
  by_cases v3 : v = 3
  · rw [if_pos v3] at hf hp
    have hq : (0 ≤ f ∧ f < M 0) ∧ (1 ≤ s ∧ s ≤ 9) ∧ s * M (9 + 3 * f + 1) ≤ M 1 := by
      unfold FltSt at hf
      rcases hf with q | ⟨q1, q | ⟨q2, q | ⟨q3, _⟩⟩⟩
      · omega
      · omega
      · omega
      · exact ⟨q1, q2, q3.1⟩
    obtain ⟨-, -, -, a, -, -, b⟩ := hp
    have hw := MoI_d h hq.1.1 hq.1.2
    have hm := mul_rng (a := s) (b := M (9 + 3 * f + 1)) (A := 9) (B := 9) (by omega) (by omega)
    have hc := MoI_c h
    have e := b 2 (by omega) (by omega) (by omega) (by omega) (by omega)
    omega
  rw [if_neg v3] at hf hp
  by_cases v4 : v = 4
  · rw [if_pos v4] at hf hp
    unfold FltYr at hf
    have a := hp.2.2.2 1 (by omega) (fun k _ _ => by omega)
    have b := hp.2.1
    omega
  rw [if_neg v4] at hf hp
  by_cases v5 : v = 5
  · rw [if_pos v5] at hf hp
    obtain ⟨a, -, b, -, c⟩ := hp
    have := mltM_r h f
    have e := c 2 (by omega) (by omega) (by omega) (by omega)
    omega
  rw [if_neg v5] at hf hp
  obtain ⟨β, -, -, -, -, -, c⟩ := hp
  have e1 := c 1 (by omega) (by omega) (by omega) (by omega)
  have e2 := c 2 (by omega) (by omega) (by omega) (by omega)
  omega
/-- the row commands holds the first c commands -/
def CmM (G : Mem) (S : Int → Int) (n c : Int) : Prop := ∀ i, 0 ≤ i → i < c → cOk S n (ps S n i.toNat) ∧ G 118 (3 * i) = vb S n (ps S n i.toNat) ∧ G 118 (3 * i + 1) = cA S n (ps S n i.toNat) ∧ ((vb S n (ps S n i.toNat) = 0 ∨ vb S n (ps S n i.toNat) = 3) → G 118 (3 * i + 2) = cB S n (ps S n i.toNat))
theorem cB_0 {S : Int → Int} {n p : Int} (h : ¬ (vb S n p = 0 ∨ vb S n p = 3)) : cB S n p = 0 := by
  unfold cB aB
  rw [if_neg (by omega), if_neg (by omega)]

set_option maxHeartbeats 4000000 in
set_option maxRecDepth 100000 in
theorem c_X4_runScript {g : GT} {G : Mem} (hM : MoI (G 107)) (hL : McL G) (h5 : 0 ≤ G 106 5 ∧ G 106 5 ≤ 8) (hlv : 0 ≤ G 107 1 ∧ G 107 1 ≤ 30000) (hyy : G 107 2 + 2000 ≤ 1000000) (hin : 0 ≤ G 106 10 ∧ G 106 10 ≤ 60) (hS : ∀ j, 0 ≤ j → j < G 106 10 → 32 ≤ G 111 j ∧ G 111 j ≤ 126) : Ctr g yX4_runScript cX4_runScript 4 (some FieldType.int) (rmL 7 0 0) [vR g 106] G (RP (fun r G' => G' 106 10 = 0 ∧ (∀ i z, i ≠ 107 → i ≠ 108 → i ≠ 110 → i ≠ 118 → ¬ (112 ≤ i ∧ i ≤ 114) → ¬ (i = 106 ∧ (z = 5 ∨ z = 6 ∨ z = 7 ∨ z = 8 ∨ z = 10 ∨ 19 ≤ z)) → G' i z = G i z) ∧ (((prs (G 111) (G 106 10)).1 ≠ 1 ∧ G' 106 8 = 1 ∧ G' 106 6 = (prs (G 111) (G 106 10)).2.2 ∧ G' 106 7 = G 106 7 ∧ G' 106 5 = G 106 5 ∧ G' 107 = G 107 ∧ G' 110 = G 110) ∨ ((prs (G 111) (G 106 10)).1 = 1 ∧ G' 106 8 = 2 ∧ G' 106 6 = G 106 6 ∧ G' 106 5 = G 106 5 ∧ (∀ z, 0 ≤ z → z < 144 → G' 107 z = G 107 z) ∧ G' 110 = G 110 ∧ ∃ (k : Int) (Mk : Int → Int) (q : Int), (0 ≤ k ∧ k < (prs (G 111) (G 106 10)).2.1) ∧ RunM (G 111) (G 106 10) (G 107) k.toNat Mk ∧ FltM Mk (vb (G 111) (G 106 10) (ps (G 111) (G 106 10) k.toNat)) (cA (G 111) (G 106 10) (ps (G 111) (G 106 10) k.toNat)) (cB (G 111) (G 106 10) (ps (G 111) (G 106 10) k.toNat)) q ∧ q ≠ 0 ∧ G' 106 7 = k) ∨ ((prs (G 111) (G 106 10)).1 = 1 ∧ G' 106 8 = 0 ∧ G' 106 6 = G 106 6 ∧ G' 106 7 = G 106 7 ∧ r = (prs (G 111) (G 106 10)).2.1 ∧ MoI (G' 107) ∧ RunM (G 111) (G 106 10) (G 107) (prs (G 111) (G 106 10)).2.1.toNat (G' 107) ∧ ∃ c sh : Int, ((G 106 5 < 8 ∧ c = G 106 5 ∧ sh = 0) ∨ (G 106 5 = 8 ∧ c = 7 ∧ sh = 144)) ∧ G' 106 5 = c + 1 ∧ (∀ z, 0 ≤ z → z < 144 * c → G' 110 z = G 110 (z + sh)) ∧ ∀ k, 0 ≤ k → k < 144 → G' 110 (144 * c + k) = G 107 k)))) NoX := by
  refine ctr_of [some (vR g 106), none, none, none] (by decide) (Nat.le_of_ble_eq_true rfl) rfl (fun γ E => ?_)
  show V γ g cX4_runScript 4 RX4 (rmL 7 0 0) G 0 0 0 [some (vR g 106), none, none, none] []
  have hn := MoI_n hM
  have hc := MoI_c hM
  have hy := MoI_y hM
  refine v_aload_n (pc := 0) rfl dX4_runScript_0 ?_
  refine v_callV (pc := 1) (rest := []) (c_X4_starts) iok_X4_starts wM_X4_87 (rfl) (by decide) (by decide) rfl (rmOk (by decide) (by decide)) ⟨Nat.le_of_ble_eq_true rfl, Nat.le_of_ble_eq_true rfl⟩ (Nat.le_of_ble_eq_true rfl) rfl dX4_runScript_1 (fun v Ga hq => ?_) (fun _ _ h => h.elim)
  obtain ⟨rfl, hst⟩ := hq
  refine v_stk (st' := []) rfl ?_
  have a10 : Ga 106 10 = G 106 10 := hst.2.2 106 10 (by omega) (by omega)
  have afr := hst.2.2
  refine v_aload_n (pc := 4) rfl dX4_runScript_4 ?_
  refine v_aload_n (pc := 5) rfl dX4_runScript_5 ?_
  refine v_get (pc := 6) 10 fd_X4_198 (rfl) (by decide) rfl rfl dX4_runScript_6 ?_
  refine v_put (pc := 9) 21 pd_X4_204 (rfl) (by decide) rfl rfl dX4_runScript_9 ?_
  refine v_aload_n (pc := 12) rfl dX4_runScript_12 ?_
  refine v_iconst (pc := 13) (z := 0) dX4_runScript_13 ?_
  refine v_put (pc := 14) 10 pd_X4_198 (rfl) (by decide) rfl rfl dX4_runScript_14 ?_
  refine v_aload_n (pc := 17) rfl dX4_runScript_17 ?_
  refine v_iconst (pc := 18) (z := 0) dX4_runScript_18 ?_
  refine v_put (pc := 19) 20 pd_X4_201 (rfl) (by decide) rfl rfl dX4_runScript_19 ?_
  refine v_aload_n (pc := 22) rfl dX4_runScript_22 ?_
  refine v_iconst (pc := 23) (z := 0) dX4_runScript_23 ?_
  refine v_put (pc := 24) 19 pd_X4_233 (rfl) (by decide) rfl rfl dX4_runScript_24 ?_
  refine v_aload_n (pc := 27) rfl dX4_runScript_27 ?_
  refine v_iconst (pc := 28) (z := 0) dX4_runScript_28 ?_
  refine v_putZ (pc := 29) 22 (by decide) pd_X4_207 (rfl) (by decide) rfl rfl dX4_runScript_29 ?_
  skip
  obtain ⟨Gi, hGi⟩ : ∃ x : Mem, x = (upd2 (upd2 (upd2 (upd2 (upd2 Ga 106 21 (Ga 106 10)) 106 10 0) 106 20 0) 106 19 0) 106 22 0) := ⟨_, rfl⟩
  rw [← hGi]
  have hMi : Mc Gi (G 111) (G 106 10) 0 0 := by
    rw [hGi]
    refine ⟨funext fun z => ?_, ?_, ?_, upd2_s _ _ _ _, by omega, hS⟩
    · rw [upd2_i (by omega), upd2_i (by omega), upd2_i (by omega), upd2_i (by omega), upd2_i (by omega)]; exact afr 111 z (by omega) (by omega)
    · rw [upd2_z (by omega), upd2_z (by omega), upd2_z (by omega), upd2_z (by omega), upd2_s]; exact a10
    · rw [upd2_z (by omega), upd2_z (by omega), upd2_s]
  have i19 : Gi 106 19 = 0 := by rw [hGi, upd2_z (by omega), upd2_s]
  have hi7 : Gi 106 8 = 0 ∧ Gi 106 10 = 0 ∧ (∀ k, 0 ≤ k → k < 144 → Gi 108 k = G 107 k) := by
    rw [hGi]
    refine ⟨?_, ?_, fun k k0 k1 => ?_⟩
    · rw [upd2_z (by omega), upd2_z (by omega), upd2_z (by omega), upd2_z (by omega), upd2_z (by omega)]; exact hst.1
    · rw [upd2_z (by omega), upd2_z (by omega), upd2_z (by omega), upd2_s]
    · rw [upd2_i (by omega), upd2_i (by omega), upd2_i (by omega), upd2_i (by omega), upd2_i (by omega)]; exact hst.2.1 k k0 k1
  have hifr : ∀ i z, i ≠ 108 → i ≠ 118 → ¬ (i = 106 ∧ (z = 8 ∨ z = 10 ∨ 19 ≤ z)) → Gi i z = G i z := fun i z a b c => by
    rw [hGi, upd2, if_neg (by omega), upd2, if_neg (by omega), upd2, if_neg (by omega), upd2, if_neg (by omega), upd2, if_neg (by omega)]
    exact afr i z a (by omega)
  refine v_iconst (pc := 32) (z := 1) dX4_runScript_32 ?_
  refine v_istore_n (pc := 33) (by decide) rfl dX4_runScript_33 ?_
  have lp34 : ∀ (m34 : Nat) (mo : Int) (c : Int) (p : Int) (G1 : Mem), (0 ≤ mo ∧ mo ≤ 1 ∧ 0 ≤ c ∧ c ≤ 13 ∧ 0 ≤ p ∧ p ≤ 60) → ((mo = 1 ∧ Mc G1 (G 111) (G 106 10) p 0 ∧ (prs (G 111) (G 106 10)) = prsF (G 111) (G 106 10) (60 - c).toNat c p ∧ 5 * c ≤ p ∧ p = ps (G 111) (G 106 10) c.toNat ∧ G1 106 19 = c ∧ CmM G1 (G 111) (G 106 10) c) ∨ (mo = 0 ∧ ((Mc G1 (G 111) (G 106 10) p 0 ∧ (prs (G 111) (G 106 10)) = (1, c, p) ∧ G1 106 19 = c ∧ CmM G1 (G 111) (G 106 10) c) ∨ (Mc G1 (G 111) (G 106 10) p 1 ∧ (prs (G 111) (G 106 10)).1 = 0 ∧ (prs (G 111) (G 106 10)).2.2 = p)))) → (G1 106 8 = 0 ∧ G1 106 10 = 0 ∧ (∀ k, 0 ≤ k → k < 144 → G1 108 k = G 107 k)) → (∀ i z, i ≠ 108 → i ≠ 118 → ¬ (i = 106 ∧ (z = 8 ∨ z = 10 ∨ 19 ≤ z)) → G1 i z = G i z) → ((mo * 100 - p).toNat) < m34 → V γ g cX4_runScript 4 RX4 (rmL 7 0 0) G1 0 0 34 [some (vR g 106), some (vI mo), none, none] [] := by
    intro m34
    induction m34 with
    | zero => intro mo c p G1; intros; omega
    | succ m34 ih34 =>
      intro mo c p G1 hmo hinv hk7 hfr hm34
      refine v_iload_n (pc := 34) rfl dX4_runScript_34 ?_
      refine v_if_eq (pc := 35) (tgt := 92) (by omega) dX4_runScript_35 (by decide) (fun bq1 => ?_) (fun bq1 => ?_)
      · skip
        have hend : (Mc G1 (G 111) (G 106 10) p 0 ∧ (prs (G 111) (G 106 10)) = (1, c, p) ∧ G1 106 19 = c ∧ CmM G1 (G 111) (G 106 10) c) ∨ (Mc G1 (G 111) (G 106 10) p 1 ∧ (prs (G 111) (G 106 10)).1 = 0 ∧ (prs (G 111) (G 106 10)).2.2 = p) := by
          rcases hinv with q | q
          · omega
          · exact q.2
        have h22 : G1 106 22 = 0 ∨ G1 106 22 = 1 := by
          rcases hend with q | q
          · exact Or.inl q.1.2.2.2.1
          · exact Or.inr q.1.2.2.2.1
        have h20 : G1 106 20 = p := by
          rcases hend with q | q
          · exact q.1.2.2.1
          · exact q.1.2.2.1
        refine v_aload_n (pc := 92) rfl dX4_runScript_92 ?_
        refine v_get (pc := 93) 22 fd_X4_207 (rfl) (by decide) rfl rfl dX4_runScript_93 ?_
        refine v_if_eq (pc := 96) (tgt := 113) (by omega) dX4_runScript_96 (by decide) (fun bq2 => ?_) (fun bq2 => ?_)
        · skip
          obtain ⟨hgood, e19, hcm⟩ : (prs (G 111) (G 106 10)) = (1, c, p) ∧ G1 106 19 = c ∧ CmM G1 (G 111) (G 106 10) c := by
            rcases hend with q | q
            · exact q.2
            · have := q.1.2.2.2.1; omega
          have p1 : (prs (G 111) (G 106 10)).1 = 1 := by rw [hgood]
          have p2 : (prs (G 111) (G 106 10)).2.1 = c := by rw [hgood]
          have e7 : G1 107 = G 107 := funext fun z => hfr 107 z (by omega) (by omega) (by omega)
          refine v_iconst (pc := 113) (z := 0) dX4_runScript_113 ?_
          refine v_istore_n (pc := 114) (by decide) rfl dX4_runScript_114 ?_
          have lp115 : ∀ (m115 : Nat) (k : Int) (Gk : Mem), (0 ≤ k ∧ k ≤ c) → (MoI (Gk 107)) → (RunM (G 111) (G 106 10) (G 107) k.toNat (Gk 107)) → (Gk 106 8 = 0) → ((0 ≤ Gk 107 1 ∧ Gk 107 1 ≤ G 107 1 + 1000 * k) ∧ Gk 107 2 ≤ G 107 2 + 20 * k) → (∀ i z, i ≠ 107 → ¬ (112 ≤ i ∧ i ≤ 114) → ¬ (i = 106 ∧ z = 8) → Gk i z = G1 i z) → ((c - k).toNat) < m115 → V γ g cX4_runScript 4 RX4 (rmL 7 0 0) Gk 0 0 115 [some (vR g 106), none, some (vI k), none] [] := by
            intro m115
            induction m115 with
            | zero => intro k Gk; intros; omega
            | succ m115 ih115 =>
              intro k Gk k0 hI2 hR k8 kb kF hm115
              have k19 : Gk 106 19 = c := (kF 106 19 (by omega) (by omega) (by omega)).trans e19
              refine v_iload_n (pc := 115) rfl dX4_runScript_115 ?_
              refine v_aload_n (pc := 116) rfl dX4_runScript_116 ?_
              refine v_get (pc := 117) 19 fd_X4_233 (rfl) (by decide) rfl rfl dX4_runScript_117 ?_
              refine v_icmp_ge (pc := 120) (tgt := 181) (by omega) dX4_runScript_120 (by decide) (fun bq3 => ?_) (fun bq3 => ?_)
              · skip
                have hkc : k = c := by omega
                have k5 : Gk 106 5 = G 106 5 := (kF 106 5 (by omega) (by omega) (by omega)).trans (hfr 106 5 (by omega) (by omega) (by omega))
                refine v_aload_n (pc := 181) rfl dX4_runScript_181 ?_
                refine v_aload_n (pc := 182) rfl dX4_runScript_182 ?_
                refine v_get (pc := 183) 19 fd_X4_233 (rfl) (by decide) rfl rfl dX4_runScript_183 ?_
                refine v_callV (pc := 186) (rest := []) (c_X4_changed (G := Gk) (t := Gk 106 19) (by omega) (by omega)) iok_X4_changed wM_X4_93 (rfl) (by decide) (by decide) rfl (rmOk (by decide) (by decide)) ⟨Nat.le_of_ble_eq_true rfl, Nat.le_of_ble_eq_true rfl⟩ (Nat.le_of_ble_eq_true rfl) rfl dX4_runScript_186 (fun v Gf hq => ?_) (fun _ _ h => h.elim)
                obtain ⟨w, rfl, hch⟩ := hq
                refine v_stk (st' := [vI w]) rfl ?_
                obtain ⟨hw, hch⟩ := hch
                have hmr : MRem Gk Gf := by
                  rcases hch with z | z
                  · omega
                  · exact z.2
                exact v_iret (pc := 189) E (⟨_, rfl, by
                  obtain ⟨cc, sh, d1, d2, d3, d4, d5⟩ := hmr
                  rw [k5] at d1
                  have f7 : Gf 107 = Gk 107 := funext fun z => d5 107 z (by omega) (by omega)
                  have f10 : ∀ z, Gk 110 z = G 110 z := fun z => (kF 110 z (by omega) (by omega) (by omega)).trans (hfr 110 z (by omega) (by omega) (by omega))
                  have fk : ∀ z, z ≠ 5 → z ≠ 8 → z ≠ 10 → z < 19 → Gf 106 z = G 106 z := fun z a b d e => (d5 106 z (by omega) (by omega)).trans ((kF 106 z (by omega) (by omega) (by omega)).trans (hfr 106 z (by omega) (by omega) (by omega)))
                  refine ⟨(d5 106 10 (by omega) (by omega)).trans ((kF 106 10 (by omega) (by omega) (by omega)).trans hk7.2.1), fun i z a b d e f h => (d5 i z d (by omega)).trans ((kF i z a f (by omega)).trans (hfr i z b e (by omega))), Or.inr (Or.inr ⟨p1, (d5 106 8 (by omega) (by omega)).trans k8, fk 6 (by omega) (by omega) (by omega) (by omega), fk 7 (by omega) (by omega) (by omega) (by omega), by rw [hw, k19, p2], by rw [f7]; exact hI2, by rw [f7, p2, ← hkc]; exact hR, cc, sh, d1, d2, fun z z0 z1 => (d3 z z0 z1).trans (f10 _), fun z z0 z1 => (d4 z z0 z1).trans ((kF 108 z (by omega) (by omega) (by omega)).trans (hk7.2.2 z z0 z1))⟩)⟩⟩) (Nat.le_of_ble_eq_true rfl) (Nat.le_of_ble_eq_true rfl) dX4_runScript_189
              · skip
                obtain ⟨q1, q2, q3, q4⟩ := hcm k (by omega) (by omega)
                have hrg := cAB_r q1
                have f0 : Gk 118 (3 * k) = (vb (G 111) (G 106 10) (ps (G 111) (G 106 10) k.toNat)) := (kF 118 _ (by omega) (by omega) (by omega)).trans q2
                have f1 : Gk 118 (3 * k + 1) = (cA (G 111) (G 106 10) (ps (G 111) (G 106 10) k.toNat)) := (kF 118 _ (by omega) (by omega) (by omega)).trans q3
                have f2 : ((vb (G 111) (G 106 10) (ps (G 111) (G 106 10) k.toNat)) = 0 ∨ (vb (G 111) (G 106 10) (ps (G 111) (G 106 10) k.toNat)) = 3) → Gk 118 (3 * k + 2) = (cB (G 111) (G 106 10) (ps (G 111) (G 106 10) k.toNat)) := fun z => (kF 118 _ (by omega) (by omega) (by omega)).trans (q4 z)
                have fB : (if Gk 118 (3 * k) = 0 ∨ Gk 118 (3 * k) = 3 then Gk 118 (3 * k + 2) else 0) = (cB (G 111) (G 106 10) (ps (G 111) (G 106 10) k.toNat)) := by
                  rw [f0]
                  by_cases z : (vb (G 111) (G 106 10) (ps (G 111) (G 106 10) k.toNat)) = 0 ∨ (vb (G 111) (G 106 10) (ps (G 111) (G 106 10) k.toNat)) = 3
                  · rw [if_pos z]; exact f2 z
                  · rw [if_neg z, cB_0 z]
                refine v_aload_n (pc := 123) rfl dX4_runScript_123 ?_
                refine v_iconst (pc := 124) (z := 3) dX4_runScript_124 ?_
                refine v_iload_n (pc := 125) rfl dX4_runScript_125 ?_
                refine v_imul (pc := 126) dX4_runScript_126 ?_
                refine v_callV (pc := 127) (rest := []) (c_X4_does (G := Gk) hI2 k8 (by omega) (by omega) (z := 3 * k) (by omega) (by omega) (by omega) (fun z => by rw [f0] at z; rw [f2 z]; omega)) iok_X4_does wM_X4_246 (rfl) (by decide) (by decide) rfl (rmOk (by decide) (by decide)) ⟨Nat.le_of_ble_eq_true rfl, Nat.le_of_ble_eq_true rfl⟩ (Nat.le_of_ble_eq_true rfl) rfl dX4_runScript_127 (fun v Gn hq => ?_) (fun _ _ h => h.elim)
                obtain ⟨rfl, hdo⟩ := hq
                refine v_stk (st' := []) rfl ?_
                obtain ⟨rr, q, hit⟩ := hdo
                rw [fB, f0, f1] at hit
                obtain ⟨hflt, n8, hnf, hal⟩ := hit
                have hqr := FltM_r hflt
                have hk0 := kOf_0 (v := (vb (G 111) (G 106 10) (ps (G 111) (G 106 10) k.toNat))) hqr.1
                have hkr := kOf_r (v := (vb (G 111) (G 106 10) (ps (G 111) (G 106 10) k.toNat))) hqr
                have n19 : Gn 106 19 = c := (hnf 106 19 (by omega) (by omega) (by omega)).trans k19
                refine v_aload_n (pc := 130) rfl dX4_runScript_130 ?_
                refine v_get (pc := 131) 8 fd_X4_54 (rfl) (by decide) rfl rfl dX4_runScript_131 ?_
                refine v_if_le (pc := 134) (tgt := 175) (by omega) dX4_runScript_134 (by decide) (fun bq4 => ?_) (fun bq4 => ?_)
                · skip
                  have hq0 : q = 0 := by omega
                  rw [hq0] at hflt n8
                  have hok : MoI (Gn 107) ∧ PmM (Gk 107) (Gn 107) (vb (G 111) (G 106 10) (ps (G 111) (G 106 10) k.toNat)) (cA (G 111) (G 106 10) (ps (G 111) (G 106 10) k.toNat)) (cB (G 111) (G 106 10) (ps (G 111) (G 106 10) k.toNat)) rr := by
                    rcases hal with z | z
                    · exact absurd hq0 z.1
                    · exact z.2
                  have n8 : Gn 106 8 = 0 := n8.trans (by unfold kOf; rw [if_pos rfl])
                  have hbd := PmM_b hI2 kb.1.1 hflt hok.2
                  refine v_iinc (pc := 175) (y := 1) rfl (by decide) rfl dX4_runScript_175 ?_
                  refine v_goto (pc := 178) (tgt := 115) dX4_runScript_178 (by decide) ?_
                  exact ih115 (k + 1) Gn (by omega) (hok.1) (by rw [show (k + 1).toNat = k.toNat + 1 by omega]; exact ⟨Gk 107, rr, hR, hflt, hok.2, hok.1⟩) n8 (by omega) (fun i z a b d => (hnf i z a b d).trans (kF i z a b d)) (by omega)
                · skip
                  have hq0 : q ≠ 0 := by omega
                  have n7 : Gn 107 = Gk 107 := by
                    rcases hal with z | z
                    · exact z.2
                    · exact absurd z.1 hq0
                  refine v_iconst (pc := 137) (z := 0) dX4_runScript_137 ?_
                  refine v_istore_n (pc := 138) (by decide) rfl dX4_runScript_138 ?_
                  have lp139 : ∀ (m139 : Nat) (i : Int) (Gr : Mem), (0 ≤ i ∧ i ≤ 144) → (∀ z, 0 ≤ z → z < i → Gr 107 z = G 107 z) → (∀ j z, j ≠ 107 → Gr j z = Gn j z) → ((144 - i).toNat) < m139 → V γ g cX4_runScript 4 RX4 (rmL 7 0 0) Gr 0 0 139 [some (vR g 106), none, some (vI k), some (vI i)] [] := by
                    intro m139
                    induction m139 with
                    | zero => intro i Gr; intros; omega
                    | succ m139 ih139 =>
                      intro i Gr i0 ic iF hm139
                      refine v_iload_n (pc := 139) rfl dX4_runScript_139 ?_
                      refine v_sipush (pc := 140) (z := 144) rfl dX4_runScript_140 ?_
                      refine v_icmp_ge (pc := 143) (tgt := 164) (by omega) dX4_runScript_143 (by decide) (fun bq5 => ?_) (fun bq5 => ?_)
                      · skip
                        refine v_aload_n (pc := 164) rfl dX4_runScript_164 ?_
                        refine v_iload_n (pc := 165) rfl dX4_runScript_165 ?_
                        refine v_put (pc := 166) 7 pd_X4_26 (rfl) (by decide) rfl rfl dX4_runScript_166 ?_
                        refine v_aload_n (pc := 169) rfl dX4_runScript_169 ?_
                        refine v_iconst (pc := 170) (z := 2) dX4_runScript_170 ?_
                        refine v_callV (pc := 171) (rest := []) (c_X4_throwing) iok_X4_throwing wM_X4_81 (rfl) (by decide) (by decide) rfl (rmOk (by decide) (by decide)) ⟨Nat.le_of_ble_eq_true rfl, Nat.le_of_ble_eq_true rfl⟩ (Nat.le_of_ble_eq_true rfl) rfl dX4_runScript_171 (fun v G' hq => ?_) (fun _ _ h => h.elim)
                        obtain ⟨rfl, hG9⟩ := hq
                        rw [hG9]
                        refine v_stk (st' := [vI (-1)]) rfl ?_
                        exact v_iret (pc := 174) E (⟨_, rfl, by
                          have rk : ∀ z, z ≠ 7 → z ≠ 8 → z ≠ 10 → z < 19 → (upd2 (upd2 Gr 106 7 k) 106 8 2) 106 z = G 106 z := fun z a b d e => by
                            rw [upd2_z b, upd2_z a, iF 106 z (by omega), hnf 106 z (by omega) (by omega) (by omega), kF 106 z (by omega) (by omega) (by omega)]
                            exact hfr 106 z (by omega) (by omega) (by omega)
                          refine ⟨?_, fun i z a b d e f h => ?_, Or.inr (Or.inl ⟨p1, upd2_s _ _ _ _, rk 6 (by omega) (by omega) (by omega) (by omega), rk 5 (by omega) (by omega) (by omega) (by omega), fun z z0 z1 => ?_, funext fun z => ?_, k, Gk 107, q, by omega, hR, hflt, hq0, ?_⟩)⟩
                          · rw [upd2_z (by omega), upd2_z (by omega), iF 106 10 (by omega), hnf 106 10 (by omega) (by omega) (by omega), kF 106 10 (by omega) (by omega) (by omega)]
                            exact hk7.2.1
                          · rw [upd2, if_neg (by omega), upd2, if_neg (by omega), iF i z a, hnf i z a f (by omega), kF i z a f (by omega)]
                            exact hfr i z b e (by omega)
                          · rw [upd2_i (by omega), upd2_i (by omega)]
                            exact ic z z0 (by omega)
                          · rw [upd2_i (by omega), upd2_i (by omega), iF 110 z (by omega), hnf 110 z (by omega) (by omega) (by omega), kF 110 z (by omega) (by omega) (by omega)]
                            exact hfr 110 z (by omega) (by omega) (by omega)
                          · rw [upd2_z (by omega), upd2_s]⟩) (Nat.le_of_ble_eq_true rfl) (Nat.le_of_ble_eq_true rfl) dX4_runScript_174
                      · skip
                        refine v_aload_n (pc := 146) rfl dX4_runScript_146 ?_
                        refine v_getR (pc := 147) (j := 107) fd_X4_9 (rfl) (by decide) rfl dX4_runScript_147 ?_
                        refine v_iload_n (pc := 150) rfl dX4_runScript_150 ?_
                        refine v_aload_n (pc := 151) rfl dX4_runScript_151 ?_
                        refine v_getR (pc := 152) (j := 108) fd_X4_13 (rfl) (by decide) rfl dX4_runScript_152 ?_
                        refine v_iload_n (pc := 155) rfl dX4_runScript_155 ?_
                        refine v_iald (pc := 156) (N := 144) rfl rfl (by decide) (by omega) (by decide) dX4_runScript_156 ?_
                        refine v_iast (pc := 157) (N := 144) rfl rfl (by decide) (by omega) (by decide) dX4_runScript_157 ?_
                        refine v_iinc (pc := 158) (y := 1) rfl (by decide) rfl dX4_runScript_158 ?_
                        refine v_goto (pc := 161) (tgt := 139) dX4_runScript_161 (by decide) ?_
                        exact ih139 (i + 1) (upd2 Gr 107 i (Gr 108 i)) (by omega) (fun z a b => (Classical.em (z = i)).elim (fun e => by rw [e, upd2_s, iF 108 _ (by omega), hnf 108 _ (by omega) (by omega) (by omega), kF 108 _ (by omega) (by omega) (by omega)]; exact hk7.2.2 i (by omega) (by omega)) (fun e => (upd2_z e).trans (ic z a (by omega)))) (fun j z a => (upd2_i a).trans (iF j z a)) (by omega)
                  refine v_loc (L' := [some (vR g 106), none, some (vI k), some (vI 0)]) (⟨rfl, rfl, rfl, trivial⟩) ?_
                  exact lp139 _ 0 Gn (by omega) (fun z a b => absurd b (by omega)) (fun _ _ _ => rfl) (Nat.lt_succ_self _)
          refine v_loc (L' := [some (vR g 106), none, some (vI 0), none]) (⟨rfl, rfl, trivial⟩) ?_
          exact lp115 _ 0 G1 (by omega) (by rw [e7]; exact hM) (by rw [e7]; rfl) (hk7.1) (by rw [e7]; omega) (fun _ _ _ _ _ => rfl) (Nat.lt_succ_self _)
        · skip
          have hbad : (prs (G 111) (G 106 10)).1 = 0 ∧ (prs (G 111) (G 106 10)).2.2 = p := by
            rcases hend with q | q
            · have := q.1.2.2.2.1; omega
            · exact q.2
          refine v_aload_n (pc := 99) rfl dX4_runScript_99 ?_
          refine v_aload_n (pc := 100) rfl dX4_runScript_100 ?_
          refine v_get (pc := 101) 20 fd_X4_201 (rfl) (by decide) rfl rfl dX4_runScript_101 ?_
          refine v_put (pc := 104) 6 pd_X4_22 (rfl) (by decide) rfl rfl dX4_runScript_104 ?_
          refine v_aload_n (pc := 107) rfl dX4_runScript_107 ?_
          refine v_iconst (pc := 108) (z := 1) dX4_runScript_108 ?_
          refine v_callV (pc := 109) (rest := []) (c_X4_throwing) iok_X4_throwing wM_X4_81 (rfl) (by decide) (by decide) rfl (rmOk (by decide) (by decide)) ⟨Nat.le_of_ble_eq_true rfl, Nat.le_of_ble_eq_true rfl⟩ (Nat.le_of_ble_eq_true rfl) rfl dX4_runScript_109 (fun v G' hq => ?_) (fun _ _ h => h.elim)
          obtain ⟨rfl, hG9⟩ := hq
          rw [hG9]
          refine v_stk (st' := [vI (-1)]) rfl ?_
          exact v_iret (pc := 112) E (⟨_, rfl, by
            have rk : ∀ z, z ≠ 6 → z ≠ 8 → z ≠ 10 → z < 19 → (upd2 (upd2 G1 106 6 (G1 106 20)) 106 8 1) 106 z = G 106 z := fun z a b d e => by
              rw [upd2_z b, upd2_z a]
              exact hfr 106 z (by omega) (by omega) (by omega)
            refine ⟨?_, fun i z a b d e f h => ?_, Or.inl ⟨by omega, upd2_s _ _ _ _, ?_, rk 7 (by omega) (by omega) (by omega) (by omega), rk 5 (by omega) (by omega) (by omega) (by omega), funext fun z => ?_, funext fun z => ?_⟩⟩
            · rw [upd2_z (by omega), upd2_z (by omega)]; exact hk7.2.1
            · rw [upd2, if_neg (by omega), upd2, if_neg (by omega)]
              exact hfr i z b e (by omega)
            · rw [upd2_z (by omega), upd2_s]; omega
            · rw [upd2_i (by omega), upd2_i (by omega)]
              exact hfr 107 z (by omega) (by omega) (by omega)
            · rw [upd2_i (by omega), upd2_i (by omega)]
              exact hfr 110 z (by omega) (by omega) (by omega)⟩) (Nat.le_of_ble_eq_true rfl) (Nat.le_of_ble_eq_true rfl) dX4_runScript_112
      · skip
        obtain ⟨hMc, hpr, h5c, hps, e19, hcm⟩ : Mc G1 (G 111) (G 106 10) p 0 ∧ (prs (G 111) (G 106 10)) = prsF (G 111) (G 106 10) (60 - c).toNat c p ∧ 5 * c ≤ p ∧ p = ps (G 111) (G 106 10) c.toNat ∧ G1 106 19 = c ∧ CmM G1 (G 111) (G 106 10) c := by
          rcases hinv with q | q
          · exact q.2
          · omega
        have hpn := hMc.2.2.2.2.1
        have hL1 : McL G1 := by
          refine ⟨fun k hk => ?_, fun k hk z z0 z1 => ?_⟩
          · rw [hfr 117 _ (by omega) (by omega) (by omega), hfr 117 _ (by omega) (by omega) (by omega)]; exact hL.1 k hk
          · rw [hfr 117 _ (by omega) (by omega) (by omega), hfr 116 _ (by omega) (by omega) (by omega)]; exact hL.2 k hk z z0 z1
        rw [prsF_s (by omega)] at hpr
        have hcr := ce_r (S := G 111) (n := G 106 10) (p := p) (by omega)
        refine v_aload_n (pc := 38) rfl dX4_runScript_38 ?_
        refine v_callV (pc := 39) (rest := []) (c_X4_readCommand (G := G1) hMc rfl hL1 (c := c) e19 (by omega)) iok_X4_readCommand wM_X4_243 (rfl) (by decide) (by decide) rfl (rmOk (by decide) (by decide)) ⟨Nat.le_of_ble_eq_true rfl, Nat.le_of_ble_eq_true rfl⟩ (Nat.le_of_ble_eq_true rfl) rfl dX4_runScript_39 (fun v G2 hq => ?_) (fun _ _ h => h.elim)
        obtain ⟨rfl, hrc⟩ := hq
        refine v_stk (st' := []) rfl ?_
        obtain ⟨u, hM2, hal, hrf⟩ := hrc
        have hu2 : G2 106 22 = u := hM2.2.2.2.1
        have hp2 : G2 106 20 = ce (G 111) (G 106 10) p := hM2.2.2.1
        have hn2 : G2 106 21 = G 106 10 := hM2.2.1
        have hur := hM2.2.2.2.2.1
        have hk2 : G2 106 8 = 0 ∧ G2 106 10 = 0 ∧ (∀ k, 0 ≤ k → k < 144 → G2 108 k = G 107 k) := ⟨(hrf 106 8 (by omega) (by omega)).trans hk7.1, (hrf 106 10 (by omega) (by omega)).trans hk7.2.1, fun k k0 k1 => (hrf 108 k (by omega) (by omega)).trans (hk7.2.2 k k0 k1)⟩
        have hfr2 : ∀ i z, i ≠ 108 → i ≠ 118 → ¬ (i = 106 ∧ (z = 8 ∨ z = 10 ∨ 19 ≤ z)) → G2 i z = G i z := fun i z a b d => (hrf i z (by omega) (by omega)).trans (hfr i z a b d)
        have hcm1 : CmM G2 (G 111) (G 106 10) c := fun i a b => by
          rw [hrf 118 (3 * i) (by omega) (by omega), hrf 118 (3 * i + 1) (by omega) (by omega), hrf 118 (3 * i + 2) (by omega) (by omega)]
          exact hcm i a b
        refine v_aload_n (pc := 42) rfl dX4_runScript_42 ?_
        refine v_get (pc := 43) 22 fd_X4_207 (rfl) (by decide) rfl rfl dX4_runScript_43 ?_
        refine v_if_ne (pc := 46) (tgt := 64) (by omega) dX4_runScript_46 (by decide) (fun bq6 => ?_) (fun bq6 => ?_)
        · skip
          have hno : ¬ cOk (G 111) (G 106 10) p ∧ u = 1 := by
            rcases hal with q | q
            · have := q.2.1; omega
            · exact q
          rw [hno.2] at hM2
          rw [bI_f hno.1, if_neg (by omega)] at hpr
          have hprs := hpr
          skip
          refine v_iconst (pc := 64) (z := 0) dX4_runScript_64 ?_
          refine v_istore_n (pc := 65) (by decide) rfl dX4_runScript_65 ?_
          refine v_iload_n (pc := 66) rfl dX4_runScript_66 ?_
          refine v_if_eq (pc := 67) (tgt := 34) (by omega) dX4_runScript_67 (by decide) (fun _ => ?_) (fun bq7 => absurd bq7 (by decide))
          exact ih34 0 0 (ce (G 111) (G 106 10) p) G2 (by omega) (Or.inr ⟨rfl, Or.inr ⟨hM2, by rw [hprs], by rw [hprs]⟩⟩) hk2 hfr2 (by omega)
        · skip
          have hok : cOk (G 111) (G 106 10) p ∧ G2 106 19 = c + 1 ∧ G2 118 (3 * c) = vb (G 111) (G 106 10) p ∧ G2 118 (3 * c + 1) = cA (G 111) (G 106 10) p ∧ ((vb (G 111) (G 106 10) p = 0 ∨ vb (G 111) (G 106 10) p = 3) → G2 118 (3 * c + 2) = cB (G 111) (G 106 10) p) := by
            rcases hal with q | q
            · exact ⟨q.1, q.2.2⟩
            · have := q.2; omega
          have hc4 := hcr.2.2 hok.1.1
          have hu0 : u = 0 := by omega
          have j19 := hok.2.1
          rw [hu0] at hM2
          rw [bI_t hok.1, if_pos rfl] at hpr
          have hcm2 : CmM G2 (G 111) (G 106 10) (c + 1) := fun i a b => by
            by_cases q : i = c
            · rw [q, ← hps]; exact ⟨hok.1, hok.2.2⟩
            · exact hcm1 i a (by omega)
          refine v_aload_n (pc := 49) rfl dX4_runScript_49 ?_
          refine v_get (pc := 50) 20 fd_X4_201 (rfl) (by decide) rfl rfl dX4_runScript_50 ?_
          refine v_aload_n (pc := 53) rfl dX4_runScript_53 ?_
          refine v_get (pc := 54) 21 fd_X4_204 (rfl) (by decide) rfl rfl dX4_runScript_54 ?_
          refine v_icmp_ge (pc := 57) (tgt := 64) (by omega) dX4_runScript_57 (by decide) (fun bq8 => ?_) (fun bq8 => ?_)
          · skip
            have hcn : ce (G 111) (G 106 10) p = G 106 10 := by omega
            rw [if_pos hcn] at hpr
            have hprs := hpr
            refine v_iconst (pc := 64) (z := 0) dX4_runScript_64 ?_
            refine v_istore_n (pc := 65) (by decide) rfl dX4_runScript_65 ?_
            refine v_iload_n (pc := 66) rfl dX4_runScript_66 ?_
            refine v_if_eq (pc := 67) (tgt := 34) (by omega) dX4_runScript_67 (by decide) (fun _ => ?_) (fun bq9 => absurd bq9 (by decide))
            exact ih34 0 (c + 1) (ce (G 111) (G 106 10) p) G2 (by omega) (Or.inr ⟨rfl, Or.inl ⟨hM2, by rw [hprs, hcn], j19, hcm2⟩⟩) hk2 hfr2 (by omega)
          · skip
            have hlt : ce (G 111) (G 106 10) p < G 106 10 := by omega
            rw [if_neg (by omega)] at hpr
            refine v_iconst (pc := 60) (z := 1) dX4_runScript_60 ?_
            refine v_goto (pc := 61) (tgt := 65) dX4_runScript_61 (by decide) ?_
            refine v_istore_n (pc := 65) (by decide) rfl dX4_runScript_65 ?_
            refine v_iload_n (pc := 66) rfl dX4_runScript_66 ?_
            refine v_if_eq (pc := 67) (tgt := 34) (by omega) dX4_runScript_67 (by decide) (fun bq10 => absurd bq10 (by decide)) (fun _ => ?_)
            refine v_aload_n (pc := 70) rfl dX4_runScript_70 ?_
            refine v_bipush (pc := 71) (z := 59) rfl dX4_runScript_71 ?_
            by_cases hd11 : (0 : Int) = 0 ∧ sg (G 111) (G 106 10) (ce (G 111) (G 106 10) p) 59
            · skip
              refine v_callV (pc := 73) (rest := []) (c_X4_expects_t (G := G2) (c := 59) hM2 (by omega) hd11) iok_X4_expects wM_X4_221 (rfl) (by decide) (by decide) rfl (rmOk (by decide) (by decide)) ⟨Nat.le_of_ble_eq_true rfl, Nat.le_of_ble_eq_true rfl⟩ (Nat.le_of_ble_eq_true rfl) rfl dX4_runScript_73 (fun v G' hq => ?_) (fun _ _ h => h.elim)
              obtain ⟨rfl, hG9⟩ := hq
              rw [hG9]
              refine v_stk (st' := []) rfl ?_
              obtain ⟨G3, hG3⟩ : ∃ x : Mem, x = upd2 (upd2 G2 106 22 0) 106 20 (ce (G 111) (G 106 10) p + 1) := ⟨_, rfl⟩
              rw [← hG3]
              have hM3 : Mc G3 (G 111) (G 106 10) (ce (G 111) (G 106 10) p + 1) 0 := by rw [hG3]; exact Mc_w hM2 (by omega) (by omega)
              have g22 : G3 106 22 = 0 := hM3.2.2.2.1
              have hf3 : ∀ i z, ¬ (i = 106 ∧ (z = 20 ∨ z = 22)) → G3 i z = G2 i z := fun i z a => by rw [hG3, upd2, if_neg (by omega), upd2, if_neg (by omega)]
              have k19 : G3 106 19 = c + 1 := (hf3 106 19 (by omega)).trans j19
              have hk3 : G3 106 8 = 0 ∧ G3 106 10 = 0 ∧ (∀ k, 0 ≤ k → k < 144 → G3 108 k = G 107 k) := ⟨(hf3 106 8 (by omega)).trans hk2.1, (hf3 106 10 (by omega)).trans hk2.2.1, fun k k0 k1 => (hf3 108 k (by omega)).trans (hk2.2.2 k k0 k1)⟩
              have hfr3 : ∀ i z, i ≠ 108 → i ≠ 118 → ¬ (i = 106 ∧ (z = 8 ∨ z = 10 ∨ 19 ≤ z)) → G3 i z = G i z := fun i z a b d => (hf3 i z (by omega)).trans (hfr2 i z a b d)
              have hprs := hpr
              rw [if_pos hd11.2] at hprs
              have hcm3 : CmM G3 (G 111) (G 106 10) (c + 1) := fun i a b => by
                rw [hf3 118 (3 * i) (by omega), hf3 118 (3 * i + 1) (by omega), hf3 118 (3 * i + 2) (by omega)]
                exact hcm2 i a b
              have hcm2 := hcm3
              refine v_aload_n (pc := 76) rfl dX4_runScript_76 ?_
              refine v_get (pc := 77) 22 fd_X4_207 (rfl) (by decide) rfl rfl dX4_runScript_77 ?_
              refine v_top (b := 0) g22 ?_
              refine v_if_ne (pc := 80) (tgt := 87) (by omega) dX4_runScript_80 (by decide) (fun bq12 => absurd bq12 (by decide)) (fun _ => ?_)
              refine v_iconst (pc := 83) (z := 1) dX4_runScript_83 ?_
              refine v_goto (pc := 84) (tgt := 88) dX4_runScript_84 (by decide) ?_
              refine v_istore_n (pc := 88) (by decide) rfl dX4_runScript_88 ?_
              refine v_goto (pc := 89) (tgt := 34) dX4_runScript_89 (by decide) ?_
              exact ih34 1 (c + 1) (ce (G 111) (G 106 10) p + 1) G3 (by omega) (Or.inl ⟨rfl, hM3, hprs, by omega, by rw [ps_s (by omega), ← hps], k19, hcm2⟩) hk3 hfr3 (by omega)
            · skip
              refine v_callV (pc := 73) (rest := []) (c_X4_expects_f (G := G2) (c := 59) hM2 (by omega) hd11) iok_X4_expects wM_X4_221 (rfl) (by decide) (by decide) rfl (rmOk (by decide) (by decide)) ⟨Nat.le_of_ble_eq_true rfl, Nat.le_of_ble_eq_true rfl⟩ (Nat.le_of_ble_eq_true rfl) rfl dX4_runScript_73 (fun v G' hq => ?_) (fun _ _ h => h.elim)
              obtain ⟨rfl, hG9⟩ := hq
              rw [hG9]
              refine v_stk (st' := []) rfl ?_
              obtain ⟨G4, hG4⟩ : ∃ x : Mem, x = upd2 (upd2 G2 106 22 1) 106 20 (ce (G 111) (G 106 10) p) := ⟨_, rfl⟩
              rw [← hG4]
              have hM4 : Mc G4 (G 111) (G 106 10) (ce (G 111) (G 106 10) p) 1 := by rw [hG4]; exact Mc_w hM2 (by omega) (by omega)
              have g22 : G4 106 22 = 1 := hM4.2.2.2.1
              have hf3 : ∀ i z, ¬ (i = 106 ∧ (z = 20 ∨ z = 22)) → G4 i z = G2 i z := fun i z a => by rw [hG4, upd2, if_neg (by omega), upd2, if_neg (by omega)]
              have k19 : G4 106 19 = c + 1 := (hf3 106 19 (by omega)).trans j19
              have hk3 : G4 106 8 = 0 ∧ G4 106 10 = 0 ∧ (∀ k, 0 ≤ k → k < 144 → G4 108 k = G 107 k) := ⟨(hf3 106 8 (by omega)).trans hk2.1, (hf3 106 10 (by omega)).trans hk2.2.1, fun k k0 k1 => (hf3 108 k (by omega)).trans (hk2.2.2 k k0 k1)⟩
              have hfr3 : ∀ i z, i ≠ 108 → i ≠ 118 → ¬ (i = 106 ∧ (z = 8 ∨ z = 10 ∨ 19 ≤ z)) → G4 i z = G i z := fun i z a b d => (hf3 i z (by omega)).trans (hfr2 i z a b d)
              have hprs := hpr
              rw [if_neg (fun q => hd11 ⟨rfl, q⟩)] at hprs
              have hcm3 : CmM G4 (G 111) (G 106 10) (c + 1) := fun i a b => by
                rw [hf3 118 (3 * i) (by omega), hf3 118 (3 * i + 1) (by omega), hf3 118 (3 * i + 2) (by omega)]
                exact hcm2 i a b
              have hcm2 := hcm3
              refine v_aload_n (pc := 76) rfl dX4_runScript_76 ?_
              refine v_get (pc := 77) 22 fd_X4_207 (rfl) (by decide) rfl rfl dX4_runScript_77 ?_
              refine v_top (b := 1) g22 ?_
              refine v_if_ne (pc := 80) (tgt := 87) (by omega) dX4_runScript_80 (by decide) (fun _ => ?_) (fun bq13 => absurd bq13 (by decide))
              refine v_iconst (pc := 87) (z := 0) dX4_runScript_87 ?_
              refine v_istore_n (pc := 88) (by decide) rfl dX4_runScript_88 ?_
              refine v_goto (pc := 89) (tgt := 34) dX4_runScript_89 (by decide) ?_
              exact ih34 0 0 (ce (G 111) (G 106 10) p) G4 (by omega) (Or.inr ⟨rfl, Or.inr ⟨hM4, by rw [hprs], by rw [hprs]⟩⟩) hk3 hfr3 (by omega)
  refine v_loc (L' := [some (vR g 106), some (vI 1), none, none]) (⟨rfl, rfl, trivial⟩) ?_
  exact lp34 _ 1 0 0 Gi (by decide) (Or.inl ⟨rfl, hMi, rfl, by decide, rfl, i19, fun i a b => absurd b (by omega)⟩) hi7 hifr (Nat.lt_succ_self _)
