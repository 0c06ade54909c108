-- a script is run
theorem prsF_n {S : Int → Int} {n : Int} : ∀ (f : Nat) (j p : Int), j ≤ (prsF S n f j p).2.1 ∧ (prsF S n f j p).2.1 ≤ j + f
  | 0, j, p => by
    show j ≤ j ∧ j ≤ j + (0 : Nat)
    omega
  | f + 1, j, p => by
    have h := prsF_n (S := S) (n := n) f (j + 1) (ce S n p + 1)
    unfold prsF
    split
    · split
      · show j ≤ j + 1 ∧ j + 1 ≤ j + (f + 1 : Nat)
        omega
      · split
        · omega
        · show j ≤ j + 1 ∧ j + 1 ≤ j + (f + 1 : Nat)
          omega
    · show j ≤ j ∧ j ≤ j + (f + 1 : Nat)
      omega
/-- the trial after j commands -/
def RunR (S : Int → Int) (n : Int) (Gc : Mem) : Nat → Mem → Prop
  | 0, G1 => G1 = Gc
  | j + 1, G1 => ∃ Gm Gn r, RunR S n Gc j Gm ∧ FltV Gm 12 (vb S n (ps S n j)) (cA S n (ps S n j)) (cB S n (ps S n j)) 0 ∧ FrP Gm Gn ∧ Pf Gn G1 12 (vb S n (ps S n j)) (cA S n (ps S n j)) (cB S n (ps S n j)) r
/-- what parsing leaves as it was -/
def FrPr (G Gp : Mem) : Prop := ∀ i z, ¬ (i = 2 ∧ (z = 2 ∨ z = 3)) → ¬ (103 ≤ i ∧ i ≤ 105) → Gp i z = G i z

theorem prsF_01 {S : Int → Int} {n : Int} : ∀ (f : Nat) (j p : Int), (prsF S n f j p).1 = 0 ∨ (prsF S n f j p).1 = 1
  | 0, j, p => Or.inl rfl
  | f + 1, j, p => by
    have h := prsF_01 (S := S) (n := n) f (j + 1) (ce S n p + 1)
    unfold prsF
    split
    · split
      · exact Or.inr rfl
      · split
        · exact h
        · exact Or.inl rfl
    · exact Or.inl rfl

theorem StI_cp {G G' : Mem} {b o : Nat} (h : CpS G G' b o) (hI : StI G o) : StI G' b := by
  obtain ⟨⟨h0, h5, -, h10, -⟩, hd, hk, -⟩ := h
  obtain ⟨a1, a2, a3, a4, a5, a6, a7, a8⟩ := hI
  refine ⟨by omega, by omega, by omega, fun k k0 k1 => ?_, fun i i0 i1 => ?_, fun r r0 r1 => ?_, fun r s r0 rs s1 => ?_, fun i i0 i1 => ?_⟩
  · obtain ⟨e1, e2, e3⟩ := hk k k0 (by omega)
    rw [e1, e2, e3, h0, h10]; exact a4 k k0 (by omega)
  · obtain ⟨e1, e2, e3, -⟩ := hd i i0 (by omega)
    rw [e1, e2, e3]; exact a5 i i0 (by omega)
  · obtain ⟨-, -, -, e4⟩ := hd r r0 (by omega)
    rw [e4, h0]; exact a6 r r0 (by omega)
  · have q1 := a6 r r0 (by omega)
    have q2 := a6 s (by omega) (by omega)
    rw [(hd r r0 (by omega)).2.2.2, (hd s (by omega) (by omega)).2.2.2, (hd _ q1.1 (by omega)).1, (hd _ q2.1 (by omega)).1]
    exact a7 r s r0 rs (by omega)
  · obtain ⟨r, r0, r1, r2⟩ := a8 i i0 (by omega)
    exact ⟨r, r0, by omega, (hd r r0 (by omega)).2.2.2.trans r2⟩

set_option maxHeartbeats 4000000 in
set_option maxRecDepth 100000 in
theorem c_X3_runScript {g : GT} {G : Mem} (hI : StI G 4) (hp : PastI G) (hlv : 0 ≤ G 4 9 ∧ G 4 9 ≤ 30000) (hyy : G 4 10 + 2000 ≤ 1000000) (hsn : 0 ≤ G 2 1 ∧ G 2 1 ≤ 60) (hS : ∀ j, 0 ≤ j → j < G 2 1 → 32 ≤ G 102 j ∧ G 102 j ≤ 126) : Ctr g yX3_runScript cX3_runScript 3 (some FieldType.int) (rmL 8 1 6) [vR g 0] G (fun v G' => ∃ Gp Gc Gk Gr, (prs (G 102) (G 2 1)).1 = 1 ∧ FrPr G Gp ∧ CpS (upd2 Gp 2 1 0) Gc 12 4 ∧ RunR (G 102) (G 2 1) Gc (prs (G 102) (G 2 1)).2.1.toNat Gk ∧ RemR Gk Gr ∧ CpS Gr G' 4 12 ∧ v = some (vI (prs (G 102) (G 2 1)).2.1)) (fun e G' => (e = eIA ∧ (prs (G 102) (G 2 1)).1 ≠ 1 ∧ ∃ Gp, FrPr G Gp ∧ G' = upd2 (upd2 Gp 2 1 0) 0 9 (prs (G 102) (G 2 1)).2.2) ∨ (e = eIS ∧ (prs (G 102) (G 2 1)).1 = 1 ∧ ∃ Gp Gc Gk Gn, ∃ k r : Int, FrPr G Gp ∧ CpS (upd2 Gp 2 1 0) Gc 12 4 ∧ (0 ≤ k ∧ k < (prs (G 102) (G 2 1)).2.1) ∧ RunR (G 102) (G 2 1) Gc k.toNat Gk ∧ FltV Gk 12 (vb (G 102) (G 2 1) (ps (G 102) (G 2 1) k.toNat)) (cA (G 102) (G 2 1) (ps (G 102) (G 2 1) k.toNat)) (cB (G 102) (G 2 1) (ps (G 102) (G 2 1) k.toNat)) r ∧ r ≠ 0 ∧ FrP Gk Gn ∧ G' = upd2 Gn 0 10 k)) := by
  refine ctr_of [some (vR g 0), none, none] (by decide) (Nat.le_of_ble_eq_true rfl) rfl (fun γ E => ?_)
  show V γ g cX3_runScript 3 RX3 (rmL 8 1 6) G 0 0 0 [some (vR g 0), none, none] []
  have hn := StI_n hI
  have hc := StI_c hI
  have hy := StI_y hI
  refine v_aload_n (pc := 0) rfl dX3_runScript_0 ?_
  refine v_getR (pc := 1) (j := 2) fd_X3_36 (rfl) (by decide) rfl dX3_runScript_1 ?_
  refine v_callVN (pc := 4) (rest := []) (c_X1_parse hsn hS) iok_X1_parse wM_X3_237 (rfl) (by decide) (by decide) rfl (rmOk (by decide) (by decide)) ⟨Nat.le_of_ble_eq_true rfl, Nat.le_of_ble_eq_true rfl⟩ (Nat.le_of_ble_eq_true rfl) rfl dX3_runScript_4 (fun v Gp hq => ?_) (fun _ _ h => h.elim)
  obtain ⟨w, rfl, hq⟩ := hq
  refine v_stk (st' := [vI w]) rfl ?_
  obtain ⟨hw, he2, hac, hFp⟩ := hq
  have hw01 : w = 0 ∨ w = 1 := by rw [hw]; exact prsF_01 60 0 0
  refine v_istore_n (pc := 7) (by decide) rfl dX3_runScript_7 ?_
  refine v_aload_n (pc := 8) rfl dX3_runScript_8 ?_
  refine v_getR (pc := 9) (j := 2) fd_X3_36 (rfl) (by decide) rfl dX3_runScript_9 ?_
  refine v_iconst (pc := 12) (z := 0) dX3_runScript_12 ?_
  refine v_put (pc := 13) 1 pd_X3_230 (rfl) (by decide) rfl rfl dX3_runScript_13 ?_
  refine v_iload_n (pc := 16) rfl dX3_runScript_16 ?_
  refine v_if_ne (pc := 17) (tgt := 41) (by omega) dX3_runScript_17 (by decide) (fun h1 => ?_) (fun h1 => ?_)
  · skip
    have hw1 : w = 1 := by omega
    obtain ⟨hcnt, hcms⟩ := hac hw1
    have hnn : 0 ≤ (prs (G 102) (G 2 1)).2.1 ∧ (prs (G 102) (G 2 1)).2.1 ≤ 60 := prsF_n 60 0 0
    refine v_aload_n (pc := 41) rfl dX3_runScript_41 ?_
    refine v_getR (pc := 42) (j := 12) fd_X3_16 (rfl) (by decide) rfl dX3_runScript_42 ?_
    refine v_aload_n (pc := 45) rfl dX3_runScript_45 ?_
    refine v_getR (pc := 46) (j := 4) fd_X3_10 (rfl) (by decide) rfl dX3_runScript_46 ?_
    refine v_callVN (pc := 49) (rest := []) (c_X2_copyFrom (G := upd2 Gp 2 1 0) isS12 isS4 (by decide)) iok_X2_copyFrom wM_X3_245 (rfl) (by decide) (by decide) rfl (rmOk (by decide) (by decide)) ⟨Nat.le_of_ble_eq_true rfl, Nat.le_of_ble_eq_true rfl⟩ (Nat.le_of_ble_eq_true rfl) rfl dX3_runScript_49 (fun v Gc hq => ?_) (fun _ _ h => h.elim)
    obtain ⟨rfl, hcp⟩ := hq
    refine v_stk (st' := []) rfl ?_
    have hE4 : ∀ j : Nat, j ≤ 7 → ∀ w, upd2 Gp 2 1 0 (4 + j) w = G (4 + j) w := fun j hj w => (upd2_i (by omega)).trans (hFp (4 + j) w (by omega) (by omega))
    have hIc : StI Gc 12 := StI_cp hcp (StI_sameB hI hE4)
    have h9c : Gc 12 9 = G 4 9 := hcp.1.2.2.1.trans (hE4 0 (by omega) 9)
    have h10c : Gc 12 10 = G 4 10 := hcp.1.2.2.2.1.trans (hE4 0 (by omega) 10)
    have hc23 : Gc 2 3 = (prs (G 102) (G 2 1)).2.1 := ((hcp.2.2.2 2 3 (by omega)).trans (upd2_z (by decide))).trans hcnt
    have hcr : ∀ i, 0 ≤ i → i < (prs (G 102) (G 2 1)).2.1 → cOk (G 102) (G 2 1) (ps (G 102) (G 2 1) i.toNat) ∧ Gc 103 i = vb (G 102) (G 2 1) (ps (G 102) (G 2 1) i.toNat) ∧ Gc 104 i = cA (G 102) (G 2 1) (ps (G 102) (G 2 1) i.toNat) ∧ Gc 105 i = cB (G 102) (G 2 1) (ps (G 102) (G 2 1) i.toNat) := fun i a b => by
      rw [hcp.2.2.2 103 i (by omega), hcp.2.2.2 104 i (by omega), hcp.2.2.2 105 i (by omega), upd2_i (by decide), upd2_i (by decide), upd2_i (by decide)]
      exact hcms i a (by omega)
    refine v_iconst (pc := 52) (z := 0) dX3_runScript_52 ?_
    refine v_istore_n (pc := 53) (by decide) rfl dX3_runScript_53 ?_
    have lp54 : ∀ (m54 : Nat) (i : Int) (G1 : Mem), (0 ≤ i ∧ i ≤ (prs (G 102) (G 2 1)).2.1) → (RunR (G 102) (G 2 1) Gc i.toNat G1) → (StI G1 12) → (0 ≤ G1 12 9 ∧ G1 12 9 ≤ G 4 9 + 1000 * i) → (G1 12 10 ≤ G 4 10 + 20 * i) → (∀ k z, ¬ (12 ≤ k ∧ k ≤ 19) → ¬ (92 ≤ k ∧ k ≤ 99 ∧ k ≠ 93) → ¬ (k = 1 ∧ z = 4) → G1 k z = Gc k z) → (((prs (G 102) (G 2 1)).2.1 - i).toNat) < m54 → V γ g cX3_runScript 3 RX3 (rmL 8 1 6) G1 0 0 54 [some (vR g 0), some (vI w), some (vI i)] [] := by
      intro m54
      induction m54 with
      | zero => intro i G1; intros; omega
      | succ m54 ih54 =>
        intro i G1 h0 hR hI1 hl1 hy1 hF1 hm54
        have e23 : G1 2 3 = (prs (G 102) (G 2 1)).2.1 := (hF1 2 3 (by omega) (by omega) (by omega)).trans hc23
        refine v_iload_n (pc := 54) rfl dX3_runScript_54 ?_
        refine v_aload_n (pc := 55) rfl dX3_runScript_55 ?_
        refine v_getR (pc := 56) (j := 2) fd_X3_36 (rfl) (by decide) rfl dX3_runScript_56 ?_
        refine v_get (pc := 59) 3 fd_X3_248 (rfl) (by decide) rfl rfl dX3_runScript_59 ?_
        refine v_icmp_ge (pc := 62) (tgt := 161) (by omega) dX3_runScript_62 (by decide) (fun h2 => ?_) (fun h2 => ?_)
        · skip
          have hp1 : PastI G1 := by
            have q : ∀ k z, k = 0 ∨ k = 3 → G1 k z = G k z := fun k z hk => (hF1 k z (by omega) (by omega) (by omega)).trans ((hcp.2.2.2 k z (by omega)).trans ((upd2_i (by omega)).trans (hFp k z (by omega) (by omega))))
            refine ⟨by rw [q 0 8 (Or.inl rfl)]; exact hp.1, fun i a b => ?_, fun i j a b c => ?_⟩
            · rw [q 3 i (Or.inr rfl)]; exact hp.2.1 i a b
            · rw [q 3 i (Or.inr rfl), q 3 j (Or.inr rfl)]; exact hp.2.2 i j a b c
          refine v_aload_n (pc := 161) rfl dX3_runScript_161 ?_
          refine v_callV (pc := 162) (rest := []) (c_X3_remember hp1) iok_X3_remember wM_X3_269 (rfl) (by decide) (by decide) rfl (rmOk (by decide) (by decide)) ⟨Nat.le_of_ble_eq_true rfl, Nat.le_of_ble_eq_true rfl⟩ (Nat.le_of_ble_eq_true rfl) rfl dX3_runScript_162 (fun v Gr hq => ?_) (fun _ _ h => h.elim)
          obtain ⟨rfl, hrem⟩ := hq
          refine v_stk (st' := []) rfl ?_
          have hk := RemR_k hp1 hrem
          refine v_aload_n (pc := 165) rfl dX3_runScript_165 ?_
          refine v_getR (pc := 166) (j := 4) fd_X3_10 (rfl) (by decide) rfl dX3_runScript_166 ?_
          refine v_aload_n (pc := 169) rfl dX3_runScript_169 ?_
          refine v_getR (pc := 170) (j := 12) fd_X3_16 (rfl) (by decide) rfl dX3_runScript_170 ?_
          refine v_callVN (pc := 173) (rest := []) (c_X2_copyFrom (G := Gr) isS4 isS12 (by decide)) iok_X2_copyFrom wM_X3_245 (rfl) (by decide) (by decide) rfl (rmOk (by decide) (by decide)) ⟨Nat.le_of_ble_eq_true rfl, Nat.le_of_ble_eq_true rfl⟩ (Nat.le_of_ble_eq_true rfl) rfl dX3_runScript_173 (fun v Gf hq => ?_) (fun _ _ h => h.elim)
          obtain ⟨rfl, hcf⟩ := hq
          refine v_stk (st' := []) rfl ?_
          have e23f : Gf 2 3 = (prs (G 102) (G 2 1)).2.1 := (hcf.2.2.2 2 3 (by omega)).trans ((hk 2 3 (by omega)).trans e23)
          refine v_aload_n (pc := 176) rfl dX3_runScript_176 ?_
          refine v_getR (pc := 177) (j := 2) fd_X3_36 (rfl) (by decide) rfl dX3_runScript_177 ?_
          refine v_get (pc := 180) 3 fd_X3_248 (rfl) (by decide) rfl rfl dX3_runScript_180 ?_
          exact v_iret (pc := 183) E (⟨Gp, Gc, G1, Gr, by omega, hFp, hcp, by rw [show (prs (G 102) (G 2 1)).2.1 = i by omega]; exact hR, hrem, hcf, by rw [e23f]⟩) (Nat.le_of_ble_eq_true rfl) (Nat.le_of_ble_eq_true rfl) dX3_runScript_183
        · skip
          obtain ⟨hcok, hv0, hf0, hs0⟩ := hcr i (by omega) (by omega)
          have hrg := cAB_r hcok
          have v1 : G1 103 i = vb (G 102) (G 2 1) (ps (G 102) (G 2 1) i.toNat) := (hF1 103 i (by omega) (by omega) (by omega)).trans hv0
          have f1 : G1 104 i = cA (G 102) (G 2 1) (ps (G 102) (G 2 1) i.toNat) := (hF1 104 i (by omega) (by omega) (by omega)).trans hf0
          have s1 : G1 105 i = cB (G 102) (G 2 1) (ps (G 102) (G 2 1) i.toNat) := (hF1 105 i (by omega) (by omega) (by omega)).trans hs0
          refine v_aload_n (pc := 65) rfl dX3_runScript_65 ?_
          refine v_aload_n (pc := 66) rfl dX3_runScript_66 ?_
          refine v_getR (pc := 67) (j := 12) fd_X3_16 (rfl) (by decide) rfl dX3_runScript_67 ?_
          refine v_aload_n (pc := 70) rfl dX3_runScript_70 ?_
          refine v_getR (pc := 71) (j := 2) fd_X3_36 (rfl) (by decide) rfl dX3_runScript_71 ?_
          refine v_getR (pc := 74) (j := 103) fd_X3_251 (rfl) (by decide) rfl dX3_runScript_74 ?_
          refine v_iload_n (pc := 77) rfl dX3_runScript_77 ?_
          refine v_iald (pc := 78) (N := 60) rfl rfl (by decide) (by omega) (by decide) dX3_runScript_78 ?_
          rw [v1]
          refine v_aload_n (pc := 79) rfl dX3_runScript_79 ?_
          refine v_getR (pc := 80) (j := 2) fd_X3_36 (rfl) (by decide) rfl dX3_runScript_80 ?_
          refine v_getR (pc := 83) (j := 104) fd_X3_254 (rfl) (by decide) rfl dX3_runScript_83 ?_
          refine v_iload_n (pc := 86) rfl dX3_runScript_86 ?_
          refine v_iald (pc := 87) (N := 60) rfl rfl (by decide) (by omega) (by decide) dX3_runScript_87 ?_
          rw [f1]
          refine v_aload_n (pc := 88) rfl dX3_runScript_88 ?_
          refine v_getR (pc := 89) (j := 2) fd_X3_36 (rfl) (by decide) rfl dX3_runScript_89 ?_
          refine v_getR (pc := 92) (j := 105) fd_X3_257 (rfl) (by decide) rfl dX3_runScript_92 ?_
          refine v_iload_n (pc := 95) rfl dX3_runScript_95 ?_
          refine v_iald (pc := 96) (N := 60) rfl rfl (by decide) (by omega) (by decide) dX3_runScript_96 ?_
          rw [s1]
          refine v_callV (pc := 97) (rest := []) (c_X3_faultOf isS12 hI1 (v := (vb (G 102) (G 2 1) (ps (G 102) (G 2 1) i.toNat))) (f := (cA (G 102) (G 2 1) (ps (G 102) (G 2 1) i.toNat))) (s := (cB (G 102) (G 2 1) (ps (G 102) (G 2 1) i.toNat))) (by omega) (by omega) (by omega) (by omega)) iok_X3_faultOf wM_X3_260 (rfl) (by decide) (by decide) rfl (rmOk (by decide) (by decide)) ⟨Nat.le_of_ble_eq_true rfl, Nat.le_of_ble_eq_true rfl⟩ (Nat.le_of_ble_eq_true rfl) rfl dX3_runScript_97 (fun v G2 hq => ?_) (fun _ _ h => h.elim)
          obtain ⟨r, rfl, hq⟩ := hq
          refine v_stk (st' := [vI r]) rfl ?_
          obtain ⟨hflt, hFr⟩ := hq
          have hrr := flt_r hflt
          refine v_if_eq (pc := 100) (tgt := 119) (by omega) dX3_runScript_100 (by decide) (fun h3 => ?_) (fun h3 => ?_)
          · skip
            have hok : FltV G1 12 (vb (G 102) (G 2 1) (ps (G 102) (G 2 1) i.toNat)) (cA (G 102) (G 2 1) (ps (G 102) (G 2 1) i.toNat)) (cB (G 102) (G 2 1) (ps (G 102) (G 2 1) i.toNat)) 0 := by rw [← show r = 0 by omega]; exact hflt
            have hE2 := FrP_s isS12 hFr
            have hI2 : StI G2 12 := StI_sameB hI1 hE2
            have hok2 : FltV G2 12 (vb (G 102) (G 2 1) (ps (G 102) (G 2 1) i.toNat)) (cA (G 102) (G 2 1) (ps (G 102) (G 2 1) i.toNat)) (cB (G 102) (G 2 1) (ps (G 102) (G 2 1) i.toNat)) 0 := flt_same isS12 hE2 hok
            have e9 : G2 12 9 = G1 12 9 := hE2 0 (by omega) 9
            have e10 : G2 12 10 = G1 12 10 := hE2 0 (by omega) 10
            have v2 : G2 103 i = (vb (G 102) (G 2 1) (ps (G 102) (G 2 1) i.toNat)) := (hFr 103 i (by omega) (by omega)).trans v1
            have f2 : G2 104 i = (cA (G 102) (G 2 1) (ps (G 102) (G 2 1) i.toNat)) := (hFr 104 i (by omega) (by omega)).trans f1
            have s2 : G2 105 i = (cB (G 102) (G 2 1) (ps (G 102) (G 2 1) i.toNat)) := (hFr 105 i (by omega) (by omega)).trans s1
            refine v_aload_n (pc := 119) rfl dX3_runScript_119 ?_
            refine v_aload_n (pc := 120) rfl dX3_runScript_120 ?_
            refine v_getR (pc := 121) (j := 12) fd_X3_16 (rfl) (by decide) rfl dX3_runScript_121 ?_
            refine v_aload_n (pc := 124) rfl dX3_runScript_124 ?_
            refine v_getR (pc := 125) (j := 2) fd_X3_36 (rfl) (by decide) rfl dX3_runScript_125 ?_
            refine v_getR (pc := 128) (j := 103) fd_X3_251 (rfl) (by decide) rfl dX3_runScript_128 ?_
            refine v_iload_n (pc := 131) rfl dX3_runScript_131 ?_
            refine v_iald (pc := 132) (N := 60) rfl rfl (by decide) (by omega) (by decide) dX3_runScript_132 ?_
            rw [v2]
            refine v_aload_n (pc := 133) rfl dX3_runScript_133 ?_
            refine v_getR (pc := 134) (j := 2) fd_X3_36 (rfl) (by decide) rfl dX3_runScript_134 ?_
            refine v_getR (pc := 137) (j := 104) fd_X3_254 (rfl) (by decide) rfl dX3_runScript_137 ?_
            refine v_iload_n (pc := 140) rfl dX3_runScript_140 ?_
            refine v_iald (pc := 141) (N := 60) rfl rfl (by decide) (by omega) (by decide) dX3_runScript_141 ?_
            rw [f2]
            refine v_aload_n (pc := 142) rfl dX3_runScript_142 ?_
            refine v_getR (pc := 143) (j := 2) fd_X3_36 (rfl) (by decide) rfl dX3_runScript_143 ?_
            refine v_getR (pc := 146) (j := 105) fd_X3_257 (rfl) (by decide) rfl dX3_runScript_146 ?_
            refine v_iload_n (pc := 149) rfl dX3_runScript_149 ?_
            refine v_iald (pc := 150) (N := 60) rfl rfl (by decide) (by omega) (by decide) dX3_runScript_150 ?_
            rw [s2]
            refine v_callV (pc := 151) (rest := []) (c_X3_perform isS12 hI2 (v := (vb (G 102) (G 2 1) (ps (G 102) (G 2 1) i.toNat))) (f := (cA (G 102) (G 2 1) (ps (G 102) (G 2 1) i.toNat))) (s := (cB (G 102) (G 2 1) (ps (G 102) (G 2 1) i.toNat))) (by omega) (by omega) (by omega) hok2 (by omega)) iok_X3_perform wM_X3_266 (rfl) (by decide) (by decide) rfl (rmOk (by decide) (by decide)) ⟨Nat.le_of_ble_eq_true rfl, Nat.le_of_ble_eq_true rfl⟩ (Nat.le_of_ble_eq_true rfl) rfl dX3_runScript_151 (fun v G3 hq => ?_) (fun _ _ h => h.elim)
            obtain ⟨rr, rfl, hpf⟩ := hq
            refine v_stk (st' := [vI rr]) rfl ?_
            have hkp := Pf_keep isS12 hI2 (by omega) hok2 (by omega) (by omega) hpf
            refine v_pop (pc := 154) rfl dX3_runScript_154 ?_
            refine v_iinc (pc := 155) (y := 1) rfl (by decide) rfl dX3_runScript_155 ?_
            refine v_goto (pc := 158) (tgt := 54) dX3_runScript_158 (by decide) ?_
            exact ih54 (i + 1) G3 (by omega) (by rw [show (i + 1).toNat = i.toNat + 1 by omega]; exact ⟨G1, G2, rr, hR, hok, hFr, hpf⟩) (hkp.1) (by omega) (by omega) (fun k z a b c => (Pf_fr hpf k z (by omega) b c).trans ((hFr k z b c).trans (hF1 k z a b c))) (by omega)
          · skip
            refine v_aload_n (pc := 103) rfl dX3_runScript_103 ?_
            refine v_iload_n (pc := 104) rfl dX3_runScript_104 ?_
            refine v_put (pc := 105) 10 pd_X3_51 (rfl) (by decide) rfl rfl dX3_runScript_105 ?_
            exact v_throwW (pc := 108) (text := "a command of the script fails") xok_IS (by decide) E (Or.inr ⟨rfl, by omega, Gp, Gc, G1, G2, i, r, hFp, hcp, by omega, hR, hflt, by assumption, hFr, rfl⟩) dX3_runScript_108 dX3_runScript_111 dX3_runScript_112 dX3_runScript_115 dX3_runScript_118 (Nat.le_of_ble_eq_true rfl) (Nat.le_of_ble_eq_true rfl) (Nat.le_of_ble_eq_true rfl) (Nat.le_of_ble_eq_true rfl) (Nat.le_of_ble_eq_true rfl)
    refine v_loc (L' := [some (vR g 0), some (vI w), some (vI 0)]) (⟨rfl, rfl, rfl, trivial⟩) ?_
    exact lp54 _ 0 Gc (by omega) rfl hIc (by omega) (by omega) (fun _ _ _ _ _ => rfl) (Nat.lt_succ_self _)
  · skip
    refine v_aload_n (pc := 20) rfl dX3_runScript_20 ?_
    refine v_aload_n (pc := 21) rfl dX3_runScript_21 ?_
    refine v_getR (pc := 22) (j := 2) fd_X3_36 (rfl) (by decide) rfl dX3_runScript_22 ?_
    refine v_get (pc := 25) 2 fd_X3_240 (rfl) (by decide) rfl rfl dX3_runScript_25 ?_
    refine v_top (b := Gp 2 2) (upd2_z (by decide)) ?_
    refine v_put (pc := 28) 9 pd_X3_47 (rfl) (by decide) rfl rfl dX3_runScript_28 ?_
    exact v_throw (pc := 31) (text := "the script does not have the required form") xok_IA (by decide) E (Or.inl ⟨rfl, by omega, Gp, hFp, by rw [he2]⟩) dX3_runScript_31 dX3_runScript_34 dX3_runScript_35 dX3_runScript_37 dX3_runScript_40 (Nat.le_of_ble_eq_true rfl) (Nat.le_of_ble_eq_true rfl) (Nat.le_of_ble_eq_true rfl) (Nat.le_of_ble_eq_true rfl) (Nat.le_of_ble_eq_true rfl)
