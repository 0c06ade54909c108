-- the whole script
/-- reading the script from p on, j commands read: is it well formed, how many commands, where reading ended -/
noncomputable def prsF (S : Int → Int) (n : Int) : Nat → Int → Int → Int × Int × Int
  | 0, j, p => (0, j, p)
  | f + 1, j, p => if bI (cOk S n p) = 1 then (if ce S n p = n then (1, j + 1, n) else if sg S n (ce S n p) 59 then prsF S n f (j + 1) (ce S n p + 1) else (0, j + 1, ce S n p)) else (0, j, ce S n p)
noncomputable def prs (S : Int → Int) (n : Int) : Int × Int × Int := prsF S n 60 0 0
/-- where the command k begins -/
def ps (S : Int → Int) (n : Int) : Nat → Int
  | 0 => 0
  | k + 1 => ce S n (ps S n k) + 1
theorem prsF_s {S : Int → Int} {n j p : Int} (h : 0 ≤ j ∧ j < 60) : prsF S n (60 - j).toNat j p = if bI (cOk S n p) = 1 then (if ce S n p = n then (1, j + 1, n) else if sg S n (ce S n p) 59 then prsF S n (60 - (j + 1)).toNat (j + 1) (ce S n p + 1) else (0, j + 1, ce S n p)) else (0, j, ce S n p) := by
  rw [show (60 - j).toNat = (60 - (j + 1)).toNat + 1 by omega]; rfl
theorem Sc_cmd {G : Mem} {S : Int → Int} {n p c : Int} (h : Sc G S n p c) (hc : c + 1 < 60) : Sc (upd2 G 2 3 (c + 1)) S n p (c + 1) := by
  obtain ⟨h1, h2, h3, h4, h5, h6⟩ := h
  refine ⟨?_, ?_, ?_, upd2_s _ _ _ _, by omega, h6⟩
  · rw [← h1]; exact funext fun z => upd2_i (by decide)
  · rw [← h2]; exact upd2_z (by decide)
  · rw [← h3]; exact upd2_z (by decide)
theorem ps_s {S : Int → Int} {n j : Int} (h : 0 ≤ j) : ps S n (j + 1).toNat = ce S n (ps S n j.toNat) + 1 := by
  rw [show (j + 1).toNat = j.toNat + 1 by omega]; rfl
/-- the rows of the Script hold the first c commands -/
def Cms (G : Mem) (S : Int → Int) (n c : Int) : Prop := ∀ i, 0 ≤ i → i < c → cOk S n (ps S n i.toNat) ∧ G 103 i = vb S n (ps S n i.toNat) ∧ G 104 i = cA S n (ps S n i.toNat) ∧ G 105 i = cB S n (ps S n i.toNat)

set_option maxHeartbeats 4000000 in
set_option maxRecDepth 100000 in
theorem c_X1_parse {g : GT} {G : Mem} (hn : 0 ≤ G 2 1 ∧ G 2 1 ≤ 60) (hS : ∀ j, 0 ≤ j → j < G 2 1 → 32 ≤ G 102 j ∧ G 102 j ≤ 126) : Ctr g yX1_parse cX1_parse 1 (some FieldType.boolean) (rmL 7 0 0) [vR g 2] G (RP (fun r G' => r = (prs (G 102) (G 2 1)).1 ∧ G' 2 2 = (prs (G 102) (G 2 1)).2.2 ∧ (r = 1 → G' 2 3 = (prs (G 102) (G 2 1)).2.1 ∧ Cms G' (G 102) (G 2 1) (G' 2 3)) ∧ ∀ i z, ¬ (i = 2 ∧ (z = 2 ∨ z = 3)) → ¬ (103 ≤ i ∧ i ≤ 105) → G' i z = G i z)) NoX := by
  refine ctr_of [some (vR g 2)] (by decide) (Nat.le_of_ble_eq_true rfl) rfl (fun γ E => ?_)
  show V γ g cX1_parse 1 RX1 (rmL 7 0 0) G 0 0 0 [some (vR g 2)] []
  refine v_aload_n (pc := 0) rfl dX1_parse_0 ?_
  refine v_iconst (pc := 1) (z := 0) dX1_parse_1 ?_
  refine v_put (pc := 2) 2 pd_X1_29 (rfl) (by decide) rfl rfl dX1_parse_2 ?_
  refine v_aload_n (pc := 5) rfl dX1_parse_5 ?_
  refine v_iconst (pc := 6) (z := 0) dX1_parse_6 ?_
  refine v_put (pc := 7) 3 pd_X1_32 (rfl) (by decide) rfl rfl dX1_parse_7 ?_
  have lp10 : ∀ (m10 : Nat) (j : Int) (p : Int) (G1 : Mem), (Sc G1 (G 102) (G 2 1) p j) → (2 * j ≤ p) → (prs (G 102) (G 2 1) = prsF (G 102) (G 2 1) (60 - j).toNat j p) → (p = ps (G 102) (G 2 1) j.toNat) → (Cms G1 (G 102) (G 2 1) j) → (∀ i z, ¬ (i = 2 ∧ (z = 2 ∨ z = 3)) → ¬ (103 ≤ i ∧ i ≤ 105) → G1 i z = G i z) → ((60 - j).toNat) < m10 → V γ g cX1_parse 1 RX1 (rmL 7 0 0) G1 0 0 10 [some (vR g 2)] [] := by
    intro m10
    induction m10 with
    | zero => intro j p G1; intros; omega
    | succ m10 ih10 =>
      intro j p G1 hSc h2 hpr hp hcm hG hm10
      have hb := hSc.2.2.2.2.1
      have e1 : G1 2 1 = G 2 1 := hSc.2.1
      have e3 : G1 2 3 = j := hSc.2.2.2.1
      have hcr := ce_r (S := G 102) (n := G 2 1) (p := p) (by omega)
      refine v_aload_n (pc := 10) rfl dX1_parse_10 ?_
      refine v_get (pc := 11) 3 fd_X1_32 (rfl) (by decide) rfl rfl dX1_parse_11 ?_
      refine v_bipush (pc := 14) (z := 60) rfl dX1_parse_14 ?_
      refine v_icmp_ge (pc := 16) (tgt := 60) (by omega) dX1_parse_16 (by decide) (fun h1 => ?_) (fun h1 => ?_)
      · skip
        exfalso; omega
      · skip
        refine v_aload_n (pc := 19) rfl dX1_parse_19 ?_
        by_cases hd2 : cOk (G 102) (G 2 1) p
        · skip
          refine v_callV (pc := 20) (rest := []) (c_X1_readCommand hSc) iok_X1_readCommand wM_X1_35 (rfl) (by decide) (by decide) rfl (rmOk (by decide) (by decide)) ⟨Nat.le_of_ble_eq_true rfl, Nat.le_of_ble_eq_true rfl⟩ (Nat.le_of_ble_eq_true rfl) rfl dX1_parse_20 (fun v G2 hq => ?_) (fun _ _ h => h.elim)
          obtain ⟨c, rfl, hqc⟩ := hq
          refine v_stk (st' := [vI c]) rfl ?_
          obtain ⟨hrc, hec, hac, hFc⟩ := hqc
          rw [bI_t hd2] at hrc
          subst hrc
          refine v_if_eq (pc := 23) (tgt := 60) (by omega) dX1_parse_23 (by decide) (fun h3 => absurd h3 (by decide)) (fun _ => ?_)
          have hok : cOk (G 102) (G 2 1) p := by assumption
          have hv7 := hok.1
          have hSc2 : Sc G2 (G 102) (G 2 1) (ce (G 102) (G 2 1) p) j := Sc_fr hSc (by omega) hec (fun i z a b => hFc i z a b)
          have hSc3 := Sc_cmd hSc2 (by omega)
          have hj : G2 2 3 = j := hSc2.2.2.2.1
          have hl2 : G2 2 1 = G 2 1 := hSc2.2.1
          have hcm3 : Cms (upd2 G2 2 3 (j + 1)) (G 102) (G 2 1) (j + 1) := fun i a b => by
            rw [upd2_i (by decide), upd2_i (by decide), upd2_i (by decide)]
            by_cases q : i = j
            · rw [q, ← hp]; exact ⟨hok, hac hok⟩
            · rw [hFc 103 i (by omega) (by omega), hFc 104 i (by omega) (by omega), hFc 105 i (by omega) (by omega)]
              exact hcm i a (by omega)
          have hG3 : ∀ i z, ¬ (i = 2 ∧ (z = 2 ∨ z = 3)) → ¬ (103 ≤ i ∧ i ≤ 105) → upd2 G2 2 3 (j + 1) i z = G i z := fun i z a b => (upd2_n (by omega)).trans ((hFc i z (by omega) (by omega)).trans (hG i z a b))
          refine v_aload_n (pc := 26) rfl dX1_parse_26 ?_
          refine v_dup (pc := 27) rfl dX1_parse_27 ?_
          refine v_get (pc := 28) 3 fd_X1_32 (rfl) (by decide) rfl rfl dX1_parse_28 ?_
          rw [hj]
          refine v_iconst (pc := 31) (z := 1) dX1_parse_31 ?_
          refine v_iadd (pc := 32) dX1_parse_32 ?_
          refine v_put (pc := 33) 3 pd_X1_32 (rfl) (by decide) rfl rfl dX1_parse_33 ?_
          refine v_aload_n (pc := 36) rfl dX1_parse_36 ?_
          refine v_get (pc := 37) 2 fd_X1_29 (rfl) (by decide) rfl rfl dX1_parse_37 ?_
          refine v_top (b := G2 2 2) (upd2_z (by decide)) ?_
          rw [hec]
          refine v_aload_n (pc := 40) rfl dX1_parse_40 ?_
          refine v_get (pc := 41) 1 fd_X1_25 (rfl) (by decide) rfl rfl dX1_parse_41 ?_
          refine v_top (b := G2 2 1) (upd2_z (by decide)) ?_
          rw [hl2]
          refine v_icmp_ne (pc := 44) (tgt := 49) (by omega) dX1_parse_44 (by decide) (fun h4 => ?_) (fun h4 => ?_)
          · skip
            have hne : ¬ (ce (G 102) (G 2 1) p) = G 2 1 := by assumption
            refine v_aload_n (pc := 49) rfl dX1_parse_49 ?_
            refine v_bipush (pc := 50) (z := 59) rfl dX1_parse_50 ?_
            by_cases hd5 : sg (G 102) (G 2 1) (ce (G 102) (G 2 1) p) 59
            · skip
              refine v_callV (pc := 52) (rest := []) (c_X1_readSign_t hSc3 (by decide) hd5) iok_X1_readSign wM_X1_39 (rfl) (by decide) (by decide) rfl (rmOk (by decide) (by decide)) ⟨Nat.le_of_ble_eq_true rfl, Nat.le_of_ble_eq_true rfl⟩ (Nat.le_of_ble_eq_true rfl) rfl dX1_parse_52 (fun v G' hq => ?_) (fun _ _ h => h.elim)
              obtain ⟨rfl, hG9⟩ := hq
              rw [hG9]
              refine v_stk (st' := [vI 1]) rfl ?_
              refine v_if_ne (pc := 55) (tgt := 10) (by omega) dX1_parse_55 (by decide) (fun _ => ?_) (fun h6 => absurd h6 (by decide))
              exact ih10 (j + 1) ((ce (G 102) (G 2 1) p) + 1) (upd2 (upd2 G2 2 3 (j + 1)) 2 2 ((ce (G 102) (G 2 1) p) + 1)) (Sc_pos hSc3 (by omega)) (by omega) (by rw [hpr, prsF_s (by omega), if_pos (bI_t hok), if_neg hne, if_pos (by assumption)]) (by rw [ps_s (by omega), ← hp]) (fun i a b => by
                show cOk _ _ _ ∧ upd2 _ 2 2 _ 103 i = _ ∧ upd2 _ 2 2 _ 104 i = _ ∧ upd2 _ 2 2 _ 105 i = _
                rw [upd2_i (by decide), upd2_i (by decide), upd2_i (by decide)]
                exact hcm3 i a b) (fun i z a b => (upd2_n (by omega)).trans (hG3 i z a b)) (by omega)
            · skip
              refine v_callV (pc := 52) (rest := []) (c_X1_readSign_f hSc3 (by decide) hd5) iok_X1_readSign wM_X1_39 (rfl) (by decide) (by decide) rfl (rmOk (by decide) (by decide)) ⟨Nat.le_of_ble_eq_true rfl, Nat.le_of_ble_eq_true rfl⟩ (Nat.le_of_ble_eq_true rfl) rfl dX1_parse_52 (fun v G' hq => ?_) (fun _ _ h => h.elim)
              obtain ⟨rfl, hG9⟩ := hq
              rw [hG9]
              refine v_stk (st' := [vI 0]) rfl ?_
              refine v_if_ne (pc := 55) (tgt := 10) (by omega) dX1_parse_55 (by decide) (fun h7 => absurd h7 (by decide)) (fun _ => ?_)
              have hres : prs (G 102) (G 2 1) = (0, j + 1, (ce (G 102) (G 2 1) p)) := by rw [hpr, prsF_s (by omega), if_pos (bI_t hok), if_neg hne, if_neg (by assumption)]
              refine v_iconst (pc := 58) (z := 0) dX1_parse_58 ?_
              exact v_bret (pc := 59) E (by decide) (⟨_, rfl, by rw [hres], by rw [hres, upd2_z (by decide), hec], fun q => absurd q (by decide), hG3⟩) (Nat.le_of_ble_eq_true rfl) (Nat.le_of_ble_eq_true rfl) dX1_parse_59
          · skip
            have hres : prs (G 102) (G 2 1) = (1, j + 1, G 2 1) := by rw [hpr, prsF_s (by omega), if_pos (bI_t hok), if_pos (by assumption)]
            refine v_iconst (pc := 47) (z := 1) dX1_parse_47 ?_
            exact v_bret (pc := 48) E (by decide) (⟨_, rfl, by rw [hres], by rw [hres, upd2_z (by decide), hec]; assumption, fun _ => ⟨by rw [hres]; exact upd2_s _ _ _ _, by rw [upd2_s]; exact hcm3⟩, hG3⟩) (Nat.le_of_ble_eq_true rfl) (Nat.le_of_ble_eq_true rfl) dX1_parse_48
        · skip
          refine v_callV (pc := 20) (rest := []) (c_X1_readCommand hSc) iok_X1_readCommand wM_X1_35 (rfl) (by decide) (by decide) rfl (rmOk (by decide) (by decide)) ⟨Nat.le_of_ble_eq_true rfl, Nat.le_of_ble_eq_true rfl⟩ (Nat.le_of_ble_eq_true rfl) rfl dX1_parse_20 (fun v G2 hq => ?_) (fun _ _ h => h.elim)
          obtain ⟨c, rfl, hqc⟩ := hq
          refine v_stk (st' := [vI c]) rfl ?_
          obtain ⟨hrc, hec, hac, hFc⟩ := hqc
          rw [bI_f hd2] at hrc
          subst hrc
          refine v_if_eq (pc := 23) (tgt := 60) (by omega) dX1_parse_23 (by decide) (fun _ => ?_) (fun h8 => absurd h8 (by decide))
          have hno : ¬ cOk (G 102) (G 2 1) p := by assumption
          have hres : prs (G 102) (G 2 1) = (0, j, (ce (G 102) (G 2 1) p)) := by rw [hpr, prsF_s (by omega), if_neg (by rw [bI_f hno]; decide)]
          refine v_iconst (pc := 60) (z := 0) dX1_parse_60 ?_
          exact v_bret (pc := 61) E (by decide) (⟨_, rfl, by rw [hres], by rw [hres]; exact hec, fun q => absurd q (by decide), fun i z a b => (hFc i z (by omega) (by omega)).trans (hG i z a b)⟩) (Nat.le_of_ble_eq_true rfl) (Nat.le_of_ble_eq_true rfl) dX1_parse_61
  refine v_loc (L' := [some (vR g 2)]) (⟨rfl, trivial⟩) ?_
  exact lp10 _ 0 0 (upd2 (upd2 G 2 2 0) 2 3 0) (⟨funext fun z => by rw [upd2_i (by decide), upd2_i (by decide)], by rw [upd2_z (by decide), upd2_z (by decide)], by rw [upd2_z (by decide), upd2_s], upd2_s _ _ _ _, by omega, hS⟩) (by decide) rfl rfl (fun i a b => absurd b (by omega)) (fun i z a _ => by rw [upd2_n (by omega), upd2_n (by omega)]) (Nat.lt_succ_self _)
