-- a command of the script
def aOk (S : Int → Int) (n q v : Int) : Prop := if v = 0 then (dg S n q ∧ sg S n (nE S n q) 32 ∧ dg S n (nE S n q + 1)) else if v = 3 then (dg S n q ∧ sg S n (q + 1) 32 ∧ dg S n (q + 1 + 1)) else if v = 4 then (sg S n q 32 → dg S n (q + 1)) else dg S n q
def aE (S : Int → Int) (n q v : Int) : Int := if v = 0 then (if dg S n q then (if sg S n (nE S n q) 32 then (if dg S n (nE S n q + 1) then nE S n q + 1 + 1 else nE S n q + 1) else nE S n q) else q)
  else if v = 3 then (if dg S n q then (if sg S n (q + 1) 32 then (if dg S n (q + 1 + 1) then q + 1 + 1 + 1 else q + 1 + 1) else q + 1) else q) else if v = 1 then (if dg S n q then q + 1 else q) else if v = 4 then yE S n q else nE S n q
def aA (S : Int → Int) (n q v : Int) : Int := if v = 1 ∨ v = 3 then S q - 48 else if v = 4 then yV S n q else nV S n q
def aB (S : Int → Int) (n q v : Int) : Int := if v = 0 then S (nE S n q + 1) - 48 else if v = 3 then S (q + 1 + 1) - 48 else 0
/-- the command at p: does it stand there, where does reading it end, its two numbers -/
def cOk (S : Int → Int) (n p : Int) : Prop := vb S n p < 7 ∧ aOk S n (vE S n p) (vb S n p)
def ce (S : Int → Int) (n p : Int) : Int := if vb S n p < 7 then aE S n (vE S n p) (vb S n p) else vE S n p
def cA (S : Int → Int) (n p : Int) : Int := aA S n (vE S n p) (vb S n p)
def cB (S : Int → Int) (n p : Int) : Int := aB S n (vE S n p) (vb S n p)
theorem aE_r {S : Int → Int} {n q v : Int} (h : q ≤ n) : q ≤ aE S n q v ∧ aE S n q v ≤ n := by
  have h1 := nE_r (S := S) h
  have h2 := yE_r (S := S) h
  unfold aE
  split
  · split
    · split
      · split <;> omega
      · omega
    · omega
  · split
    · split
      · split
        · split <;> omega
        · omega
      · omega
    · split
      · split <;> omega
      · split <;> omega
theorem ce_r {S : Int → Int} {n p : Int} (h : p ≤ n) : p ≤ ce S n p ∧ ce S n p ≤ n ∧ (vb S n p < 7 → p + 4 ≤ ce S n p) := by
  have h1 := vE_r (S := S) h
  have h2 := aE_r (S := S) (v := vb S n p) h1.2
  have h3 := vbF_r (S := S) (n := n) (p := p) 7 0 rfl
  unfold ce
  split
  · rename_i q
    have h4 : vE S n p = p + wlK (vb S n p).toNat := if_pos q
    have h5 := wlK_r (vb S n p).toNat (by omega)
    omega
  · omega
theorem vb_r (S : Int → Int) (n p : Int) : 0 ≤ vb S n p ∧ vb S n p ≤ 7 := by
  have := vbF_r (S := S) (n := n) (p := p) 7 0 rfl
  unfold vb
  omega

set_option maxHeartbeats 4000000 in
set_option maxRecDepth 100000 in
theorem c_X1_readCommand {g : GT} {G : Mem} {S : Int → Int} {n p c : Int} (h : Sc G S n p c) : Ctr g yX1_readCommand cX1_readCommand 1 (some FieldType.boolean) (rmL 6 0 0) [vR g 2] G (RP (fun r G' => r = bI (cOk S n p) ∧ G' 2 2 = ce S n p ∧ (cOk S n p → G' 103 c = vb S n p ∧ G' 104 c = cA S n p ∧ G' 105 c = cB S n p) ∧ ∀ i z, ¬ (i = 2 ∧ z = 2) → ¬ (103 ≤ i ∧ i ≤ 105 ∧ z = c) → G' i z = G i z)) NoX := by
  refine ctr_of [some (vR g 2)] (by decide) (Nat.le_of_ble_eq_true rfl) rfl (fun γ E => ?_)
  show V γ g cX1_readCommand 1 RX1 (rmL 6 0 0) G 0 0 0 [some (vR g 2)] []
  have hSc := h
  obtain ⟨rfl, rfl, rfl, rfl, hb, hS⟩ := h
  refine v_aload_n (pc := 0) rfl dX1_readCommand_0 ?_
  refine v_getR (pc := 1) (j := 105) fd_X1_22 (rfl) (by decide) rfl dX1_readCommand_1 ?_
  refine v_aload_n (pc := 4) rfl dX1_readCommand_4 ?_
  refine v_get (pc := 5) 3 fd_X1_32 (rfl) (by decide) rfl rfl dX1_readCommand_5 ?_
  refine v_iconst (pc := 8) (z := 0) dX1_readCommand_8 ?_
  refine v_iast (pc := 9) (N := 60) rfl rfl (by decide) (by omega) (by decide) dX1_readCommand_9 ?_
  have hSc0 := Sc_row (i := 105) (z := G 2 3) (v := 0) hSc (by decide)
  have hvr := vb_r (G 102) (G 2 1) (G 2 2)
  have hver := vE_r (S := G 102) (n := G 2 1) (p := G 2 2) (by omega)
  have hner := nE_r (S := G 102) (n := G 2 1) (p := (vE (G 102) (G 2 1) (G 2 2))) (by omega)
  refine v_aload_n (pc := 10) rfl dX1_readCommand_10 ?_
  by_cases hd1 : vb (G 102) (G 2 1) (G 2 2) < 7
  · skip
    refine v_callV (pc := 11) (rest := []) (c_X1_readVerb hSc0) iok_X1_readVerb wM_X1_43 (rfl) (by decide) (by decide) rfl (rmOk (by decide) (by decide)) ⟨Nat.le_of_ble_eq_true rfl, Nat.le_of_ble_eq_true rfl⟩ (Nat.le_of_ble_eq_true rfl) rfl dX1_readCommand_11 (fun v G1 hq => ?_) (fun _ _ h => h.elim)
    obtain ⟨v, rfl, hqv⟩ := hq
    refine v_stk (st' := [vI v]) rfl ?_
    obtain ⟨hrv, hev, hav, hFv⟩ := hqv
    rw [bI_t hd1] at hrv
    subst hrv
    have hSc1 : Sc G1 (G 102) (G 2 1) (vE (G 102) (G 2 1) (G 2 2)) (G 2 3) := Sc_fr hSc0 (by omega) hev (fun i z a b => hFv i z a (by omega))
    have hc1 : G1 2 3 = G 2 3 := hSc1.2.2.2.1
    refine v_if_ne (pc := 14) (tgt := 19) (by omega) dX1_readCommand_14 (by decide) (fun _ => ?_) (fun h2 => absurd h2 (by decide))
    have hv1 := hav (by assumption)
    refine v_aload_n (pc := 19) rfl dX1_readCommand_19 ?_
    refine v_getR (pc := 20) (j := 103) fd_X1_15 (rfl) (by decide) rfl dX1_readCommand_20 ?_
    refine v_aload_n (pc := 23) rfl dX1_readCommand_23 ?_
    refine v_get (pc := 24) 3 fd_X1_32 (rfl) (by decide) rfl rfl dX1_readCommand_24 ?_
    rw [hc1]
    refine v_iald (pc := 27) (N := 60) rfl rfl (by decide) (by omega) (by decide) dX1_readCommand_27 ?_
    rw [hv1]
    by_cases hs3 : vb (G 102) (G 2 1) (G 2 2) = 0
    · skip
      refine v_table (pc := 28) (tgt := 64) (off := 36) (by omega) (by omega) (by omega) (by rw [hs3]; rfl) dX1_readCommand_28 (by decide) ?_
      skip
      refine v_aload_n (pc := 64) rfl dX1_readCommand_64 ?_
      by_cases hd4 : dg (G 102) (G 2 1) (vE (G 102) (G 2 1) (G 2 2))
      · skip
        refine v_callV (pc := 65) (rest := []) (c_X1_readNumber hSc1) iok_X1_readNumber wM_X1_46 (rfl) (by decide) (by decide) rfl (rmOk (by decide) (by decide)) ⟨Nat.le_of_ble_eq_true rfl, Nat.le_of_ble_eq_true rfl⟩ (Nat.le_of_ble_eq_true rfl) rfl dX1_readCommand_65 (fun v G2 hq => ?_) (fun _ _ h => h.elim)
        obtain ⟨n, rfl, hqn⟩ := hq
        refine v_stk (st' := [vI n]) rfl ?_
        obtain ⟨hrn, hen, han, hFn⟩ := hqn
        rw [bI_t hd4] at hrn
        subst hrn
        have hSc2 : Sc G2 (G 102) (G 2 1) (nE (G 102) (G 2 1) (vE (G 102) (G 2 1) (G 2 2))) (G 2 3) := Sc_fr hSc1 (by omega) hen (fun i z a b => hFn i z a (by omega))
        have hc2 : G2 2 3 = G 2 3 := hSc2.2.2.2.1
        refine v_if_eq (pc := 68) (tgt := 91) (by omega) dX1_readCommand_68 (by decide) (fun h5 => absurd h5 (by decide)) (fun _ => ?_)
        refine v_aload_n (pc := 71) rfl dX1_readCommand_71 ?_
        refine v_bipush (pc := 72) (z := 32) rfl dX1_readCommand_72 ?_
        by_cases hd6 : sg (G 102) (G 2 1) (nE (G 102) (G 2 1) (vE (G 102) (G 2 1) (G 2 2))) 32
        · skip
          refine v_callV (pc := 74) (rest := []) (c_X1_readSign_t hSc2 (by decide) hd6) iok_X1_readSign wM_X1_39 (rfl) (by decide) (by decide) rfl (rmOk (by decide) (by decide)) ⟨Nat.le_of_ble_eq_true rfl, Nat.le_of_ble_eq_true rfl⟩ (Nat.le_of_ble_eq_true rfl) rfl dX1_readCommand_74 (fun v G' hq => ?_) (fun _ _ h => h.elim)
          obtain ⟨rfl, hG9⟩ := hq
          rw [hG9]
          refine v_stk (st' := [vI 1]) rfl ?_
          refine v_if_eq (pc := 77) (tgt := 91) (by omega) dX1_readCommand_77 (by decide) (fun h7 => absurd h7 (by decide)) (fun _ => ?_)
          refine v_aload_n (pc := 80) rfl dX1_readCommand_80 ?_
          by_cases hd8 : dg (G 102) (G 2 1) ((nE (G 102) (G 2 1) (vE (G 102) (G 2 1) (G 2 2))) + 1)
          · skip
            refine v_callV (pc := 81) (rest := []) (c_X1_readSecond_t (Sc_pos (e := (nE (G 102) (G 2 1) (vE (G 102) (G 2 1) (G 2 2))) + 1) hSc2 (by omega)) hd8) iok_X1_readSecond wM_X1_49 (rfl) (by decide) (by decide) rfl (rmOk (by decide) (by decide)) ⟨Nat.le_of_ble_eq_true rfl, Nat.le_of_ble_eq_true rfl⟩ (Nat.le_of_ble_eq_true rfl) rfl dX1_readCommand_81 (fun v G' hq => ?_) (fun _ _ h => h.elim)
            obtain ⟨rfl, hG9⟩ := hq
            rw [hG9]
            refine v_stk (st' := [vI 1]) rfl ?_
            refine v_if_eq (pc := 84) (tgt := 91) (by omega) dX1_readCommand_84 (by decide) (fun h9 => absurd h9 (by decide)) (fun _ => ?_)
            refine v_iconst (pc := 87) (z := 1) dX1_readCommand_87 ?_
            refine v_goto (pc := 88) (tgt := 92) dX1_readCommand_88 (by decide) ?_
            have hyes : cOk (G 102) (G 2 1) (G 2 2) := ⟨by assumption, by
              unfold aOk
              (repeat (first | rw [if_pos (by assumption)] | rw [if_neg (by assumption)] | rw [if_pos (by omega)] | rw [if_neg (by omega)]))
              first | assumption | exact ⟨by assumption, by assumption, by assumption⟩⟩
            exact v_bret (pc := 92) E (by decide) (⟨_, rfl, by rw [bI_t hyes], by unfold ce; rw [if_pos (by assumption)]; unfold aE; ((repeat (first | rw [if_pos (by assumption)] | rw [if_neg (by assumption)] | rw [if_pos (by omega)] | rw [if_neg (by omega)]))); ((repeat (first | rw [upd2_s] | rw [upd2_n (by omega)] | rw [hFn _ _ (by omega) (by omega)] | rw [hFy _ _ (by omega) (by omega)] | rw [hFv _ _ (by omega) (by omega)]))) <;> (first | rfl | exact hen | exact hey | exact hen.trans (by unfold nE; exact if_neg (by assumption)) | exact hev), fun _ => ⟨by ((repeat (first | rw [upd2_s] | rw [upd2_n (by omega)] | rw [hFn _ _ (by omega) (by omega)] | rw [hFy _ _ (by omega) (by omega)] | rw [hFv _ _ (by omega) (by omega)]))); exact hv1, by unfold cA aA; ((repeat (first | rw [if_pos (by assumption)] | rw [if_neg (by assumption)] | rw [if_pos (by omega)] | rw [if_neg (by omega)]))); ((repeat (first | rw [upd2_s] | rw [upd2_n (by omega)] | rw [hFn _ _ (by omega) (by omega)] | rw [hFy _ _ (by omega) (by omega)] | rw [hFv _ _ (by omega) (by omega)]))) <;> (first | rfl | exact han (by assumption) | exact hay (by assumption)), by unfold cB aB; ((repeat (first | rw [if_pos (by assumption)] | rw [if_neg (by assumption)] | rw [if_pos (by omega)] | rw [if_neg (by omega)]))); ((repeat (first | rw [upd2_s] | rw [upd2_n (by omega)] | rw [hFn _ _ (by omega) (by omega)] | rw [hFy _ _ (by omega) (by omega)] | rw [hFv _ _ (by omega) (by omega)]))) <;> rfl⟩, fun i z a b => by (repeat (first | rw [upd2_s] | rw [upd2_n (by omega)] | rw [hFn i z (by omega) (by omega)] | rw [hFy i z (by omega) (by omega)] | rw [hFv i z (by omega) (by omega)]))⟩) (Nat.le_of_ble_eq_true rfl) (Nat.le_of_ble_eq_true rfl) dX1_readCommand_92
          · skip
            refine v_callV (pc := 81) (rest := []) (c_X1_readSecond_f (Sc_pos (e := (nE (G 102) (G 2 1) (vE (G 102) (G 2 1) (G 2 2))) + 1) hSc2 (by omega)) hd8) iok_X1_readSecond wM_X1_49 (rfl) (by decide) (by decide) rfl (rmOk (by decide) (by decide)) ⟨Nat.le_of_ble_eq_true rfl, Nat.le_of_ble_eq_true rfl⟩ (Nat.le_of_ble_eq_true rfl) rfl dX1_readCommand_81 (fun v G' hq => ?_) (fun _ _ h => h.elim)
            obtain ⟨rfl, hG9⟩ := hq
            rw [hG9]
            refine v_stk (st' := [vI 0]) rfl ?_
            refine v_if_eq (pc := 84) (tgt := 91) (by omega) dX1_readCommand_84 (by decide) (fun _ => ?_) (fun h10 => absurd h10 (by decide))
            refine v_iconst (pc := 91) (z := 0) dX1_readCommand_91 ?_
            have hno : ¬ cOk (G 102) (G 2 1) (G 2 2) := fun q => by
              replace q := q.2
              unfold aOk at q
              (repeat (first | rw [if_pos (by assumption)] at q | rw [if_neg (by assumption)] at q | rw [if_pos (by omega)] at q | rw [if_neg (by omega)] at q))
              first | exact absurd q (by assumption) | exact absurd q.1 (by assumption) | exact absurd q.2.1 (by assumption) | exact absurd q.2.2 (by assumption) | omega
            exact v_bret (pc := 92) E (by decide) (⟨_, rfl, by rw [bI_f hno], by unfold ce; rw [if_pos (by assumption)]; unfold aE; ((repeat (first | rw [if_pos (by assumption)] | rw [if_neg (by assumption)] | rw [if_pos (by omega)] | rw [if_neg (by omega)]))); ((repeat (first | rw [upd2_s] | rw [upd2_n (by omega)] | rw [hFn _ _ (by omega) (by omega)] | rw [hFy _ _ (by omega) (by omega)] | rw [hFv _ _ (by omega) (by omega)]))) <;> (first | rfl | exact hen | exact hey | exact hen.trans (by unfold nE; exact if_neg (by assumption)) | exact hev), fun q => absurd q hno, fun i z a b => by (repeat (first | rw [upd2_s] | rw [upd2_n (by omega)] | rw [hFn i z (by omega) (by omega)] | rw [hFy i z (by omega) (by omega)] | rw [hFv i z (by omega) (by omega)]))⟩) (Nat.le_of_ble_eq_true rfl) (Nat.le_of_ble_eq_true rfl) dX1_readCommand_92
        · skip
          refine v_callV (pc := 74) (rest := []) (c_X1_readSign_f hSc2 (by decide) hd6) iok_X1_readSign wM_X1_39 (rfl) (by decide) (by decide) rfl (rmOk (by decide) (by decide)) ⟨Nat.le_of_ble_eq_true rfl, Nat.le_of_ble_eq_true rfl⟩ (Nat.le_of_ble_eq_true rfl) rfl dX1_readCommand_74 (fun v G' hq => ?_) (fun _ _ h => h.elim)
          obtain ⟨rfl, hG9⟩ := hq
          rw [hG9]
          refine v_stk (st' := [vI 0]) rfl ?_
          refine v_if_eq (pc := 77) (tgt := 91) (by omega) dX1_readCommand_77 (by decide) (fun _ => ?_) (fun h11 => absurd h11 (by decide))
          refine v_iconst (pc := 91) (z := 0) dX1_readCommand_91 ?_
          have hno : ¬ cOk (G 102) (G 2 1) (G 2 2) := fun q => by
            replace q := q.2
            unfold aOk at q
            (repeat (first | rw [if_pos (by assumption)] at q | rw [if_neg (by assumption)] at q | rw [if_pos (by omega)] at q | rw [if_neg (by omega)] at q))
            first | exact absurd q (by assumption) | exact absurd q.1 (by assumption) | exact absurd q.2.1 (by assumption) | exact absurd q.2.2 (by assumption) | omega
          exact v_bret (pc := 92) E (by decide) (⟨_, rfl, by rw [bI_f hno], by unfold ce; rw [if_pos (by assumption)]; unfold aE; ((repeat (first | rw [if_pos (by assumption)] | rw [if_neg (by assumption)] | rw [if_pos (by omega)] | rw [if_neg (by omega)]))); ((repeat (first | rw [upd2_s] | rw [upd2_n (by omega)] | rw [hFn _ _ (by omega) (by omega)] | rw [hFy _ _ (by omega) (by omega)] | rw [hFv _ _ (by omega) (by omega)]))) <;> (first | rfl | exact hen | exact hey | exact hen.trans (by unfold nE; exact if_neg (by assumption)) | exact hev), fun q => absurd q hno, fun i z a b => by (repeat (first | rw [upd2_s] | rw [upd2_n (by omega)] | rw [hFn i z (by omega) (by omega)] | rw [hFy i z (by omega) (by omega)] | rw [hFv i z (by omega) (by omega)]))⟩) (Nat.le_of_ble_eq_true rfl) (Nat.le_of_ble_eq_true rfl) dX1_readCommand_92
      · skip
        refine v_callV (pc := 65) (rest := []) (c_X1_readNumber hSc1) iok_X1_readNumber wM_X1_46 (rfl) (by decide) (by decide) rfl (rmOk (by decide) (by decide)) ⟨Nat.le_of_ble_eq_true rfl, Nat.le_of_ble_eq_true rfl⟩ (Nat.le_of_ble_eq_true rfl) rfl dX1_readCommand_65 (fun v G2 hq => ?_) (fun _ _ h => h.elim)
        obtain ⟨n, rfl, hqn⟩ := hq
        refine v_stk (st' := [vI n]) rfl ?_
        obtain ⟨hrn, hen, han, hFn⟩ := hqn
        rw [bI_f hd4] at hrn
        subst hrn
        have hSc2 : Sc G2 (G 102) (G 2 1) (nE (G 102) (G 2 1) (vE (G 102) (G 2 1) (G 2 2))) (G 2 3) := Sc_fr hSc1 (by omega) hen (fun i z a b => hFn i z a (by omega))
        have hc2 : G2 2 3 = G 2 3 := hSc2.2.2.2.1
        refine v_if_eq (pc := 68) (tgt := 91) (by omega) dX1_readCommand_68 (by decide) (fun _ => ?_) (fun h12 => absurd h12 (by decide))
        refine v_iconst (pc := 91) (z := 0) dX1_readCommand_91 ?_
        have hno : ¬ cOk (G 102) (G 2 1) (G 2 2) := fun q => by
          replace q := q.2
          unfold aOk at q
          (repeat (first | rw [if_pos (by assumption)] at q | rw [if_neg (by assumption)] at q | rw [if_pos (by omega)] at q | rw [if_neg (by omega)] at q))
          first | exact absurd q (by assumption) | exact absurd q.1 (by assumption) | exact absurd q.2.1 (by assumption) | exact absurd q.2.2 (by assumption) | omega
        exact v_bret (pc := 92) E (by decide) (⟨_, rfl, by rw [bI_f hno], by unfold ce; rw [if_pos (by assumption)]; unfold aE; ((repeat (first | rw [if_pos (by assumption)] | rw [if_neg (by assumption)] | rw [if_pos (by omega)] | rw [if_neg (by omega)]))); ((repeat (first | rw [upd2_s] | rw [upd2_n (by omega)] | rw [hFn _ _ (by omega) (by omega)] | rw [hFy _ _ (by omega) (by omega)] | rw [hFv _ _ (by omega) (by omega)]))) <;> (first | rfl | exact hen | exact hey | exact hen.trans (by unfold nE; exact if_neg (by assumption)) | exact hev), fun q => absurd q hno, fun i z a b => by (repeat (first | rw [upd2_s] | rw [upd2_n (by omega)] | rw [hFn i z (by omega) (by omega)] | rw [hFy i z (by omega) (by omega)] | rw [hFv i z (by omega) (by omega)]))⟩) (Nat.le_of_ble_eq_true rfl) (Nat.le_of_ble_eq_true rfl) dX1_readCommand_92
    · skip
      by_cases hs13 : vb (G 102) (G 2 1) (G 2 2) = 1
      · skip
        refine v_table (pc := 28) (tgt := 122) (off := 94) (by omega) (by omega) (by omega) (by rw [hs13]; rfl) dX1_readCommand_28 (by decide) ?_
        skip
        refine v_aload_n (pc := 122) rfl dX1_readCommand_122 ?_
        by_cases hd14 : dg (G 102) (G 2 1) (vE (G 102) (G 2 1) (G 2 2))
        · skip
          refine v_callV (pc := 123) (rest := []) (c_X1_readDigit_t hSc1 hd14) iok_X1_readDigit wM_X1_52 (rfl) (by decide) (by decide) rfl (rmOk (by decide) (by decide)) ⟨Nat.le_of_ble_eq_true rfl, Nat.le_of_ble_eq_true rfl⟩ (Nat.le_of_ble_eq_true rfl) rfl dX1_readCommand_123 (fun v G' hq => ?_) (fun _ _ h => h.elim)
          obtain ⟨rfl, hG9⟩ := hq
          rw [hG9]
          refine v_stk (st' := [vI 1]) rfl ?_
          have hyes : cOk (G 102) (G 2 1) (G 2 2) := ⟨by assumption, by
            unfold aOk
            (repeat (first | rw [if_pos (by assumption)] | rw [if_neg (by assumption)] | rw [if_pos (by omega)] | rw [if_neg (by omega)]))
            first | assumption | exact ⟨by assumption, by assumption, by assumption⟩⟩
          exact v_bret (pc := 126) E (by decide) (⟨_, rfl, by rw [bI_t hyes], by unfold ce; rw [if_pos (by assumption)]; unfold aE; ((repeat (first | rw [if_pos (by assumption)] | rw [if_neg (by assumption)] | rw [if_pos (by omega)] | rw [if_neg (by omega)]))); ((repeat (first | rw [upd2_s] | rw [upd2_n (by omega)] | rw [hFn _ _ (by omega) (by omega)] | rw [hFy _ _ (by omega) (by omega)] | rw [hFv _ _ (by omega) (by omega)]))) <;> (first | rfl | exact hen | exact hey | exact hen.trans (by unfold nE; exact if_neg (by assumption)) | exact hev), fun _ => ⟨by ((repeat (first | rw [upd2_s] | rw [upd2_n (by omega)] | rw [hFn _ _ (by omega) (by omega)] | rw [hFy _ _ (by omega) (by omega)] | rw [hFv _ _ (by omega) (by omega)]))); exact hv1, by unfold cA aA; ((repeat (first | rw [if_pos (by assumption)] | rw [if_neg (by assumption)] | rw [if_pos (by omega)] | rw [if_neg (by omega)]))); ((repeat (first | rw [upd2_s] | rw [upd2_n (by omega)] | rw [hFn _ _ (by omega) (by omega)] | rw [hFy _ _ (by omega) (by omega)] | rw [hFv _ _ (by omega) (by omega)]))) <;> (first | rfl | exact han (by assumption) | exact hay (by assumption)), by unfold cB aB; ((repeat (first | rw [if_pos (by assumption)] | rw [if_neg (by assumption)] | rw [if_pos (by omega)] | rw [if_neg (by omega)]))); ((repeat (first | rw [upd2_s] | rw [upd2_n (by omega)] | rw [hFn _ _ (by omega) (by omega)] | rw [hFy _ _ (by omega) (by omega)] | rw [hFv _ _ (by omega) (by omega)]))) <;> rfl⟩, fun i z a b => by (repeat (first | rw [upd2_s] | rw [upd2_n (by omega)] | rw [hFn i z (by omega) (by omega)] | rw [hFy i z (by omega) (by omega)] | rw [hFv i z (by omega) (by omega)]))⟩) (Nat.le_of_ble_eq_true rfl) (Nat.le_of_ble_eq_true rfl) dX1_readCommand_126
        · skip
          refine v_callV (pc := 123) (rest := []) (c_X1_readDigit_f hSc1 hd14) iok_X1_readDigit wM_X1_52 (rfl) (by decide) (by decide) rfl (rmOk (by decide) (by decide)) ⟨Nat.le_of_ble_eq_true rfl, Nat.le_of_ble_eq_true rfl⟩ (Nat.le_of_ble_eq_true rfl) rfl dX1_readCommand_123 (fun v G' hq => ?_) (fun _ _ h => h.elim)
          obtain ⟨rfl, hG9⟩ := hq
          rw [hG9]
          refine v_stk (st' := [vI 0]) rfl ?_
          have hno : ¬ cOk (G 102) (G 2 1) (G 2 2) := fun q => by
            replace q := q.2
            unfold aOk at q
            (repeat (first | rw [if_pos (by assumption)] at q | rw [if_neg (by assumption)] at q | rw [if_pos (by omega)] at q | rw [if_neg (by omega)] at q))
            first | exact absurd q (by assumption) | exact absurd q.1 (by assumption) | exact absurd q.2.1 (by assumption) | exact absurd q.2.2 (by assumption) | omega
          exact v_bret (pc := 126) E (by decide) (⟨_, rfl, by rw [bI_f hno], by unfold ce; rw [if_pos (by assumption)]; unfold aE; ((repeat (first | rw [if_pos (by assumption)] | rw [if_neg (by assumption)] | rw [if_pos (by omega)] | rw [if_neg (by omega)]))); ((repeat (first | rw [upd2_s] | rw [upd2_n (by omega)] | rw [hFn _ _ (by omega) (by omega)] | rw [hFy _ _ (by omega) (by omega)] | rw [hFv _ _ (by omega) (by omega)]))) <;> (first | rfl | exact hen | exact hey | exact hen.trans (by unfold nE; exact if_neg (by assumption)) | exact hev), fun q => absurd q hno, fun i z a b => by (repeat (first | rw [upd2_s] | rw [upd2_n (by omega)] | rw [hFn i z (by omega) (by omega)] | rw [hFy i z (by omega) (by omega)] | rw [hFv i z (by omega) (by omega)]))⟩) (Nat.le_of_ble_eq_true rfl) (Nat.le_of_ble_eq_true rfl) dX1_readCommand_126
      · skip
        by_cases hs15 : vb (G 102) (G 2 1) (G 2 2) = 2
        · skip
          refine v_table (pc := 28) (tgt := 132) (off := 104) (by omega) (by omega) (by omega) (by rw [hs15]; rfl) dX1_readCommand_28 (by decide) ?_
          skip
          refine v_aload_n (pc := 132) rfl dX1_readCommand_132 ?_
          by_cases hd16 : dg (G 102) (G 2 1) (vE (G 102) (G 2 1) (G 2 2))
          · skip
            refine v_callV (pc := 133) (rest := []) (c_X1_readNumber hSc1) iok_X1_readNumber wM_X1_46 (rfl) (by decide) (by decide) rfl (rmOk (by decide) (by decide)) ⟨Nat.le_of_ble_eq_true rfl, Nat.le_of_ble_eq_true rfl⟩ (Nat.le_of_ble_eq_true rfl) rfl dX1_readCommand_133 (fun v G2 hq => ?_) (fun _ _ h => h.elim)
            obtain ⟨n, rfl, hqn⟩ := hq
            refine v_stk (st' := [vI n]) rfl ?_
            obtain ⟨hrn, hen, han, hFn⟩ := hqn
            rw [bI_t hd16] at hrn
            subst hrn
            have hSc2 : Sc G2 (G 102) (G 2 1) (nE (G 102) (G 2 1) (vE (G 102) (G 2 1) (G 2 2))) (G 2 3) := Sc_fr hSc1 (by omega) hen (fun i z a b => hFn i z a (by omega))
            have hc2 : G2 2 3 = G 2 3 := hSc2.2.2.2.1
            have hyes : cOk (G 102) (G 2 1) (G 2 2) := ⟨by assumption, by
              unfold aOk
              (repeat (first | rw [if_pos (by assumption)] | rw [if_neg (by assumption)] | rw [if_pos (by omega)] | rw [if_neg (by omega)]))
              first | assumption | exact ⟨by assumption, by assumption, by assumption⟩⟩
            exact v_bret (pc := 136) E (by decide) (⟨_, rfl, by rw [bI_t hyes], by unfold ce; rw [if_pos (by assumption)]; unfold aE; ((repeat (first | rw [if_pos (by assumption)] | rw [if_neg (by assumption)] | rw [if_pos (by omega)] | rw [if_neg (by omega)]))); ((repeat (first | rw [upd2_s] | rw [upd2_n (by omega)] | rw [hFn _ _ (by omega) (by omega)] | rw [hFy _ _ (by omega) (by omega)] | rw [hFv _ _ (by omega) (by omega)]))) <;> (first | rfl | exact hen | exact hey | exact hen.trans (by unfold nE; exact if_neg (by assumption)) | exact hev), fun _ => ⟨by ((repeat (first | rw [upd2_s] | rw [upd2_n (by omega)] | rw [hFn _ _ (by omega) (by omega)] | rw [hFy _ _ (by omega) (by omega)] | rw [hFv _ _ (by omega) (by omega)]))); exact hv1, by unfold cA aA; ((repeat (first | rw [if_pos (by assumption)] | rw [if_neg (by assumption)] | rw [if_pos (by omega)] | rw [if_neg (by omega)]))); ((repeat (first | rw [upd2_s] | rw [upd2_n (by omega)] | rw [hFn _ _ (by omega) (by omega)] | rw [hFy _ _ (by omega) (by omega)] | rw [hFv _ _ (by omega) (by omega)]))) <;> (first | rfl | exact han (by assumption) | exact hay (by assumption)), by unfold cB aB; ((repeat (first | rw [if_pos (by assumption)] | rw [if_neg (by assumption)] | rw [if_pos (by omega)] | rw [if_neg (by omega)]))); ((repeat (first | rw [upd2_s] | rw [upd2_n (by omega)] | rw [hFn _ _ (by omega) (by omega)] | rw [hFy _ _ (by omega) (by omega)] | rw [hFv _ _ (by omega) (by omega)]))) <;> rfl⟩, fun i z a b => by (repeat (first | rw [upd2_s] | rw [upd2_n (by omega)] | rw [hFn i z (by omega) (by omega)] | rw [hFy i z (by omega) (by omega)] | rw [hFv i z (by omega) (by omega)]))⟩) (Nat.le_of_ble_eq_true rfl) (Nat.le_of_ble_eq_true rfl) dX1_readCommand_136
          · skip
            refine v_callV (pc := 133) (rest := []) (c_X1_readNumber hSc1) iok_X1_readNumber wM_X1_46 (rfl) (by decide) (by decide) rfl (rmOk (by decide) (by decide)) ⟨Nat.le_of_ble_eq_true rfl, Nat.le_of_ble_eq_true rfl⟩ (Nat.le_of_ble_eq_true rfl) rfl dX1_readCommand_133 (fun v G2 hq => ?_) (fun _ _ h => h.elim)
            obtain ⟨n, rfl, hqn⟩ := hq
            refine v_stk (st' := [vI n]) rfl ?_
            obtain ⟨hrn, hen, han, hFn⟩ := hqn
            rw [bI_f hd16] at hrn
            subst hrn
            have hSc2 : Sc G2 (G 102) (G 2 1) (nE (G 102) (G 2 1) (vE (G 102) (G 2 1) (G 2 2))) (G 2 3) := Sc_fr hSc1 (by omega) hen (fun i z a b => hFn i z a (by omega))
            have hc2 : G2 2 3 = G 2 3 := hSc2.2.2.2.1
            have hno : ¬ cOk (G 102) (G 2 1) (G 2 2) := fun q => by
              replace q := q.2
              unfold aOk at q
              (repeat (first | rw [if_pos (by assumption)] at q | rw [if_neg (by assumption)] at q | rw [if_pos (by omega)] at q | rw [if_neg (by omega)] at q))
              first | exact absurd q (by assumption) | exact absurd q.1 (by assumption) | exact absurd q.2.1 (by assumption) | exact absurd q.2.2 (by assumption) | omega
            exact v_bret (pc := 136) E (by decide) (⟨_, rfl, by rw [bI_f hno], by unfold ce; rw [if_pos (by assumption)]; unfold aE; ((repeat (first | rw [if_pos (by assumption)] | rw [if_neg (by assumption)] | rw [if_pos (by omega)] | rw [if_neg (by omega)]))); ((repeat (first | rw [upd2_s] | rw [upd2_n (by omega)] | rw [hFn _ _ (by omega) (by omega)] | rw [hFy _ _ (by omega) (by omega)] | rw [hFv _ _ (by omega) (by omega)]))) <;> (first | rfl | exact hen | exact hey | exact hen.trans (by unfold nE; exact if_neg (by assumption)) | exact hev), fun q => absurd q hno, fun i z a b => by (repeat (first | rw [upd2_s] | rw [upd2_n (by omega)] | rw [hFn i z (by omega) (by omega)] | rw [hFy i z (by omega) (by omega)] | rw [hFv i z (by omega) (by omega)]))⟩) (Nat.le_of_ble_eq_true rfl) (Nat.le_of_ble_eq_true rfl) dX1_readCommand_136
        · skip
          by_cases hs17 : vb (G 102) (G 2 1) (G 2 2) = 3
          · skip
            refine v_table (pc := 28) (tgt := 93) (off := 65) (by omega) (by omega) (by omega) (by rw [hs17]; rfl) dX1_readCommand_28 (by decide) ?_
            skip
            refine v_aload_n (pc := 93) rfl dX1_readCommand_93 ?_
            by_cases hd18 : dg (G 102) (G 2 1) (vE (G 102) (G 2 1) (G 2 2))
            · skip
              refine v_callV (pc := 94) (rest := []) (c_X1_readDigit_t hSc1 hd18) iok_X1_readDigit wM_X1_52 (rfl) (by decide) (by decide) rfl (rmOk (by decide) (by decide)) ⟨Nat.le_of_ble_eq_true rfl, Nat.le_of_ble_eq_true rfl⟩ (Nat.le_of_ble_eq_true rfl) rfl dX1_readCommand_94 (fun v G' hq => ?_) (fun _ _ h => h.elim)
              obtain ⟨rfl, hG9⟩ := hq
              rw [hG9]
              refine v_stk (st' := [vI 1]) rfl ?_
              refine v_if_eq (pc := 97) (tgt := 120) (by omega) dX1_readCommand_97 (by decide) (fun h19 => absurd h19 (by decide)) (fun _ => ?_)
              refine v_aload_n (pc := 100) rfl dX1_readCommand_100 ?_
              refine v_bipush (pc := 101) (z := 32) rfl dX1_readCommand_101 ?_
              by_cases hd20 : sg (G 102) (G 2 1) ((vE (G 102) (G 2 1) (G 2 2)) + 1) 32
              · skip
                refine v_callV (pc := 103) (rest := []) (c_X1_readSign_t (Sc_row (i := 104) (z := G 2 3) (v := G 102 (vE (G 102) (G 2 1) (G 2 2)) - 48) (Sc_pos (e := (vE (G 102) (G 2 1) (G 2 2)) + 1) hSc1 (by omega)) (by decide)) (by decide) hd20) iok_X1_readSign wM_X1_39 (rfl) (by decide) (by decide) rfl (rmOk (by decide) (by decide)) ⟨Nat.le_of_ble_eq_true rfl, Nat.le_of_ble_eq_true rfl⟩ (Nat.le_of_ble_eq_true rfl) rfl dX1_readCommand_103 (fun v G' hq => ?_) (fun _ _ h => h.elim)
                obtain ⟨rfl, hG9⟩ := hq
                rw [hG9]
                refine v_stk (st' := [vI 1]) rfl ?_
                refine v_if_eq (pc := 106) (tgt := 120) (by omega) dX1_readCommand_106 (by decide) (fun h21 => absurd h21 (by decide)) (fun _ => ?_)
                refine v_aload_n (pc := 109) rfl dX1_readCommand_109 ?_
                by_cases hd22 : dg (G 102) (G 2 1) ((vE (G 102) (G 2 1) (G 2 2)) + 1 + 1)
                · skip
                  refine v_callV (pc := 110) (rest := []) (c_X1_readSecond_t (Sc_pos (e := (vE (G 102) (G 2 1) (G 2 2)) + 1 + 1) (Sc_row (i := 104) (z := G 2 3) (v := G 102 (vE (G 102) (G 2 1) (G 2 2)) - 48) (Sc_pos (e := (vE (G 102) (G 2 1) (G 2 2)) + 1) hSc1 (by omega)) (by decide)) (by omega)) hd22) iok_X1_readSecond wM_X1_49 (rfl) (by decide) (by decide) rfl (rmOk (by decide) (by decide)) ⟨Nat.le_of_ble_eq_true rfl, Nat.le_of_ble_eq_true rfl⟩ (Nat.le_of_ble_eq_true rfl) rfl dX1_readCommand_110 (fun v G' hq => ?_) (fun _ _ h => h.elim)
                  obtain ⟨rfl, hG9⟩ := hq
                  rw [hG9]
                  refine v_stk (st' := [vI 1]) rfl ?_
                  refine v_if_eq (pc := 113) (tgt := 120) (by omega) dX1_readCommand_113 (by decide) (fun h23 => absurd h23 (by decide)) (fun _ => ?_)
                  refine v_iconst (pc := 116) (z := 1) dX1_readCommand_116 ?_
                  refine v_goto (pc := 117) (tgt := 121) dX1_readCommand_117 (by decide) ?_
                  have hyes : cOk (G 102) (G 2 1) (G 2 2) := ⟨by assumption, by
                    unfold aOk
                    (repeat (first | rw [if_pos (by assumption)] | rw [if_neg (by assumption)] | rw [if_pos (by omega)] | rw [if_neg (by omega)]))
                    first | assumption | exact ⟨by assumption, by assumption, by assumption⟩⟩
                  exact v_bret (pc := 121) E (by decide) (⟨_, rfl, by rw [bI_t hyes], by unfold ce; rw [if_pos (by assumption)]; unfold aE; ((repeat (first | rw [if_pos (by assumption)] | rw [if_neg (by assumption)] | rw [if_pos (by omega)] | rw [if_neg (by omega)]))); ((repeat (first | rw [upd2_s] | rw [upd2_n (by omega)] | rw [hFn _ _ (by omega) (by omega)] | rw [hFy _ _ (by omega) (by omega)] | rw [hFv _ _ (by omega) (by omega)]))) <;> (first | rfl | exact hen | exact hey | exact hen.trans (by unfold nE; exact if_neg (by assumption)) | exact hev), fun _ => ⟨by ((repeat (first | rw [upd2_s] | rw [upd2_n (by omega)] | rw [hFn _ _ (by omega) (by omega)] | rw [hFy _ _ (by omega) (by omega)] | rw [hFv _ _ (by omega) (by omega)]))); exact hv1, by unfold cA aA; ((repeat (first | rw [if_pos (by assumption)] | rw [if_neg (by assumption)] | rw [if_pos (by omega)] | rw [if_neg (by omega)]))); ((repeat (first | rw [upd2_s] | rw [upd2_n (by omega)] | rw [hFn _ _ (by omega) (by omega)] | rw [hFy _ _ (by omega) (by omega)] | rw [hFv _ _ (by omega) (by omega)]))) <;> (first | rfl | exact han (by assumption) | exact hay (by assumption)), by unfold cB aB; ((repeat (first | rw [if_pos (by assumption)] | rw [if_neg (by assumption)] | rw [if_pos (by omega)] | rw [if_neg (by omega)]))); ((repeat (first | rw [upd2_s] | rw [upd2_n (by omega)] | rw [hFn _ _ (by omega) (by omega)] | rw [hFy _ _ (by omega) (by omega)] | rw [hFv _ _ (by omega) (by omega)]))) <;> rfl⟩, fun i z a b => by (repeat (first | rw [upd2_s] | rw [upd2_n (by omega)] | rw [hFn i z (by omega) (by omega)] | rw [hFy i z (by omega) (by omega)] | rw [hFv i z (by omega) (by omega)]))⟩) (Nat.le_of_ble_eq_true rfl) (Nat.le_of_ble_eq_true rfl) dX1_readCommand_121
                · skip
                  refine v_callV (pc := 110) (rest := []) (c_X1_readSecond_f (Sc_pos (e := (vE (G 102) (G 2 1) (G 2 2)) + 1 + 1) (Sc_row (i := 104) (z := G 2 3) (v := G 102 (vE (G 102) (G 2 1) (G 2 2)) - 48) (Sc_pos (e := (vE (G 102) (G 2 1) (G 2 2)) + 1) hSc1 (by omega)) (by decide)) (by omega)) hd22) iok_X1_readSecond wM_X1_49 (rfl) (by decide) (by decide) rfl (rmOk (by decide) (by decide)) ⟨Nat.le_of_ble_eq_true rfl, Nat.le_of_ble_eq_true rfl⟩ (Nat.le_of_ble_eq_true rfl) rfl dX1_readCommand_110 (fun v G' hq => ?_) (fun _ _ h => h.elim)
                  obtain ⟨rfl, hG9⟩ := hq
                  rw [hG9]
                  refine v_stk (st' := [vI 0]) rfl ?_
                  refine v_if_eq (pc := 113) (tgt := 120) (by omega) dX1_readCommand_113 (by decide) (fun _ => ?_) (fun h24 => absurd h24 (by decide))
                  refine v_iconst (pc := 120) (z := 0) dX1_readCommand_120 ?_
                  have hno : ¬ cOk (G 102) (G 2 1) (G 2 2) := fun q => by
                    replace q := q.2
                    unfold aOk at q
                    (repeat (first | rw [if_pos (by assumption)] at q | rw [if_neg (by assumption)] at q | rw [if_pos (by omega)] at q | rw [if_neg (by omega)] at q))
                    first | exact absurd q (by assumption) | exact absurd q.1 (by assumption) | exact absurd q.2.1 (by assumption) | exact absurd q.2.2 (by assumption) | omega
                  exact v_bret (pc := 121) E (by decide) (⟨_, rfl, by rw [bI_f hno], by unfold ce; rw [if_pos (by assumption)]; unfold aE; ((repeat (first | rw [if_pos (by assumption)] | rw [if_neg (by assumption)] | rw [if_pos (by omega)] | rw [if_neg (by omega)]))); ((repeat (first | rw [upd2_s] | rw [upd2_n (by omega)] | rw [hFn _ _ (by omega) (by omega)] | rw [hFy _ _ (by omega) (by omega)] | rw [hFv _ _ (by omega) (by omega)]))) <;> (first | rfl | exact hen | exact hey | exact hen.trans (by unfold nE; exact if_neg (by assumption)) | exact hev), fun q => absurd q hno, fun i z a b => by (repeat (first | rw [upd2_s] | rw [upd2_n (by omega)] | rw [hFn i z (by omega) (by omega)] | rw [hFy i z (by omega) (by omega)] | rw [hFv i z (by omega) (by omega)]))⟩) (Nat.le_of_ble_eq_true rfl) (Nat.le_of_ble_eq_true rfl) dX1_readCommand_121
              · skip
                refine v_callV (pc := 103) (rest := []) (c_X1_readSign_f (Sc_row (i := 104) (z := G 2 3) (v := G 102 (vE (G 102) (G 2 1) (G 2 2)) - 48) (Sc_pos (e := (vE (G 102) (G 2 1) (G 2 2)) + 1) hSc1 (by omega)) (by decide)) (by decide) hd20) iok_X1_readSign wM_X1_39 (rfl) (by decide) (by decide) rfl (rmOk (by decide) (by decide)) ⟨Nat.le_of_ble_eq_true rfl, Nat.le_of_ble_eq_true rfl⟩ (Nat.le_of_ble_eq_true rfl) rfl dX1_readCommand_103 (fun v G' hq => ?_) (fun _ _ h => h.elim)
                obtain ⟨rfl, hG9⟩ := hq
                rw [hG9]
                refine v_stk (st' := [vI 0]) rfl ?_
                refine v_if_eq (pc := 106) (tgt := 120) (by omega) dX1_readCommand_106 (by decide) (fun _ => ?_) (fun h25 => absurd h25 (by decide))
                refine v_iconst (pc := 120) (z := 0) dX1_readCommand_120 ?_
                have hno : ¬ cOk (G 102) (G 2 1) (G 2 2) := fun q => by
                  replace q := q.2
                  unfold aOk at q
                  (repeat (first | rw [if_pos (by assumption)] at q | rw [if_neg (by assumption)] at q | rw [if_pos (by omega)] at q | rw [if_neg (by omega)] at q))
                  first | exact absurd q (by assumption) | exact absurd q.1 (by assumption) | exact absurd q.2.1 (by assumption) | exact absurd q.2.2 (by assumption) | omega
                exact v_bret (pc := 121) E (by decide) (⟨_, rfl, by rw [bI_f hno], by unfold ce; rw [if_pos (by assumption)]; unfold aE; ((repeat (first | rw [if_pos (by assumption)] | rw [if_neg (by assumption)] | rw [if_pos (by omega)] | rw [if_neg (by omega)]))); ((repeat (first | rw [upd2_s] | rw [upd2_n (by omega)] | rw [hFn _ _ (by omega) (by omega)] | rw [hFy _ _ (by omega) (by omega)] | rw [hFv _ _ (by omega) (by omega)]))) <;> (first | rfl | exact hen | exact hey | exact hen.trans (by unfold nE; exact if_neg (by assumption)) | exact hev), fun q => absurd q hno, fun i z a b => by (repeat (first | rw [upd2_s] | rw [upd2_n (by omega)] | rw [hFn i z (by omega) (by omega)] | rw [hFy i z (by omega) (by omega)] | rw [hFv i z (by omega) (by omega)]))⟩) (Nat.le_of_ble_eq_true rfl) (Nat.le_of_ble_eq_true rfl) dX1_readCommand_121
            · skip
              refine v_callV (pc := 94) (rest := []) (c_X1_readDigit_f hSc1 hd18) iok_X1_readDigit wM_X1_52 (rfl) (by decide) (by decide) rfl (rmOk (by decide) (by decide)) ⟨Nat.le_of_ble_eq_true rfl, Nat.le_of_ble_eq_true rfl⟩ (Nat.le_of_ble_eq_true rfl) rfl dX1_readCommand_94 (fun v G' hq => ?_) (fun _ _ h => h.elim)
              obtain ⟨rfl, hG9⟩ := hq
              rw [hG9]
              refine v_stk (st' := [vI 0]) rfl ?_
              refine v_if_eq (pc := 97) (tgt := 120) (by omega) dX1_readCommand_97 (by decide) (fun _ => ?_) (fun h26 => absurd h26 (by decide))
              refine v_iconst (pc := 120) (z := 0) dX1_readCommand_120 ?_
              have hno : ¬ cOk (G 102) (G 2 1) (G 2 2) := fun q => by
                replace q := q.2
                unfold aOk at q
                (repeat (first | rw [if_pos (by assumption)] at q | rw [if_neg (by assumption)] at q | rw [if_pos (by omega)] at q | rw [if_neg (by omega)] at q))
                first | exact absurd q (by assumption) | exact absurd q.1 (by assumption) | exact absurd q.2.1 (by assumption) | exact absurd q.2.2 (by assumption) | omega
              exact v_bret (pc := 121) E (by decide) (⟨_, rfl, by rw [bI_f hno], by unfold ce; rw [if_pos (by assumption)]; unfold aE; ((repeat (first | rw [if_pos (by assumption)] | rw [if_neg (by assumption)] | rw [if_pos (by omega)] | rw [if_neg (by omega)]))); ((repeat (first | rw [upd2_s] | rw [upd2_n (by omega)] | rw [hFn _ _ (by omega) (by omega)] | rw [hFy _ _ (by omega) (by omega)] | rw [hFv _ _ (by omega) (by omega)]))) <;> (first | rfl | exact hen | exact hey | exact hen.trans (by unfold nE; exact if_neg (by assumption)) | exact hev), fun q => absurd q hno, fun i z a b => by (repeat (first | rw [upd2_s] | rw [upd2_n (by omega)] | rw [hFn i z (by omega) (by omega)] | rw [hFy i z (by omega) (by omega)] | rw [hFv i z (by omega) (by omega)]))⟩) (Nat.le_of_ble_eq_true rfl) (Nat.le_of_ble_eq_true rfl) dX1_readCommand_121
          · skip
            by_cases hs27 : vb (G 102) (G 2 1) (G 2 2) = 4
            · skip
              refine v_table (pc := 28) (tgt := 127) (off := 99) (by omega) (by omega) (by omega) (by rw [hs27]; rfl) dX1_readCommand_28 (by decide) ?_
              skip
              refine v_aload_n (pc := 127) rfl dX1_readCommand_127 ?_
              by_cases hd28 : (sg (G 102) (G 2 1) (vE (G 102) (G 2 1) (G 2 2)) 32 → dg (G 102) (G 2 1) ((vE (G 102) (G 2 1) (G 2 2)) + 1))
              · skip
                refine v_callV (pc := 128) (rest := []) (c_X1_readYears hSc1) iok_X1_readYears wM_X1_55 (rfl) (by decide) (by decide) rfl (rmOk (by decide) (by decide)) ⟨Nat.le_of_ble_eq_true rfl, Nat.le_of_ble_eq_true rfl⟩ (Nat.le_of_ble_eq_true rfl) rfl dX1_readCommand_128 (fun v G2 hq => ?_) (fun _ _ h => h.elim)
                obtain ⟨y, rfl, hqy⟩ := hq
                refine v_stk (st' := [vI y]) rfl ?_
                obtain ⟨hry, hey, hay, hFy⟩ := hqy
                rw [bI_t hd28] at hry
                subst hry
                have hyes : cOk (G 102) (G 2 1) (G 2 2) := ⟨by assumption, by
                  unfold aOk
                  (repeat (first | rw [if_pos (by assumption)] | rw [if_neg (by assumption)] | rw [if_pos (by omega)] | rw [if_neg (by omega)]))
                  first | assumption | exact ⟨by assumption, by assumption, by assumption⟩⟩
                exact v_bret (pc := 131) E (by decide) (⟨_, rfl, by rw [bI_t hyes], by unfold ce; rw [if_pos (by assumption)]; unfold aE; ((repeat (first | rw [if_pos (by assumption)] | rw [if_neg (by assumption)] | rw [if_pos (by omega)] | rw [if_neg (by omega)]))); ((repeat (first | rw [upd2_s] | rw [upd2_n (by omega)] | rw [hFn _ _ (by omega) (by omega)] | rw [hFy _ _ (by omega) (by omega)] | rw [hFv _ _ (by omega) (by omega)]))) <;> (first | rfl | exact hen | exact hey | exact hen.trans (by unfold nE; exact if_neg (by assumption)) | exact hev), fun _ => ⟨by ((repeat (first | rw [upd2_s] | rw [upd2_n (by omega)] | rw [hFn _ _ (by omega) (by omega)] | rw [hFy _ _ (by omega) (by omega)] | rw [hFv _ _ (by omega) (by omega)]))); exact hv1, by unfold cA aA; ((repeat (first | rw [if_pos (by assumption)] | rw [if_neg (by assumption)] | rw [if_pos (by omega)] | rw [if_neg (by omega)]))); ((repeat (first | rw [upd2_s] | rw [upd2_n (by omega)] | rw [hFn _ _ (by omega) (by omega)] | rw [hFy _ _ (by omega) (by omega)] | rw [hFv _ _ (by omega) (by omega)]))) <;> (first | rfl | exact han (by assumption) | exact hay (by assumption)), by unfold cB aB; ((repeat (first | rw [if_pos (by assumption)] | rw [if_neg (by assumption)] | rw [if_pos (by omega)] | rw [if_neg (by omega)]))); ((repeat (first | rw [upd2_s] | rw [upd2_n (by omega)] | rw [hFn _ _ (by omega) (by omega)] | rw [hFy _ _ (by omega) (by omega)] | rw [hFv _ _ (by omega) (by omega)]))) <;> rfl⟩, fun i z a b => by (repeat (first | rw [upd2_s] | rw [upd2_n (by omega)] | rw [hFn i z (by omega) (by omega)] | rw [hFy i z (by omega) (by omega)] | rw [hFv i z (by omega) (by omega)]))⟩) (Nat.le_of_ble_eq_true rfl) (Nat.le_of_ble_eq_true rfl) dX1_readCommand_131
              · skip
                refine v_callV (pc := 128) (rest := []) (c_X1_readYears hSc1) iok_X1_readYears wM_X1_55 (rfl) (by decide) (by decide) rfl (rmOk (by decide) (by decide)) ⟨Nat.le_of_ble_eq_true rfl, Nat.le_of_ble_eq_true rfl⟩ (Nat.le_of_ble_eq_true rfl) rfl dX1_readCommand_128 (fun v G2 hq => ?_) (fun _ _ h => h.elim)
                obtain ⟨y, rfl, hqy⟩ := hq
                refine v_stk (st' := [vI y]) rfl ?_
                obtain ⟨hry, hey, hay, hFy⟩ := hqy
                rw [bI_f hd28] at hry
                subst hry
                have hno : ¬ cOk (G 102) (G 2 1) (G 2 2) := fun q => by
                  replace q := q.2
                  unfold aOk at q
                  (repeat (first | rw [if_pos (by assumption)] at q | rw [if_neg (by assumption)] at q | rw [if_pos (by omega)] at q | rw [if_neg (by omega)] at q))
                  first | exact absurd q (by assumption) | exact absurd q.1 (by assumption) | exact absurd q.2.1 (by assumption) | exact absurd q.2.2 (by assumption) | omega
                exact v_bret (pc := 131) E (by decide) (⟨_, rfl, by rw [bI_f hno], by unfold ce; rw [if_pos (by assumption)]; unfold aE; ((repeat (first | rw [if_pos (by assumption)] | rw [if_neg (by assumption)] | rw [if_pos (by omega)] | rw [if_neg (by omega)]))); ((repeat (first | rw [upd2_s] | rw [upd2_n (by omega)] | rw [hFn _ _ (by omega) (by omega)] | rw [hFy _ _ (by omega) (by omega)] | rw [hFv _ _ (by omega) (by omega)]))) <;> (first | rfl | exact hen | exact hey | exact hen.trans (by unfold nE; exact if_neg (by assumption)) | exact hev), fun q => absurd q hno, fun i z a b => by (repeat (first | rw [upd2_s] | rw [upd2_n (by omega)] | rw [hFn i z (by omega) (by omega)] | rw [hFy i z (by omega) (by omega)] | rw [hFv i z (by omega) (by omega)]))⟩) (Nat.le_of_ble_eq_true rfl) (Nat.le_of_ble_eq_true rfl) dX1_readCommand_131
            · skip
              refine v_tabled (pc := 28) (tgt := 132) (by omega) (by omega) dX1_readCommand_28 (by decide) ?_
              skip
              refine v_aload_n (pc := 132) rfl dX1_readCommand_132 ?_
              by_cases hd29 : dg (G 102) (G 2 1) (vE (G 102) (G 2 1) (G 2 2))
              · skip
                refine v_callV (pc := 133) (rest := []) (c_X1_readNumber hSc1) iok_X1_readNumber wM_X1_46 (rfl) (by decide) (by decide) rfl (rmOk (by decide) (by decide)) ⟨Nat.le_of_ble_eq_true rfl, Nat.le_of_ble_eq_true rfl⟩ (Nat.le_of_ble_eq_true rfl) rfl dX1_readCommand_133 (fun v G2 hq => ?_) (fun _ _ h => h.elim)
                obtain ⟨n, rfl, hqn⟩ := hq
                refine v_stk (st' := [vI n]) rfl ?_
                obtain ⟨hrn, hen, han, hFn⟩ := hqn
                rw [bI_t hd29] at hrn
                subst hrn
                have hSc2 : Sc G2 (G 102) (G 2 1) (nE (G 102) (G 2 1) (vE (G 102) (G 2 1) (G 2 2))) (G 2 3) := Sc_fr hSc1 (by omega) hen (fun i z a b => hFn i z a (by omega))
                have hc2 : G2 2 3 = G 2 3 := hSc2.2.2.2.1
                have hyes : cOk (G 102) (G 2 1) (G 2 2) := ⟨by assumption, by
                  unfold aOk
                  (repeat (first | rw [if_pos (by assumption)] | rw [if_neg (by assumption)] | rw [if_pos (by omega)] | rw [if_neg (by omega)]))
                  first | assumption | exact ⟨by assumption, by assumption, by assumption⟩⟩
                exact v_bret (pc := 136) E (by decide) (⟨_, rfl, by rw [bI_t hyes], by unfold ce; rw [if_pos (by assumption)]; unfold aE; ((repeat (first | rw [if_pos (by assumption)] | rw [if_neg (by assumption)] | rw [if_pos (by omega)] | rw [if_neg (by omega)]))); ((repeat (first | rw [upd2_s] | rw [upd2_n (by omega)] | rw [hFn _ _ (by omega) (by omega)] | rw [hFy _ _ (by omega) (by omega)] | rw [hFv _ _ (by omega) (by omega)]))) <;> (first | rfl | exact hen | exact hey | exact hen.trans (by unfold nE; exact if_neg (by assumption)) | exact hev), fun _ => ⟨by ((repeat (first | rw [upd2_s] | rw [upd2_n (by omega)] | rw [hFn _ _ (by omega) (by omega)] | rw [hFy _ _ (by omega) (by omega)] | rw [hFv _ _ (by omega) (by omega)]))); exact hv1, by unfold cA aA; ((repeat (first | rw [if_pos (by assumption)] | rw [if_neg (by assumption)] | rw [if_pos (by omega)] | rw [if_neg (by omega)]))); ((repeat (first | rw [upd2_s] | rw [upd2_n (by omega)] | rw [hFn _ _ (by omega) (by omega)] | rw [hFy _ _ (by omega) (by omega)] | rw [hFv _ _ (by omega) (by omega)]))) <;> (first | rfl | exact han (by assumption) | exact hay (by assumption)), by unfold cB aB; ((repeat (first | rw [if_pos (by assumption)] | rw [if_neg (by assumption)] | rw [if_pos (by omega)] | rw [if_neg (by omega)]))); ((repeat (first | rw [upd2_s] | rw [upd2_n (by omega)] | rw [hFn _ _ (by omega) (by omega)] | rw [hFy _ _ (by omega) (by omega)] | rw [hFv _ _ (by omega) (by omega)]))) <;> rfl⟩, fun i z a b => by (repeat (first | rw [upd2_s] | rw [upd2_n (by omega)] | rw [hFn i z (by omega) (by omega)] | rw [hFy i z (by omega) (by omega)] | rw [hFv i z (by omega) (by omega)]))⟩) (Nat.le_of_ble_eq_true rfl) (Nat.le_of_ble_eq_true rfl) dX1_readCommand_136
              · skip
                refine v_callV (pc := 133) (rest := []) (c_X1_readNumber hSc1) iok_X1_readNumber wM_X1_46 (rfl) (by decide) (by decide) rfl (rmOk (by decide) (by decide)) ⟨Nat.le_of_ble_eq_true rfl, Nat.le_of_ble_eq_true rfl⟩ (Nat.le_of_ble_eq_true rfl) rfl dX1_readCommand_133 (fun v G2 hq => ?_) (fun _ _ h => h.elim)
                obtain ⟨n, rfl, hqn⟩ := hq
                refine v_stk (st' := [vI n]) rfl ?_
                obtain ⟨hrn, hen, han, hFn⟩ := hqn
                rw [bI_f hd29] at hrn
                subst hrn
                have hSc2 : Sc G2 (G 102) (G 2 1) (nE (G 102) (G 2 1) (vE (G 102) (G 2 1) (G 2 2))) (G 2 3) := Sc_fr hSc1 (by omega) hen (fun i z a b => hFn i z a (by omega))
                have hc2 : G2 2 3 = G 2 3 := hSc2.2.2.2.1
                have hno : ¬ cOk (G 102) (G 2 1) (G 2 2) := fun q => by
                  replace q := q.2
                  unfold aOk at q
                  (repeat (first | rw [if_pos (by assumption)] at q | rw [if_neg (by assumption)] at q | rw [if_pos (by omega)] at q | rw [if_neg (by omega)] at q))
                  first | exact absurd q (by assumption) | exact absurd q.1 (by assumption) | exact absurd q.2.1 (by assumption) | exact absurd q.2.2 (by assumption) | omega
                exact v_bret (pc := 136) E (by decide) (⟨_, rfl, by rw [bI_f hno], by unfold ce; rw [if_pos (by assumption)]; unfold aE; ((repeat (first | rw [if_pos (by assumption)] | rw [if_neg (by assumption)] | rw [if_pos (by omega)] | rw [if_neg (by omega)]))); ((repeat (first | rw [upd2_s] | rw [upd2_n (by omega)] | rw [hFn _ _ (by omega) (by omega)] | rw [hFy _ _ (by omega) (by omega)] | rw [hFv _ _ (by omega) (by omega)]))) <;> (first | rfl | exact hen | exact hey | exact hen.trans (by unfold nE; exact if_neg (by assumption)) | exact hev), fun q => absurd q hno, fun i z a b => by (repeat (first | rw [upd2_s] | rw [upd2_n (by omega)] | rw [hFn i z (by omega) (by omega)] | rw [hFy i z (by omega) (by omega)] | rw [hFv i z (by omega) (by omega)]))⟩) (Nat.le_of_ble_eq_true rfl) (Nat.le_of_ble_eq_true rfl) dX1_readCommand_136
  · skip
    refine v_callV (pc := 11) (rest := []) (c_X1_readVerb hSc0) iok_X1_readVerb wM_X1_43 (rfl) (by decide) (by decide) rfl (rmOk (by decide) (by decide)) ⟨Nat.le_of_ble_eq_true rfl, Nat.le_of_ble_eq_true rfl⟩ (Nat.le_of_ble_eq_true rfl) rfl dX1_readCommand_11 (fun v G1 hq => ?_) (fun _ _ h => h.elim)
    obtain ⟨v, rfl, hqv⟩ := hq
    refine v_stk (st' := [vI v]) rfl ?_
    obtain ⟨hrv, hev, hav, hFv⟩ := hqv
    rw [bI_f hd1] at hrv
    subst hrv
    have hSc1 : Sc G1 (G 102) (G 2 1) (vE (G 102) (G 2 1) (G 2 2)) (G 2 3) := Sc_fr hSc0 (by omega) hev (fun i z a b => hFv i z a (by omega))
    have hc1 : G1 2 3 = G 2 3 := hSc1.2.2.2.1
    refine v_if_ne (pc := 14) (tgt := 19) (by omega) dX1_readCommand_14 (by decide) (fun h30 => absurd h30 (by decide)) (fun _ => ?_)
    refine v_iconst (pc := 17) (z := 0) dX1_readCommand_17 ?_
    skip
    exact v_bret (pc := 18) E (by decide) (⟨_, rfl, by rw [bI_f (fun q => absurd q.1 (by assumption))], by unfold ce; rw [if_neg (by assumption)]; exact hev, fun q => absurd q.1 (by assumption), fun i z a b => by (repeat (first | rw [upd2_s] | rw [upd2_n (by omega)] | rw [hFn i z (by omega) (by omega)] | rw [hFy i z (by omega) (by omega)] | rw [hFv i z (by omega) (by omega)]))⟩) (Nat.le_of_ble_eq_true rfl) (Nat.le_of_ble_eq_true rfl) dX1_readCommand_18
