-- the model's commands
/-- its letters, where its words begin -/
def McL (G : Mem) : Prop := (∀ k : Nat, k < 7 → G 117 ((k : Int) + 1) - G 117 k = wlK k ∧ 0 ≤ G 117 k ∧ G 117 k + wlK k ≤ 39) ∧ ∀ k : Nat, k < 7 → ∀ m, 0 ≤ m → m < wlK k → G 116 (G 117 k + m) = wcK k m
theorem lk_1 {S : Int → Int} {n p : Int} {k : Nat} (hk : k < 7) (h : 1 ≤ lk S n p k) : p < n ∧ S p = wcK k 0 := by
  have hw := wlK_r k hk
  have e := lkF_s (S := S) (n := n) (p := p) (k := k) (m := 0) (by omega)
  rw [show wlK k - 0 = wlK k by omega] at e
  unfold lk at h
  rw [e] at h
  by_cases q : p + 0 < n ∧ S (p + 0) = wcK k 0
  · rw [Int.add_zero] at q; exact q
  · rw [if_neg q] at h; omega
theorem lk_2 {S : Int → Int} {n p : Int} {k : Nat} (hk : k < 7) (h : 2 ≤ lk S n p k) : S (p + 1) = wcK k 1 := by
  have hw := wlK_r k hk
  have e := lkF_s (S := S) (n := n) (p := p) (k := k) (m := 0) (by omega)
  have e1 := lkF_s (S := S) (n := n) (p := p) (k := k) (m := 0 + 1) (by omega)
  rw [show wlK k - 0 = wlK k by omega] at e
  unfold lk at h
  rw [e] at h
  by_cases q : p + 0 < n ∧ S (p + 0) = wcK k 0
  · rw [if_pos q, e1] at h
    by_cases q1 : p + (0 + 1) < n ∧ S (p + (0 + 1)) = wcK k (0 + 1)
    · exact q1.2
    · rw [if_neg q1] at h; omega
  · rw [if_neg q] at h; omega
theorem wc_ne : ∀ j : Nat, j < 7 → ∀ k : Nat, k < 7 → j ≠ k → wcK j 0 ≠ wcK k 0 ∨ wcK j 1 ≠ wcK k 1 := by decide +kernel
/-- a word that stands there whole is like the text as no other is -/
theorem lk_best {S : Int → Int} {n p : Int} {j k : Nat} (hj : j < 7) (hk : k < 7) (hne : j ≠ k) (h : lk S n p k = wlK k) : lk S n p j < lk S n p k := by
  have hw := wlK_r k hk
  refine Int.not_le.mp fun q => ?_
  have a := lk_1 hj (show 1 ≤ lk S n p j by omega)
  have b := lk_1 hk (show 1 ≤ lk S n p k by omega)
  have c := lk_2 hj (show 2 ≤ lk S n p j by omega)
  have d := lk_2 hk (show 2 ≤ lk S n p k by omega)
  rcases wc_ne j hj k hk hne with e | e
  · exact e (a.2.symm.trans b.2)
  · exact e (c.symm.trans d)
theorem vbF_no {S : Int → Int} {n p : Int} : ∀ f k : Nat, f + k = 7 → vbF S n p f k = 7 → ∀ j, k ≤ j → j < 7 → lk S n p j ≠ wlK j
  | 0, k, h, _ => fun j a b => by omega
  | f + 1, k, h, e => fun j a b => by
    have hu : vbF S n p (f + 1) k = if lk S n p k = wlK k then (k : Int) else vbF S n p f (k + 1) := rfl
    rw [hu] at e
    by_cases q : lk S n p k = wlK k
    · rw [if_pos q] at e; omega
    · rw [if_neg q] at e
      by_cases z : j = k
      · rw [z]; exact q
      · exact vbF_no f (k + 1) (by omega) e j (by omega) b
theorem vb_of {S : Int → Int} {n p : Int} {k : Nat} (hk : k < 7) (h : lk S n p k = wlK k) : vb S n p = k := by
  have h1 := vbF_r (S := S) (n := n) (p := p) 7 0 rfl
  have hb : vb S n p = vbF S n p 7 0 := rfl
  rw [hb]
  by_cases q : vbF S n p 7 0 < 7
  · have h2 := h1.2.2 q
    refine Classical.byContradiction fun z => ?_
    have a := lk_best (j := (vbF S n p 7 0).toNat) (k := k) (by omega) hk (by omega) h
    have b := lk_best (j := k) (k := (vbF S n p 7 0).toNat) hk (by omega) (by omega) h2
    omega
  · exact absurd h (vbF_no 7 0 rfl (by omega) k (Nat.zero_le _) hk)
/-- the greatest likeness -/
theorem lgF_max {S : Int → Int} {n p : Int} (h : p ≤ n) {j : Nat} (hj : j < 7) (hm : ∀ i : Nat, i < 7 → lk S n p i ≤ lk S n p j) : ∀ k : Nat, k ≤ 7 → j < k → lgF S n p k = lk S n p j
  | 0, _, z => absurd z (Nat.not_lt_zero _)
  | k + 1, hk, z => by
    show mxI (lgF S n p k) (lk S n p k) = _
    have hle : ∀ i : Nat, i ≤ 7 → lgF S n p i ≤ lk S n p j := fun i => by
      induction i with
      | zero => intro _; exact (lk_r (S := S) hj h).1
      | succ i ih =>
        intro hi
        have a := ih (by omega)
        have b := hm i (by omega)
        show mxI (lgF S n p i) (lk S n p i) ≤ _
        unfold mxI
        split <;> omega
    have a := hle k (by omega)
    have b := hm k (by omega)
    by_cases q : j = k
    · subst q
      unfold mxI
      split <;> omega
    · have c := lgF_max h hj hm k (by omega) (by omega)
      unfold mxI
      split <;> omega

set_option maxHeartbeats 4000000 in
set_option maxRecDepth 100000 in
theorem c_X4_likeness {g : GT} {G : Mem} {S : Int → Int} {n p w : Int} (h : Mc G S n p w) (hL : McL G) {k : Nat} (hk : k < 7) : Ctr g yX4_likeness cX4_likeness 4 (some FieldType.int) (rmL 0 0 0) [vR g 106, vI (k : Int)] G (RM (lk S n p k) G) NoX := by
  refine ctr_of [some (vR g 106), some (vI (k : Int)), none, none] (by decide) (Nat.le_of_ble_eq_true rfl) rfl (fun γ E => ?_)
  show V γ g cX4_likeness 4 RX4 (rmL 0 0 0) G 0 0 0 [some (vR g 106), some (vI (k : Int)), none, none] []
  have hMc := h
  obtain ⟨rfl, rfl, rfl, rfl, hb, hS⟩ := h
  have hw := wlK_r k hk
  have hl := hL.1 k hk
  refine v_iconst (pc := 0) (z := 0) dX4_likeness_0 ?_
  refine v_istore_n (pc := 1) (by decide) rfl dX4_likeness_1 ?_
  refine v_aload_n (pc := 2) rfl dX4_likeness_2 ?_
  refine v_getR (pc := 3) (j := 117) fd_X4_48 (rfl) (by decide) rfl dX4_likeness_3 ?_
  refine v_iload_n (pc := 6) rfl dX4_likeness_6 ?_
  refine v_iconst (pc := 7) (z := 1) dX4_likeness_7 ?_
  refine v_iadd (pc := 8) dX4_likeness_8 ?_
  refine v_iald (pc := 9) (N := 8) rfl rfl (by decide) (by omega) (by decide) dX4_likeness_9 ?_
  refine v_aload_n (pc := 10) rfl dX4_likeness_10 ?_
  refine v_getR (pc := 11) (j := 117) fd_X4_48 (rfl) (by decide) rfl dX4_likeness_11 ?_
  refine v_iload_n (pc := 14) rfl dX4_likeness_14 ?_
  refine v_iald (pc := 15) (N := 8) rfl rfl (by decide) (by omega) (by decide) dX4_likeness_15 ?_
  refine v_isub (pc := 16) dX4_likeness_16 ?_
  obtain ⟨e, h_e⟩ : ∃ w9, w9 = ((G 117 ((k : Int) + 1)) - (G 117 (k : Int))) := ⟨_, rfl⟩
  refine v_stk (st' := [vI e]) (by rw [h_e]) ?_
  have he : e = wlK k := by rw [h_e]; exact hl.1
  refine v_istore_n (pc := 17) (by decide) rfl dX4_likeness_17 ?_
  have lp18 : ∀ (m18 : Nat) (m : Int), (0 ≤ m ∧ m ≤ wlK k) → (lk (G 111) (G 106 21) (G 106 20) k = lkF (G 111) (G 106 21) (G 106 20) k (wlK k - m).toNat m) → ((wlK k - m).toNat) < m18 → V γ g cX4_likeness 4 RX4 (rmL 0 0 0) G 0 0 18 [some (vR g 106), some (vI (k : Int)), some (vI m), some (vI e)] [] := by
    intro m18
    induction m18 with
    | zero => intro m; intros; omega
    | succ m18 ih18 =>
      intro m h0 hm hm18
      refine v_iload_n (pc := 18) rfl dX4_likeness_18 ?_
      refine v_iload_n (pc := 19) rfl dX4_likeness_19 ?_
      refine v_icmp_ge (pc := 20) (tgt := 69) (by omega) dX4_likeness_20 (by decide) (fun bq1 => ?_) (fun bq1 => ?_)
      · skip
        refine v_iload_n (pc := 69) rfl dX4_likeness_69 ?_
        exact v_iret (pc := 70) E (⟨by rw [hm]; first | (rw [lkF_e (by omega)]) | (rw [lkF_s (by omega), if_neg (by omega)]), rfl⟩) (Nat.le_of_ble_eq_true rfl) (Nat.le_of_ble_eq_true rfl) dX4_likeness_70
      · skip
        skip
        refine v_aload_n (pc := 23) rfl dX4_likeness_23 ?_
        refine v_get (pc := 24) 20 fd_X4_201 (rfl) (by decide) rfl rfl dX4_likeness_24 ?_
        refine v_iload_n (pc := 27) rfl dX4_likeness_27 ?_
        refine v_iadd (pc := 28) dX4_likeness_28 ?_
        refine v_aload_n (pc := 29) rfl dX4_likeness_29 ?_
        refine v_get (pc := 30) 21 fd_X4_204 (rfl) (by decide) rfl rfl dX4_likeness_30 ?_
        refine v_icmp_ge (pc := 33) (tgt := 69) (by omega) dX4_likeness_33 (by decide) (fun bq2 => ?_) (fun bq2 => ?_)
        · skip
          refine v_iload_n (pc := 69) rfl dX4_likeness_69 ?_
          exact v_iret (pc := 70) E (⟨by rw [hm]; first | (rw [lkF_e (by omega)]) | (rw [lkF_s (by omega), if_neg (by omega)]), rfl⟩) (Nat.le_of_ble_eq_true rfl) (Nat.le_of_ble_eq_true rfl) dX4_likeness_70
        · skip
          have hsg := hS (G 106 20 + m) (by omega) (by omega)
          refine v_aload_n (pc := 36) rfl dX4_likeness_36 ?_
          refine v_getR (pc := 37) (j := 111) fd_X4_29 (rfl) (by decide) rfl dX4_likeness_37 ?_
          refine v_aload_n (pc := 40) rfl dX4_likeness_40 ?_
          refine v_get (pc := 41) 20 fd_X4_201 (rfl) (by decide) rfl rfl dX4_likeness_41 ?_
          refine v_iload_n (pc := 44) rfl dX4_likeness_44 ?_
          refine v_iadd (pc := 45) dX4_likeness_45 ?_
          refine v_iald (pc := 46) (N := 60) rfl rfl (by decide) (by omega) (by decide) dX4_likeness_46 ?_
          have r3 := hS ((G 106 20) + m) (by omega) (by omega)
          have hlt := hL.2 k hk m (by omega) (by omega)
          have hwr := wcK_r hk (z := m) (by omega)
          refine v_aload_n (pc := 47) rfl dX4_likeness_47 ?_
          refine v_getR (pc := 48) (j := 116) fd_X4_44 (rfl) (by decide) rfl dX4_likeness_48 ?_
          refine v_aload_n (pc := 51) rfl dX4_likeness_51 ?_
          refine v_getR (pc := 52) (j := 117) fd_X4_48 (rfl) (by decide) rfl dX4_likeness_52 ?_
          refine v_iload_n (pc := 55) rfl dX4_likeness_55 ?_
          refine v_iald (pc := 56) (N := 8) rfl rfl (by decide) (by omega) (by decide) dX4_likeness_56 ?_
          refine v_iload_n (pc := 57) rfl dX4_likeness_57 ?_
          refine v_iadd (pc := 58) dX4_likeness_58 ?_
          refine v_cald (pc := 59) (N := 39) rfl rfl (by decide) (by omega) (by decide) dX4_likeness_59 ?_
          refine v_icmp_ne (pc := 60) (tgt := 69) (by omega) dX4_likeness_60 (by decide) (fun bq4 => ?_) (fun bq4 => ?_)
          · skip
            refine v_iload_n (pc := 69) rfl dX4_likeness_69 ?_
            exact v_iret (pc := 70) E (⟨by rw [hm]; first | (rw [lkF_e (by omega)]) | (rw [lkF_s (by omega), if_neg (by omega)]), rfl⟩) (Nat.le_of_ble_eq_true rfl) (Nat.le_of_ble_eq_true rfl) dX4_likeness_70
          · skip
            refine v_iinc (pc := 63) (y := 1) rfl (by decide) rfl dX4_likeness_63 ?_
            refine v_goto (pc := 66) (tgt := 18) dX4_likeness_66 (by decide) ?_
            exact ih18 (m + 1) (by omega) (by rw [hm, lkF_s (by omega), if_pos (by omega)]) (by omega)
  refine v_loc (L' := [some (vR g 106), some (vI (k : Int)), some (vI 0), some (vI e)]) (⟨rfl, rfl, rfl, rfl, trivial⟩) ?_
  exact lp18 _ 0 (by omega) (by rw [Int.sub_zero]; rfl) (Nat.lt_succ_self _)
theorem ra_end {G G' : Mem} {S : Int → Int} {n p v t e u : Int} (hm : Mc G' S n e u) (he : aE S n p v = e) (ho : (aOk S n p v ∧ u = 0 ∧ G' 118 t = aA S n p v ∧ ((v = 0 ∨ v = 3) → G' 118 (t + 1) = aB S n p v)) ∨ (¬ aOk S n p v ∧ u = 1))
    (hf : ∀ i z, ¬ (i = 106 ∧ (z = 20 ∨ z = 22)) → ¬ (i = 118 ∧ (z = t ∨ z = t + 1)) → G' i z = G i z) : ∃ u, Mc G' S n (aE S n p v) u ∧ ((aOk S n p v ∧ u = 0 ∧ G' 118 t = aA S n p v ∧ ((v = 0 ∨ v = 3) → G' 118 (t + 1) = aB S n p v)) ∨ (¬ aOk S n p v ∧ u = 1)) ∧ ∀ i z, ¬ (i = 106 ∧ (z = 20 ∨ z = 22)) → ¬ (i = 118 ∧ (z = t ∨ z = t + 1)) → G' i z = G i z := ⟨u, by rw [he]; exact hm, ho, hf⟩

set_option maxHeartbeats 4000000 in
set_option maxRecDepth 100000 in
theorem c_X4_readArguments {g : GT} {G : Mem} {S : Int → Int} {n p w : Int} (h : Mc G S n p w) (hw0 : w = 0) {v t : Int} (h_v : 0 ≤ v ∧ v < 7) (h_t : 0 ≤ t ∧ t ≤ 180) : Ctr g yX4_readArguments cX4_readArguments 3 (none : Option FieldType) (rmL 4 0 0) [vR g 106, vI v, vI t] G (VP (fun G' => ∃ u, Mc G' S n (aE S n p v) u ∧ ((aOk S n p v ∧ u = 0 ∧ G' 118 t = aA S n p v ∧ ((v = 0 ∨ v = 3) → G' 118 (t + 1) = aB S n p v)) ∨ (¬ aOk S n p v ∧ u = 1)) ∧ ∀ i z, ¬ (i = 106 ∧ (z = 20 ∨ z = 22)) → ¬ (i = 118 ∧ (z = t ∨ z = t + 1)) → G' i z = G i z)) NoX := by
  refine ctr_of [some (vR g 106), some (vI v), some (vI t)] (by decide) (Nat.le_of_ble_eq_true rfl) rfl (fun γ E => ?_)
  show V γ g cX4_readArguments 3 RX4 (rmL 4 0 0) G 0 0 0 [some (vR g 106), some (vI v), some (vI t)] []
  have hMc := h
  obtain ⟨rfl, rfl, rfl, rfl, hb, hS⟩ := h
  have hq1 := nE_r (S := G 111) (n := G 106 21) (p := G 106 20) (by omega)
  refine v_iload_n (pc := 0) rfl dX4_readArguments_0 ?_
  by_cases hs1 : v = 0
  · skip
    refine v_table (pc := 1) (tgt := 36) (off := 35) (by omega) (by omega) (by omega) (by rw [hs1]; rfl) dX4_readArguments_1 (by decide) ?_
    refine v_aload_n (pc := 36) rfl dX4_readArguments_36 ?_
    refine v_getR (pc := 37) (j := 118) fd_X4_51 (rfl) (by decide) rfl dX4_readArguments_37 ?_
    refine v_iload_n (pc := 40) rfl dX4_readArguments_40 ?_
    refine v_aload_n (pc := 41) rfl dX4_readArguments_41 ?_
    by_cases hd2 : G 106 22 = 0 ∧ dg (G 111) (G 106 21) (G 106 20)
    · skip
      refine v_callV (pc := 42) (rest := [vI t, vR g 118]) (c_X4_number_t hMc hd2) iok_X4_number wM_X4_224 (rfl) (by decide) (by decide) rfl (rmOk (by decide) (by decide)) ⟨Nat.le_of_ble_eq_true rfl, Nat.le_of_ble_eq_true rfl⟩ (Nat.le_of_ble_eq_true rfl) rfl dX4_readArguments_42 (fun v G' hq => ?_) (fun _ _ h => h.elim)
      obtain ⟨rfl, hG9⟩ := hq
      rw [hG9]
      refine v_stk (st' := [vI (nV (G 111) (G 106 21) (G 106 20)), vI t, vR g 118]) rfl ?_
      have hOK := hd2
      refine v_iast (pc := 45) (N := 183) rfl rfl (by decide) (by omega) (by decide) dX4_readArguments_45 ?_
      refine v_aload_n (pc := 46) rfl dX4_readArguments_46 ?_
      refine v_getR (pc := 47) (j := 118) fd_X4_51 (rfl) (by decide) rfl dX4_readArguments_47 ?_
      refine v_iload_n (pc := 50) rfl dX4_readArguments_50 ?_
      refine v_iconst (pc := 51) (z := 1) dX4_readArguments_51 ?_
      refine v_iadd (pc := 52) dX4_readArguments_52 ?_
      refine v_aload_n (pc := 53) rfl dX4_readArguments_53 ?_
      obtain ⟨Gm, hGm⟩ : ∃ y9 : Mem, y9 = (upd2 (upd2 (upd2 G 106 22 0) 106 20 (nE (G 111) (G 106 21) (G 106 20))) 118 t (nV (G 111) (G 106 21) (G 106 20))) := ⟨_, rfl⟩
      rw [← hGm]
      have hMg : Mc Gm (G 111) (G 106 21) (nE (G 111) (G 106 21) (G 106 20)) 0 := by
        rw [hGm]
        exact Mc_o (Mc_w hMc (e := nE (G 111) (G 106 21) (G 106 20)) (u := 0) (by omega) (by decide)) (fun i z q => upd2_i (by omega))
      have hGt : Gm 118 t = nV (G 111) (G 106 21) (G 106 20) := by rw [hGm]; exact upd2_s _ _ _ _
      have hGf : ∀ i z, ¬ (i = 106 ∧ (z = 20 ∨ z = 22)) → ¬ (i = 118 ∧ z = t) → Gm i z = G i z := fun i z a b => by rw [hGm, upd2, if_neg b, upd2, if_neg (by omega), upd2, if_neg (by omega)]
      by_cases hd3 : (0 : Int) = 0 ∧ sg (G 111) (G 106 21) (nE (G 111) (G 106 21) (G 106 20)) 32 ∧ dg (G 111) (G 106 21) (nE (G 111) (G 106 21) (G 106 20) + 1)
      · skip
        refine v_callV (pc := 54) (rest := [vI (t + 1), vR g 118]) (c_X4_digitBehind_t hMg hd3) iok_X4_digitBehind wM_X4_227 (rfl) (by decide) (by decide) rfl (rmOk (by decide) (by decide)) ⟨Nat.le_of_ble_eq_true rfl, Nat.le_of_ble_eq_true rfl⟩ (Nat.le_of_ble_eq_true rfl) rfl dX4_readArguments_54 (fun v G' hq => ?_) (fun _ _ h => h.elim)
        obtain ⟨rfl, hG9⟩ := hq
        rw [hG9]
        refine v_stk (st' := [vI (G 111 (nE (G 111) (G 106 21) (G 106 20) + 1) - 48), vI (t + 1), vR g 118]) rfl ?_
        have hB := hd3.2
        refine v_iast (pc := 57) (N := 183) rfl rfl (by decide) (by omega) (by decide) dX4_readArguments_57 ?_
        refine v_goto (pc := 58) (tgt := 135) dX4_readArguments_58 (by decide) ?_
        exact v_vret (pc := 135) E (⟨rfl, ra_end (v := v) (t := t) (e := nE (G 111) (G 106 21) (G 106 20) + 1 + 1) (u := 0) (Mc_o (Mc_w hMg (e := nE (G 111) (G 106 21) (G 106 20) + 1 + 1) (u := 0) (by first | omega | (split <;> omega)) (by decide)) (fun i z q => upd2_i (by omega))) (by unfold aE yE; repeat (first | rw [if_pos (by first | assumption | omega)] | rw [if_neg (by first | assumption | omega)]); first | done | (unfold nE; rw [if_neg (by first | assumption | omega)]; done) | (repeat' split <;> first | rfl | omega)) (by
          unfold aOk aA aB yV
          repeat (first | rw [if_pos (by first | assumption | omega)] | rw [if_neg (by first | assumption | omega)])
          first
            | exact Or.inl ⟨⟨hOK.2, hB⟩, rfl, by rw [upd2_z (by omega), upd2_i (by decide), upd2_i (by decide)]; exact hGt, fun _ => upd2_s _ _ _ _⟩
            | exact Or.inl ⟨⟨hOK.2, hB⟩, rfl, by rw [upd2_z (by omega), upd2_i (by decide), upd2_i (by decide)]; exact hGt, fun q => by omega⟩
            | exact Or.inl ⟨hOK.2, rfl, upd2_s _ _ _ _, fun q => by omega⟩
            | exact Or.inl ⟨fun _ => hOK, rfl, upd2_s _ _ _ _, fun q => by omega⟩
            | exact Or.inl ⟨fun q => absurd q hsg, hw0, upd2_s _ _ _ _, fun q => by omega⟩
            | exact Or.inr ⟨fun q => hB q.2, rfl⟩
            | exact Or.inr ⟨fun q => hNO q.1, rfl⟩
            | exact Or.inr ⟨fun q => hNO q, rfl⟩
            | exact Or.inr ⟨fun q => hNO (q hsg), rfl⟩) (fun i z a b => by rw [upd2, if_neg (by omega), upd2, if_neg (by omega), upd2, if_neg (by omega)]; exact hGf i z a (by omega))⟩) (Nat.le_of_ble_eq_true rfl) (Nat.le_of_ble_eq_true rfl) dX4_readArguments_135
      · skip
        refine v_callV (pc := 54) (rest := [vI (t + 1), vR g 118]) (c_X4_digitBehind_f hMg hd3) iok_X4_digitBehind wM_X4_227 (rfl) (by decide) (by decide) rfl (rmOk (by decide) (by decide)) ⟨Nat.le_of_ble_eq_true rfl, Nat.le_of_ble_eq_true rfl⟩ (Nat.le_of_ble_eq_true rfl) rfl dX4_readArguments_54 (fun v G' hq => ?_) (fun _ _ h => h.elim)
        obtain ⟨rfl, hG9⟩ := hq
        rw [hG9]
        refine v_stk (st' := [vI 0, vI (t + 1), vR g 118]) rfl ?_
        have hB : ¬ (sg (G 111) (G 106 21) (nE (G 111) (G 106 21) (G 106 20)) 32 ∧ dg (G 111) (G 106 21) (nE (G 111) (G 106 21) (G 106 20) + 1)) := fun q => hd3 ⟨rfl, q⟩
        refine v_iast (pc := 57) (N := 183) rfl rfl (by decide) (by omega) (by decide) dX4_readArguments_57 ?_
        refine v_goto (pc := 58) (tgt := 135) dX4_readArguments_58 (by decide) ?_
        exact v_vret (pc := 135) E (⟨rfl, ra_end (v := v) (t := t) (e := (if (0 : Int) = 0 ∧ sg (G 111) (G 106 21) (nE (G 111) (G 106 21) (G 106 20)) 32 then (nE (G 111) (G 106 21) (G 106 20)) + 1 else (nE (G 111) (G 106 21) (G 106 20)))) (u := 1) (Mc_o (Mc_w hMg (e := (if (0 : Int) = 0 ∧ sg (G 111) (G 106 21) (nE (G 111) (G 106 21) (G 106 20)) 32 then (nE (G 111) (G 106 21) (G 106 20)) + 1 else (nE (G 111) (G 106 21) (G 106 20)))) (u := 1) (by first | omega | (split <;> omega)) (by decide)) (fun i z q => upd2_i (by omega))) (by unfold aE yE; repeat (first | rw [if_pos (by first | assumption | omega)] | rw [if_neg (by first | assumption | omega)]); first | done | (unfold nE; rw [if_neg (by first | assumption | omega)]; done) | (repeat' split <;> first | rfl | omega)) (by
          unfold aOk aA aB yV
          repeat (first | rw [if_pos (by first | assumption | omega)] | rw [if_neg (by first | assumption | omega)])
          first
            | exact Or.inl ⟨⟨hOK.2, hB⟩, rfl, by rw [upd2_z (by omega), upd2_i (by decide), upd2_i (by decide)]; exact hGt, fun _ => upd2_s _ _ _ _⟩
            | exact Or.inl ⟨⟨hOK.2, hB⟩, rfl, by rw [upd2_z (by omega), upd2_i (by decide), upd2_i (by decide)]; exact hGt, fun q => by omega⟩
            | exact Or.inl ⟨hOK.2, rfl, upd2_s _ _ _ _, fun q => by omega⟩
            | exact Or.inl ⟨fun _ => hOK, rfl, upd2_s _ _ _ _, fun q => by omega⟩
            | exact Or.inl ⟨fun q => absurd q hsg, hw0, upd2_s _ _ _ _, fun q => by omega⟩
            | exact Or.inr ⟨fun q => hB q.2, rfl⟩
            | exact Or.inr ⟨fun q => hNO q.1, rfl⟩
            | exact Or.inr ⟨fun q => hNO q, rfl⟩
            | exact Or.inr ⟨fun q => hNO (q hsg), rfl⟩) (fun i z a b => by rw [upd2, if_neg (by omega), upd2, if_neg (by omega), upd2, if_neg (by omega)]; exact hGf i z a (by omega))⟩) (Nat.le_of_ble_eq_true rfl) (Nat.le_of_ble_eq_true rfl) dX4_readArguments_135
    · skip
      refine v_callV (pc := 42) (rest := [vI t, vR g 118]) (c_X4_number_f hMc hd2) iok_X4_number wM_X4_224 (rfl) (by decide) (by decide) rfl (rmOk (by decide) (by decide)) ⟨Nat.le_of_ble_eq_true rfl, Nat.le_of_ble_eq_true rfl⟩ (Nat.le_of_ble_eq_true rfl) rfl dX4_readArguments_42 (fun v G' hq => ?_) (fun _ _ h => h.elim)
      obtain ⟨rfl, hG9⟩ := hq
      rw [hG9]
      refine v_stk (st' := [vI 0, vI t, vR g 118]) rfl ?_
      have hNO : ¬ dg (G 111) (G 106 21) (G 106 20) := fun q => hd2 ⟨hw0, q⟩
      refine v_iast (pc := 45) (N := 183) rfl rfl (by decide) (by omega) (by decide) dX4_readArguments_45 ?_
      refine v_aload_n (pc := 46) rfl dX4_readArguments_46 ?_
      refine v_getR (pc := 47) (j := 118) fd_X4_51 (rfl) (by decide) rfl dX4_readArguments_47 ?_
      refine v_iload_n (pc := 50) rfl dX4_readArguments_50 ?_
      refine v_iconst (pc := 51) (z := 1) dX4_readArguments_51 ?_
      refine v_iadd (pc := 52) dX4_readArguments_52 ?_
      refine v_aload_n (pc := 53) rfl dX4_readArguments_53 ?_
      obtain ⟨Gm, hGm⟩ : ∃ y9 : Mem, y9 = (upd2 (upd2 (upd2 G 106 22 1) 106 20 (G 106 20)) 118 t 0) := ⟨_, rfl⟩
      rw [← hGm]
      have hMg : Mc Gm (G 111) (G 106 21) (G 106 20) 1 := by
        rw [hGm]
        exact Mc_o (Mc_w hMc (e := G 106 20) (u := 1) (by omega) (by decide)) (fun i z q => upd2_i (by omega))
      have hGt : Gm 118 t = 0 := by rw [hGm]; exact upd2_s _ _ _ _
      have hGf : ∀ i z, ¬ (i = 106 ∧ (z = 20 ∨ z = 22)) → ¬ (i = 118 ∧ z = t) → Gm i z = G i z := fun i z a b => by rw [hGm, upd2, if_neg b, upd2, if_neg (by omega), upd2, if_neg (by omega)]
      refine v_callV (pc := 54) (rest := [vI (t + 1), vR g 118]) (c_X4_digitBehind_f hMg (fun q => absurd q.1 (by decide))) iok_X4_digitBehind wM_X4_227 (rfl) (by decide) (by decide) rfl (rmOk (by decide) (by decide)) ⟨Nat.le_of_ble_eq_true rfl, Nat.le_of_ble_eq_true rfl⟩ (Nat.le_of_ble_eq_true rfl) rfl dX4_readArguments_54 (fun v G' hq => ?_) (fun _ _ h => h.elim)
      obtain ⟨rfl, hG9⟩ := hq
      rw [hG9]
      refine v_stk (st' := [vI 0, vI (t + 1), vR g 118]) rfl ?_
      refine v_iast (pc := 57) (N := 183) rfl rfl (by decide) (by omega) (by decide) dX4_readArguments_57 ?_
      refine v_goto (pc := 58) (tgt := 135) dX4_readArguments_58 (by decide) ?_
      exact v_vret (pc := 135) E (⟨rfl, ra_end (v := v) (t := t) (e := (if (1 : Int) = 0 ∧ sg (G 111) (G 106 21) (G 106 20) 32 then (G 106 20) + 1 else (G 106 20))) (u := 1) (Mc_o (Mc_w hMg (e := (if (1 : Int) = 0 ∧ sg (G 111) (G 106 21) (G 106 20) 32 then (G 106 20) + 1 else (G 106 20))) (u := 1) (by first | omega | (split <;> omega)) (by decide)) (fun i z q => upd2_i (by omega))) (by unfold aE yE; repeat (first | rw [if_pos (by first | assumption | omega)] | rw [if_neg (by first | assumption | omega)]); first | done | (unfold nE; rw [if_neg (by first | assumption | omega)]; done) | (repeat' split <;> first | rfl | omega)) (by
        unfold aOk aA aB yV
        repeat (first | rw [if_pos (by first | assumption | omega)] | rw [if_neg (by first | assumption | omega)])
        first
          | exact Or.inl ⟨⟨hOK.2, hB⟩, rfl, by rw [upd2_z (by omega), upd2_i (by decide), upd2_i (by decide)]; exact hGt, fun _ => upd2_s _ _ _ _⟩
          | exact Or.inl ⟨⟨hOK.2, hB⟩, rfl, by rw [upd2_z (by omega), upd2_i (by decide), upd2_i (by decide)]; exact hGt, fun q => by omega⟩
          | exact Or.inl ⟨hOK.2, rfl, upd2_s _ _ _ _, fun q => by omega⟩
          | exact Or.inl ⟨fun _ => hOK, rfl, upd2_s _ _ _ _, fun q => by omega⟩
          | exact Or.inl ⟨fun q => absurd q hsg, hw0, upd2_s _ _ _ _, fun q => by omega⟩
          | exact Or.inr ⟨fun q => hB q.2, rfl⟩
          | exact Or.inr ⟨fun q => hNO q.1, rfl⟩
          | exact Or.inr ⟨fun q => hNO q, rfl⟩
          | exact Or.inr ⟨fun q => hNO (q hsg), rfl⟩) (fun i z a b => by rw [upd2, if_neg (by omega), upd2, if_neg (by omega), upd2, if_neg (by omega)]; exact hGf i z a (by omega))⟩) (Nat.le_of_ble_eq_true rfl) (Nat.le_of_ble_eq_true rfl) dX4_readArguments_135
  · skip
    by_cases hs4 : v = 1
    · skip
      refine v_table (pc := 1) (tgt := 61) (off := 60) (by omega) (by omega) (by omega) (by rw [hs4]; rfl) dX4_readArguments_1 (by decide) ?_
      refine v_aload_n (pc := 61) rfl dX4_readArguments_61 ?_
      refine v_getR (pc := 62) (j := 118) fd_X4_51 (rfl) (by decide) rfl dX4_readArguments_62 ?_
      refine v_iload_n (pc := 65) rfl dX4_readArguments_65 ?_
      refine v_aload_n (pc := 66) rfl dX4_readArguments_66 ?_
      by_cases hd5 : G 106 22 = 0 ∧ dg (G 111) (G 106 21) (G 106 20)
      · skip
        refine v_callV (pc := 67) (rest := [vI t, vR g 118]) (c_X4_digit_t hMc hd5) iok_X4_digit wM_X4_218 (rfl) (by decide) (by decide) rfl (rmOk (by decide) (by decide)) ⟨Nat.le_of_ble_eq_true rfl, Nat.le_of_ble_eq_true rfl⟩ (Nat.le_of_ble_eq_true rfl) rfl dX4_readArguments_67 (fun v G' hq => ?_) (fun _ _ h => h.elim)
        obtain ⟨rfl, hG9⟩ := hq
        rw [hG9]
        refine v_stk (st' := [vI (G 111 (G 106 20) - 48), vI t, vR g 118]) rfl ?_
        have hOK := hd5
        refine v_iast (pc := 70) (N := 183) rfl rfl (by decide) (by omega) (by decide) dX4_readArguments_70 ?_
        refine v_goto (pc := 71) (tgt := 135) dX4_readArguments_71 (by decide) ?_
        exact v_vret (pc := 135) E (⟨rfl, ra_end (v := v) (t := t) (e := G 106 20 + 1) (u := 0) (Mc_o (Mc_w hMc (e := G 106 20 + 1) (u := 0) (by first | omega | (split <;> omega)) (by decide)) (fun i z q => upd2_i (by omega))) (by unfold aE yE; repeat (first | rw [if_pos (by first | assumption | omega)] | rw [if_neg (by first | assumption | omega)]); first | done | (unfold nE; rw [if_neg (by first | assumption | omega)]; done) | (repeat' split <;> first | rfl | omega)) (by
          unfold aOk aA aB yV
          repeat (first | rw [if_pos (by first | assumption | omega)] | rw [if_neg (by first | assumption | omega)])
          first
            | exact Or.inl ⟨⟨hOK.2, hB⟩, rfl, by rw [upd2_z (by omega), upd2_i (by decide), upd2_i (by decide)]; exact hGt, fun _ => upd2_s _ _ _ _⟩
            | exact Or.inl ⟨⟨hOK.2, hB⟩, rfl, by rw [upd2_z (by omega), upd2_i (by decide), upd2_i (by decide)]; exact hGt, fun q => by omega⟩
            | exact Or.inl ⟨hOK.2, rfl, upd2_s _ _ _ _, fun q => by omega⟩
            | exact Or.inl ⟨fun _ => hOK, rfl, upd2_s _ _ _ _, fun q => by omega⟩
            | exact Or.inl ⟨fun q => absurd q hsg, hw0, upd2_s _ _ _ _, fun q => by omega⟩
            | exact Or.inr ⟨fun q => hB q.2, rfl⟩
            | exact Or.inr ⟨fun q => hNO q.1, rfl⟩
            | exact Or.inr ⟨fun q => hNO q, rfl⟩
            | exact Or.inr ⟨fun q => hNO (q hsg), rfl⟩) (fun i z a b => by rw [upd2, if_neg (by omega), upd2, if_neg (by omega), upd2, if_neg (by omega)])⟩) (Nat.le_of_ble_eq_true rfl) (Nat.le_of_ble_eq_true rfl) dX4_readArguments_135
      · skip
        refine v_callV (pc := 67) (rest := [vI t, vR g 118]) (c_X4_digit_f hMc hd5) iok_X4_digit wM_X4_218 (rfl) (by decide) (by decide) rfl (rmOk (by decide) (by decide)) ⟨Nat.le_of_ble_eq_true rfl, Nat.le_of_ble_eq_true rfl⟩ (Nat.le_of_ble_eq_true rfl) rfl dX4_readArguments_67 (fun v G' hq => ?_) (fun _ _ h => h.elim)
        obtain ⟨rfl, hG9⟩ := hq
        rw [hG9]
        refine v_stk (st' := [vI 0, vI t, vR g 118]) rfl ?_
        have hNO : ¬ dg (G 111) (G 106 21) (G 106 20) := fun q => hd5 ⟨hw0, q⟩
        refine v_iast (pc := 70) (N := 183) rfl rfl (by decide) (by omega) (by decide) dX4_readArguments_70 ?_
        refine v_goto (pc := 71) (tgt := 135) dX4_readArguments_71 (by decide) ?_
        exact v_vret (pc := 135) E (⟨rfl, ra_end (v := v) (t := t) (e := G 106 20) (u := 1) (Mc_o (Mc_w hMc (e := G 106 20) (u := 1) (by first | omega | (split <;> omega)) (by decide)) (fun i z q => upd2_i (by omega))) (by unfold aE yE; repeat (first | rw [if_pos (by first | assumption | omega)] | rw [if_neg (by first | assumption | omega)]); first | done | (unfold nE; rw [if_neg (by first | assumption | omega)]; done) | (repeat' split <;> first | rfl | omega)) (by
          unfold aOk aA aB yV
          repeat (first | rw [if_pos (by first | assumption | omega)] | rw [if_neg (by first | assumption | omega)])
          first
            | exact Or.inl ⟨⟨hOK.2, hB⟩, rfl, by rw [upd2_z (by omega), upd2_i (by decide), upd2_i (by decide)]; exact hGt, fun _ => upd2_s _ _ _ _⟩
            | exact Or.inl ⟨⟨hOK.2, hB⟩, rfl, by rw [upd2_z (by omega), upd2_i (by decide), upd2_i (by decide)]; exact hGt, fun q => by omega⟩
            | exact Or.inl ⟨hOK.2, rfl, upd2_s _ _ _ _, fun q => by omega⟩
            | exact Or.inl ⟨fun _ => hOK, rfl, upd2_s _ _ _ _, fun q => by omega⟩
            | exact Or.inl ⟨fun q => absurd q hsg, hw0, upd2_s _ _ _ _, fun q => by omega⟩
            | exact Or.inr ⟨fun q => hB q.2, rfl⟩
            | exact Or.inr ⟨fun q => hNO q.1, rfl⟩
            | exact Or.inr ⟨fun q => hNO q, rfl⟩
            | exact Or.inr ⟨fun q => hNO (q hsg), rfl⟩) (fun i z a b => by rw [upd2, if_neg (by omega), upd2, if_neg (by omega), upd2, if_neg (by omega)])⟩) (Nat.le_of_ble_eq_true rfl) (Nat.le_of_ble_eq_true rfl) dX4_readArguments_135
    · skip
      by_cases hs6 : v = 2
      · skip
        refine v_table (pc := 1) (tgt := 125) (off := 124) (by omega) (by omega) (by omega) (by rw [hs6]; rfl) dX4_readArguments_1 (by decide) ?_
        refine v_aload_n (pc := 125) rfl dX4_readArguments_125 ?_
        refine v_getR (pc := 126) (j := 118) fd_X4_51 (rfl) (by decide) rfl dX4_readArguments_126 ?_
        refine v_iload_n (pc := 129) rfl dX4_readArguments_129 ?_
        refine v_aload_n (pc := 130) rfl dX4_readArguments_130 ?_
        by_cases hd7 : G 106 22 = 0 ∧ dg (G 111) (G 106 21) (G 106 20)
        · skip
          refine v_callV (pc := 131) (rest := [vI t, vR g 118]) (c_X4_number_t hMc hd7) iok_X4_number wM_X4_224 (rfl) (by decide) (by decide) rfl (rmOk (by decide) (by decide)) ⟨Nat.le_of_ble_eq_true rfl, Nat.le_of_ble_eq_true rfl⟩ (Nat.le_of_ble_eq_true rfl) rfl dX4_readArguments_131 (fun v G' hq => ?_) (fun _ _ h => h.elim)
          obtain ⟨rfl, hG9⟩ := hq
          rw [hG9]
          refine v_stk (st' := [vI (nV (G 111) (G 106 21) (G 106 20)), vI t, vR g 118]) rfl ?_
          have hOK := hd7
          refine v_iast (pc := 134) (N := 183) rfl rfl (by decide) (by omega) (by decide) dX4_readArguments_134 ?_
          exact v_vret (pc := 135) E (⟨rfl, ra_end (v := v) (t := t) (e := nE (G 111) (G 106 21) (G 106 20)) (u := 0) (Mc_o (Mc_w hMc (e := nE (G 111) (G 106 21) (G 106 20)) (u := 0) (by first | omega | (split <;> omega)) (by decide)) (fun i z q => upd2_i (by omega))) (by unfold aE yE; repeat (first | rw [if_pos (by first | assumption | omega)] | rw [if_neg (by first | assumption | omega)]); first | done | (unfold nE; rw [if_neg (by first | assumption | omega)]; done) | (repeat' split <;> first | rfl | omega)) (by
            unfold aOk aA aB yV
            repeat (first | rw [if_pos (by first | assumption | omega)] | rw [if_neg (by first | assumption | omega)])
            first
              | exact Or.inl ⟨⟨hOK.2, hB⟩, rfl, by rw [upd2_z (by omega), upd2_i (by decide), upd2_i (by decide)]; exact hGt, fun _ => upd2_s _ _ _ _⟩
              | exact Or.inl ⟨⟨hOK.2, hB⟩, rfl, by rw [upd2_z (by omega), upd2_i (by decide), upd2_i (by decide)]; exact hGt, fun q => by omega⟩
              | exact Or.inl ⟨hOK.2, rfl, upd2_s _ _ _ _, fun q => by omega⟩
              | exact Or.inl ⟨fun _ => hOK, rfl, upd2_s _ _ _ _, fun q => by omega⟩
              | exact Or.inl ⟨fun q => absurd q hsg, hw0, upd2_s _ _ _ _, fun q => by omega⟩
              | exact Or.inr ⟨fun q => hB q.2, rfl⟩
              | exact Or.inr ⟨fun q => hNO q.1, rfl⟩
              | exact Or.inr ⟨fun q => hNO q, rfl⟩
              | exact Or.inr ⟨fun q => hNO (q hsg), rfl⟩) (fun i z a b => by rw [upd2, if_neg (by omega), upd2, if_neg (by omega), upd2, if_neg (by omega)])⟩) (Nat.le_of_ble_eq_true rfl) (Nat.le_of_ble_eq_true rfl) dX4_readArguments_135
        · skip
          refine v_callV (pc := 131) (rest := [vI t, vR g 118]) (c_X4_number_f hMc hd7) iok_X4_number wM_X4_224 (rfl) (by decide) (by decide) rfl (rmOk (by decide) (by decide)) ⟨Nat.le_of_ble_eq_true rfl, Nat.le_of_ble_eq_true rfl⟩ (Nat.le_of_ble_eq_true rfl) rfl dX4_readArguments_131 (fun v G' hq => ?_) (fun _ _ h => h.elim)
          obtain ⟨rfl, hG9⟩ := hq
          rw [hG9]
          refine v_stk (st' := [vI 0, vI t, vR g 118]) rfl ?_
          have hNO : ¬ dg (G 111) (G 106 21) (G 106 20) := fun q => hd7 ⟨hw0, q⟩
          refine v_iast (pc := 134) (N := 183) rfl rfl (by decide) (by omega) (by decide) dX4_readArguments_134 ?_
          exact v_vret (pc := 135) E (⟨rfl, ra_end (v := v) (t := t) (e := G 106 20) (u := 1) (Mc_o (Mc_w hMc (e := G 106 20) (u := 1) (by first | omega | (split <;> omega)) (by decide)) (fun i z q => upd2_i (by omega))) (by unfold aE yE; repeat (first | rw [if_pos (by first | assumption | omega)] | rw [if_neg (by first | assumption | omega)]); first | done | (unfold nE; rw [if_neg (by first | assumption | omega)]; done) | (repeat' split <;> first | rfl | omega)) (by
            unfold aOk aA aB yV
            repeat (first | rw [if_pos (by first | assumption | omega)] | rw [if_neg (by first | assumption | omega)])
            first
              | exact Or.inl ⟨⟨hOK.2, hB⟩, rfl, by rw [upd2_z (by omega), upd2_i (by decide), upd2_i (by decide)]; exact hGt, fun _ => upd2_s _ _ _ _⟩
              | exact Or.inl ⟨⟨hOK.2, hB⟩, rfl, by rw [upd2_z (by omega), upd2_i (by decide), upd2_i (by decide)]; exact hGt, fun q => by omega⟩
              | exact Or.inl ⟨hOK.2, rfl, upd2_s _ _ _ _, fun q => by omega⟩
              | exact Or.inl ⟨fun _ => hOK, rfl, upd2_s _ _ _ _, fun q => by omega⟩
              | exact Or.inl ⟨fun q => absurd q hsg, hw0, upd2_s _ _ _ _, fun q => by omega⟩
              | exact Or.inr ⟨fun q => hB q.2, rfl⟩
              | exact Or.inr ⟨fun q => hNO q.1, rfl⟩
              | exact Or.inr ⟨fun q => hNO q, rfl⟩
              | exact Or.inr ⟨fun q => hNO (q hsg), rfl⟩) (fun i z a b => by rw [upd2, if_neg (by omega), upd2, if_neg (by omega), upd2, if_neg (by omega)])⟩) (Nat.le_of_ble_eq_true rfl) (Nat.le_of_ble_eq_true rfl) dX4_readArguments_135
      · skip
        by_cases hs8 : v = 3
        · skip
          refine v_table (pc := 1) (tgt := 74) (off := 73) (by omega) (by omega) (by omega) (by rw [hs8]; rfl) dX4_readArguments_1 (by decide) ?_
          refine v_aload_n (pc := 74) rfl dX4_readArguments_74 ?_
          refine v_getR (pc := 75) (j := 118) fd_X4_51 (rfl) (by decide) rfl dX4_readArguments_75 ?_
          refine v_iload_n (pc := 78) rfl dX4_readArguments_78 ?_
          refine v_aload_n (pc := 79) rfl dX4_readArguments_79 ?_
          by_cases hd9 : G 106 22 = 0 ∧ dg (G 111) (G 106 21) (G 106 20)
          · skip
            refine v_callV (pc := 80) (rest := [vI t, vR g 118]) (c_X4_digit_t hMc hd9) iok_X4_digit wM_X4_218 (rfl) (by decide) (by decide) rfl (rmOk (by decide) (by decide)) ⟨Nat.le_of_ble_eq_true rfl, Nat.le_of_ble_eq_true rfl⟩ (Nat.le_of_ble_eq_true rfl) rfl dX4_readArguments_80 (fun v G' hq => ?_) (fun _ _ h => h.elim)
            obtain ⟨rfl, hG9⟩ := hq
            rw [hG9]
            refine v_stk (st' := [vI (G 111 (G 106 20) - 48), vI t, vR g 118]) rfl ?_
            have hOK := hd9
            refine v_iast (pc := 83) (N := 183) rfl rfl (by decide) (by omega) (by decide) dX4_readArguments_83 ?_
            refine v_aload_n (pc := 84) rfl dX4_readArguments_84 ?_
            refine v_getR (pc := 85) (j := 118) fd_X4_51 (rfl) (by decide) rfl dX4_readArguments_85 ?_
            refine v_iload_n (pc := 88) rfl dX4_readArguments_88 ?_
            refine v_iconst (pc := 89) (z := 1) dX4_readArguments_89 ?_
            refine v_iadd (pc := 90) dX4_readArguments_90 ?_
            refine v_aload_n (pc := 91) rfl dX4_readArguments_91 ?_
            obtain ⟨Gm, hGm⟩ : ∃ y9 : Mem, y9 = (upd2 (upd2 (upd2 G 106 22 0) 106 20 (G 106 20 + 1)) 118 t (G 111 (G 106 20) - 48)) := ⟨_, rfl⟩
            rw [← hGm]
            have hMg : Mc Gm (G 111) (G 106 21) (G 106 20 + 1) 0 := by
              rw [hGm]
              exact Mc_o (Mc_w hMc (e := G 106 20 + 1) (u := 0) (by omega) (by decide)) (fun i z q => upd2_i (by omega))
            have hGt : Gm 118 t = G 111 (G 106 20) - 48 := by rw [hGm]; exact upd2_s _ _ _ _
            have hGf : ∀ i z, ¬ (i = 106 ∧ (z = 20 ∨ z = 22)) → ¬ (i = 118 ∧ z = t) → Gm i z = G i z := fun i z a b => by rw [hGm, upd2, if_neg b, upd2, if_neg (by omega), upd2, if_neg (by omega)]
            by_cases hd10 : (0 : Int) = 0 ∧ sg (G 111) (G 106 21) (G 106 20 + 1) 32 ∧ dg (G 111) (G 106 21) (G 106 20 + 1 + 1)
            · skip
              refine v_callV (pc := 92) (rest := [vI (t + 1), vR g 118]) (c_X4_digitBehind_t hMg hd10) iok_X4_digitBehind wM_X4_227 (rfl) (by decide) (by decide) rfl (rmOk (by decide) (by decide)) ⟨Nat.le_of_ble_eq_true rfl, Nat.le_of_ble_eq_true rfl⟩ (Nat.le_of_ble_eq_true rfl) rfl dX4_readArguments_92 (fun v G' hq => ?_) (fun _ _ h => h.elim)
              obtain ⟨rfl, hG9⟩ := hq
              rw [hG9]
              refine v_stk (st' := [vI (G 111 (G 106 20 + 1 + 1) - 48), vI (t + 1), vR g 118]) rfl ?_
              have hB := hd10.2
              refine v_iast (pc := 95) (N := 183) rfl rfl (by decide) (by omega) (by decide) dX4_readArguments_95 ?_
              refine v_goto (pc := 96) (tgt := 135) dX4_readArguments_96 (by decide) ?_
              exact v_vret (pc := 135) E (⟨rfl, ra_end (v := v) (t := t) (e := G 106 20 + 1 + 1 + 1) (u := 0) (Mc_o (Mc_w hMg (e := G 106 20 + 1 + 1 + 1) (u := 0) (by first | omega | (split <;> omega)) (by decide)) (fun i z q => upd2_i (by omega))) (by unfold aE yE; repeat (first | rw [if_pos (by first | assumption | omega)] | rw [if_neg (by first | assumption | omega)]); first | done | (unfold nE; rw [if_neg (by first | assumption | omega)]; done) | (repeat' split <;> first | rfl | omega)) (by
                unfold aOk aA aB yV
                repeat (first | rw [if_pos (by first | assumption | omega)] | rw [if_neg (by first | assumption | omega)])
                first
                  | exact Or.inl ⟨⟨hOK.2, hB⟩, rfl, by rw [upd2_z (by omega), upd2_i (by decide), upd2_i (by decide)]; exact hGt, fun _ => upd2_s _ _ _ _⟩
                  | exact Or.inl ⟨⟨hOK.2, hB⟩, rfl, by rw [upd2_z (by omega), upd2_i (by decide), upd2_i (by decide)]; exact hGt, fun q => by omega⟩
                  | exact Or.inl ⟨hOK.2, rfl, upd2_s _ _ _ _, fun q => by omega⟩
                  | exact Or.inl ⟨fun _ => hOK, rfl, upd2_s _ _ _ _, fun q => by omega⟩
                  | exact Or.inl ⟨fun q => absurd q hsg, hw0, upd2_s _ _ _ _, fun q => by omega⟩
                  | exact Or.inr ⟨fun q => hB q.2, rfl⟩
                  | exact Or.inr ⟨fun q => hNO q.1, rfl⟩
                  | exact Or.inr ⟨fun q => hNO q, rfl⟩
                  | exact Or.inr ⟨fun q => hNO (q hsg), rfl⟩) (fun i z a b => by rw [upd2, if_neg (by omega), upd2, if_neg (by omega), upd2, if_neg (by omega)]; exact hGf i z a (by omega))⟩) (Nat.le_of_ble_eq_true rfl) (Nat.le_of_ble_eq_true rfl) dX4_readArguments_135
            · skip
              refine v_callV (pc := 92) (rest := [vI (t + 1), vR g 118]) (c_X4_digitBehind_f hMg hd10) iok_X4_digitBehind wM_X4_227 (rfl) (by decide) (by decide) rfl (rmOk (by decide) (by decide)) ⟨Nat.le_of_ble_eq_true rfl, Nat.le_of_ble_eq_true rfl⟩ (Nat.le_of_ble_eq_true rfl) rfl dX4_readArguments_92 (fun v G' hq => ?_) (fun _ _ h => h.elim)
              obtain ⟨rfl, hG9⟩ := hq
              rw [hG9]
              refine v_stk (st' := [vI 0, vI (t + 1), vR g 118]) rfl ?_
              have hB : ¬ (sg (G 111) (G 106 21) (G 106 20 + 1) 32 ∧ dg (G 111) (G 106 21) (G 106 20 + 1 + 1)) := fun q => hd10 ⟨rfl, q⟩
              refine v_iast (pc := 95) (N := 183) rfl rfl (by decide) (by omega) (by decide) dX4_readArguments_95 ?_
              refine v_goto (pc := 96) (tgt := 135) dX4_readArguments_96 (by decide) ?_
              exact v_vret (pc := 135) E (⟨rfl, ra_end (v := v) (t := t) (e := (if (0 : Int) = 0 ∧ sg (G 111) (G 106 21) (G 106 20 + 1) 32 then (G 106 20 + 1) + 1 else (G 106 20 + 1))) (u := 1) (Mc_o (Mc_w hMg (e := (if (0 : Int) = 0 ∧ sg (G 111) (G 106 21) (G 106 20 + 1) 32 then (G 106 20 + 1) + 1 else (G 106 20 + 1))) (u := 1) (by first | omega | (split <;> omega)) (by decide)) (fun i z q => upd2_i (by omega))) (by unfold aE yE; repeat (first | rw [if_pos (by first | assumption | omega)] | rw [if_neg (by first | assumption | omega)]); first | done | (unfold nE; rw [if_neg (by first | assumption | omega)]; done) | (repeat' split <;> first | rfl | omega)) (by
                unfold aOk aA aB yV
                repeat (first | rw [if_pos (by first | assumption | omega)] | rw [if_neg (by first | assumption | omega)])
                first
                  | exact Or.inl ⟨⟨hOK.2, hB⟩, rfl, by rw [upd2_z (by omega), upd2_i (by decide), upd2_i (by decide)]; exact hGt, fun _ => upd2_s _ _ _ _⟩
                  | exact Or.inl ⟨⟨hOK.2, hB⟩, rfl, by rw [upd2_z (by omega), upd2_i (by decide), upd2_i (by decide)]; exact hGt, fun q => by omega⟩
                  | exact Or.inl ⟨hOK.2, rfl, upd2_s _ _ _ _, fun q => by omega⟩
                  | exact Or.inl ⟨fun _ => hOK, rfl, upd2_s _ _ _ _, fun q => by omega⟩
                  | exact Or.inl ⟨fun q => absurd q hsg, hw0, upd2_s _ _ _ _, fun q => by omega⟩
                  | exact Or.inr ⟨fun q => hB q.2, rfl⟩
                  | exact Or.inr ⟨fun q => hNO q.1, rfl⟩
                  | exact Or.inr ⟨fun q => hNO q, rfl⟩
                  | exact Or.inr ⟨fun q => hNO (q hsg), rfl⟩) (fun i z a b => by rw [upd2, if_neg (by omega), upd2, if_neg (by omega), upd2, if_neg (by omega)]; exact hGf i z a (by omega))⟩) (Nat.le_of_ble_eq_true rfl) (Nat.le_of_ble_eq_true rfl) dX4_readArguments_135
          · skip
            refine v_callV (pc := 80) (rest := [vI t, vR g 118]) (c_X4_digit_f hMc hd9) iok_X4_digit wM_X4_218 (rfl) (by decide) (by decide) rfl (rmOk (by decide) (by decide)) ⟨Nat.le_of_ble_eq_true rfl, Nat.le_of_ble_eq_true rfl⟩ (Nat.le_of_ble_eq_true rfl) rfl dX4_readArguments_80 (fun v G' hq => ?_) (fun _ _ h => h.elim)
            obtain ⟨rfl, hG9⟩ := hq
            rw [hG9]
            refine v_stk (st' := [vI 0, vI t, vR g 118]) rfl ?_
            have hNO : ¬ dg (G 111) (G 106 21) (G 106 20) := fun q => hd9 ⟨hw0, q⟩
            refine v_iast (pc := 83) (N := 183) rfl rfl (by decide) (by omega) (by decide) dX4_readArguments_83 ?_
            refine v_aload_n (pc := 84) rfl dX4_readArguments_84 ?_
            refine v_getR (pc := 85) (j := 118) fd_X4_51 (rfl) (by decide) rfl dX4_readArguments_85 ?_
            refine v_iload_n (pc := 88) rfl dX4_readArguments_88 ?_
            refine v_iconst (pc := 89) (z := 1) dX4_readArguments_89 ?_
            refine v_iadd (pc := 90) dX4_readArguments_90 ?_
            refine v_aload_n (pc := 91) rfl dX4_readArguments_91 ?_
            obtain ⟨Gm, hGm⟩ : ∃ y9 : Mem, y9 = (upd2 (upd2 (upd2 G 106 22 1) 106 20 (G 106 20)) 118 t 0) := ⟨_, rfl⟩
            rw [← hGm]
            have hMg : Mc Gm (G 111) (G 106 21) (G 106 20) 1 := by
              rw [hGm]
              exact Mc_o (Mc_w hMc (e := G 106 20) (u := 1) (by omega) (by decide)) (fun i z q => upd2_i (by omega))
            have hGt : Gm 118 t = 0 := by rw [hGm]; exact upd2_s _ _ _ _
            have hGf : ∀ i z, ¬ (i = 106 ∧ (z = 20 ∨ z = 22)) → ¬ (i = 118 ∧ z = t) → Gm i z = G i z := fun i z a b => by rw [hGm, upd2, if_neg b, upd2, if_neg (by omega), upd2, if_neg (by omega)]
            refine v_callV (pc := 92) (rest := [vI (t + 1), vR g 118]) (c_X4_digitBehind_f hMg (fun q => absurd q.1 (by decide))) iok_X4_digitBehind wM_X4_227 (rfl) (by decide) (by decide) rfl (rmOk (by decide) (by decide)) ⟨Nat.le_of_ble_eq_true rfl, Nat.le_of_ble_eq_true rfl⟩ (Nat.le_of_ble_eq_true rfl) rfl dX4_readArguments_92 (fun v G' hq => ?_) (fun _ _ h => h.elim)
            obtain ⟨rfl, hG9⟩ := hq
            rw [hG9]
            refine v_stk (st' := [vI 0, vI (t + 1), vR g 118]) rfl ?_
            refine v_iast (pc := 95) (N := 183) rfl rfl (by decide) (by omega) (by decide) dX4_readArguments_95 ?_
            refine v_goto (pc := 96) (tgt := 135) dX4_readArguments_96 (by decide) ?_
            exact v_vret (pc := 135) E (⟨rfl, ra_end (v := v) (t := t) (e := (if (1 : Int) = 0 ∧ sg (G 111) (G 106 21) (G 106 20) 32 then (G 106 20) + 1 else (G 106 20))) (u := 1) (Mc_o (Mc_w hMg (e := (if (1 : Int) = 0 ∧ sg (G 111) (G 106 21) (G 106 20) 32 then (G 106 20) + 1 else (G 106 20))) (u := 1) (by first | omega | (split <;> omega)) (by decide)) (fun i z q => upd2_i (by omega))) (by unfold aE yE; repeat (first | rw [if_pos (by first | assumption | omega)] | rw [if_neg (by first | assumption | omega)]); first | done | (unfold nE; rw [if_neg (by first | assumption | omega)]; done) | (repeat' split <;> first | rfl | omega)) (by
              unfold aOk aA aB yV
              repeat (first | rw [if_pos (by first | assumption | omega)] | rw [if_neg (by first | assumption | omega)])
              first
                | exact Or.inl ⟨⟨hOK.2, hB⟩, rfl, by rw [upd2_z (by omega), upd2_i (by decide), upd2_i (by decide)]; exact hGt, fun _ => upd2_s _ _ _ _⟩
                | exact Or.inl ⟨⟨hOK.2, hB⟩, rfl, by rw [upd2_z (by omega), upd2_i (by decide), upd2_i (by decide)]; exact hGt, fun q => by omega⟩
                | exact Or.inl ⟨hOK.2, rfl, upd2_s _ _ _ _, fun q => by omega⟩
                | exact Or.inl ⟨fun _ => hOK, rfl, upd2_s _ _ _ _, fun q => by omega⟩
                | exact Or.inl ⟨fun q => absurd q hsg, hw0, upd2_s _ _ _ _, fun q => by omega⟩
                | exact Or.inr ⟨fun q => hB q.2, rfl⟩
                | exact Or.inr ⟨fun q => hNO q.1, rfl⟩
                | exact Or.inr ⟨fun q => hNO q, rfl⟩
                | exact Or.inr ⟨fun q => hNO (q hsg), rfl⟩) (fun i z a b => by rw [upd2, if_neg (by omega), upd2, if_neg (by omega), upd2, if_neg (by omega)]; exact hGf i z a (by omega))⟩) (Nat.le_of_ble_eq_true rfl) (Nat.le_of_ble_eq_true rfl) dX4_readArguments_135
        · skip
          by_cases hs11 : v = 4
          · skip
            refine v_table (pc := 1) (tgt := 99) (off := 98) (by omega) (by omega) (by omega) (by rw [hs11]; rfl) dX4_readArguments_1 (by decide) ?_
            refine v_aload_n (pc := 99) rfl dX4_readArguments_99 ?_
            refine v_getR (pc := 100) (j := 118) fd_X4_51 (rfl) (by decide) rfl dX4_readArguments_100 ?_
            refine v_iload_n (pc := 103) rfl dX4_readArguments_103 ?_
            refine v_aload_n (pc := 104) rfl dX4_readArguments_104 ?_
            refine v_callV (pc := 105) (rest := [vI t, vR g 118]) (c_X4_here (G := G) (by first | omega | (show 0 ≤ G 106 20 ∧ G 106 20 ≤ 60; omega)) (by first | omega | (show 0 ≤ G 106 21 ∧ G 106 21 ≤ 60; omega))) iok_X4_here wM_X4_211 (rfl) (by decide) (by decide) rfl (rmOk (by decide) (by decide)) ⟨Nat.le_of_ble_eq_true rfl, Nat.le_of_ble_eq_true rfl⟩ (Nat.le_of_ble_eq_true rfl) rfl dX4_readArguments_105 (fun v G' hq => ?_) (fun _ _ h => h.elim)
            obtain ⟨rfl, hG9⟩ := hq
            rw [hG9]
            obtain ⟨x, h_x⟩ : ∃ w9, w9 = (if G 106 20 < G 106 21 then G 111 (G 106 20) else -1) := ⟨_, rfl⟩
            refine v_stk (st' := [vI x, vI t, vR g 118]) (by rw [h_x]; rfl) ?_
            have hx_x : (G 106 20 < G 106 21 ∧ x = G 111 (G 106 20)) ∨ (¬ G 106 20 < G 106 21 ∧ x = -1) := by
              rw [h_x]
              by_cases q : G 106 20 < G 106 21
              · exact Or.inl ⟨q, if_pos q⟩
              · exact Or.inr ⟨q, if_neg q⟩
            have hr_x : -1 ≤ x ∧ x ≤ 126 := by
              rcases hx_x with q | q
              · have := hS (G 106 20) (by omega) q.1
                omega
              · omega
            refine v_bipush (pc := 108) (z := 32) rfl dX4_readArguments_108 ?_
            refine v_icmp_ne (pc := 110) (tgt := 120) (by omega) dX4_readArguments_110 (by decide) (fun bq12 => ?_) (fun bq12 => ?_)
            · skip
              have hsg : ¬ sg (G 111) (G 106 21) (G 106 20) 32 := by omega
              refine v_iconst (pc := 120) (z := 1) dX4_readArguments_120 ?_
              refine v_iast (pc := 121) (N := 183) rfl rfl (by decide) (by omega) (by decide) dX4_readArguments_121 ?_
              refine v_goto (pc := 122) (tgt := 135) dX4_readArguments_122 (by decide) ?_
              exact v_vret (pc := 135) E (⟨rfl, ra_end (v := v) (t := t) (e := G 106 20) (u := G 106 22) (Mc_o hMc (fun i z q => upd2_i (by omega))) (by unfold aE yE; repeat (first | rw [if_pos (by first | assumption | omega)] | rw [if_neg (by first | assumption | omega)]); first | done | (unfold nE; rw [if_neg (by first | assumption | omega)]; done) | (repeat' split <;> first | rfl | omega)) (by
                unfold aOk aA aB yV
                repeat (first | rw [if_pos (by first | assumption | omega)] | rw [if_neg (by first | assumption | omega)])
                first
                  | exact Or.inl ⟨⟨hOK.2, hB⟩, rfl, by rw [upd2_z (by omega), upd2_i (by decide), upd2_i (by decide)]; exact hGt, fun _ => upd2_s _ _ _ _⟩
                  | exact Or.inl ⟨⟨hOK.2, hB⟩, rfl, by rw [upd2_z (by omega), upd2_i (by decide), upd2_i (by decide)]; exact hGt, fun q => by omega⟩
                  | exact Or.inl ⟨hOK.2, rfl, upd2_s _ _ _ _, fun q => by omega⟩
                  | exact Or.inl ⟨fun _ => hOK, rfl, upd2_s _ _ _ _, fun q => by omega⟩
                  | exact Or.inl ⟨fun q => absurd q hsg, hw0, upd2_s _ _ _ _, fun q => by omega⟩
                  | exact Or.inr ⟨fun q => hB q.2, rfl⟩
                  | exact Or.inr ⟨fun q => hNO q.1, rfl⟩
                  | exact Or.inr ⟨fun q => hNO q, rfl⟩
                  | exact Or.inr ⟨fun q => hNO (q hsg), rfl⟩) (fun i z a b => by rw [upd2, if_neg (by omega)])⟩) (Nat.le_of_ble_eq_true rfl) (Nat.le_of_ble_eq_true rfl) dX4_readArguments_135
            · skip
              have hsg : sg (G 111) (G 106 21) (G 106 20) 32 := by omega
              have hq3 := nE_r (S := G 111) (n := G 106 21) (p := G 106 20 + 1) (by omega)
              refine v_aload_n (pc := 113) rfl dX4_readArguments_113 ?_
              by_cases hd13 : G 106 22 = 0 ∧ sg (G 111) (G 106 21) (G 106 20) 32 ∧ dg (G 111) (G 106 21) (G 106 20 + 1)
              · skip
                refine v_callV (pc := 114) (rest := [vI t, vR g 118]) (c_X4_numberBehind_t hMc hd13) iok_X4_numberBehind wM_X4_230 (rfl) (by decide) (by decide) rfl (rmOk (by decide) (by decide)) ⟨Nat.le_of_ble_eq_true rfl, Nat.le_of_ble_eq_true rfl⟩ (Nat.le_of_ble_eq_true rfl) rfl dX4_readArguments_114 (fun v G' hq => ?_) (fun _ _ h => h.elim)
                obtain ⟨rfl, hG9⟩ := hq
                rw [hG9]
                refine v_stk (st' := [vI (nV (G 111) (G 106 21) (G 106 20 + 1)), vI t, vR g 118]) rfl ?_
                have hOK := hd13.2.2
                refine v_goto (pc := 117) (tgt := 121) dX4_readArguments_117 (by decide) ?_
                refine v_iast (pc := 121) (N := 183) rfl rfl (by decide) (by omega) (by decide) dX4_readArguments_121 ?_
                refine v_goto (pc := 122) (tgt := 135) dX4_readArguments_122 (by decide) ?_
                exact v_vret (pc := 135) E (⟨rfl, ra_end (v := v) (t := t) (e := nE (G 111) (G 106 21) (G 106 20 + 1)) (u := 0) (Mc_o (Mc_w hMc (e := nE (G 111) (G 106 21) (G 106 20 + 1)) (u := 0) (by first | omega | (split <;> omega)) (by decide)) (fun i z q => upd2_i (by omega))) (by unfold aE yE; repeat (first | rw [if_pos (by first | assumption | omega)] | rw [if_neg (by first | assumption | omega)]); first | done | (unfold nE; rw [if_neg (by first | assumption | omega)]; done) | (repeat' split <;> first | rfl | omega)) (by
                  unfold aOk aA aB yV
                  repeat (first | rw [if_pos (by first | assumption | omega)] | rw [if_neg (by first | assumption | omega)])
                  first
                    | exact Or.inl ⟨⟨hOK.2, hB⟩, rfl, by rw [upd2_z (by omega), upd2_i (by decide), upd2_i (by decide)]; exact hGt, fun _ => upd2_s _ _ _ _⟩
                    | exact Or.inl ⟨⟨hOK.2, hB⟩, rfl, by rw [upd2_z (by omega), upd2_i (by decide), upd2_i (by decide)]; exact hGt, fun q => by omega⟩
                    | exact Or.inl ⟨hOK.2, rfl, upd2_s _ _ _ _, fun q => by omega⟩
                    | exact Or.inl ⟨fun _ => hOK, rfl, upd2_s _ _ _ _, fun q => by omega⟩
                    | exact Or.inl ⟨fun q => absurd q hsg, hw0, upd2_s _ _ _ _, fun q => by omega⟩
                    | exact Or.inr ⟨fun q => hB q.2, rfl⟩
                    | exact Or.inr ⟨fun q => hNO q.1, rfl⟩
                    | exact Or.inr ⟨fun q => hNO q, rfl⟩
                    | exact Or.inr ⟨fun q => hNO (q hsg), rfl⟩) (fun i z a b => by rw [upd2, if_neg (by omega), upd2, if_neg (by omega), upd2, if_neg (by omega)])⟩) (Nat.le_of_ble_eq_true rfl) (Nat.le_of_ble_eq_true rfl) dX4_readArguments_135
              · skip
                refine v_callV (pc := 114) (rest := [vI t, vR g 118]) (c_X4_numberBehind_f hMc hd13) iok_X4_numberBehind wM_X4_230 (rfl) (by decide) (by decide) rfl (rmOk (by decide) (by decide)) ⟨Nat.le_of_ble_eq_true rfl, Nat.le_of_ble_eq_true rfl⟩ (Nat.le_of_ble_eq_true rfl) rfl dX4_readArguments_114 (fun v G' hq => ?_) (fun _ _ h => h.elim)
                obtain ⟨rfl, hG9⟩ := hq
                rw [hG9]
                refine v_stk (st' := [vI 0, vI t, vR g 118]) rfl ?_
                have hNO : ¬ dg (G 111) (G 106 21) (G 106 20 + 1) := fun q => hd13 ⟨hw0, hsg, q⟩
                refine v_goto (pc := 117) (tgt := 121) dX4_readArguments_117 (by decide) ?_
                refine v_iast (pc := 121) (N := 183) rfl rfl (by decide) (by omega) (by decide) dX4_readArguments_121 ?_
                refine v_goto (pc := 122) (tgt := 135) dX4_readArguments_122 (by decide) ?_
                exact v_vret (pc := 135) E (⟨rfl, ra_end (v := v) (t := t) (e := (if G 106 22 = 0 ∧ sg (G 111) (G 106 21) (G 106 20) 32 then G 106 20 + 1 else G 106 20)) (u := 1) (Mc_o (Mc_w hMc (e := (if G 106 22 = 0 ∧ sg (G 111) (G 106 21) (G 106 20) 32 then G 106 20 + 1 else G 106 20)) (u := 1) (by first | omega | (split <;> omega)) (by decide)) (fun i z q => upd2_i (by omega))) (by unfold aE yE; repeat (first | rw [if_pos (by first | assumption | omega)] | rw [if_neg (by first | assumption | omega)]); first | done | (unfold nE; rw [if_neg (by first | assumption | omega)]; done) | (repeat' split <;> first | rfl | omega)) (by
                  unfold aOk aA aB yV
                  repeat (first | rw [if_pos (by first | assumption | omega)] | rw [if_neg (by first | assumption | omega)])
                  first
                    | exact Or.inl ⟨⟨hOK.2, hB⟩, rfl, by rw [upd2_z (by omega), upd2_i (by decide), upd2_i (by decide)]; exact hGt, fun _ => upd2_s _ _ _ _⟩
                    | exact Or.inl ⟨⟨hOK.2, hB⟩, rfl, by rw [upd2_z (by omega), upd2_i (by decide), upd2_i (by decide)]; exact hGt, fun q => by omega⟩
                    | exact Or.inl ⟨hOK.2, rfl, upd2_s _ _ _ _, fun q => by omega⟩
                    | exact Or.inl ⟨fun _ => hOK, rfl, upd2_s _ _ _ _, fun q => by omega⟩
                    | exact Or.inl ⟨fun q => absurd q hsg, hw0, upd2_s _ _ _ _, fun q => by omega⟩
                    | exact Or.inr ⟨fun q => hB q.2, rfl⟩
                    | exact Or.inr ⟨fun q => hNO q.1, rfl⟩
                    | exact Or.inr ⟨fun q => hNO q, rfl⟩
                    | exact Or.inr ⟨fun q => hNO (q hsg), rfl⟩) (fun i z a b => by rw [upd2, if_neg (by omega), upd2, if_neg (by omega), upd2, if_neg (by omega)])⟩) (Nat.le_of_ble_eq_true rfl) (Nat.le_of_ble_eq_true rfl) dX4_readArguments_135
          · skip
            refine v_tabled (pc := 1) (tgt := 125) (by omega) (by omega) dX4_readArguments_1 (by decide) ?_
            refine v_aload_n (pc := 125) rfl dX4_readArguments_125 ?_
            refine v_getR (pc := 126) (j := 118) fd_X4_51 (rfl) (by decide) rfl dX4_readArguments_126 ?_
            refine v_iload_n (pc := 129) rfl dX4_readArguments_129 ?_
            refine v_aload_n (pc := 130) rfl dX4_readArguments_130 ?_
            by_cases hd14 : G 106 22 = 0 ∧ dg (G 111) (G 106 21) (G 106 20)
            · skip
              refine v_callV (pc := 131) (rest := [vI t, vR g 118]) (c_X4_number_t hMc hd14) iok_X4_number wM_X4_224 (rfl) (by decide) (by decide) rfl (rmOk (by decide) (by decide)) ⟨Nat.le_of_ble_eq_true rfl, Nat.le_of_ble_eq_true rfl⟩ (Nat.le_of_ble_eq_true rfl) rfl dX4_readArguments_131 (fun v G' hq => ?_) (fun _ _ h => h.elim)
              obtain ⟨rfl, hG9⟩ := hq
              rw [hG9]
              refine v_stk (st' := [vI (nV (G 111) (G 106 21) (G 106 20)), vI t, vR g 118]) rfl ?_
              have hOK := hd14
              refine v_iast (pc := 134) (N := 183) rfl rfl (by decide) (by omega) (by decide) dX4_readArguments_134 ?_
              exact v_vret (pc := 135) E (⟨rfl, ra_end (v := v) (t := t) (e := nE (G 111) (G 106 21) (G 106 20)) (u := 0) (Mc_o (Mc_w hMc (e := nE (G 111) (G 106 21) (G 106 20)) (u := 0) (by first | omega | (split <;> omega)) (by decide)) (fun i z q => upd2_i (by omega))) (by unfold aE yE; repeat (first | rw [if_pos (by first | assumption | omega)] | rw [if_neg (by first | assumption | omega)]); first | done | (unfold nE; rw [if_neg (by first | assumption | omega)]; done) | (repeat' split <;> first | rfl | omega)) (by
                unfold aOk aA aB yV
                repeat (first | rw [if_pos (by first | assumption | omega)] | rw [if_neg (by first | assumption | omega)])
                first
                  | exact Or.inl ⟨⟨hOK.2, hB⟩, rfl, by rw [upd2_z (by omega), upd2_i (by decide), upd2_i (by decide)]; exact hGt, fun _ => upd2_s _ _ _ _⟩
                  | exact Or.inl ⟨⟨hOK.2, hB⟩, rfl, by rw [upd2_z (by omega), upd2_i (by decide), upd2_i (by decide)]; exact hGt, fun q => by omega⟩
                  | exact Or.inl ⟨hOK.2, rfl, upd2_s _ _ _ _, fun q => by omega⟩
                  | exact Or.inl ⟨fun _ => hOK, rfl, upd2_s _ _ _ _, fun q => by omega⟩
                  | exact Or.inl ⟨fun q => absurd q hsg, hw0, upd2_s _ _ _ _, fun q => by omega⟩
                  | exact Or.inr ⟨fun q => hB q.2, rfl⟩
                  | exact Or.inr ⟨fun q => hNO q.1, rfl⟩
                  | exact Or.inr ⟨fun q => hNO q, rfl⟩
                  | exact Or.inr ⟨fun q => hNO (q hsg), rfl⟩) (fun i z a b => by rw [upd2, if_neg (by omega), upd2, if_neg (by omega), upd2, if_neg (by omega)])⟩) (Nat.le_of_ble_eq_true rfl) (Nat.le_of_ble_eq_true rfl) dX4_readArguments_135
            · skip
              refine v_callV (pc := 131) (rest := [vI t, vR g 118]) (c_X4_number_f hMc hd14) iok_X4_number wM_X4_224 (rfl) (by decide) (by decide) rfl (rmOk (by decide) (by decide)) ⟨Nat.le_of_ble_eq_true rfl, Nat.le_of_ble_eq_true rfl⟩ (Nat.le_of_ble_eq_true rfl) rfl dX4_readArguments_131 (fun v G' hq => ?_) (fun _ _ h => h.elim)
              obtain ⟨rfl, hG9⟩ := hq
              rw [hG9]
              refine v_stk (st' := [vI 0, vI t, vR g 118]) rfl ?_
              have hNO : ¬ dg (G 111) (G 106 21) (G 106 20) := fun q => hd14 ⟨hw0, q⟩
              refine v_iast (pc := 134) (N := 183) rfl rfl (by decide) (by omega) (by decide) dX4_readArguments_134 ?_
              exact v_vret (pc := 135) E (⟨rfl, ra_end (v := v) (t := t) (e := G 106 20) (u := 1) (Mc_o (Mc_w hMc (e := G 106 20) (u := 1) (by first | omega | (split <;> omega)) (by decide)) (fun i z q => upd2_i (by omega))) (by unfold aE yE; repeat (first | rw [if_pos (by first | assumption | omega)] | rw [if_neg (by first | assumption | omega)]); first | done | (unfold nE; rw [if_neg (by first | assumption | omega)]; done) | (repeat' split <;> first | rfl | omega)) (by
                unfold aOk aA aB yV
                repeat (first | rw [if_pos (by first | assumption | omega)] | rw [if_neg (by first | assumption | omega)])
                first
                  | exact Or.inl ⟨⟨hOK.2, hB⟩, rfl, by rw [upd2_z (by omega), upd2_i (by decide), upd2_i (by decide)]; exact hGt, fun _ => upd2_s _ _ _ _⟩
                  | exact Or.inl ⟨⟨hOK.2, hB⟩, rfl, by rw [upd2_z (by omega), upd2_i (by decide), upd2_i (by decide)]; exact hGt, fun q => by omega⟩
                  | exact Or.inl ⟨hOK.2, rfl, upd2_s _ _ _ _, fun q => by omega⟩
                  | exact Or.inl ⟨fun _ => hOK, rfl, upd2_s _ _ _ _, fun q => by omega⟩
                  | exact Or.inl ⟨fun q => absurd q hsg, hw0, upd2_s _ _ _ _, fun q => by omega⟩
                  | exact Or.inr ⟨fun q => hB q.2, rfl⟩
                  | exact Or.inr ⟨fun q => hNO q.1, rfl⟩
                  | exact Or.inr ⟨fun q => hNO q, rfl⟩
                  | exact Or.inr ⟨fun q => hNO (q hsg), rfl⟩) (fun i z a b => by rw [upd2, if_neg (by omega), upd2, if_neg (by omega), upd2, if_neg (by omega)])⟩) (Nat.le_of_ble_eq_true rfl) (Nat.le_of_ble_eq_true rfl) dX4_readArguments_135
set_option maxHeartbeats 4000000 in
set_option maxRecDepth 100000 in
theorem c_X4_readCommand {g : GT} {G : Mem} {S : Int → Int} {n p w : Int} (h : Mc G S n p w) (hw0 : w = 0) (hL : McL G) {c : Int} (hcc : G 106 19 = c) (h_c : 0 ≤ c ∧ c ≤ 59) : Ctr g yX4_readCommand cX4_readCommand 4 (none : Option FieldType) (rmL 5 0 0) [vR g 106] G (VP (fun G' => ∃ u, Mc G' S n (ce S n p) u ∧ ((cOk S n p ∧ u = 0 ∧ G' 106 19 = c + 1 ∧ G' 118 (3 * c) = vb S n p ∧ G' 118 (3 * c + 1) = cA S n p ∧ ((vb S n p = 0 ∨ vb S n p = 3) → G' 118 (3 * c + 2) = cB S n p)) ∨ (¬ cOk S n p ∧ u = 1)) ∧ ∀ i z, ¬ (i = 106 ∧ (z = 19 ∨ z = 20 ∨ z = 22)) → ¬ (i = 118 ∧ 3 * c ≤ z ∧ z < 3 * c + 3) → G' i z = G i z)) NoX := by
  refine ctr_of [some (vR g 106), none, none, none] (by decide) (Nat.le_of_ble_eq_true rfl) rfl (fun γ E => ?_)
  show V γ g cX4_readCommand 4 RX4 (rmL 5 0 0) G 0 0 0 [some (vR g 106), none, none, none] []
  have hMc := h
  obtain ⟨rfl, rfl, rfl, rfl, hb, hS⟩ := h
  refine v_iconst (pc := 0) (z := 3) dX4_readCommand_0 ?_
  refine v_aload_n (pc := 1) rfl dX4_readCommand_1 ?_
  refine v_get (pc := 2) 19 fd_X4_233 (rfl) (by decide) rfl rfl dX4_readCommand_2 ?_
  refine v_imul (pc := 5) dX4_readCommand_5 ?_
  refine v_stk (st' := [vI (3 * c)]) (by rw [hcc]) ?_
  refine v_istore_n (pc := 6) (by decide) rfl dX4_readCommand_6 ?_
  refine v_iconst (pc := 7) (z := 0) dX4_readCommand_7 ?_
  refine v_istore_n (pc := 8) (by decide) rfl dX4_readCommand_8 ?_
  refine v_iconst (pc := 9) (z := 1) dX4_readCommand_9 ?_
  refine v_istore_n (pc := 10) (by decide) rfl dX4_readCommand_10 ?_
  have lp11 : ∀ (m11 : Nat) (k : Int) (j : Int), (1 ≤ k ∧ k ≤ 7 ∧ 0 ≤ j ∧ j < k) → (∀ i : Nat, (i : Int) < k → lk (G 111) (G 106 21) (G 106 20) i ≤ lk (G 111) (G 106 21) (G 106 20) j.toNat) → ((7 - k).toNat) < m11 → V γ g cX4_readCommand 4 RX4 (rmL 5 0 0) G 0 0 11 [some (vR g 106), some (vI (3 * c)), some (vI j), some (vI k)] [] := by
    intro m11
    induction m11 with
    | zero => intro k j; intros; omega
    | succ m11 ih11 =>
      intro k j h0 hm hm11
      refine v_iload_n (pc := 11) rfl dX4_readCommand_11 ?_
      refine v_bipush (pc := 12) (z := 7) rfl dX4_readCommand_12 ?_
      refine v_icmp_ge (pc := 14) (tgt := 42) (by omega) dX4_readCommand_14 (by decide) (fun bq1 => ?_) (fun bq1 => ?_)
      · skip
        have hm7 : ∀ i : Nat, i < 7 → lk (G 111) (G 106 21) (G 106 20) i ≤ lk (G 111) (G 106 21) (G 106 20) j.toNat := fun i hi => hm i (by omega)
        refine v_aload_n (pc := 42) rfl dX4_readCommand_42 ?_
        refine v_iload_n (pc := 43) rfl dX4_readCommand_43 ?_
        refine v_stk (st' := [vI ((j.toNat : Nat) : Int), vR g 106]) (by have e9 : ((j.toNat : Nat) : Int) = j := (by omega); rw [e9]; first | done | rfl) ?_
        refine v_callV (pc := 44) (rest := []) (c_X4_likeness hMc hL (k := j.toNat) (by omega)) iok_X4_likeness wM_X4_236 (rfl) (by decide) (by decide) rfl (rmOk (by decide) (by decide)) ⟨Nat.le_of_ble_eq_true rfl, Nat.le_of_ble_eq_true rfl⟩ (Nat.le_of_ble_eq_true rfl) rfl dX4_readCommand_44 (fun v G' hq => ?_) (fun _ _ h => h.elim)
        obtain ⟨rfl, hG9⟩ := hq
        rw [hG9]
        obtain ⟨x, h_x⟩ : ∃ w9, w9 = (lk (G 111) (G 106 21) (G 106 20) (j.toNat)) := ⟨_, rfl⟩
        refine v_stk (st' := [vI x]) (by rw [h_x]; rfl) ?_
        have hr_x := lk_r (S := G 111) (n := G 106 21) (p := G 106 20) (k := j.toNat) (by omega) (by omega)
        rw [← h_x] at hr_x
        have hw_x := wlK_r (j.toNat) (by omega)
        refine v_istore_n (pc := 47) (by decide) rfl dX4_readCommand_47 ?_
        refine v_aload_n (pc := 48) rfl dX4_readCommand_48 ?_
        refine v_dup (pc := 49) rfl dX4_readCommand_49 ?_
        refine v_get (pc := 50) 20 fd_X4_201 (rfl) (by decide) rfl rfl dX4_readCommand_50 ?_
        refine v_iload_n (pc := 53) rfl dX4_readCommand_53 ?_
        refine v_iadd (pc := 54) dX4_readCommand_54 ?_
        refine v_put (pc := 55) 20 pd_X4_201 (rfl) (by decide) rfl rfl dX4_readCommand_55 ?_
        have hl7 := hL.1 j.toNat (by omega)
        rw [show ((j.toNat : Nat) : Int) = j by omega] at hl7
        refine v_aload_n (pc := 58) rfl dX4_readCommand_58 ?_
        refine v_iload_n (pc := 59) rfl dX4_readCommand_59 ?_
        refine v_aload_n (pc := 60) rfl dX4_readCommand_60 ?_
        refine v_getR (pc := 61) (j := 117) fd_X4_48 (rfl) (by decide) rfl dX4_readCommand_61 ?_
        refine v_iload_n (pc := 64) rfl dX4_readCommand_64 ?_
        refine v_iconst (pc := 65) (z := 1) dX4_readCommand_65 ?_
        refine v_iadd (pc := 66) dX4_readCommand_66 ?_
        refine v_iald (pc := 67) (N := 8) rfl rfl (by decide) (by omega) (by decide) dX4_readCommand_67 ?_
        refine v_top (b := G 117 (j + 1)) (upd2_i (by decide)) ?_
        refine v_aload_n (pc := 68) rfl dX4_readCommand_68 ?_
        refine v_getR (pc := 69) (j := 117) fd_X4_48 (rfl) (by decide) rfl dX4_readCommand_69 ?_
        refine v_iload_n (pc := 72) rfl dX4_readCommand_72 ?_
        refine v_iald (pc := 73) (N := 8) rfl rfl (by decide) (by omega) (by decide) dX4_readCommand_73 ?_
        refine v_top (b := G 117 j) (upd2_i (by decide)) ?_
        refine v_isub (pc := 74) dX4_readCommand_74 ?_
        refine v_icmp_ge (pc := 75) (tgt := 82) (by omega) dX4_readCommand_75 (by decide) (fun bq2 => ?_) (fun bq2 => ?_)
        · skip
          have hvb : vb (G 111) (G 106 21) (G 106 20) = j := by
            have := vb_of (S := G 111) (n := G 106 21) (p := G 106 20) (k := j.toNat) (by omega) (by rw [← h_x]; omega)
            omega
          have hvE : vE (G 111) (G 106 21) (G 106 20) = G 106 20 + x := by
            unfold vE
            rw [if_pos (by omega), hvb, h_x, show lk (G 111) (G 106 21) (G 106 20) j.toNat = wlK j.toNat by rw [← h_x]; omega]
          refine v_iconst (pc := 82) (z := 0) dX4_readCommand_82 ?_
          refine v_putZ (pc := 83) 22 (by decide) pd_X4_207 (rfl) (by decide) rfl rfl dX4_readCommand_83 ?_
          refine v_aload_n (pc := 86) rfl dX4_readCommand_86 ?_
          refine v_get (pc := 87) 22 fd_X4_207 (rfl) (by decide) rfl rfl dX4_readCommand_87 ?_
          refine v_top (b := 0) (upd2_s _ _ _ _) ?_
          refine v_if_ne (pc := 90) (tgt := 118) (by omega) dX4_readCommand_90 (by decide) (fun bq3 => absurd bq3 (by decide)) (fun _ => ?_)
          refine v_aload_n (pc := 93) rfl dX4_readCommand_93 ?_
          refine v_getR (pc := 94) (j := 118) fd_X4_51 (rfl) (by decide) rfl dX4_readCommand_94 ?_
          refine v_iload_n (pc := 97) rfl dX4_readCommand_97 ?_
          refine v_iload_n (pc := 98) rfl dX4_readCommand_98 ?_
          refine v_iast (pc := 99) (N := 183) rfl rfl (by decide) (by omega) (by decide) dX4_readCommand_99 ?_
          refine v_aload_n (pc := 100) rfl dX4_readCommand_100 ?_
          refine v_dup (pc := 101) rfl dX4_readCommand_101 ?_
          refine v_get (pc := 102) 19 fd_X4_233 (rfl) (by decide) rfl rfl dX4_readCommand_102 ?_
          refine v_top (b := G 106 19) (((upd2_i (by decide)).trans (upd2_z (by decide))).trans (upd2_z (by decide))) ?_
          refine v_iconst (pc := 105) (z := 1) dX4_readCommand_105 ?_
          refine v_iadd (pc := 106) dX4_readCommand_106 ?_
          refine v_put (pc := 107) 19 pd_X4_233 (rfl) (by decide) rfl rfl dX4_readCommand_107 ?_
          refine v_aload_n (pc := 110) rfl dX4_readCommand_110 ?_
          refine v_iload_n (pc := 111) rfl dX4_readCommand_111 ?_
          refine v_iload_n (pc := 112) rfl dX4_readCommand_112 ?_
          refine v_iconst (pc := 113) (z := 1) dX4_readCommand_113 ?_
          refine v_iadd (pc := 114) dX4_readCommand_114 ?_
          obtain ⟨Gm, hGm⟩ : ∃ y9 : Mem, y9 = (upd2 (upd2 (upd2 (upd2 G 106 20 ((G 106 20) + x)) 106 22 0) 118 (3 * c) j) 106 19 ((G 106 19) + 1)) := ⟨_, rfl⟩
          rw [← hGm]
          have hMg : Mc Gm (G 111) (G 106 21) (G 106 20 + x) 0 := by
            rw [hGm]
            refine ⟨funext fun z => ?_, ?_, ?_, ?_, by omega, hS⟩
            · rw [upd2_i (by decide), upd2_i (by decide), upd2_i (by decide), upd2_i (by decide)]
            · rw [upd2_z (by decide), upd2_i (by decide), upd2_z (by decide), upd2_z (by decide)]
            · rw [upd2_z (by decide), upd2_i (by decide), upd2_z (by decide), upd2_s]
            · rw [upd2_z (by decide), upd2_i (by decide), upd2_s]
          have g19 : Gm 106 19 = c + 1 := by rw [hGm, upd2_s]; omega
          have g118 : Gm 118 (3 * c) = j := by rw [hGm, upd2_i (by decide), upd2_s]
          have gfr : ∀ i z, ¬ (i = 106 ∧ (z = 19 ∨ z = 20 ∨ z = 22)) → ¬ (i = 118 ∧ z = 3 * c) → Gm i z = G i z := fun i z a b => by rw [hGm, upd2, if_neg (by omega), upd2, if_neg (by omega), upd2, if_neg (by omega), upd2, if_neg (by omega)]
          refine v_callV (pc := 115) (rest := []) (c_X4_readArguments hMg rfl (v := j) (t := 3 * c + 1) (by omega) (by omega)) iok_X4_readArguments wM_X4_239 (rfl) (by decide) (by decide) rfl (rmOk (by decide) (by decide)) ⟨Nat.le_of_ble_eq_true rfl, Nat.le_of_ble_eq_true rfl⟩ (Nat.le_of_ble_eq_true rfl) rfl dX4_readCommand_115 (fun v Gz hq => ?_) (fun _ _ h => h.elim)
          obtain ⟨rfl, hz⟩ := hq
          refine v_stk (st' := []) rfl ?_
          exact v_vret (pc := 118) E (⟨rfl, by
            obtain ⟨u, hz1, hz2, hz3⟩ := hz
            have hce : ce (G 111) (G 106 21) (G 106 20) = aE (G 111) (G 106 21) (G 106 20 + x) j := by
              unfold ce
              rw [if_pos (by omega), hvE, hvb]
            have hck : cOk (G 111) (G 106 21) (G 106 20) ↔ aOk (G 111) (G 106 21) (G 106 20 + x) j := by
              unfold cOk
              rw [hvE, hvb]
              exact ⟨fun q => q.2, fun q => ⟨by omega, q⟩⟩
            refine ⟨u, by rw [hce]; exact hz1, ?_, fun i z a b => (hz3 i z (by omega) (by omega)).trans (gfr i z a (by omega))⟩
            rcases hz2 with ⟨q1, q2, q3, q4⟩ | ⟨q1, q2⟩
            · refine Or.inl ⟨hck.mpr q1, q2, (hz3 106 19 (by omega) (by omega)).trans g19, ?_, ?_, fun z => ?_⟩
              · rw [hz3 118 (3 * c) (by omega) (by omega), g118, hvb]
              · rw [q3]; unfold cA; rw [hvE, hvb]
              · rw [show 3 * c + 2 = 3 * c + 1 + 1 by omega, q4 (by omega)]; unfold cB; rw [hvE, hvb]
            · exact Or.inr ⟨fun z => q1 (hck.mp z), q2⟩⟩) (Nat.le_of_ble_eq_true rfl) (Nat.le_of_ble_eq_true rfl) dX4_readCommand_118
        · skip
          have hno : vb (G 111) (G 106 21) (G 106 20) = 7 := by
            have hr := vb_r (G 111) (G 106 21) (G 106 20)
            refine Classical.byContradiction fun q => ?_
            have h1 := (vbF_r (S := G 111) (n := G 106 21) (p := G 106 20) 7 0 rfl).2.2 (show vb (G 111) (G 106 21) (G 106 20) < 7 by omega)
            change lk (G 111) (G 106 21) (G 106 20) (vb (G 111) (G 106 21) (G 106 20)).toNat = wlK (vb (G 111) (G 106 21) (G 106 20)).toNat at h1
            have h2 := hm7 (vb (G 111) (G 106 21) (G 106 20)).toNat (by omega)
            by_cases e : (vb (G 111) (G 106 21) (G 106 20)).toNat = j.toNat
            · rw [e, ← h_x] at h1
              omega
            · have h3 := lk_best (j := j.toNat) (k := (vb (G 111) (G 106 21) (G 106 20)).toNat) (by omega) (by omega) (fun z => e z.symm) h1
              omega
          have hend : ce (G 111) (G 106 21) (G 106 20) = G 106 20 + x := by
            unfold ce vE
            rw [if_neg (by omega), if_neg (by omega), lgF_max (S := G 111) (n := G 106 21) (p := G 106 20) (by omega) (by omega) hm7 7 (Nat.le_refl _) (by omega), h_x]
          refine v_iconst (pc := 78) (z := 1) dX4_readCommand_78 ?_
          refine v_goto (pc := 79) (tgt := 83) dX4_readCommand_79 (by decide) ?_
          refine v_putZ (pc := 83) 22 (by decide) pd_X4_207 (rfl) (by decide) rfl rfl dX4_readCommand_83 ?_
          refine v_aload_n (pc := 86) rfl dX4_readCommand_86 ?_
          refine v_get (pc := 87) 22 fd_X4_207 (rfl) (by decide) rfl rfl dX4_readCommand_87 ?_
          refine v_top (b := 1) (upd2_s _ _ _ _) ?_
          refine v_if_ne (pc := 90) (tgt := 118) (by omega) dX4_readCommand_90 (by decide) (fun _ => ?_) (fun bq4 => absurd bq4 (by decide))
          exact v_vret (pc := 118) E (⟨rfl, 1, ⟨funext fun z => by rw [upd2_i (by decide), upd2_i (by decide)], by rw [upd2_z (by decide), upd2_z (by decide)], by rw [upd2_z (by decide), upd2_s, hend], upd2_s _ _ _ _, by omega, hS⟩, Or.inr ⟨fun q => by have := q.1; omega, rfl⟩, fun i z a b => by rw [upd2, if_neg (by omega), upd2, if_neg (by omega)]⟩) (Nat.le_of_ble_eq_true rfl) (Nat.le_of_ble_eq_true rfl) dX4_readCommand_118
      · skip
        refine v_aload_n (pc := 17) rfl dX4_readCommand_17 ?_
        refine v_iload_n (pc := 18) rfl dX4_readCommand_18 ?_
        refine v_stk (st' := [vI ((k.toNat : Nat) : Int), vR g 106]) (by have e9 : ((k.toNat : Nat) : Int) = k := (by omega); rw [e9]; first | done | rfl) ?_
        refine v_callV (pc := 19) (rest := []) (c_X4_likeness hMc hL (k := k.toNat) (by omega)) iok_X4_likeness wM_X4_236 (rfl) (by decide) (by decide) rfl (rmOk (by decide) (by decide)) ⟨Nat.le_of_ble_eq_true rfl, Nat.le_of_ble_eq_true rfl⟩ (Nat.le_of_ble_eq_true rfl) rfl dX4_readCommand_19 (fun v G' hq => ?_) (fun _ _ h => h.elim)
        obtain ⟨rfl, hG9⟩ := hq
        rw [hG9]
        obtain ⟨x1, h_x1⟩ : ∃ w9, w9 = (lk (G 111) (G 106 21) (G 106 20) (k.toNat)) := ⟨_, rfl⟩
        refine v_stk (st' := [vI x1]) (by rw [h_x1]; rfl) ?_
        have hr_x1 := lk_r (S := G 111) (n := G 106 21) (p := G 106 20) (k := k.toNat) (by omega) (by omega)
        rw [← h_x1] at hr_x1
        have hw_x1 := wlK_r (k.toNat) (by omega)
        refine v_aload_n (pc := 22) rfl dX4_readCommand_22 ?_
        refine v_iload_n (pc := 23) rfl dX4_readCommand_23 ?_
        refine v_stk (st' := [vI ((j.toNat : Nat) : Int), vR g 106, vI x1]) (by have e9 : ((j.toNat : Nat) : Int) = j := (by omega); rw [e9]; first | done | rfl) ?_
        refine v_callV (pc := 24) (rest := [vI x1]) (c_X4_likeness hMc hL (k := j.toNat) (by omega)) iok_X4_likeness wM_X4_236 (rfl) (by decide) (by decide) rfl (rmOk (by decide) (by decide)) ⟨Nat.le_of_ble_eq_true rfl, Nat.le_of_ble_eq_true rfl⟩ (Nat.le_of_ble_eq_true rfl) rfl dX4_readCommand_24 (fun v G' hq => ?_) (fun _ _ h => h.elim)
        obtain ⟨rfl, hG9⟩ := hq
        rw [hG9]
        obtain ⟨x2, h_x2⟩ : ∃ w9, w9 = (lk (G 111) (G 106 21) (G 106 20) (j.toNat)) := ⟨_, rfl⟩
        refine v_stk (st' := [vI x2, vI x1]) (by rw [h_x2]; rfl) ?_
        have hr_x2 := lk_r (S := G 111) (n := G 106 21) (p := G 106 20) (k := j.toNat) (by omega) (by omega)
        rw [← h_x2] at hr_x2
        have hw_x2 := wlK_r (j.toNat) (by omega)
        refine v_icmp_le (pc := 27) (tgt := 34) (by omega) dX4_readCommand_27 (by decide) (fun bq5 => ?_) (fun bq5 => ?_)
        · skip
          refine v_iload_n (pc := 34) rfl dX4_readCommand_34 ?_
          refine v_istore_n (pc := 35) (by decide) rfl dX4_readCommand_35 ?_
          refine v_iinc (pc := 36) (y := 1) rfl (by decide) rfl dX4_readCommand_36 ?_
          refine v_goto (pc := 39) (tgt := 11) dX4_readCommand_39 (by decide) ?_
          exact ih11 (k + 1) j (by omega) (fun i hi => by
                    by_cases q : (i : Int) = k
                    · rw [show i = k.toNat by omega]; first | exact Int.le_refl _ | (rw [← h_x1, ← h_x2]; omega)
                    · have a := hm i (by omega); first | exact a | (rw [← h_x2] at a; rw [← h_x1]; omega)) (by omega)
        · skip
          refine v_iload_n (pc := 30) rfl dX4_readCommand_30 ?_
          refine v_goto (pc := 31) (tgt := 35) dX4_readCommand_31 (by decide) ?_
          refine v_istore_n (pc := 35) (by decide) rfl dX4_readCommand_35 ?_
          refine v_iinc (pc := 36) (y := 1) rfl (by decide) rfl dX4_readCommand_36 ?_
          refine v_goto (pc := 39) (tgt := 11) dX4_readCommand_39 (by decide) ?_
          exact ih11 (k + 1) k (by omega) (fun i hi => by
                    by_cases q : (i : Int) = k
                    · rw [show i = k.toNat by omega]; first | exact Int.le_refl _ | (rw [← h_x1, ← h_x2]; omega)
                    · have a := hm i (by omega); first | exact a | (rw [← h_x2] at a; rw [← h_x1]; omega)) (by omega)
  refine v_loc (L' := [some (vR g 106), some (vI (3 * c)), some (vI 0), some (vI 1)]) (⟨rfl, rfl, rfl, rfl, trivial⟩) ?_
  exact lp11 _ 1 0 (by omega) (fun i hi => by rw [show i = (0 : Int).toNat by omega]; exact Int.le_refl _) (Nat.lt_succ_self _)
