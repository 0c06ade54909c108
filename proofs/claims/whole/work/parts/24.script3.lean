-- the words in the script
def lkF (S : Int → Int) (n p : Int) (k : Nat) : Nat → Int → Int
  | 0, m => m
  | f + 1, m => if p + m < n ∧ S (p + m) = wcK k m then lkF S n p k f (m + 1) else m
/-- how many signs of the word k stand at p -/
def lk (S : Int → Int) (n p : Int) (k : Nat) : Int := lkF S n p k (wlK k).toNat 0
theorem lkF_e {S : Int → Int} {n p m : Int} {k : Nat} (h : wlK k ≤ m) : lkF S n p k (wlK k - m).toNat m = m := by
  rw [show (wlK k - m).toNat = 0 by omega]; rfl
theorem lkF_s {S : Int → Int} {n p m : Int} {k : Nat} (h : m < wlK k) : lkF S n p k (wlK k - m).toNat m = if p + m < n ∧ S (p + m) = wcK k m then lkF S n p k (wlK k - (m + 1)).toNat (m + 1) else m := by
  rw [show (wlK k - m).toNat = (wlK k - (m + 1)).toNat + 1 by omega]; rfl
theorem lkF_r {S : Int → Int} {n p : Int} {k : Nat} : ∀ (f : Nat) (m : Int), p + m ≤ n → m ≤ lkF S n p k f m ∧ lkF S n p k f m ≤ m + f ∧ p + lkF S n p k f m ≤ n
  | 0, m, h => by
    show m ≤ m ∧ m ≤ m + (0 : Nat) ∧ p + m ≤ n
    omega
  | f + 1, m, h => by
    show m ≤ (if _ then _ else _) ∧ (if _ then _ else _) ≤ m + (f + 1 : Nat) ∧ p + (if _ then _ else _) ≤ n
    split
    · have := lkF_r (S := S) (n := n) (p := p) (k := k) f (m + 1) (by omega)
      omega
    · omega
theorem lk_r {S : Int → Int} {n p : Int} {k : Nat} (hk : k < 7) (h : p ≤ n) : 0 ≤ lk S n p k ∧ lk S n p k ≤ wlK k ∧ p + lk S n p k ≤ n := by
  have := lkF_r (S := S) (k := k) (wlK k).toNat 0 (show p + 0 ≤ n by omega)
  have h2 := wlK_r k hk
  unfold lk
  omega
def vbF (S : Int → Int) (n p : Int) : Nat → Nat → Int
  | 0, _ => 7
  | f + 1, k => if lk S n p k = wlK k then (k : Int) else vbF S n p f (k + 1)
/-- the word that stands at p: its number, or 7 -/
def vb (S : Int → Int) (n p : Int) : Int := vbF S n p 7 0
def lgF (S : Int → Int) (n p : Int) : Nat → Int
  | 0 => 0
  | k + 1 => mxI (lgF S n p k) (lk S n p k)
/-- where reading a word at p ends -/
def vE (S : Int → Int) (n p : Int) : Int := if vb S n p < 7 then p + wlK (vb S n p).toNat else p + lgF S n p 7
theorem vbF_s {S : Int → Int} {n p c : Int} (h : 0 ≤ c ∧ c < 7) : vbF S n p (7 - c).toNat c.toNat = if lk S n p c.toNat = wlK c.toNat then c else vbF S n p (7 - (c + 1)).toNat (c + 1).toNat := by
  rw [show (7 - c).toNat = (7 - (c + 1)).toNat + 1 by omega, show (c + 1).toNat = c.toNat + 1 by omega]
  show (if _ then ((c.toNat : Nat) : Int) else _) = _
  rw [show ((c.toNat : Nat) : Int) = c by omega]
theorem lgF_r {S : Int → Int} {n p : Int} (h : p ≤ n) : ∀ k : Nat, k ≤ 7 → 0 ≤ lgF S n p k ∧ lgF S n p k ≤ 8 ∧ p + lgF S n p k ≤ n
  | 0, _ => by
    show (0 : Int) ≤ 0 ∧ (0 : Int) ≤ 8 ∧ p + 0 ≤ n
    omega
  | k + 1, hk => by
    have h1 := lgF_r (S := S) h k (by omega)
    have h2 := lk_r (S := S) (k := k) (by omega) h
    have h3 := wlK_r k (by omega)
    show 0 ≤ mxI _ _ ∧ mxI _ _ ≤ 8 ∧ p + mxI _ _ ≤ n
    unfold mxI
    split <;> omega
theorem vbF_r {S : Int → Int} {n p : Int} : ∀ f k : Nat, f + k = 7 → (k : Int) ≤ vbF S n p f k ∧ vbF S n p f k ≤ 7 ∧ (vbF S n p f k < 7 → lk S n p (vbF S n p f k).toNat = wlK (vbF S n p f k).toNat)
  | 0, k, h => by
    show (k : Int) ≤ 7 ∧ (7 : Int) ≤ 7 ∧ ((7 : Int) < 7 → _)
    omega
  | f + 1, k, h => by
    have := vbF_r (S := S) (n := n) (p := p) f (k + 1) (by omega)
    show (k : Int) ≤ (if _ then _ else _) ∧ (if _ then _ else _) ≤ (7 : Int) ∧ ((if _ then _ else _) < (7 : Int) → lk S n p (if _ then _ else _ : Int).toNat = wlK (if _ then _ else _ : Int).toNat)
    by_cases q : lk S n p k = wlK k
    · rw [if_pos q]
      refine ⟨by omega, by omega, fun _ => ?_⟩
      rw [show ((k : Int)).toNat = k by omega]; exact q
    · rw [if_neg q]
      exact ⟨by omega, by omega, this.2.2⟩
theorem vE_r {S : Int → Int} {n p : Int} (h : p ≤ n) : p ≤ vE S n p ∧ vE S n p ≤ n := by
  have h1 := vbF_r (S := S) (n := n) (p := p) 7 0 rfl
  have h2 := lgF_r (S := S) h 7 (by omega)
  unfold vE vb
  split
  · rename_i q
    have h3 := h1.2.2 q
    have h4 := lk_r (S := S) (k := (vbF S n p 7 0).toNat) (by omega) h
    omega
  · omega

set_option maxHeartbeats 4000000 in
set_option maxRecDepth 100000 in
theorem c_X1_signsMatching {g : GT} {G : Mem} {S : Int → Int} {n p c : Int} (h : Sc G S n p c) {k : Nat} (hk : k < 7) : Ctr g yX1_signsMatching cX1_signsMatching 3 (some FieldType.int) (rmL 4 0 0) [vR g 2, .ref (gK g k)] G (RM (lk S n p k) G) NoX := by
  refine ctr_of [some (vR g 2), some (.ref (gK g k)), none] (by decide) (Nat.le_of_ble_eq_true rfl) rfl (fun γ E => ?_)
  show V γ g cX1_signsMatching 3 RX1 (rmL 4 0 0) G 0 0 0 [some (vR g 2), some (.ref (gK g k)), none] []
  have hSc := h
  obtain ⟨rfl, rfl, rfl, rfl, hb, hS⟩ := h
  have hw := wlK_r k hk
  refine v_iconst (pc := 0) (z := 0) dX1_signsMatching_0 ?_
  refine v_istore_n (pc := 1) (by decide) rfl dX1_signsMatching_1 ?_
  have lp2 : ∀ (m2 : Nat) (m : Int), (0 ≤ m ∧ m ≤ wlK k) → (lk (G 102) (G 2 1) (G 2 2) k = lkF (G 102) (G 2 1) (G 2 2) k (wlK k - m).toNat m) → ((wlK k - m).toNat) < m2 → V γ g cX1_signsMatching 3 RX1 (rmL 4 0 0) G 0 0 2 [some (vR g 2), some (.ref (gK g k)), some (vI m)] [] := by
    intro m2
    induction m2 with
    | zero => intro m; intros; omega
    | succ m2 ih2 =>
      intro m h0 hm hm2
      refine v_iload_n (pc := 2) rfl dX1_signsMatching_2 ?_
      refine v_aload_n (pc := 3) rfl dX1_signsMatching_3 ?_
      refine v_callK (pc := 4) (rest := [vI m]) hk (c_J0_length_8abf5 hk) iok_J0_length_8abf5 wM_X1_66 rfl (rmOk (by decide) (by decide)) ⟨Nat.le_of_ble_eq_true rfl, Nat.le_of_ble_eq_true rfl⟩ (Nat.le_of_ble_eq_true rfl) rfl dX1_signsMatching_4 (fun v G' hq => ?_) (fun _ _ h => h.elim)
      obtain ⟨rfl, hG9⟩ := hq
      rw [hG9]
      refine v_stk (st' := [vI (wlK k), vI m]) rfl ?_
      refine v_icmp_ge (pc := 7) (tgt := 48) (by omega) dX1_signsMatching_7 (by decide) (fun h1 => ?_) (fun h1 => ?_)
      · skip
        refine v_iload_n (pc := 48) rfl dX1_signsMatching_48 ?_
        exact v_iret (pc := 49) E (⟨by rw [hm]; first | rw [lkF_e (by omega)] | rw [lkF_s (by omega), if_neg (by omega)], rfl⟩) (Nat.le_of_ble_eq_true rfl) (Nat.le_of_ble_eq_true rfl) dX1_signsMatching_49
      · skip
        refine v_aload_n (pc := 10) rfl dX1_signsMatching_10 ?_
        refine v_get (pc := 11) 2 fd_X1_29 (rfl) (by decide) rfl rfl dX1_signsMatching_11 ?_
        refine v_iload_n (pc := 14) rfl dX1_signsMatching_14 ?_
        refine v_iadd (pc := 15) dX1_signsMatching_15 ?_
        refine v_aload_n (pc := 16) rfl dX1_signsMatching_16 ?_
        refine v_get (pc := 17) 1 fd_X1_25 (rfl) (by decide) rfl rfl dX1_signsMatching_17 ?_
        refine v_icmp_ge (pc := 20) (tgt := 48) (by omega) dX1_signsMatching_20 (by decide) (fun h2 => ?_) (fun h2 => ?_)
        · skip
          refine v_iload_n (pc := 48) rfl dX1_signsMatching_48 ?_
          exact v_iret (pc := 49) E (⟨by rw [hm]; first | rw [lkF_e (by omega)] | rw [lkF_s (by omega), if_neg (by omega)], rfl⟩) (Nat.le_of_ble_eq_true rfl) (Nat.le_of_ble_eq_true rfl) dX1_signsMatching_49
        · skip
          refine v_aload_n (pc := 23) rfl dX1_signsMatching_23 ?_
          refine v_getR (pc := 24) (j := 102) fd_X1_9 (rfl) (by decide) rfl dX1_signsMatching_24 ?_
          refine v_aload_n (pc := 27) rfl dX1_signsMatching_27 ?_
          refine v_get (pc := 28) 2 fd_X1_29 (rfl) (by decide) rfl rfl dX1_signsMatching_28 ?_
          refine v_iload_n (pc := 31) rfl dX1_signsMatching_31 ?_
          refine v_iadd (pc := 32) dX1_signsMatching_32 ?_
          refine v_cald (pc := 33) (N := 60) rfl rfl (by decide) (by omega) (by decide) dX1_signsMatching_33 ?_
          have r3 := hS ((G 2 2) + m) (by omega) (by omega)
          refine v_aload_n (pc := 34) rfl dX1_signsMatching_34 ?_
          refine v_iload_n (pc := 35) rfl dX1_signsMatching_35 ?_
          have hc := wcK_r (z := m) hk (by omega)
          refine v_callK (pc := 36) (rest := [vI (G 102 ((G 2 2) + m))]) hk (c_J0_charAt_5068e hk (z := m) (by omega)) iok_J0_charAt_5068e wM_X1_77 rfl (rmOk (by decide) (by decide)) ⟨Nat.le_of_ble_eq_true rfl, Nat.le_of_ble_eq_true rfl⟩ (Nat.le_of_ble_eq_true rfl) rfl dX1_signsMatching_36 (fun v G' hq => ?_) (fun _ _ h => h.elim)
          obtain ⟨rfl, hG9⟩ := hq
          rw [hG9]
          refine v_stk (st' := [vI (wcK k m), vI (G 102 ((G 2 2) + m))]) rfl ?_
          refine v_icmp_ne (pc := 39) (tgt := 48) (by omega) dX1_signsMatching_39 (by decide) (fun h4 => ?_) (fun h4 => ?_)
          · skip
            refine v_iload_n (pc := 48) rfl dX1_signsMatching_48 ?_
            exact v_iret (pc := 49) E (⟨by rw [hm]; first | rw [lkF_e (by omega)] | rw [lkF_s (by omega), if_neg (by omega)], rfl⟩) (Nat.le_of_ble_eq_true rfl) (Nat.le_of_ble_eq_true rfl) dX1_signsMatching_49
          · skip
            refine v_iinc (pc := 42) (y := 1) rfl (by decide) rfl dX1_signsMatching_42 ?_
            refine v_goto (pc := 45) (tgt := 2) dX1_signsMatching_45 (by decide) ?_
            exact ih2 (m + 1) (by omega) (by rw [hm, lkF_s (by omega), if_pos (by omega)]) (by omega)
  refine v_loc (L' := [some (vR g 2), some (.ref (gK g k)), some (vI 0)]) (⟨rfl, rfl, rfl, trivial⟩) ?_
  exact lp2 _ 0 (by omega) (by rw [show wlK k - 0 = wlK k by omega]; rfl) (Nat.lt_succ_self _)
set_option maxHeartbeats 4000000 in
set_option maxRecDepth 100000 in
theorem c_X1_wordOf {g : GT} {G : Mem} {c : Int} (h_c : 0 ≤ c ∧ c < 7) : Ctr g yX1_wordOf cX1_wordOf 1 (some (FieldType.object "java/lang/String")) (rmL 0 0 0) [vI c] G (fun v G' => v = some (.ref (gK g c.toNat)) ∧ G' = G) NoX := by
  refine ctr_of [some (vI c)] (by decide) (Nat.le_of_ble_eq_true rfl) rfl (fun γ E => ?_)
  show V γ g cX1_wordOf 1 RX1 (rmL 0 0 0) G 0 0 0 [some (vI c)] []
  refine v_iload_n (pc := 0) rfl dX1_wordOf_0 ?_
  by_cases hs1 : c = 0
  · skip
    refine v_table (pc := 1) (tgt := 40) (off := 39) (by omega) (by omega) (by omega) (by rw [hs1]; rfl) dX1_wordOf_1 (by decide) ?_
    refine v_ldcK (pc := 40) (i := 0) (by decide) rfl dX1_wordOf_40 ?_
    exact v_aret (pc := 42) E (⟨by rw [show c.toNat = 0 by omega], rfl⟩) (Nat.le_of_ble_eq_true rfl) (Nat.le_of_ble_eq_true rfl) dX1_wordOf_42
  · skip
    by_cases hs2 : c = 1
    · skip
      refine v_table (pc := 1) (tgt := 43) (off := 42) (by omega) (by omega) (by omega) (by rw [hs2]; rfl) dX1_wordOf_1 (by decide) ?_
      refine v_ldcK (pc := 43) (i := 1) (by decide) rfl dX1_wordOf_43 ?_
      exact v_aret (pc := 45) E (⟨by rw [show c.toNat = 1 by omega], rfl⟩) (Nat.le_of_ble_eq_true rfl) (Nat.le_of_ble_eq_true rfl) dX1_wordOf_45
    · skip
      by_cases hs3 : c = 2
      · skip
        refine v_table (pc := 1) (tgt := 46) (off := 45) (by omega) (by omega) (by omega) (by rw [hs3]; rfl) dX1_wordOf_1 (by decide) ?_
        refine v_ldcK (pc := 46) (i := 2) (by decide) rfl dX1_wordOf_46 ?_
        exact v_aret (pc := 48) E (⟨by rw [show c.toNat = 2 by omega], rfl⟩) (Nat.le_of_ble_eq_true rfl) (Nat.le_of_ble_eq_true rfl) dX1_wordOf_48
      · skip
        by_cases hs4 : c = 3
        · skip
          refine v_table (pc := 1) (tgt := 49) (off := 48) (by omega) (by omega) (by omega) (by rw [hs4]; rfl) dX1_wordOf_1 (by decide) ?_
          refine v_ldcK (pc := 49) (i := 3) (by decide) rfl dX1_wordOf_49 ?_
          exact v_aret (pc := 51) E (⟨by rw [show c.toNat = 3 by omega], rfl⟩) (Nat.le_of_ble_eq_true rfl) (Nat.le_of_ble_eq_true rfl) dX1_wordOf_51
        · skip
          by_cases hs5 : c = 4
          · skip
            refine v_table (pc := 1) (tgt := 52) (off := 51) (by omega) (by omega) (by omega) (by rw [hs5]; rfl) dX1_wordOf_1 (by decide) ?_
            refine v_ldcK (pc := 52) (i := 4) (by decide) rfl dX1_wordOf_52 ?_
            exact v_aret (pc := 54) E (⟨by rw [show c.toNat = 4 by omega], rfl⟩) (Nat.le_of_ble_eq_true rfl) (Nat.le_of_ble_eq_true rfl) dX1_wordOf_54
          · skip
            by_cases hs6 : c = 5
            · skip
              refine v_table (pc := 1) (tgt := 55) (off := 54) (by omega) (by omega) (by omega) (by rw [hs6]; rfl) dX1_wordOf_1 (by decide) ?_
              refine v_ldcK (pc := 55) (i := 5) (by decide) rfl dX1_wordOf_55 ?_
              exact v_aret (pc := 57) E (⟨by rw [show c.toNat = 5 by omega], rfl⟩) (Nat.le_of_ble_eq_true rfl) (Nat.le_of_ble_eq_true rfl) dX1_wordOf_57
            · skip
              refine v_tabled (pc := 1) (tgt := 58) (by omega) (by omega) dX1_wordOf_1 (by decide) ?_
              refine v_ldcK (pc := 58) (i := 6) (by decide) rfl dX1_wordOf_58 ?_
              exact v_aret (pc := 60) E (⟨by rw [show c.toNat = 6 by omega], rfl⟩) (Nat.le_of_ble_eq_true rfl) (Nat.le_of_ble_eq_true rfl) dX1_wordOf_60
set_option maxHeartbeats 4000000 in
set_option maxRecDepth 100000 in
theorem c_X1_readVerb {g : GT} {G : Mem} {S : Int → Int} {n p c : Int} (h : Sc G S n p c) : Ctr g yX1_readVerb cX1_readVerb 5 (some FieldType.boolean) (rmL 5 0 0) [vR g 2] G (RP (fun r G' => r = bI (vb S n p < 7) ∧ G' 2 2 = vE S n p ∧ (vb S n p < 7 → G' 103 c = vb S n p) ∧ ∀ i z, ¬ (i = 2 ∧ z = 2) → ¬ (i = 103 ∧ z = c) → G' i z = G i z)) NoX := by
  refine ctr_of [some (vR g 2), none, none, none, none] (by decide) (Nat.le_of_ble_eq_true rfl) rfl (fun γ E => ?_)
  show V γ g cX1_readVerb 5 RX1 (rmL 5 0 0) G 0 0 0 [some (vR g 2), none, none, none, none] []
  have hSc := h
  obtain ⟨rfl, rfl, rfl, rfl, hb, hS⟩ := h
  refine v_iconst (pc := 0) (z := 0) dX1_readVerb_0 ?_
  refine v_istore_n (pc := 1) (by decide) rfl dX1_readVerb_1 ?_
  refine v_iconst (pc := 2) (z := 0) dX1_readVerb_2 ?_
  refine v_istore_n (pc := 3) (by decide) rfl dX1_readVerb_3 ?_
  have lp4 : ∀ (m4 : Nat) (c : Int) (lg : Int), (0 ≤ c ∧ c ≤ 7) → (vb (G 102) (G 2 1) (G 2 2) = vbF (G 102) (G 2 1) (G 2 2) (7 - c).toNat c.toNat) → (lg = lgF (G 102) (G 2 1) (G 2 2) c.toNat) → ((7 - c).toNat) < m4 → V γ g cX1_readVerb 5 RX1 (rmL 5 0 0) G 0 0 4 [some (vR g 2), some (vI lg), some (vI c), none, none] [] := by
    intro m4
    induction m4 with
    | zero => intro c lg; intros; omega
    | succ m4 ih4 =>
      intro c lg h0 hv hl hm4
      have hlr := lgF_r (S := G 102) (n := G 2 1) (p := G 2 2) (by omega) c.toNat (by omega)
      rw [← hl] at hlr
      refine v_iload_n (pc := 4) rfl dX1_readVerb_4 ?_
      refine v_bipush (pc := 5) (z := 7) rfl dX1_readVerb_5 ?_
      refine v_icmp_ge (pc := 7) (tgt := 67) (by omega) dX1_readVerb_7 (by decide) (fun h1 => ?_) (fun h1 => ?_)
      · skip
        have hv7 : vb (G 102) (G 2 1) (G 2 2) = 7 := by rw [hv, show (7 - c).toNat = 0 by omega]; rfl
        refine v_aload_n (pc := 67) rfl dX1_readVerb_67 ?_
        refine v_dup (pc := 68) rfl dX1_readVerb_68 ?_
        refine v_get (pc := 69) 2 fd_X1_29 (rfl) (by decide) rfl rfl dX1_readVerb_69 ?_
        refine v_iload_n (pc := 72) rfl dX1_readVerb_72 ?_
        refine v_iadd (pc := 73) dX1_readVerb_73 ?_
        refine v_put (pc := 74) 2 pd_X1_29 (rfl) (by decide) rfl rfl dX1_readVerb_74 ?_
        refine v_iconst (pc := 77) (z := 0) dX1_readVerb_77 ?_
        exact v_bret (pc := 78) E (by decide) (⟨_, rfl, by rw [bI_f (by omega)], by unfold vE; rw [if_neg (by omega), ← show lg = lgF (G 102) (G 2 1) (G 2 2) 7 by rw [hl, show c.toNat = 7 by omega]]; exact upd2_s _ _ _ _, fun q => absurd q (by omega), fun i z a b => upd2_n a⟩) (Nat.le_of_ble_eq_true rfl) (Nat.le_of_ble_eq_true rfl) dX1_readVerb_78
      · skip
        refine v_iload_n (pc := 10) rfl dX1_readVerb_10 ?_
        refine v_callS (pc := 11) (rest := []) (c_X1_wordOf (c := c) (by omega)) sok_X1_wordOf wM_X1_58 (rmOk (by decide) (by decide)) ⟨Nat.le_of_ble_eq_true rfl, Nat.le_of_ble_eq_true rfl⟩ (Nat.le_of_ble_eq_true rfl) rfl dX1_readVerb_11 (fun v G' hq => ?_) (fun _ _ h => h.elim)
        obtain ⟨rfl, hG9⟩ := hq
        rw [hG9]
        refine v_stk (st' := [.ref (gK g c.toNat)]) rfl ?_
        refine v_astore_n (pc := 14) (by decide) rfl dX1_readVerb_14 ?_
        refine v_aload_n (pc := 15) rfl dX1_readVerb_15 ?_
        refine v_aload_n (pc := 16) rfl dX1_readVerb_16 ?_
        refine v_callV (pc := 17) (rest := []) (c_X1_signsMatching hSc (k := c.toNat) (by omega)) iok_X1_signsMatching wM_X1_62 (rfl) (by decide) (by decide) rfl (rmOk (by decide) (by decide)) ⟨Nat.le_of_ble_eq_true rfl, Nat.le_of_ble_eq_true rfl⟩ (Nat.le_of_ble_eq_true rfl) rfl dX1_readVerb_17 (fun v G' hq => ?_) (fun _ _ h => h.elim)
        obtain ⟨rfl, hG9⟩ := hq
        rw [hG9]
        obtain ⟨mt, h_mt⟩ : ∃ w9, w9 = (lk (G 102) (G 2 1) (G 2 2) c.toNat) := ⟨_, rfl⟩
        refine v_stk (st' := [vI mt]) (by rw [h_mt]; rfl) ?_
        have hmt := lk_r (S := G 102) (n := G 2 1) (p := G 2 2) (k := c.toNat) (by omega) (by omega)
        rw [← h_mt] at hmt
        have hwl := wlK_r c.toNat (by omega)
        have hk : c.toNat < 7 := by omega
        refine v_istore (pc := 20) (by decide) rfl dX1_readVerb_20 ?_
        refine v_iload (pc := 22) rfl dX1_readVerb_22 ?_
        refine v_aload_n (pc := 24) rfl dX1_readVerb_24 ?_
        refine v_callK (pc := 25) (rest := [vI mt]) hk (c_J0_length_8abf5 hk) iok_J0_length_8abf5 wM_X1_66 rfl (rmOk (by decide) (by decide)) ⟨Nat.le_of_ble_eq_true rfl, Nat.le_of_ble_eq_true rfl⟩ (Nat.le_of_ble_eq_true rfl) rfl dX1_readVerb_25 (fun v G' hq => ?_) (fun _ _ h => h.elim)
        obtain ⟨rfl, hG9⟩ := hq
        rw [hG9]
        refine v_stk (st' := [vI (wlK c.toNat), vI mt]) rfl ?_
        refine v_icmp_ne (pc := 28) (tgt := 54) (by omega) dX1_readVerb_28 (by decide) (fun h2 => ?_) (fun h2 => ?_)
        · skip
          refine v_iload_n (pc := 54) rfl dX1_readVerb_54 ?_
          refine v_iload (pc := 55) rfl dX1_readVerb_55 ?_
          refine v_mmax (pc := 57) (by omega) wM_X1_71 (Nat.le_of_ble_eq_true rfl) (Nat.le_of_ble_eq_true rfl) (Nat.le_of_ble_eq_true rfl) (Nat.le_of_ble_eq_true rfl) (Nat.le_of_ble_eq_true rfl) dX1_readVerb_57 ?_
          refine v_istore_n (pc := 60) (by decide) rfl dX1_readVerb_60 ?_
          refine v_iinc (pc := 61) (y := 1) rfl (by decide) rfl dX1_readVerb_61 ?_
          refine v_goto (pc := 64) (tgt := 4) dX1_readVerb_64 (by decide) ?_
          refine v_loc (L' := [some (vR g 2), some (vI (mxI lg mt)), some (vI (c + 1)), none, none]) (⟨rfl, rfl, rfl, trivial⟩) ?_
          exact ih4 (c + 1) (mxI lg mt) (by omega) (by rw [hv, vbF_s (by omega), if_neg (by omega)]) (by rw [show (c + 1).toNat = c.toNat + 1 by omega, hl, h_mt]; rfl) (by omega)
        · skip
          have hwq : mt = wlK c.toNat := by omega
          have hvc : vb (G 102) (G 2 1) (G 2 2) = c := by rw [hv, vbF_s (by omega), if_pos (by omega)]
          refine v_aload_n (pc := 31) rfl dX1_readVerb_31 ?_
          refine v_getR (pc := 32) (j := 103) fd_X1_15 (rfl) (by decide) rfl dX1_readVerb_32 ?_
          refine v_aload_n (pc := 35) rfl dX1_readVerb_35 ?_
          refine v_get (pc := 36) 3 fd_X1_32 (rfl) (by decide) rfl rfl dX1_readVerb_36 ?_
          refine v_iload_n (pc := 39) rfl dX1_readVerb_39 ?_
          refine v_iast (pc := 40) (N := 60) rfl rfl (by decide) (by omega) (by decide) dX1_readVerb_40 ?_
          refine v_aload_n (pc := 41) rfl dX1_readVerb_41 ?_
          refine v_dup (pc := 42) rfl dX1_readVerb_42 ?_
          refine v_get (pc := 43) 2 fd_X1_29 (rfl) (by decide) rfl rfl dX1_readVerb_43 ?_
          refine v_top (b := G 2 2) (upd2_i (by decide)) ?_
          refine v_iload (pc := 46) rfl dX1_readVerb_46 ?_
          refine v_iadd (pc := 48) dX1_readVerb_48 ?_
          refine v_put (pc := 49) 2 pd_X1_29 (rfl) (by decide) rfl rfl dX1_readVerb_49 ?_
          refine v_iconst (pc := 52) (z := 1) dX1_readVerb_52 ?_
          exact v_bret (pc := 53) E (by decide) (⟨_, rfl, by rw [bI_t (by omega)], by unfold vE; rw [if_pos (by omega), hvc, ← hwq]; exact upd2_s _ _ _ _, fun _ => by rw [hvc]; exact (upd2_i (by decide)).trans (upd2_s _ _ _ _), fun i z a b => (upd2_n a).trans (upd2_n b)⟩) (Nat.le_of_ble_eq_true rfl) (Nat.le_of_ble_eq_true rfl) dX1_readVerb_53
  refine v_loc (L' := [some (vR g 2), some (vI 0), some (vI 0), none, none]) (⟨rfl, rfl, rfl, trivial⟩) ?_
  exact lp4 _ 0 0 (by omega) rfl rfl (Nat.lt_succ_self _)
