-- the model's changes
def kOf (v q : Int) : Int := if q = 0 then 0 else if v = 3 then q else if v = 1 then (if q = 1 then 1 else 2) else if q = 2 then 1 else if q = 3 then 2 else if v = 0 then 3 else 2
/-- a change's end: with the fault q (0: none, and P) -/
def EndM (G G' : Mem) (v q : Int) (P : Prop) : Prop := G' 106 8 = kOf v q ∧ (∀ i z, i ≠ 107 → ¬ (112 ≤ i ∧ i ≤ 114) → ¬ (i = 106 ∧ z = 8) → G' i z = G i z) ∧ ((q ≠ 0 ∧ G' 107 = G 107) ∨ (q = 0 ∧ P))
/-- the row m when the coin c has left it -/
def tkM (M : Int → Int) (c : Int) : Int → Int := fun z => if z = 3 then M 3 - 1 else if 24 + 3 * c ≤ z ∧ z < 141 then M (z + 3) else if 141 ≤ z ∧ z < 144 then 0 else M z
def setM (G : Mem) (f : Int → Int) : Mem := fun j z => if j = 107 then f z else G j z
theorem setM_7 (G : Mem) (f : Int → Int) : setM G f 107 = f := funext fun _ => if_pos rfl
theorem setM_o {G : Mem} {f : Int → Int} {j : Nat} {z : Int} (h : j ≠ 107) : setM G f j z = G j z := if_neg h
theorem tkM_lo {M : Int → Int} {c z : Int} (h0 : 0 ≤ c) (h : z < 24) (h3 : z ≠ 3) : tkM M c z = M z := by
  unfold tkM
  rw [if_neg h3, if_neg (by omega), if_neg (by omega)]
theorem tkM_3 (M : Int → Int) (c : Int) : tkM M c 3 = M 3 - 1 := if_pos rfl
theorem tkM_k {M : Int → Int} {c k t : Int} (h0 : 0 ≤ c) (hk : 0 ≤ k ∧ k ≤ 38) (ht : 0 ≤ t ∧ t ≤ 2) : tkM M c (24 + 3 * k + t) = if k < c then M (24 + 3 * k + t) else M (24 + 3 * (k + 1) + t) := by
  unfold tkM
  rw [if_neg (by omega)]
  by_cases h : k < c
  · rw [if_neg (by omega), if_neg (by omega), if_pos h]
  · rw [if_pos (by omega), if_neg h]
    congr 1
    omega
theorem sz_del {n c : Int} {t : Int → Int} (h : 0 ≤ c ∧ c < n) : sz (n - 1) (fun k => if k < c then t k else t (k + 1)) = sz n t - t c := by
  have e1 := sz_split (a := c) (b := n - 1 - c) (f := fun k => if k < c then t k else t (k + 1)) h.1 (by omega)
  have e2 := sz_split (a := c) (b := n - c) (f := t) h.1 (by omega)
  have e3 := sz_split (a := 1) (b := n - c - 1) (f := fun i => t (c + i)) (by omega) (by omega)
  have e4 : sz 1 (fun i => t (c + i)) = t c := by
    rw [show (1 : Int) = 0 + 1 from rfl, sz_s (by omega), sz_0]
    simp
  have e5 : sz c (fun k => if k < c then t k else t (k + 1)) = sz c t := sz_congr fun k _ k1 => if_pos k1
  have e6 : sz (n - 1 - c) (fun i => if c + i < c then t (c + i) else t (c + i + 1)) = sz (n - c - 1) (fun i => t (c + (1 + i))) := by
    rw [show n - 1 - c = n - c - 1 by omega]
    exact sz_congr fun k k0 _ => by rw [if_neg (by omega)]; congr 1; omega
  rw [show c + (n - 1 - c) = n - 1 by omega] at e1
  rw [show c + (n - c) = n by omega] at e2
  rw [show 1 + (n - c - 1) = n - c by omega] at e3
  rw [e1, e2, e3, e4, e5, e6]
  omega
theorem csM_tk {M : Int → Int} {c : Int} (hc : 0 ≤ c ∧ c < M 3) (h3 : M 3 ≤ 40) (φ : Int → Int → Int → Int) : csM (tkM M c) φ = csM M φ - φ (M (24 + 3 * c)) (M (24 + 3 * c + 1)) (M (24 + 3 * c + 2)) := by
  unfold csM
  rw [tkM_3]
  have e := sz_del (n := M 3) (c := c) (t := fun k => φ (M (24 + 3 * k)) (M (24 + 3 * k + 1)) (M (24 + 3 * k + 2))) hc
  rw [← e]
  refine sz_congr fun k k0 k1 => ?_
  have a0 := tkM_k (M := M) (c := c) (k := k) (t := 0) hc.1 (by omega) (by omega)
  have a1 := tkM_k (M := M) (c := c) (k := k) (t := 1) hc.1 (by omega) (by omega)
  have a2 := tkM_k (M := M) (c := c) (k := k) (t := 2) hc.1 (by omega) (by omega)
  simp only [Int.add_zero] at a0
  rw [a0, a1, a2]
  by_cases h : k < c
  · rw [if_pos h, if_pos h, if_pos h, if_pos h]
  · rw [if_neg h, if_neg h, if_neg h, if_neg h]
theorem MoI_tk {M : Int → Int} {c : Int} (h : MoI M) (hc : 0 ≤ c ∧ c < M 3) : MoI (tkM M c) := by
  obtain ⟨a1, a2, a3, a4, a5, a6, a7⟩ := h
  have e0 : tkM M c 0 = M 0 := tkM_lo hc.1 (by omega) (by omega)
  have e2 : tkM M c 2 = M 2 := tkM_lo hc.1 (by omega) (by omega)
  refine ⟨by rw [e0]; exact a1, by rw [tkM_3]; omega, by rw [e2]; exact a3, fun k k0 k1 => ?_, fun i i0 i1 => ?_, fun i i0 i1 => ?_, fun i j i0 ij j1 => ?_⟩
  · rw [tkM_3] at k1
    have b0 := tkM_k (M := M) (c := c) (k := k) (t := 0) hc.1 (by omega) (by omega)
    have b1 := tkM_k (M := M) (c := c) (k := k) (t := 1) hc.1 (by omega) (by omega)
    have b2 := tkM_k (M := M) (c := c) (k := k) (t := 2) hc.1 (by omega) (by omega)
    simp only [Int.add_zero] at b0
    rw [e0, e2, b0, b1, b2]
    by_cases q : k < c
    · rw [if_pos q, if_pos q, if_pos q]; exact a4 k k0 (by omega)
    · rw [if_neg q, if_neg q, if_neg q]; exact a4 (k + 1) (by omega) (by omega)
  · rw [e0] at i1
    rw [tkM_lo hc.1 (by omega) (by omega), tkM_lo hc.1 (by omega) (by omega), tkM_lo hc.1 (by omega) (by omega)]
    exact a5 i i0 i1
  · rw [e0] at i0
    rw [tkM_lo hc.1 (by omega) (by omega)]
    exact a6 i i0 i1
  · rw [e0] at j1
    rw [tkM_lo hc.1 (by omega) (by omega), tkM_lo hc.1 (by omega) (by omega)]
    exact a7 i j i0 ij j1

set_option maxHeartbeats 4000000 in
set_option maxRecDepth 100000 in
theorem c_X4_takesOut {g : GT} {G : Mem} (hM : MoI (G 107)) {c : Int} (h_c : 0 ≤ c ∧ c < G 107 3) : Ctr g yX4_takesOut cX4_takesOut 3 (none : Option FieldType) (rmL 1 0 0) [vR g 106, vI c] G (VM (setM G (tkM (G 107) c))) NoX := by
  refine ctr_of [some (vR g 106), some (vI c), none] (by decide) (Nat.le_of_ble_eq_true rfl) rfl (fun γ E => ?_)
  show V γ g cX4_takesOut 3 RX4 (rmL 1 0 0) G 0 0 0 [some (vR g 106), some (vI c), none] []
  have hn := MoI_n hM
  have hc := MoI_c hM
  have hy := MoI_y hM
  refine v_iload_n (pc := 0) rfl dX4_takesOut_0 ?_
  refine v_callS (pc := 1) (rest := []) (c_X4_coinAt) sok_X4_coinAt wM_X4_68 (rmOk (by decide) (by decide)) ⟨Nat.le_of_ble_eq_true rfl, Nat.le_of_ble_eq_true rfl⟩ (Nat.le_of_ble_eq_true rfl) rfl dX4_takesOut_1 (fun v G' hq => ?_) (fun _ _ h => h.elim)
  obtain ⟨rfl, hG9⟩ := hq
  rw [hG9]
  refine v_stk (st' := [vI (24 + 3 * c)]) rfl ?_
  refine v_istore_n (pc := 4) (by decide) rfl dX4_takesOut_4 ?_
  have lp5 : ∀ (m5 : Nat) (i : Int) (G1 : Mem), (24 + 3 * c ≤ i ∧ i ≤ 141) → (∀ z, G1 107 z = if 24 + 3 * c ≤ z ∧ z < i then G 107 (z + 3) else G 107 z) → (∀ j z, j ≠ 107 → G1 j z = G j z) → ((141 - i).toNat) < m5 → V γ g cX4_takesOut 3 RX4 (rmL 1 0 0) G1 0 0 5 [some (vR g 106), some (vI c), some (vI i)] [] := by
    intro m5
    induction m5 with
    | zero => intro i G1; intros; omega
    | succ m5 ih5 =>
      intro i G1 h0 hw hF hm5
      refine v_iload_n (pc := 5) rfl dX4_takesOut_5 ?_
      refine v_sipush (pc := 6) (z := 141) rfl dX4_takesOut_6 ?_
      refine v_icmp_ge (pc := 9) (tgt := 32) (by omega) dX4_takesOut_9 (by decide) (fun bq1 => ?_) (fun bq1 => ?_)
      · skip
        refine v_sipush (pc := 32) (z := 141) rfl dX4_takesOut_32 ?_
        refine v_istore_n (pc := 35) (by decide) rfl dX4_takesOut_35 ?_
        have lp36 : ∀ (m36 : Nat) (i : Int) (G2 : Mem), (141 ≤ i ∧ i ≤ 144) → (∀ z, G2 107 z = if 24 + 3 * c ≤ z ∧ z < 141 then G 107 (z + 3) else if 141 ≤ z ∧ z < i then 0 else G 107 z) → (∀ j z, j ≠ 107 → G2 j z = G j z) → ((144 - i).toNat) < m36 → V γ g cX4_takesOut 3 RX4 (rmL 1 0 0) G2 0 0 36 [some (vR g 106), some (vI c), some (vI i)] [] := by
          intro m36
          induction m36 with
          | zero => intro i G2; intros; omega
          | succ m36 ih36 =>
            intro i G2 h1 hw2 hF2 hm36
            refine v_iload_n (pc := 36) rfl dX4_takesOut_36 ?_
            refine v_sipush (pc := 37) (z := 144) rfl dX4_takesOut_37 ?_
            refine v_icmp_ge (pc := 40) (tgt := 56) (by omega) dX4_takesOut_40 (by decide) (fun bq2 => ?_) (fun bq2 => ?_)
            · skip
              refine v_aload_n (pc := 56) rfl dX4_takesOut_56 ?_
              refine v_getR (pc := 57) (j := 107) fd_X4_9 (rfl) (by decide) rfl dX4_takesOut_57 ?_
              refine v_iconst (pc := 60) (z := 3) dX4_takesOut_60 ?_
              refine v_dup2 (pc := 61) rfl rfl dX4_takesOut_61 ?_
              refine v_iald (pc := 62) (N := 144) rfl rfl (by decide) (by omega) (by decide) dX4_takesOut_62 ?_
              refine v_iconst (pc := 63) (z := 1) dX4_takesOut_63 ?_
              refine v_isub (pc := 64) dX4_takesOut_64 ?_
              refine v_iast (pc := 65) (N := 144) rfl rfl (by decide) (by omega) (by decide) dX4_takesOut_65 ?_
              exact v_vret (pc := 66) E (⟨rfl, by
                funext j z
                by_cases e : j = 107
                · rw [e]
                  show _ = tkM (G 107) c z
                  unfold tkM
                  by_cases e3 : z = 3
                  · rw [e3, upd2_s, if_pos rfl, hw2, if_neg (by omega), if_neg (by omega)]
                  · rw [upd2_z e3, if_neg e3, hw2 z, show i = 144 by omega]
                · rw [upd2_i e, setM_o e]; exact hF2 j z e⟩) (Nat.le_of_ble_eq_true rfl) (Nat.le_of_ble_eq_true rfl) dX4_takesOut_66
            · skip
              refine v_aload_n (pc := 43) rfl dX4_takesOut_43 ?_
              refine v_getR (pc := 44) (j := 107) fd_X4_9 (rfl) (by decide) rfl dX4_takesOut_44 ?_
              refine v_iload_n (pc := 47) rfl dX4_takesOut_47 ?_
              refine v_iconst (pc := 48) (z := 0) dX4_takesOut_48 ?_
              refine v_iast (pc := 49) (N := 144) rfl rfl (by decide) (by omega) (by decide) dX4_takesOut_49 ?_
              refine v_iinc (pc := 50) (y := 1) rfl (by decide) rfl dX4_takesOut_50 ?_
              refine v_goto (pc := 53) (tgt := 36) dX4_takesOut_53 (by decide) ?_
              exact ih36 (i + 1) (upd2 G2 107 i 0) (by omega) (fun z => (Classical.em (z = i)).elim (fun e => by rw [e, upd2_s, if_neg (by omega), if_pos (by omega)]) (fun e => by rw [upd2_z e, hw2]; exact if_congr Iff.rfl rfl (if_congr (by omega) rfl rfl))) (fun j z a => (upd2_i a).trans (hF2 j z a)) (by omega)
        refine v_loc (L' := [some (vR g 106), some (vI c), some (vI 141)]) (⟨rfl, rfl, rfl, trivial⟩) ?_
        exact lp36 _ 141 G1 (by omega) (fun z => (hw z).trans (if_congr (by omega) rfl (if_neg (by omega)).symm)) hF (Nat.lt_succ_self _)
      · skip
        refine v_aload_n (pc := 12) rfl dX4_takesOut_12 ?_
        refine v_getR (pc := 13) (j := 107) fd_X4_9 (rfl) (by decide) rfl dX4_takesOut_13 ?_
        refine v_iload_n (pc := 16) rfl dX4_takesOut_16 ?_
        refine v_aload_n (pc := 17) rfl dX4_takesOut_17 ?_
        refine v_getR (pc := 18) (j := 107) fd_X4_9 (rfl) (by decide) rfl dX4_takesOut_18 ?_
        refine v_iload_n (pc := 21) rfl dX4_takesOut_21 ?_
        refine v_iconst (pc := 22) (z := 3) dX4_takesOut_22 ?_
        refine v_iadd (pc := 23) dX4_takesOut_23 ?_
        refine v_iald (pc := 24) (N := 144) rfl rfl (by decide) (by omega) (by decide) dX4_takesOut_24 ?_
        refine v_iast (pc := 25) (N := 144) rfl rfl (by decide) (by omega) (by decide) dX4_takesOut_25 ?_
        refine v_iinc (pc := 26) (y := 1) rfl (by decide) rfl dX4_takesOut_26 ?_
        refine v_goto (pc := 29) (tgt := 5) dX4_takesOut_29 (by decide) ?_
        exact ih5 (i + 1) (upd2 G1 107 i (G1 107 (i + 3))) (by omega) (fun z => (Classical.em (z = i)).elim (fun e => by rw [e, upd2_s, hw, if_neg (by omega), if_pos (by omega)]) (fun e => by rw [upd2_z e, hw]; exact if_congr (by omega) rfl rfl)) (fun j z a => (upd2_i a).trans (hF j z a)) (by omega)
  refine v_loc (L' := [some (vR g 106), some (vI c), some (vI (24 + 3 * c))]) (⟨rfl, rfl, rfl, trivial⟩) ?_
  exact lp5 _ (24 + 3 * c) G (by omega) (fun z => by rw [if_neg (by omega)]) (fun _ _ _ => rfl) (Nat.lt_succ_self _)
def PmDie (M M' : Int → Int) (f s r : Int) : Prop := r = M 0 ∧ M' 0 = M 0 + 1 ∧ M' (9 + 3 * M 0) = f ∧ M' (9 + 3 * M 0 + 1) = s ∧ ∀ z, z ≠ 0 → z ≠ 9 + 3 * M 0 → z ≠ 9 + 3 * M 0 + 1 → M' z = M z
theorem MoI_die {M M' : Int → Int} {f s r : Int} (h : MoI M) (hn : M 0 < 5) (hf : 1 ≤ f ∧ f ≤ 50) (hs : 1 ≤ s ∧ s ≤ 9) (hne : ∀ i, 0 ≤ i → i < M 0 → M (9 + 3 * i) ≠ f) (hP : PmDie M M' f s r) : MoI M' := by
  obtain ⟨a1, a2, a3, a4, a5, a6, a7⟩ := h
  obtain ⟨-, p0, p1, p2, p3⟩ := hP
  have e3 : M' 3 = M 3 := p3 3 (by omega) (by omega) (by omega)
  have e2 : M' 2 = M 2 := p3 2 (by omega) (by omega) (by omega)
  refine ⟨by omega, by omega, by omega, fun k k0 k1 => ?_, fun i i0 i1 => ?_, fun i i0 i1 => ?_, fun i j i0 ij j1 => ?_⟩
  · rw [p3 (24 + 3 * k) (by omega) (by omega) (by omega), p3 (24 + 3 * k + 1) (by omega) (by omega) (by omega), p3 (24 + 3 * k + 2) (by omega) (by omega) (by omega)]
    have := a4 k k0 (by omega)
    omega
  · by_cases q : i = M 0
    · rw [q, p1, p2, p3 (9 + 3 * M 0 + 2) (by omega) (by omega) (by omega), a6 (M 0) (by omega) hn]
      omega
    · rw [p3 (9 + 3 * i) (by omega) (by omega) (by omega), p3 (9 + 3 * i + 1) (by omega) (by omega) (by omega), p3 (9 + 3 * i + 2) (by omega) (by omega) (by omega)]
      exact a5 i i0 (by omega)
  · rw [p3 (9 + 3 * i + 2) (by omega) (by omega) (by omega)]
    exact a6 i (by omega) i1
  · rw [p3 (9 + 3 * i) (by omega) (by omega) (by omega)]
    by_cases q : j = M 0
    · rw [q, p1]
      exact hne i i0 (by omega)
    · rw [p3 (9 + 3 * j) (by omega) (by omega) (by omega)]
      exact a7 i j i0 ij (by omega)

set_option maxHeartbeats 4000000 in
set_option maxRecDepth 100000 in
theorem c_X4_dieIt {g : GT} {G : Mem} (hM : MoI (G 107)) (h8 : G 106 8 = 0) {v : Int} (h_v : -2147483648 ≤ v ∧ v < 2147483648) {w : Int} (h_w : -2147483648 ≤ w ∧ w < 2147483648) : Ctr g yX4_dieIt cX4_dieIt 4 (some FieldType.int) (rmL 2 0 0) [vR g 106, vI v, vI w] G (RP (fun r G' => ∃ q, FltDie (G 107 0) (fun i => G 107 (9 + 3 * i)) v w q ∧ EndM G G' 0 q (MoI (G' 107) ∧ PmDie (G 107) (G' 107) v w r))) NoX := by
  refine ctr_of [some (vR g 106), some (vI v), some (vI w), none] (by decide) (Nat.le_of_ble_eq_true rfl) rfl (fun γ E => ?_)
  show V γ g cX4_dieIt 4 RX4 (rmL 2 0 0) G 0 0 0 [some (vR g 106), some (vI v), some (vI w), none] []
  have hn := MoI_n hM
  have hc := MoI_c hM
  have hy := MoI_y hM
  refine v_iload_n (pc := 0) rfl dX4_dieIt_0 ?_
  refine v_i2l (pc := 1) (by omega) dX4_dieIt_1 ?_
  refine v_lconst (pc := 2) (z := 1) rfl dX4_dieIt_2 ?_
  refine v_ldc2 (pc := 3) (z := 50) wG_X4_77 (by decide) dX4_dieIt_3 ?_
  refine v_callS (pc := 6) (rest := []) (c_X4_in (by omega) (by omega) (by omega)) sok_X4_in wM_X4_60 (rmOk (by decide) (by decide)) ⟨Nat.le_of_ble_eq_true rfl, Nat.le_of_ble_eq_true rfl⟩ (Nat.le_of_ble_eq_true rfl) rfl dX4_dieIt_6 (fun v G' hq => ?_) (fun _ _ h => h.elim)
  obtain ⟨rfl, hG9⟩ := hq
  rw [hG9]
  refine v_stk (st' := [vI (bI (1 ≤ v ∧ v ≤ 50))]) rfl ?_
  refine v_if_eq (pc := 9) (tgt := 24) (bI_r _) dX4_dieIt_9 (by decide) (fun bq1 => ?_) (fun bq1 => ?_)
  · skip
    have bq1 := bI_eq0.mp bq1
    refine v_aload_n (pc := 24) rfl dX4_dieIt_24 ?_
    refine v_iconst (pc := 25) (z := 1) dX4_dieIt_25 ?_
    refine v_callV (pc := 26) (rest := []) (c_X4_throwing) iok_X4_throwing wM_X4_81 (rfl) (by decide) (by decide) rfl (rmOk (by decide) (by decide)) ⟨Nat.le_of_ble_eq_true rfl, Nat.le_of_ble_eq_true rfl⟩ (Nat.le_of_ble_eq_true rfl) rfl dX4_dieIt_26 (fun v G' hq => ?_) (fun _ _ h => h.elim)
    obtain ⟨rfl, hG9⟩ := hq
    rw [hG9]
    refine v_stk (st' := [vI (-1)]) rfl ?_
    exact v_iret (pc := 29) E (⟨_, rfl, 2, Or.inl ⟨by omega, rfl⟩, by rw [upd2_s]; rfl, fun i z a b c => if_neg c, Or.inl ⟨by decide, funext fun w => upd2_i (by decide)⟩⟩) (Nat.le_of_ble_eq_true rfl) (Nat.le_of_ble_eq_true rfl) dX4_dieIt_29
  · skip
    have bq1 := bI_n0 bq1
    refine v_iload_n (pc := 12) rfl dX4_dieIt_12 ?_
    refine v_i2l (pc := 13) (by omega) dX4_dieIt_13 ?_
    refine v_lconst (pc := 14) (z := 1) rfl dX4_dieIt_14 ?_
    refine v_ldc2 (pc := 15) (z := 9) wG_X4_79 (by decide) dX4_dieIt_15 ?_
    refine v_callS (pc := 18) (rest := []) (c_X4_in (by omega) (by omega) (by omega)) sok_X4_in wM_X4_60 (rmOk (by decide) (by decide)) ⟨Nat.le_of_ble_eq_true rfl, Nat.le_of_ble_eq_true rfl⟩ (Nat.le_of_ble_eq_true rfl) rfl dX4_dieIt_18 (fun v G' hq => ?_) (fun _ _ h => h.elim)
    obtain ⟨rfl, hG9⟩ := hq
    rw [hG9]
    refine v_stk (st' := [vI (bI (1 ≤ w ∧ w ≤ 9))]) rfl ?_
    refine v_if_ne (pc := 21) (tgt := 30) (bI_r _) dX4_dieIt_21 (by decide) (fun bq2 => ?_) (fun bq2 => ?_)
    · skip
      have bq2 := bI_n0 bq2
      have hv5 : 1 ≤ v ∧ v ≤ 50 := by assumption
      have hw5 : 1 ≤ w ∧ w ≤ 9 := by assumption
      refine v_aload_n (pc := 30) rfl dX4_dieIt_30 ?_
      refine v_getR (pc := 31) (j := 107) fd_X4_9 (rfl) (by decide) rfl dX4_dieIt_31 ?_
      refine v_iconst (pc := 34) (z := 0) dX4_dieIt_34 ?_
      refine v_iald (pc := 35) (N := 144) rfl rfl (by decide) (by omega) (by decide) dX4_dieIt_35 ?_
      refine v_iconst (pc := 36) (z := 5) dX4_dieIt_36 ?_
      refine v_icmp_ne (pc := 37) (tgt := 46) (by omega) dX4_dieIt_37 (by decide) (fun bq3 => ?_) (fun bq3 => ?_)
      · skip
        have hn5 : G 107 0 < 5 := by omega
        refine v_aload_n (pc := 46) rfl dX4_dieIt_46 ?_
        refine v_iload_n (pc := 47) rfl dX4_dieIt_47 ?_
        refine v_callV (pc := 48) (rest := []) (c_X4_dieOf hM h_v) iok_X4_dieOf wM_X4_84 (rfl) (by decide) (by decide) rfl (rmOk (by decide) (by decide)) ⟨Nat.le_of_ble_eq_true rfl, Nat.le_of_ble_eq_true rfl⟩ (Nat.le_of_ble_eq_true rfl) rfl dX4_dieIt_48 (fun v G' hq => ?_) (fun _ _ h => h.elim)
        obtain ⟨e, rfl, hq⟩ := hq
        refine v_stk (st' := [vI e]) rfl ?_
        obtain ⟨hG9, hd⟩ := hq
        rw [hG9]
        have hdr : -1 ≤ e ∧ e < 5 := by rcases hd with q | q <;> (try have q0 := q.2.1) <;> omega
        refine v_iconst (pc := 51) (z := (-1)) dX4_dieIt_51 ?_
        refine v_icmp_eq (pc := 52) (tgt := 61) (by omega) dX4_dieIt_52 (by decide) (fun bq4 => ?_) (fun bq4 => ?_)
        · skip
          have hne : ∀ i, 0 ≤ i → i < G 107 0 → G 107 (9 + 3 * i) ≠ v := by
            rcases hd with q | q
            · exact q.2
            · exact absurd q.1 (by omega)
          refine v_aload_n (pc := 61) rfl dX4_dieIt_61 ?_
          refine v_getR (pc := 62) (j := 107) fd_X4_9 (rfl) (by decide) rfl dX4_dieIt_62 ?_
          refine v_iconst (pc := 65) (z := 0) dX4_dieIt_65 ?_
          refine v_iald (pc := 66) (N := 144) rfl rfl (by decide) (by omega) (by decide) dX4_dieIt_66 ?_
          refine v_callS (pc := 67) (rest := []) (c_X4_dieAt) sok_X4_dieAt wM_X4_64 (rmOk (by decide) (by decide)) ⟨Nat.le_of_ble_eq_true rfl, Nat.le_of_ble_eq_true rfl⟩ (Nat.le_of_ble_eq_true rfl) rfl dX4_dieIt_67 (fun v G' hq => ?_) (fun _ _ h => h.elim)
          obtain ⟨rfl, hG9⟩ := hq
          rw [hG9]
          refine v_stk (st' := [vI (9 + 3 * (G 107 0))]) rfl ?_
          refine v_istore_n (pc := 70) (by decide) rfl dX4_dieIt_70 ?_
          refine v_aload_n (pc := 71) rfl dX4_dieIt_71 ?_
          refine v_getR (pc := 72) (j := 107) fd_X4_9 (rfl) (by decide) rfl dX4_dieIt_72 ?_
          refine v_iload_n (pc := 75) rfl dX4_dieIt_75 ?_
          refine v_iload_n (pc := 76) rfl dX4_dieIt_76 ?_
          refine v_iast (pc := 77) (N := 144) rfl rfl (by decide) (by omega) (by decide) dX4_dieIt_77 ?_
          refine v_aload_n (pc := 78) rfl dX4_dieIt_78 ?_
          refine v_getR (pc := 79) (j := 107) fd_X4_9 (rfl) (by decide) rfl dX4_dieIt_79 ?_
          refine v_iload_n (pc := 82) rfl dX4_dieIt_82 ?_
          refine v_iconst (pc := 83) (z := 1) dX4_dieIt_83 ?_
          refine v_iadd (pc := 84) dX4_dieIt_84 ?_
          refine v_iload_n (pc := 85) rfl dX4_dieIt_85 ?_
          refine v_iast (pc := 86) (N := 144) rfl rfl (by decide) (by omega) (by decide) dX4_dieIt_86 ?_
          refine v_aload_n (pc := 87) rfl dX4_dieIt_87 ?_
          refine v_getR (pc := 88) (j := 107) fd_X4_9 (rfl) (by decide) rfl dX4_dieIt_88 ?_
          refine v_iconst (pc := 91) (z := 0) dX4_dieIt_91 ?_
          refine v_dup2 (pc := 92) rfl rfl dX4_dieIt_92 ?_
          refine v_iald (pc := 93) (N := 144) rfl rfl (by decide) (by omega) (by decide) dX4_dieIt_93 ?_
          refine v_top (b := G 107 0) ((upd2_z (by omega)).trans (upd2_z (by omega))) ?_
          refine v_iconst (pc := 94) (z := 1) dX4_dieIt_94 ?_
          refine v_iadd (pc := 95) dX4_dieIt_95 ?_
          refine v_iast (pc := 96) (N := 144) rfl rfl (by decide) (by omega) (by decide) dX4_dieIt_96 ?_
          refine v_aload_n (pc := 97) rfl dX4_dieIt_97 ?_
          refine v_getR (pc := 98) (j := 107) fd_X4_9 (rfl) (by decide) rfl dX4_dieIt_98 ?_
          refine v_iconst (pc := 101) (z := 0) dX4_dieIt_101 ?_
          refine v_iald (pc := 102) (N := 144) rfl rfl (by decide) (by omega) (by decide) dX4_dieIt_102 ?_
          refine v_top (b := (G 107 0) + 1) (upd2_s _ _ _ _) ?_
          refine v_iconst (pc := 103) (z := 1) dX4_dieIt_103 ?_
          refine v_isub (pc := 104) dX4_dieIt_104 ?_
          exact v_iret (pc := 105) E (⟨_, rfl, 0, Or.inr ⟨by omega, Or.inr ⟨hn5, Or.inr ⟨hne, rfl⟩⟩⟩, by rw [upd2_i (by decide), upd2_i (by decide), upd2_i (by decide), h8]; rfl, fun i z a b c => by rw [upd2_i a, upd2_i a, upd2_i a], Or.inr ⟨rfl, by
            have hP : PmDie (G 107) ((upd2 (upd2 (upd2 G 107 (9 + 3 * (G 107 0)) v) 107 ((9 + 3 * (G 107 0)) + 1) w) 107 0 ((G 107 0) + 1)) 107) v w (((G 107 0) + 1) - 1) := ⟨by omega, by rw [upd2_s], by (repeat (first | rw [upd2_s] | rw [cpy2_s (by omega)] | rw [upd2_i (by omega)] | rw [upd2_z (by omega)] | rw [cpy2_i (by omega)])), by (repeat (first | rw [upd2_s] | rw [cpy2_s (by omega)] | rw [upd2_i (by omega)] | rw [upd2_z (by omega)] | rw [cpy2_i (by omega)])), fun z z0 z1 z2 => by rw [upd2_z z0, upd2_z z2, upd2_z z1]⟩
            exact ⟨MoI_die hM hn5 hv5 hw5 hne hP, hP⟩⟩⟩) (Nat.le_of_ble_eq_true rfl) (Nat.le_of_ble_eq_true rfl) dX4_dieIt_105
        · skip
          refine v_aload_n (pc := 55) rfl dX4_dieIt_55 ?_
          refine v_iconst (pc := 56) (z := 3) dX4_dieIt_56 ?_
          refine v_callV (pc := 57) (rest := []) (c_X4_throwing) iok_X4_throwing wM_X4_81 (rfl) (by decide) (by decide) rfl (rmOk (by decide) (by decide)) ⟨Nat.le_of_ble_eq_true rfl, Nat.le_of_ble_eq_true rfl⟩ (Nat.le_of_ble_eq_true rfl) rfl dX4_dieIt_57 (fun v G' hq => ?_) (fun _ _ h => h.elim)
          obtain ⟨rfl, hG9⟩ := hq
          rw [hG9]
          refine v_stk (st' := [vI (-1)]) rfl ?_
          exact v_iret (pc := 60) E (⟨_, rfl, 4, Or.inr ⟨by omega, Or.inr ⟨hn5, Or.inl ⟨by rcases hd with q | q <;> first | exact absurd q.1 (by omega) | exact ⟨e, q.1, q.2.1, q.2.2.1⟩, rfl⟩⟩⟩, by rw [upd2_s]; rfl, fun i z a b c => if_neg c, Or.inl ⟨by decide, funext fun w => upd2_i (by decide)⟩⟩) (Nat.le_of_ble_eq_true rfl) (Nat.le_of_ble_eq_true rfl) dX4_dieIt_60
      · skip
        refine v_aload_n (pc := 40) rfl dX4_dieIt_40 ?_
        refine v_iconst (pc := 41) (z := 2) dX4_dieIt_41 ?_
        refine v_callV (pc := 42) (rest := []) (c_X4_throwing) iok_X4_throwing wM_X4_81 (rfl) (by decide) (by decide) rfl (rmOk (by decide) (by decide)) ⟨Nat.le_of_ble_eq_true rfl, Nat.le_of_ble_eq_true rfl⟩ (Nat.le_of_ble_eq_true rfl) rfl dX4_dieIt_42 (fun v G' hq => ?_) (fun _ _ h => h.elim)
        obtain ⟨rfl, hG9⟩ := hq
        rw [hG9]
        refine v_stk (st' := [vI (-1)]) rfl ?_
        exact v_iret (pc := 45) E (⟨_, rfl, 3, Or.inr ⟨by omega, Or.inl ⟨by omega, rfl⟩⟩, by rw [upd2_s]; rfl, fun i z a b c => if_neg c, Or.inl ⟨by decide, funext fun w => upd2_i (by decide)⟩⟩) (Nat.le_of_ble_eq_true rfl) (Nat.le_of_ble_eq_true rfl) dX4_dieIt_45
    · skip
      have bq2 := bI_eq0.mp bq2
      refine v_aload_n (pc := 24) rfl dX4_dieIt_24 ?_
      refine v_iconst (pc := 25) (z := 1) dX4_dieIt_25 ?_
      refine v_callV (pc := 26) (rest := []) (c_X4_throwing) iok_X4_throwing wM_X4_81 (rfl) (by decide) (by decide) rfl (rmOk (by decide) (by decide)) ⟨Nat.le_of_ble_eq_true rfl, Nat.le_of_ble_eq_true rfl⟩ (Nat.le_of_ble_eq_true rfl) rfl dX4_dieIt_26 (fun v G' hq => ?_) (fun _ _ h => h.elim)
      obtain ⟨rfl, hG9⟩ := hq
      rw [hG9]
      refine v_stk (st' := [vI (-1)]) rfl ?_
      exact v_iret (pc := 29) E (⟨_, rfl, 2, Or.inl ⟨by omega, rfl⟩, by rw [upd2_s]; rfl, fun i z a b c => if_neg c, Or.inl ⟨by decide, funext fun w => upd2_i (by decide)⟩⟩) (Nat.le_of_ble_eq_true rfl) (Nat.le_of_ble_eq_true rfl) dX4_dieIt_29
def PmSh (M M' : Int → Int) (f r : Int) : Prop := r = M (9 + 3 * f + 2) ∧ M' (9 + 3 * f + 2) = 0 ∧ ∀ z, z ≠ 9 + 3 * f + 2 → M' z = M z
/-- only wears differ -/
theorem MoI_wear {M M' : Int → Int} {d : Int} (h : MoI M) (hd : 0 ≤ d ∧ d < M 0) (hw : 0 ≤ M' (9 + 3 * d + 2) ∧ M' (9 + 3 * d + 2) ≤ 30) (hz : ∀ z, z ≠ 9 + 3 * d + 2 → M' z = M z) : MoI M' := by
  obtain ⟨a1, a2, a3, a4, a5, a6, a7⟩ := h
  have e0 := hz 0 (by omega)
  have e3 := hz 3 (by omega)
  have e2 := hz 2 (by omega)
  refine ⟨by omega, by omega, by omega, fun k k0 k1 => ?_, fun i i0 i1 => ?_, fun i i0 i1 => ?_, fun i j i0 ij j1 => ?_⟩
  · rw [hz (24 + 3 * k) (by omega), hz (24 + 3 * k + 1) (by omega), hz (24 + 3 * k + 2) (by omega), e0, e2]
    exact a4 k k0 (by omega)
  · rw [hz (9 + 3 * i) (by omega), hz (9 + 3 * i + 1) (by omega)]
    have q1 := a5 i i0 (by omega)
    refine ⟨q1.1, q1.2.1, ?_⟩
    by_cases q : i = d
    · rw [q]; exact hw
    · rw [hz (9 + 3 * i + 2) (by omega)]; exact q1.2.2
  · rw [hz (9 + 3 * i + 2) (by omega)]
    exact a6 i (by omega) i1
  · rw [hz (9 + 3 * i) (by omega), hz (9 + 3 * j) (by omega)]
    exact a7 i j i0 ij (by omega)

set_option maxHeartbeats 4000000 in
set_option maxRecDepth 100000 in
theorem c_X4_sharpenIt {g : GT} {G : Mem} (hM : MoI (G 107)) (h8 : G 106 8 = 0) {d : Int} (h_d : -2147483648 ≤ d ∧ d < 2147483648) : Ctr g yX4_sharpenIt cX4_sharpenIt 3 (some FieldType.int) (rmL 2 0 0) [vR g 106, vI d] G (RP (fun r G' => ∃ q, FltSh (G 107 0) (fun i => G 107 (9 + 3 * i + 2)) d q ∧ EndM G G' 1 q (MoI (G' 107) ∧ PmSh (G 107) (G' 107) d r))) NoX := by
  refine ctr_of [some (vR g 106), some (vI d), none] (by decide) (Nat.le_of_ble_eq_true rfl) rfl (fun γ E => ?_)
  show V γ g cX4_sharpenIt 3 RX4 (rmL 2 0 0) G 0 0 0 [some (vR g 106), some (vI d), none] []
  have hn := MoI_n hM
  have hc := MoI_c hM
  have hy := MoI_y hM
  refine v_aload_n (pc := 0) rfl dX4_sharpenIt_0 ?_
  refine v_iload_n (pc := 1) rfl dX4_sharpenIt_1 ?_
  refine v_callV (pc := 2) (rest := []) (c_X4_isDie hM h_d) iok_X4_isDie wM_X4_96 (rfl) (by decide) (by decide) rfl (rmOk (by decide) (by decide)) ⟨Nat.le_of_ble_eq_true rfl, Nat.le_of_ble_eq_true rfl⟩ (Nat.le_of_ble_eq_true rfl) rfl dX4_sharpenIt_2 (fun v G' hq => ?_) (fun _ _ h => h.elim)
  obtain ⟨rfl, hG9⟩ := hq
  rw [hG9]
  refine v_stk (st' := [vI (bI (0 ≤ d ∧ d < G 107 0))]) rfl ?_
  refine v_if_ne (pc := 5) (tgt := 14) (bI_r _) dX4_sharpenIt_5 (by decide) (fun bq1 => ?_) (fun bq1 => ?_)
  · skip
    have bq1 := bI_n0 bq1
    have hdd : 0 ≤ d ∧ d < G 107 0 := by assumption
    refine v_aload_n (pc := 14) rfl dX4_sharpenIt_14 ?_
    refine v_getR (pc := 15) (j := 107) fd_X4_9 (rfl) (by decide) rfl dX4_sharpenIt_15 ?_
    refine v_iload_n (pc := 18) rfl dX4_sharpenIt_18 ?_
    refine v_callS (pc := 19) (rest := [vR g 107]) (c_X4_dieAt) sok_X4_dieAt wM_X4_64 (rmOk (by decide) (by decide)) ⟨Nat.le_of_ble_eq_true rfl, Nat.le_of_ble_eq_true rfl⟩ (Nat.le_of_ble_eq_true rfl) rfl dX4_sharpenIt_19 (fun v G' hq => ?_) (fun _ _ h => h.elim)
    obtain ⟨rfl, hG9⟩ := hq
    rw [hG9]
    refine v_stk (st' := [vI (9 + 3 * d), vR g 107]) rfl ?_
    refine v_iconst (pc := 22) (z := 2) dX4_sharpenIt_22 ?_
    refine v_iadd (pc := 23) dX4_sharpenIt_23 ?_
    refine v_iald (pc := 24) (N := 144) rfl rfl (by decide) (by omega) (by decide) dX4_sharpenIt_24 ?_
    have r2 := MoI_d hM (i := d) (by omega) (by omega)
    refine v_istore_n (pc := 25) (by decide) rfl dX4_sharpenIt_25 ?_
    refine v_iload_n (pc := 26) rfl dX4_sharpenIt_26 ?_
    refine v_if_ne (pc := 27) (tgt := 36) (by omega) dX4_sharpenIt_27 (by decide) (fun bq3 => ?_) (fun bq3 => ?_)
    · skip
      refine v_aload_n (pc := 36) rfl dX4_sharpenIt_36 ?_
      refine v_getR (pc := 37) (j := 107) fd_X4_9 (rfl) (by decide) rfl dX4_sharpenIt_37 ?_
      refine v_iload_n (pc := 40) rfl dX4_sharpenIt_40 ?_
      refine v_callS (pc := 41) (rest := [vR g 107]) (c_X4_dieAt) sok_X4_dieAt wM_X4_64 (rmOk (by decide) (by decide)) ⟨Nat.le_of_ble_eq_true rfl, Nat.le_of_ble_eq_true rfl⟩ (Nat.le_of_ble_eq_true rfl) rfl dX4_sharpenIt_41 (fun v G' hq => ?_) (fun _ _ h => h.elim)
      obtain ⟨rfl, hG9⟩ := hq
      rw [hG9]
      refine v_stk (st' := [vI (9 + 3 * d), vR g 107]) rfl ?_
      refine v_iconst (pc := 44) (z := 2) dX4_sharpenIt_44 ?_
      refine v_iadd (pc := 45) dX4_sharpenIt_45 ?_
      refine v_iconst (pc := 46) (z := 0) dX4_sharpenIt_46 ?_
      refine v_iast (pc := 47) (N := 144) rfl rfl (by decide) (by omega) (by decide) dX4_sharpenIt_47 ?_
      refine v_iload_n (pc := 48) rfl dX4_sharpenIt_48 ?_
      exact v_iret (pc := 49) E (⟨_, rfl, 0, Or.inr ⟨hdd, Or.inr ⟨by assumption, rfl⟩⟩, by rw [upd2_i (by decide), h8]; rfl, fun i z a b c => upd2_i a, Or.inr ⟨rfl, MoI_wear hM hdd (by rw [upd2_s]; omega) (fun z a => upd2_z a), rfl, upd2_s _ _ _ _, fun z a => upd2_z a⟩⟩) (Nat.le_of_ble_eq_true rfl) (Nat.le_of_ble_eq_true rfl) dX4_sharpenIt_49
    · skip
      refine v_aload_n (pc := 30) rfl dX4_sharpenIt_30 ?_
      refine v_iconst (pc := 31) (z := 2) dX4_sharpenIt_31 ?_
      refine v_callV (pc := 32) (rest := []) (c_X4_throwing) iok_X4_throwing wM_X4_81 (rfl) (by decide) (by decide) rfl (rmOk (by decide) (by decide)) ⟨Nat.le_of_ble_eq_true rfl, Nat.le_of_ble_eq_true rfl⟩ (Nat.le_of_ble_eq_true rfl) rfl dX4_sharpenIt_32 (fun v G' hq => ?_) (fun _ _ h => h.elim)
      obtain ⟨rfl, hG9⟩ := hq
      rw [hG9]
      refine v_stk (st' := [vI (-1)]) rfl ?_
      exact v_iret (pc := 35) E (⟨_, rfl, 3, Or.inr ⟨hdd, Or.inl ⟨by assumption, rfl⟩⟩, by rw [upd2_s]; rfl, fun i z a b c => if_neg c, Or.inl ⟨by decide, funext fun w => upd2_i (by decide)⟩⟩) (Nat.le_of_ble_eq_true rfl) (Nat.le_of_ble_eq_true rfl) dX4_sharpenIt_35
  · skip
    have bq1 := bI_eq0.mp bq1
    refine v_aload_n (pc := 8) rfl dX4_sharpenIt_8 ?_
    refine v_iconst (pc := 9) (z := 1) dX4_sharpenIt_9 ?_
    refine v_callV (pc := 10) (rest := []) (c_X4_throwing) iok_X4_throwing wM_X4_81 (rfl) (by decide) (by decide) rfl (rmOk (by decide) (by decide)) ⟨Nat.le_of_ble_eq_true rfl, Nat.le_of_ble_eq_true rfl⟩ (Nat.le_of_ble_eq_true rfl) rfl dX4_sharpenIt_10 (fun v G' hq => ?_) (fun _ _ h => h.elim)
    obtain ⟨rfl, hG9⟩ := hq
    rw [hG9]
    refine v_stk (st' := [vI (-1)]) rfl ?_
    exact v_iret (pc := 13) E (⟨_, rfl, 1, Or.inl ⟨by omega, rfl⟩, by rw [upd2_s]; rfl, fun i z a b c => if_neg c, Or.inl ⟨by decide, funext fun w => upd2_i (by decide)⟩⟩) (Nat.le_of_ble_eq_true rfl) (Nat.le_of_ble_eq_true rfl) dX4_sharpenIt_13
def PmLf (M M' : Int → Int) (f r : Int) : Prop := r = M 1 + f ∧ M' 1 = M 1 + f ∧ M' 8 = M 8 + f ∧ ∀ z, z ≠ 1 → z ≠ 8 → M' z = M z
theorem MoI_eq {M M' : Int → Int} (h : MoI M) (hz : ∀ z, z = 0 ∨ z = 2 ∨ z = 3 ∨ 9 ≤ z → M' z = M z) : MoI M' := by
  obtain ⟨a1, a2, a3, a4, a5, a6, a7⟩ := h
  have e0 := hz 0 (by omega)
  have e3 := hz 3 (by omega)
  have e2 := hz 2 (by omega)
  refine ⟨by omega, by omega, by omega, fun k k0 k1 => ?_, fun i i0 i1 => ?_, fun i i0 i1 => ?_, fun i j i0 ij j1 => ?_⟩
  · rw [hz (24 + 3 * k) (by omega), hz (24 + 3 * k + 1) (by omega), hz (24 + 3 * k + 2) (by omega), e0, e2]
    exact a4 k k0 (by omega)
  · rw [hz (9 + 3 * i) (by omega), hz (9 + 3 * i + 1) (by omega), hz (9 + 3 * i + 2) (by omega)]
    exact a5 i i0 (by omega)
  · rw [hz (9 + 3 * i + 2) (by omega)]
    exact a6 i (by omega) i1
  · rw [hz (9 + 3 * i) (by omega), hz (9 + 3 * j) (by omega)]
    exact a7 i j i0 ij (by omega)

set_option maxHeartbeats 4000000 in
set_option maxRecDepth 100000 in
theorem c_X4_leafIt {g : GT} {G : Mem} (hM : MoI (G 107)) (h8 : G 106 8 = 0) (hlv : 0 ≤ G 107 1 ∧ G 107 1 ≤ 100000) {z : Int} (h_z : -2147483648 ≤ z ∧ z < 2147483648) : Ctr g yX4_leafIt cX4_leafIt 2 (some FieldType.int) (rmL 2 0 0) [vR g 106, vI z] G (RP (fun r G' => ∃ q, FltLf (G 107 1) z q ∧ EndM G G' 2 q (MoI (G' 107) ∧ PmLf (G 107) (G' 107) z r))) NoX := by
  refine ctr_of [some (vR g 106), some (vI z)] (by decide) (Nat.le_of_ble_eq_true rfl) rfl (fun γ E => ?_)
  show V γ g cX4_leafIt 2 RX4 (rmL 2 0 0) G 0 0 0 [some (vR g 106), some (vI z)] []
  have hn := MoI_n hM
  have hc := MoI_c hM
  have hy := MoI_y hM
  refine v_iload_n (pc := 0) rfl dX4_leafIt_0 ?_
  refine v_i2l (pc := 1) (by omega) dX4_leafIt_1 ?_
  refine v_lconst (pc := 2) (z := 1) rfl dX4_leafIt_2 ?_
  refine v_ldc2 (pc := 3) (z := 99) wG_X4_103 (by decide) dX4_leafIt_3 ?_
  refine v_callS (pc := 6) (rest := []) (c_X4_in (by omega) (by omega) (by omega)) sok_X4_in wM_X4_60 (rmOk (by decide) (by decide)) ⟨Nat.le_of_ble_eq_true rfl, Nat.le_of_ble_eq_true rfl⟩ (Nat.le_of_ble_eq_true rfl) rfl dX4_leafIt_6 (fun v G' hq => ?_) (fun _ _ h => h.elim)
  obtain ⟨rfl, hG9⟩ := hq
  rw [hG9]
  refine v_stk (st' := [vI (bI (1 ≤ z ∧ z ≤ 99))]) rfl ?_
  refine v_if_ne (pc := 9) (tgt := 18) (bI_r _) dX4_leafIt_9 (by decide) (fun bq1 => ?_) (fun bq1 => ?_)
  · skip
    have bq1 := bI_n0 bq1
    have hzz : 1 ≤ z ∧ z ≤ 99 := by assumption
    refine v_aload_n (pc := 18) rfl dX4_leafIt_18 ?_
    refine v_getR (pc := 19) (j := 107) fd_X4_9 (rfl) (by decide) rfl dX4_leafIt_19 ?_
    refine v_iconst (pc := 22) (z := 1) dX4_leafIt_22 ?_
    refine v_iald (pc := 23) (N := 144) rfl rfl (by decide) (by omega) (by decide) dX4_leafIt_23 ?_
    refine v_iload_n (pc := 24) rfl dX4_leafIt_24 ?_
    refine v_iadd (pc := 25) dX4_leafIt_25 ?_
    refine v_sipush (pc := 26) (z := 999) rfl dX4_leafIt_26 ?_
    refine v_icmp_le (pc := 29) (tgt := 38) (by omega) dX4_leafIt_29 (by decide) (fun bq2 => ?_) (fun bq2 => ?_)
    · skip
      refine v_aload_n (pc := 38) rfl dX4_leafIt_38 ?_
      refine v_getR (pc := 39) (j := 107) fd_X4_9 (rfl) (by decide) rfl dX4_leafIt_39 ?_
      refine v_iconst (pc := 42) (z := 1) dX4_leafIt_42 ?_
      refine v_dup2 (pc := 43) rfl rfl dX4_leafIt_43 ?_
      refine v_iald (pc := 44) (N := 144) rfl rfl (by decide) (by omega) (by decide) dX4_leafIt_44 ?_
      refine v_iload_n (pc := 45) rfl dX4_leafIt_45 ?_
      refine v_iadd (pc := 46) dX4_leafIt_46 ?_
      refine v_iast (pc := 47) (N := 144) rfl rfl (by decide) (by omega) (by decide) dX4_leafIt_47 ?_
      refine v_aload_n (pc := 48) rfl dX4_leafIt_48 ?_
      refine v_getR (pc := 49) (j := 107) fd_X4_9 (rfl) (by decide) rfl dX4_leafIt_49 ?_
      refine v_bipush (pc := 52) (z := 8) rfl dX4_leafIt_52 ?_
      refine v_dup2 (pc := 54) rfl rfl dX4_leafIt_54 ?_
      refine v_iald (pc := 55) (N := 144) rfl rfl (by decide) (by omega) (by decide) dX4_leafIt_55 ?_
      refine v_top (b := G 107 8) (upd2_z (by decide)) ?_
      refine v_iload_n (pc := 56) rfl dX4_leafIt_56 ?_
      refine v_iadd (pc := 57) dX4_leafIt_57 ?_
      refine v_iast (pc := 58) (N := 144) rfl rfl (by decide) (by omega) (by decide) dX4_leafIt_58 ?_
      refine v_aload_n (pc := 59) rfl dX4_leafIt_59 ?_
      refine v_getR (pc := 60) (j := 107) fd_X4_9 (rfl) (by decide) rfl dX4_leafIt_60 ?_
      refine v_iconst (pc := 63) (z := 1) dX4_leafIt_63 ?_
      refine v_iald (pc := 64) (N := 144) rfl rfl (by decide) (by omega) (by decide) dX4_leafIt_64 ?_
      refine v_top (b := (G 107 1) + z) ((upd2_z (by decide)).trans (upd2_s _ _ _ _)) ?_
      exact v_iret (pc := 65) E (⟨_, rfl, 0, Or.inr ⟨hzz, Or.inr ⟨by omega, rfl⟩⟩, by rw [upd2_i (by decide), upd2_i (by decide), h8]; rfl, fun i z a b c => by rw [upd2_i a, upd2_i a], Or.inr ⟨rfl, MoI_eq hM (fun w a => by rw [upd2_z (by omega), upd2_z (by omega)]), rfl, by rw [upd2_z (by decide), upd2_s], by rw [upd2_s], fun w a b => by rw [upd2_z b, upd2_z a]⟩⟩) (Nat.le_of_ble_eq_true rfl) (Nat.le_of_ble_eq_true rfl) dX4_leafIt_65
    · skip
      refine v_aload_n (pc := 32) rfl dX4_leafIt_32 ?_
      refine v_iconst (pc := 33) (z := 2) dX4_leafIt_33 ?_
      refine v_callV (pc := 34) (rest := []) (c_X4_throwing) iok_X4_throwing wM_X4_81 (rfl) (by decide) (by decide) rfl (rmOk (by decide) (by decide)) ⟨Nat.le_of_ble_eq_true rfl, Nat.le_of_ble_eq_true rfl⟩ (Nat.le_of_ble_eq_true rfl) rfl dX4_leafIt_34 (fun v G' hq => ?_) (fun _ _ h => h.elim)
      obtain ⟨rfl, hG9⟩ := hq
      rw [hG9]
      refine v_stk (st' := [vI (-1)]) rfl ?_
      exact v_iret (pc := 37) E (⟨_, rfl, 3, Or.inr ⟨hzz, Or.inl ⟨by omega, rfl⟩⟩, by rw [upd2_s]; rfl, fun i z a b c => if_neg c, Or.inl ⟨by decide, funext fun w => upd2_i (by decide)⟩⟩) (Nat.le_of_ble_eq_true rfl) (Nat.le_of_ble_eq_true rfl) dX4_leafIt_37
  · skip
    have bq1 := bI_eq0.mp bq1
    refine v_aload_n (pc := 12) rfl dX4_leafIt_12 ?_
    refine v_iconst (pc := 13) (z := 1) dX4_leafIt_13 ?_
    refine v_callV (pc := 14) (rest := []) (c_X4_throwing) iok_X4_throwing wM_X4_81 (rfl) (by decide) (by decide) rfl (rmOk (by decide) (by decide)) ⟨Nat.le_of_ble_eq_true rfl, Nat.le_of_ble_eq_true rfl⟩ (Nat.le_of_ble_eq_true rfl) rfl dX4_leafIt_14 (fun v G' hq => ?_) (fun _ _ h => h.elim)
    obtain ⟨rfl, hG9⟩ := hq
    rw [hG9]
    refine v_stk (st' := [vI (-1)]) rfl ?_
    exact v_iret (pc := 17) E (⟨_, rfl, 2, Or.inl ⟨by omega, rfl⟩, by rw [upd2_s]; rfl, fun i z a b c => if_neg c, Or.inl ⟨by decide, funext fun w => upd2_i (by decide)⟩⟩) (Nat.le_of_ble_eq_true rfl) (Nat.le_of_ble_eq_true rfl) dX4_leafIt_17
