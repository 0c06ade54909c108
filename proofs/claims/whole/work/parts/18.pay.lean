theorem sok_J7_fill_53178 : SOk yJ7_fill_53178 cJ7_fill_53178 4 (none : Option FieldType) 2 := ⟨⟨wC_J7_fill_53178, wN_J7, by decide, by decide, by decide +kernel⟩, wT_J7_fill_53178⟩
theorem sok_J7_fill_d0a16 : SOk yJ7_fill_d0a16 cJ7_fill_d0a16 5 (none : Option FieldType) 2 := ⟨⟨wC_J7_fill_d0a16, wN_J7, by decide, by decide, by decide +kernel⟩, wT_J7_fill_d0a16⟩
set_option maxHeartbeats 4000000 in
set_option maxRecDepth 100000 in
theorem c_J7_fill_53178 {g : GT} {p N : Nat} {G : Mem} {x : Int} (hk : kd p = 10) (hl : ln p = N) (hp : p < NP) (hN : N < 2147483648) : Ctr g yJ7_fill_53178 cJ7_fill_53178 4 (none : Option FieldType) (rmL 0 0 0) [vR g p, vI x] G (VP (fun G' => (∀ z, 0 ≤ z → z < (N : Int) → G' p z = x) ∧ ∀ i z, i ≠ p → G' i z = G i z)) NoX := by
  refine ctr_of [some (vR g p), some (vI x), none, none] (by decide) (Nat.le_of_ble_eq_true rfl) rfl (fun γ E => ?_)
  show V γ g cJ7_fill_53178 4 RJ7 (rmL 0 0 0) G 0 0 0 [some (vR g p), some (vI x), none, none] []
  refine v_iconst (pc := 0) (z := 0) dJ7_fill_53178_0 ?_
  refine v_istore_n (pc := 1) (by decide) rfl dJ7_fill_53178_1 ?_
  refine v_aload_n (pc := 2) rfl dJ7_fill_53178_2 ?_
  refine v_alen (pc := 3) (N := N) (Or.inl (hk)) hl hp dJ7_fill_53178_3 ?_
  refine v_istore_n (pc := 4) (by decide) rfl dJ7_fill_53178_4 ?_
  have lp5 : ∀ (m5 : Nat) (i : Int) (G1 : Mem), (0 ≤ i ∧ i ≤ (N : Int)) → (∀ z, 0 ≤ z → z < i → G1 p z = x) → (∀ j z, j ≠ p → G1 j z = G j z) → (((N : Int) - i).toNat) < m5 → V γ g cJ7_fill_53178 4 RJ7 (rmL 0 0 0) G1 0 0 5 [some (vR g p), some (vI x), some (vI i), some (vI (N : Int))] [] := by
    intro m5
    induction m5 with
    | zero => intro i G1; intros; omega
    | succ m5 ih5 =>
      intro i G1 h0 ha hG hm5
      refine v_iload_n (pc := 5) rfl dJ7_fill_53178_5 ?_
      refine v_iload_n (pc := 6) rfl dJ7_fill_53178_6 ?_
      refine v_icmp_ge (pc := 7) (tgt := 20) (by omega) dJ7_fill_53178_7 (by decide) (fun h1 => ?_) (fun h1 => ?_)
      · skip
        exact v_vret (pc := 20) E (⟨rfl, fun z z0 z1 => ha z z0 (by omega), hG⟩) (Nat.le_of_ble_eq_true rfl) (Nat.le_of_ble_eq_true rfl) dJ7_fill_53178_20
      · skip
        refine v_aload_n (pc := 10) rfl dJ7_fill_53178_10 ?_
        refine v_iload_n (pc := 11) rfl dJ7_fill_53178_11 ?_
        refine v_iload_n (pc := 12) rfl dJ7_fill_53178_12 ?_
        refine v_iast (pc := 13) (N := N) hk hl hp (by omega) (by omega) dJ7_fill_53178_13 ?_
        refine v_iinc (pc := 14) (y := 1) rfl (by decide) rfl dJ7_fill_53178_14 ?_
        refine v_goto (pc := 17) (tgt := 5) dJ7_fill_53178_17 (by decide) ?_
        exact ih5 (i + 1) (upd2 G1 p i x) (by omega) (fun z z0 z1 => (Classical.em (z = i)).elim (fun e => by rw [e, upd2_s]) (fun e => (upd2_z e).trans (ha z z0 (by omega)))) (fun j z hj => (upd2_i hj).trans (hG j z hj)) (by omega)
  refine v_loc (L' := [some (vR g p), some (vI x), some (vI 0), some (vI (N : Int))]) (⟨rfl, rfl, rfl, rfl, trivial⟩) ?_
  exact lp5 _ 0 G (by omega) (fun z a c => absurd c (by omega)) (fun _ _ _ => rfl) (Nat.lt_succ_self _)
set_option maxHeartbeats 4000000 in
set_option maxRecDepth 100000 in
theorem c_J7_fill_d0a16 {g : GT} {p N : Nat} {G : Mem} {x : Int} (hk : kd p = 11) (hl : ln p = N) (hp : p < NP) (hN : N < 2147483648) : Ctr g yJ7_fill_d0a16 cJ7_fill_d0a16 5 (none : Option FieldType) (rmL 0 0 0) [vR g p, vJ x] G (VP (fun G' => (∀ z, 0 ≤ z → z < (N : Int) → G' p z = x) ∧ ∀ i z, i ≠ p → G' i z = G i z)) NoX := by
  refine ctr_of [some (vR g p), some (vJ x), none, none, none] (by decide) (Nat.le_of_ble_eq_true rfl) rfl (fun γ E => ?_)
  show V γ g cJ7_fill_d0a16 5 RJ7 (rmL 0 0 0) G 0 0 0 [some (vR g p), some (vJ x), none, none, none] []
  refine v_iconst (pc := 0) (z := 0) dJ7_fill_d0a16_0 ?_
  refine v_istore_n (pc := 1) (by decide) rfl dJ7_fill_d0a16_1 ?_
  refine v_aload_n (pc := 2) rfl dJ7_fill_d0a16_2 ?_
  refine v_alen (pc := 3) (N := N) (Or.inr (hk)) hl hp dJ7_fill_d0a16_3 ?_
  refine v_istore (pc := 4) (by decide) rfl dJ7_fill_d0a16_4 ?_
  have lp6 : ∀ (m6 : Nat) (i : Int) (G1 : Mem), (0 ≤ i ∧ i ≤ (N : Int)) → (∀ z, 0 ≤ z → z < i → G1 p z = x) → (∀ j z, j ≠ p → G1 j z = G j z) → (((N : Int) - i).toNat) < m6 → V γ g cJ7_fill_d0a16 5 RJ7 (rmL 0 0 0) G1 0 0 6 [some (vR g p), some (vJ x), none, some (vI i), some (vI (N : Int))] [] := by
    intro m6
    induction m6 with
    | zero => intro i G1; intros; omega
    | succ m6 ih6 =>
      intro i G1 h0 ha hG hm6
      refine v_iload_n (pc := 6) rfl dJ7_fill_d0a16_6 ?_
      refine v_iload (pc := 7) rfl dJ7_fill_d0a16_7 ?_
      refine v_icmp_ge (pc := 9) (tgt := 22) (by omega) dJ7_fill_d0a16_9 (by decide) (fun h1 => ?_) (fun h1 => ?_)
      · skip
        exact v_vret (pc := 22) E (⟨rfl, fun z z0 z1 => ha z z0 (by omega), hG⟩) (Nat.le_of_ble_eq_true rfl) (Nat.le_of_ble_eq_true rfl) dJ7_fill_d0a16_22
      · skip
        refine v_aload_n (pc := 12) rfl dJ7_fill_d0a16_12 ?_
        refine v_iload_n (pc := 13) rfl dJ7_fill_d0a16_13 ?_
        refine v_lload_n (pc := 14) rfl dJ7_fill_d0a16_14 ?_
        refine v_last (pc := 15) (N := N) hk hl hp (by omega) (by omega) dJ7_fill_d0a16_15 ?_
        refine v_iinc (pc := 16) (y := 1) rfl (by decide) rfl dJ7_fill_d0a16_16 ?_
        refine v_goto (pc := 19) (tgt := 6) dJ7_fill_d0a16_19 (by decide) ?_
        exact ih6 (i + 1) (upd2 G1 p i x) (by omega) (fun z z0 z1 => (Classical.em (z = i)).elim (fun e => by rw [e, upd2_s]) (fun e => (upd2_z e).trans (ha z z0 (by omega)))) (fun j z hj => (upd2_i hj).trans (hG j z hj)) (by omega)
  refine v_loc (L' := [some (vR g p), some (vJ x), none, some (vI 0), some (vI (N : Int))]) (⟨rfl, rfl, rfl, rfl, trivial⟩) ?_
  exact lp6 _ 0 G (by omega) (fun z a c => absurd c (by omega)) (fun _ _ _ => rfl) (Nat.lt_succ_self _)
set_option maxHeartbeats 4000000 in
set_option maxRecDepth 100000 in
theorem c_X0_tableAnswer {g : GT} {G : Mem} {a : Int} (hv : 0 ≤ G 1 4 ∧ G 1 4 ≤ 5) (ha : 0 ≤ a ∧ a ≤ 99) : Ctr g yX0_tableAnswer cX0_tableAnswer 2 (some FieldType.int) (rmL 0 0 0) [vR g 1, vI a] G (RM (G (94 + (G 1 4).toNat) a) G) NoX := by
  refine ctr_of [some (vR g 1), some (vI a)] (by decide) (Nat.le_of_ble_eq_true rfl) rfl (fun γ E => ?_)
  show V γ g cX0_tableAnswer 2 RX0 (rmL 0 0 0) G 0 0 0 [some (vR g 1), some (vI a)] []
  refine v_aload_n (pc := 0) rfl dX0_tableAnswer_0 ?_
  refine v_getR (pc := 1) (j := 93) fd_X0_17 (rfl) (by decide) rfl dX0_tableAnswer_1 ?_
  refine v_aload_n (pc := 4) rfl dX0_tableAnswer_4 ?_
  refine v_get (pc := 5) 4 fd_X0_33 (rfl) (by decide) rfl rfl dX0_tableAnswer_5 ?_
  refine v_aldt (pc := 8) (N := 6) rfl rfl (by decide) (by omega) (by decide) dX0_tableAnswer_8 ?_
  refine v_iload_n (pc := 9) rfl dX0_tableAnswer_9 ?_
  refine v_iald (pc := 10) (N := 100) (kdT (by omega)) (lnT (by omega)) (ltT (by omega)) (by omega) (by decide) dX0_tableAnswer_10 ?_
  exact v_iret (pc := 11) E (⟨rfl, rfl⟩) (Nat.le_of_ble_eq_true rfl) (Nat.le_of_ble_eq_true rfl) dX0_tableAnswer_11
set_option maxHeartbeats 4000000 in
set_option maxRecDepth 100000 in
theorem c_X0_addValue {g : GT} {p q : Nat} {G : Mem} {v c : Int} (hp : 94 ≤ p ∧ p ≤ 99) (hq : 94 ≤ q ∧ q ≤ 99) (hpq : p ≠ q) (h_v : 1 ≤ v ∧ v ≤ 50) (h_c : 0 ≤ c ∧ c ≤ 40) (hf : ∀ x, 0 ≤ x → x < 100 → 0 ≤ G p x ∧ G p x ≤ 1000) : Ctr g yX0_addValue cX0_addValue 8 (none : Option FieldType) (rmL 0 0 0) [vR g p, vR g q, vI v, vI c] G (VP (fun G' => (∀ x, 0 ≤ x → x < 100 → G' q x = rowF (G p) v c x) ∧ ∀ i z, i ≠ q → G' i z = G i z)) NoX := by
  refine ctr_of [some (vR g p), some (vR g q), some (vI v), some (vI c), none, none, none, none] (by decide) (Nat.le_of_ble_eq_true rfl) rfl (fun γ E => ?_)
  show V γ g cX0_addValue 8 RX0 (rmL 0 0 0) G 0 0 0 [some (vR g p), some (vR g q), some (vI v), some (vI c), none, none, none, none] []
  refine v_iconst (pc := 0) (z := 0) dX0_addValue_0 ?_
  refine v_istore (pc := 1) (by decide) rfl dX0_addValue_1 ?_
  have lp3 : ∀ (m3 : Nat) (a : Int) (G1 : Mem), (0 ≤ a ∧ a ≤ 100) → (∀ x, 0 ≤ x → x < a → G1 q x = rowF (G p) v c x) → (∀ j z, j ≠ q → G1 j z = G j z) → ((100 - a).toNat) < m3 → V γ g cX0_addValue 8 RX0 (rmL 0 0 0) G1 0 0 3 [some (vR g p), some (vR g q), some (vI v), some (vI c), some (vI a), none, none, none] [] := by
    intro m3
    induction m3 with
    | zero => intro a G1; intros; omega
    | succ m3 ih3 =>
      intro a G1 h0 ha hG hm3
      have hP : ∀ z, G1 p z = G p z := fun z => hG p z hpq
      refine v_iload (pc := 3) rfl dX0_addValue_3 ?_
      refine v_bipush (pc := 5) (z := 99) rfl dX0_addValue_5 ?_
      refine v_icmp_gt (pc := 7) (tgt := 76) (by omega) dX0_addValue_7 (by decide) (fun h1 => ?_) (fun h1 => ?_)
      · skip
        exact v_vret (pc := 76) E (⟨rfl, fun x x0 x1 => ha x x0 (by omega), hG⟩) (Nat.le_of_ble_eq_true rfl) (Nat.le_of_ble_eq_true rfl) dX0_addValue_76
      · skip
        refine v_sipush (pc := 10) (z := 1000) rfl dX0_addValue_10 ?_
        refine v_istore (pc := 13) (by decide) rfl dX0_addValue_13 ?_
        refine v_iconst (pc := 15) (z := 0) dX0_addValue_15 ?_
        refine v_istore (pc := 16) (by decide) rfl dX0_addValue_16 ?_
        have lp18 : ∀ (m18 : Nat) (t : Int) (f : Int), (0 ≤ t ∧ t ≤ c + 1) → (f = mnT (G p) v a t.toNat) → ((c + 1 - t).toNat) < m18 → V γ g cX0_addValue 8 RX0 (rmL 0 0 0) G1 0 0 18 [some (vR g p), some (vR g q), some (vI v), some (vI c), some (vI a), some (vI f), some (vI t), none] [] := by
          intro m18
          induction m18 with
          | zero => intro t f; intros; omega
          | succ m18 ih18 =>
            intro t f t0 hfm hm18
            have hfr := mnT_le (G p) v a t.toNat
            have hfg := mnT_ge (f := G p) (v := v) (a := a) (fun x x0 x1 => (hf x x0 (by omega)).1) (by omega) t.toNat
            refine v_iload (pc := 18) rfl dX0_addValue_18 ?_
            refine v_iload_n (pc := 20) rfl dX0_addValue_20 ?_
            refine v_icmp_gt (pc := 21) (tgt := 64) (by omega) dX0_addValue_21 (by decide) (fun h2 => ?_) (fun h2 => ?_)
            · skip
              have hres : f = rowF (G p) v c a := by
                unfold rowF
                by_cases hx : t = c + 1
                · rw [hfm, hx]
                · have hst := mnT_stop (f := G p) (v := v) (a := a) (by omega) (t := t.toNat) (by rw [show ((t.toNat : Nat) : Int) = t by omega]; omega) (c + 1 - t).toNat
                  rw [hfm, ← hst]
                  congr 1
                  omega
              refine v_aload_n (pc := 64) rfl dX0_addValue_64 ?_
              refine v_iload (pc := 65) rfl dX0_addValue_65 ?_
              refine v_iload (pc := 67) rfl dX0_addValue_67 ?_
              refine v_iast (pc := 69) (N := 100) (kdT hq) (lnT hq) (ltT hq) (by omega) (by decide) dX0_addValue_69 ?_
              refine v_iinc (pc := 70) (y := 1) rfl (by decide) rfl dX0_addValue_70 ?_
              refine v_goto (pc := 73) (tgt := 3) dX0_addValue_73 (by decide) ?_
              refine v_loc (L' := [some (vR g p), some (vR g q), some (vI v), some (vI c), some (vI (a + 1)), none, none, none]) (⟨rfl, rfl, rfl, rfl, rfl, trivial⟩) ?_
              exact ih3 (a + 1) (upd2 G1 q a f) (by omega) (fun x x0 x1 => (Classical.em (x = a)).elim (fun e => by rw [e, upd2_s]; exact hres) (fun e => (upd2_z e).trans (ha x x0 (by omega)))) (fun j z hj => (upd2_i hj).trans (hG j z hj)) (by omega)
            · skip
              refine v_iload (pc := 24) rfl dX0_addValue_24 ?_
              refine v_iload_n (pc := 26) rfl dX0_addValue_26 ?_
              have hmu := mul_rng (a := t) (b := v) (A := 40) (B := 50) (by omega) (by omega)
              refine v_imul (pc := 27) dX0_addValue_27 ?_
              refine v_iload (pc := 28) rfl dX0_addValue_28 ?_
              refine v_icmp_gt (pc := 30) (tgt := 64) (by omega) dX0_addValue_30 (by decide) (fun h3 => ?_) (fun h3 => ?_)
              · skip
                have hres : f = rowF (G p) v c a := by
                  unfold rowF
                  by_cases hx : t = c + 1
                  · rw [hfm, hx]
                  · have hst := mnT_stop (f := G p) (v := v) (a := a) (by omega) (t := t.toNat) (by rw [show ((t.toNat : Nat) : Int) = t by omega]; omega) (c + 1 - t).toNat
                    rw [hfm, ← hst]
                    congr 1
                    omega
                refine v_aload_n (pc := 64) rfl dX0_addValue_64 ?_
                refine v_iload (pc := 65) rfl dX0_addValue_65 ?_
                refine v_iload (pc := 67) rfl dX0_addValue_67 ?_
                refine v_iast (pc := 69) (N := 100) (kdT hq) (lnT hq) (ltT hq) (by omega) (by decide) dX0_addValue_69 ?_
                refine v_iinc (pc := 70) (y := 1) rfl (by decide) rfl dX0_addValue_70 ?_
                refine v_goto (pc := 73) (tgt := 3) dX0_addValue_73 (by decide) ?_
                refine v_loc (L' := [some (vR g p), some (vR g q), some (vI v), some (vI c), some (vI (a + 1)), none, none, none]) (⟨rfl, rfl, rfl, rfl, rfl, trivial⟩) ?_
                exact ih3 (a + 1) (upd2 G1 q a f) (by omega) (fun x x0 x1 => (Classical.em (x = a)).elim (fun e => by rw [e, upd2_s]; exact hres) (fun e => (upd2_z e).trans (ha x x0 (by omega)))) (fun j z hj => (upd2_i hj).trans (hG j z hj)) (by omega)
              · skip
                have r1 := hf (a - t * v) (by omega) (by omega)
                have r2 := hP (a - t * v)
                refine v_aload_n (pc := 33) rfl dX0_addValue_33 ?_
                refine v_iload (pc := 34) rfl dX0_addValue_34 ?_
                refine v_iload (pc := 36) rfl dX0_addValue_36 ?_
                refine v_iload_n (pc := 38) rfl dX0_addValue_38 ?_
                refine v_imul (pc := 39) dX0_addValue_39 ?_
                refine v_isub (pc := 40) dX0_addValue_40 ?_
                refine v_iald (pc := 41) (N := 100) (kdT hp) (lnT hp) (ltT hp) (by omega) (by decide) dX0_addValue_41 ?_
                refine v_iload (pc := 42) rfl dX0_addValue_42 ?_
                refine v_iadd (pc := 44) dX0_addValue_44 ?_
                refine v_istore (pc := 45) (by decide) rfl dX0_addValue_45 ?_
                refine v_iload (pc := 47) rfl dX0_addValue_47 ?_
                refine v_iload (pc := 49) rfl dX0_addValue_49 ?_
                refine v_icmp_ge (pc := 51) (tgt := 58) (by omega) dX0_addValue_51 (by decide) (fun h4 => ?_) (fun h4 => ?_)
                · skip
                  refine v_iinc (pc := 58) (y := 1) rfl (by decide) rfl dX0_addValue_58 ?_
                  refine v_goto (pc := 61) (tgt := 18) dX0_addValue_61 (by decide) ?_
                  refine v_loc (L' := [some (vR g p), some (vR g q), some (vI v), some (vI c), some (vI a), some (vI f), some (vI (t + 1)), none]) (⟨rfl, rfl, rfl, rfl, rfl, rfl, rfl, trivial⟩) ?_
                  exact ih18 (t + 1) f (by omega) (by rw [show (t + 1).toNat = t.toNat + 1 by omega]; unfold mnT; rw [show ((t.toNat : Nat) : Int) = t by omega, ← hfm]; first | (rw [if_pos (by omega)]; omega) | rw [if_neg (by omega)]) (by omega)
                · skip
                  refine v_iload (pc := 54) rfl dX0_addValue_54 ?_
                  refine v_istore (pc := 56) (by decide) rfl dX0_addValue_56 ?_
                  refine v_iinc (pc := 58) (y := 1) rfl (by decide) rfl dX0_addValue_58 ?_
                  refine v_goto (pc := 61) (tgt := 18) dX0_addValue_61 (by decide) ?_
                  refine v_loc (L' := [some (vR g p), some (vR g q), some (vI v), some (vI c), some (vI a), some (vI ((G1 p (a - (t * v))) + t)), some (vI (t + 1)), none]) (⟨rfl, rfl, rfl, rfl, rfl, rfl, rfl, trivial⟩) ?_
                  exact ih18 (t + 1) ((G1 p (a - (t * v))) + t) (by omega) (by rw [show (t + 1).toNat = t.toNat + 1 by omega]; unfold mnT; rw [show ((t.toNat : Nat) : Int) = t by omega, ← hfm]; first | (rw [if_pos (by omega)]; omega) | rw [if_neg (by omega)]) (by omega)
        refine v_loc (L' := [some (vR g p), some (vR g q), some (vI v), some (vI c), some (vI a), some (vI 1000), some (vI 0), none]) (⟨rfl, rfl, rfl, rfl, rfl, rfl, rfl, trivial⟩) ?_
        exact lp18 _ 0 1000 (by omega) rfl (Nat.lt_succ_self _)
  refine v_loc (L' := [some (vR g p), some (vR g q), some (vI v), some (vI c), some (vI 0), none, none, none]) (⟨rfl, rfl, rfl, rfl, rfl, trivial⟩) ?_
  exact lp3 _ 0 G (by omega) (fun z a c => absurd c (by omega)) (fun _ _ _ => rfl) (Nat.lt_succ_self _)
theorem StI_sameB {G G' : Mem} {b : Nat} (hI : StI G b) (h : ∀ j : Nat, j ≤ 7 → ∀ w, G' (b + j) w = G (b + j) w) : StI G' b := by
  have h0 := h 0 (by omega)
  have e : G' b = G b := funext h0
  have e1 : G' (b + 1) = G (b + 1) := funext (h 1 (by omega))
  have e2 : G' (b + 2) = G (b + 2) := funext (h 2 (by omega))
  have e3 : G' (b + 3) = G (b + 3) := funext (h 3 (by omega))
  have e4 : G' (b + 4) = G (b + 4) := funext (h 4 (by omega))
  have e5 : G' (b + 5) = G (b + 5) := funext (h 5 (by omega))
  have e6 : G' (b + 6) = G (b + 6) := funext (h 6 (by omega))
  have e7 : G' (b + 7) = G (b + 7) := funext (h 7 (by omega))
  unfold StI
  rw [e, e1, e2, e3, e4, e5, e6, e7]
  exact hI

/-- values and counts by rank -/
abbrev vsR (G : Mem) (b : Nat) (r : Int) : Int := G (b + 1) (G (b + 4) r)
abbrev cnR (G : Mem) (b : Nat) (r : Int) : Int := cntE (G b 5) (G (b + 5)) (G (b + 4) r)
theorem vsR_r {G : Mem} {b : Nat} (hI : StI G b) {r : Int} (h0 : 0 ≤ r) (h1 : r < G b 0) : 1 ≤ vsR G b r ∧ vsR G b r ≤ 50 := by
  have := StI_r hI h0 h1
  exact (StI_d hI this.1 this.2).1
theorem cnR_r {G : Mem} {b : Nat} (hI : StI G b) (r : Int) : 0 ≤ cnR G b r ∧ cnR G b r ≤ 40 := by
  have h : 0 ≤ cnR G b r ∧ cnR G b r ≤ G b 5 := sz_cnt (fun k => Int.instDecidableEq _ _) (StI_c hI).1
  have := StI_c hI
  omega
theorem TabR {G : Mem} {b : Nat} (hI : StI G b) {r : Nat} (h : (r : Int) ≤ G b 0) (a : Int) : 0 ≤ Tab (vsR G b) (cnR G b) r a ∧ Tab (vsR G b) (cnR G b) r a ≤ 1000 :=
  Tab_r (fun _ => Or.inr trivial) r (fun s hs => by have := vsR_r hI (r := (s : Int)) (by omega) (by omega); omega) r (Nat.le_refl _) a

theorem tab0 {G0 : Mem} {vs cn : Int → Int} (h : ∀ z, 0 ≤ z → z < ((100 : Nat) : Int) → G0 94 z = 1000) (a : Int) (a0 : 0 ≤ a) (a1 : a < 100) : upd2 G0 94 0 0 (94 + 0) a = Tab vs cn 0 a := by
  show upd2 G0 94 0 0 94 a = if a = 0 then 0 else 1000
  by_cases q : a = 0
  · rw [q, upd2_s, if_pos rfl]
  · rw [upd2_z q, if_neg q]
    exact h a a0 (by omega)


set_option maxHeartbeats 4000000 in
set_option maxRecDepth 100000 in
theorem c_X0_tabulate {g : GT} {b : Nat} {G : Mem} (hb : isS b) (hI : StI G b) : Ctr g yX0_tabulate cX0_tabulate 4 (none : Option FieldType) (rmL 1 0 0) [vR g 1, vR g b] G (VP (fun G' => G' 1 4 = G b 0 ∧ (∀ r : Nat, (r : Int) ≤ G b 0 → ∀ a, 0 ≤ a → a < 100 → G' (94 + r) a = Tab (vsR G b) (cnR G b) r a) ∧ ∀ i z, ¬ (94 ≤ i ∧ i ≤ 99) → ¬ (i = 1 ∧ z = 4) → G' i z = G i z)) NoX := by
  refine ctr_of [some (vR g 1), some (vR g b), none, none] (by decide) (Nat.le_of_ble_eq_true rfl) rfl (fun γ E => ?_)
  show V γ g cX0_tabulate 4 RX0 (rmL 1 0 0) G 0 0 0 [some (vR g 1), some (vR g b), none, none] []
  have hn := StI_n hI
  have hc := StI_c hI
  have hy := StI_y hI
  have hb2 := isS_lt hb
  refine v_aload_n (pc := 0) rfl dX0_tabulate_0 ?_
  refine v_aload_n (pc := 1) rfl dX0_tabulate_1 ?_
  refine v_get (pc := 2) 0 fd_X0_27 (kdS hb) (ltS hb 0 (by decide)) (tgS hb 0 none rfl) rfl dX0_tabulate_2 ?_
  refine v_put (pc := 5) 4 pd_X0_33 (rfl) (by decide) rfl rfl dX0_tabulate_5 ?_
  refine v_aload_n (pc := 8) rfl dX0_tabulate_8 ?_
  refine v_getR (pc := 9) (j := 93) fd_X0_17 (rfl) (by decide) rfl dX0_tabulate_9 ?_
  refine v_iconst (pc := 12) (z := 0) dX0_tabulate_12 ?_
  refine v_aldt (pc := 13) (N := 6) rfl rfl (by decide) (by omega) (by decide) dX0_tabulate_13 ?_
  refine v_stk (st' := [vR g 94]) rfl ?_
  refine v_sipush (pc := 14) (z := 1000) rfl dX0_tabulate_14 ?_
  refine v_callS (pc := 17) (rest := []) (c_J7_fill_53178 (G := (upd2 G 1 4 (G b 0))) (p := 94) (N := 100) (x := 1000) rfl rfl (by decide) (by decide)) sok_J7_fill_53178 wM_X0_36 (rmOk (by decide) (by decide)) ⟨Nat.le_of_ble_eq_true rfl, Nat.le_of_ble_eq_true rfl⟩ (Nat.le_of_ble_eq_true rfl) rfl dX0_tabulate_17 (fun v G0 hq => ?_) (fun _ _ h => h.elim)
  obtain ⟨rfl, hq⟩ := hq
  refine v_stk (st' := []) rfl ?_
  obtain ⟨ha0, hG0⟩ := hq
  have e4 : G0 1 4 = G b 0 := (hG0 1 4 (by omega)).trans (upd2_s _ _ _ _)
  have hF0 : ∀ i z, ¬ (94 ≤ i ∧ i ≤ 99) → ¬ (i = 1 ∧ z = 4) → G0 i z = G i z := fun i z a c => (hG0 i z (by omega)).trans (if_neg c)
  refine v_aload_n (pc := 20) rfl dX0_tabulate_20 ?_
  refine v_getR (pc := 21) (j := 93) fd_X0_17 (rfl) (by decide) rfl dX0_tabulate_21 ?_
  refine v_iconst (pc := 24) (z := 0) dX0_tabulate_24 ?_
  refine v_aldt (pc := 25) (N := 6) rfl rfl (by decide) (by omega) (by decide) dX0_tabulate_25 ?_
  refine v_stk (st' := [vR g 94]) rfl ?_
  refine v_iconst (pc := 26) (z := 0) dX0_tabulate_26 ?_
  refine v_iconst (pc := 27) (z := 0) dX0_tabulate_27 ?_
  refine v_iast (pc := 28) (N := 100) rfl rfl (by decide) (by omega) (by decide) dX0_tabulate_28 ?_
  refine v_iconst (pc := 29) (z := 0) dX0_tabulate_29 ?_
  refine v_istore_n (pc := 30) (by decide) rfl dX0_tabulate_30 ?_
  have lp31 : ∀ (m31 : Nat) (i : Int) (G1 : Mem), (0 ≤ i ∧ i ≤ G b 0) → (G1 1 4 = G b 0) → (∀ r : Nat, (r : Int) ≤ i → ∀ a, 0 ≤ a → a < 100 → G1 (94 + r) a = Tab (vsR G b) (cnR G b) r a) → (∀ i z, ¬ (94 ≤ i ∧ i ≤ 99) → ¬ (i = 1 ∧ z = 4) → G1 i z = G i z) → ((G b 0 - i).toNat) < m31 → V γ g cX0_tabulate 4 RX0 (rmL 1 0 0) G1 0 0 31 [some (vR g 1), some (vR g b), some (vI i), none] [] := by
    intro m31
    induction m31 with
    | zero => intro i G1; intros; omega
    | succ m31 ih31 =>
      intro i G1 h0 e14 hT hG hm31
      refine v_iload_n (pc := 31) rfl dX0_tabulate_31 ?_
      refine v_aload_n (pc := 32) rfl dX0_tabulate_32 ?_
      refine v_get (pc := 33) 4 fd_X0_33 (rfl) (by decide) rfl rfl dX0_tabulate_33 ?_
      refine v_icmp_ge (pc := 36) (tgt := 80) (by omega) dX0_tabulate_36 (by decide) (fun h1 => ?_) (fun h1 => ?_)
      · skip
        exact v_vret (pc := 80) E (⟨rfl, e14, fun r hr => hT r (by omega), hG⟩) (Nat.le_of_ble_eq_true rfl) (Nat.le_of_ble_eq_true rfl) dX0_tabulate_80
      · skip
        have hr := StI_r hI (r := i) (by omega) (by omega)
        have f4 := hG (b + 4) i (by omega) (by omega)
        have f1 := hG (b + 1) (G (b + 4) i) (by omega) (by omega)
        have hvv : 1 ≤ G (b + 1) (G (b + 4) i) ∧ G (b + 1) (G (b + 4) i) ≤ 50 := vsR_r hI (r := i) (by omega) (by omega)
        have hcc := cnR_r hI i
        have f0 := hG b 0 (by omega) (by omega)
        have f1b : G1 (b + 1) (G1 (b + 4) i) = G (b + 1) (G (b + 4) i) := by rw [f4, f1]
        have hGb : ∀ j : Nat, j ≤ 7 → ∀ w, G1 (b + j) w = G (b + j) w := fun j hj w => hG (b + j) w (by omega) (by omega)
        have hI1 : StI G1 b := StI_sameB hI hGb
        refine v_aload_n (pc := 39) rfl dX0_tabulate_39 ?_
        refine v_getR (pc := 40) (j := b + 4) fd_X0_42 (kdS hb) (ltS hb 0 (by decide)) (tgS hb 4 _ rfl) dX0_tabulate_40 ?_
        refine v_iload_n (pc := 43) rfl dX0_tabulate_43 ?_
        refine v_iald (pc := 44) (N := 5) (kdS_i hb 4 (by decide)) (lnS_5 hb 4 (by decide)) (ltS hb 4 (by decide)) (by omega) (by decide) dX0_tabulate_44 ?_
        refine v_istore_n (pc := 45) (by decide) rfl dX0_tabulate_45 ?_
        refine v_aload_n (pc := 46) rfl dX0_tabulate_46 ?_
        refine v_getR (pc := 47) (j := 93) fd_X0_17 (rfl) (by decide) rfl dX0_tabulate_47 ?_
        refine v_iload_n (pc := 50) rfl dX0_tabulate_50 ?_
        refine v_aldt (pc := 51) (N := 6) rfl rfl (by decide) (by omega) (by decide) dX0_tabulate_51 ?_
        refine v_aload_n (pc := 52) rfl dX0_tabulate_52 ?_
        refine v_getR (pc := 53) (j := 93) fd_X0_17 (rfl) (by decide) rfl dX0_tabulate_53 ?_
        refine v_iload_n (pc := 56) rfl dX0_tabulate_56 ?_
        refine v_iconst (pc := 57) (z := 1) dX0_tabulate_57 ?_
        refine v_iadd (pc := 58) dX0_tabulate_58 ?_
        refine v_aldt (pc := 59) (N := 6) rfl rfl (by decide) (by omega) (by decide) dX0_tabulate_59 ?_
        refine v_aload_n (pc := 60) rfl dX0_tabulate_60 ?_
        refine v_getR (pc := 61) (j := b + 1) fd_X0_45 (kdS hb) (ltS hb 0 (by decide)) (tgS hb 1 _ rfl) dX0_tabulate_61 ?_
        refine v_iload_n (pc := 64) rfl dX0_tabulate_64 ?_
        refine v_iald (pc := 65) (N := 5) (kdS_i hb 1 (by decide)) (lnS_5 hb 1 (by decide)) (ltS hb 1 (by decide)) (by omega) (by decide) dX0_tabulate_65 ?_
        refine v_aload_n (pc := 66) rfl dX0_tabulate_66 ?_
        refine v_iload_n (pc := 67) rfl dX0_tabulate_67 ?_
        refine v_callVN (pc := 68) (rest := [vI (G1 (b + 1) (G1 (b + 4) i)), vR g (94 + (i + 1).toNat), vR g (94 + i.toNat)]) (c_X2_coinsFrom hb hI1 (d := G1 (b + 4) i) (by omega)) iok_X2_coinsFrom wM_X0_48 (kdS hb) (by decide) (ltS hb 0 (by decide)) rfl (rmOk (by decide) (by decide)) ⟨Nat.le_of_ble_eq_true rfl, Nat.le_of_ble_eq_true rfl⟩ (Nat.le_of_ble_eq_true rfl) rfl dX0_tabulate_68 (fun v G' hq => ?_) (fun _ _ h => h.elim)
        obtain ⟨rfl, hG9⟩ := hq
        rw [hG9]
        obtain ⟨cc, h_cc⟩ : ∃ x, x = (cntE (G1 b 5) (G1 (b + 5)) (G1 (b + 4) i)) := ⟨_, rfl⟩
        refine v_stk (st' := [vI cc, vI (G1 (b + 1) (G1 (b + 4) i)), vR g (94 + (i + 1).toNat), vR g (94 + i.toNat)]) (by rw [h_cc]; rfl) ?_
        have hcq : cc = cnR G b i := by
          rw [h_cc, f4, hG b 5 (by omega) (by omega)]
          exact sz_congr (fun k _ _ => by rw [hG (b + 5) k (by omega) (by omega)])
        refine v_callS (pc := 71) (rest := []) (c_X0_addValue (G := G1) (p := 94 + i.toNat) (q := 94 + (i + 1).toNat) (v := G1 (b + 1) (G1 (b + 4) i)) (c := cc) (by omega) (by omega) (by omega) (by omega) (by omega) (fun x x0 x1 => by rw [hT i.toNat (by omega) x x0 x1]; exact TabR hI (by omega) x)) sok_X0_addValue wM_X0_52 (rmOk (by decide) (by decide)) ⟨Nat.le_of_ble_eq_true rfl, Nat.le_of_ble_eq_true rfl⟩ (Nat.le_of_ble_eq_true rfl) rfl dX0_tabulate_71 (fun v G2 hq => ?_) (fun _ _ h => h.elim)
        obtain ⟨rfl, hq⟩ := hq
        refine v_stk (st' := []) rfl ?_
        obtain ⟨hq2, hq3⟩ := hq
        have hq4 : G2 1 4 = G b 0 := (hq3 1 4 (by omega)).trans e14
        have hG2 : ∀ j z, ¬ (94 ≤ j ∧ j ≤ 99) → ¬ (j = 1 ∧ z = 4) → G2 j z = G j z := fun j z a c => (hq3 j z (by omega)).trans (hG j z a c)
        have hT2 : ∀ r : Nat, (r : Int) ≤ i + 1 → ∀ a, 0 ≤ a → a < 100 → G2 (94 + r) a = Tab (vsR G b) (cnR G b) r a := fun r hr2 a a0 a1 => by
          by_cases hri : (r : Int) = i + 1
          · have er : r = i.toNat + 1 := by omega
            have e94 : 94 + r = 94 + (i + 1).toNat := by omega
            rw [e94, hq2 a a0 a1, er]
            show rowF _ _ _ _ = rowF (Tab (vsR G b) (cnR G b) i.toNat) (vsR G b ((i.toNat : Nat) : Int)) (cnR G b ((i.toNat : Nat) : Int)) a
            rw [show ((i.toNat : Nat) : Int) = i by omega, f1b, hcq]
            exact mnT_congr (by omega) (fun x x0 x1 => hT i.toNat (by omega) x x0 (by omega)) _
          · rw [hq3 (94 + r) a (by omega)]
            exact hT r (by omega) a a0 a1
        refine v_iinc (pc := 74) (y := 1) rfl (by decide) rfl dX0_tabulate_74 ?_
        refine v_goto (pc := 77) (tgt := 31) dX0_tabulate_77 (by decide) ?_
        refine v_loc (L' := [some (vR g 1), some (vR g b), some (vI (i + 1)), none]) (⟨rfl, rfl, rfl, trivial⟩) ?_
        exact ih31 (i + 1) G2 (by omega) hq4 hT2 hG2 (by omega)
  refine v_loc (L' := [some (vR g 1), some (vR g b), some (vI 0), none]) (⟨rfl, rfl, rfl, trivial⟩) ?_
  exact lp31 _ 0 (upd2 G0 94 0 0) (by omega) (by (repeat (first | rw [upd2_s] | rw [cpy2_s (by omega)] | rw [upd2_i (by omega)] | rw [upd2_z (by omega)] | rw [cpy2_i (by omega)])); exact e4) (fun r hr a a0 a1 => by rw [show r = 0 by omega]; exact tab0 ha0 a a0 a1) (fun i z a c => (upd2_i (by omega)).trans (hF0 i z a c)) (Nat.lt_succ_self _)
