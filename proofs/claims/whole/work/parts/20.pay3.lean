-- sets of amounts, as bits
theorem wb_c : ∀ k, k < 64 → ((nI k).toInt64 &&& 63) = lN k := by decide +kernel
theorem wb_cu : ∀ k, k < 64 → ((nI k).toInt64.toUInt64 &&& Int64.toUInt64 63) = UInt64.ofNat k := by decide +kernel
theorem wb_sm : ∀ k, k < 64 → (BitVec.ofNat 64 k).smod 64 = BitVec.ofNat 64 k := by decide +kernel
def tb (z : Int) (a : Nat) : Bool := (Int64.ofInt z).toBitVec.getLsbD a
theorem tb_of (x : Int64) (a : Nat) : tb x.toInt a = x.toBitVec.getLsbD a := by unfold tb; rw [i64_of]
theorem tb_big {x : Int} {a : Nat} (h : 64 ≤ a) : tb x a = false := BitVec.getLsbD_of_ge _ _ h
theorem tb_or (x y : Int) (a : Nat) : tb (lorI x y) a = (tb x a || tb y a) := by
  unfold lorI
  rw [tb_of, Int64.toBitVec_or, BitVec.getLsbD_or]
  rfl
theorem tb_shl {v : Nat} (hv : v < 64) (x : Int) (a : Nat) : tb (lshlI x v) a = (decide (a < 64) && !decide (a < v) && tb x (a - v)) := by
  unfold lshlI
  rw [tb_of]
  have e : ((Int32.ofInt (v : Int)).toInt64 &&& 63) = lN v := wb_c v hv
  rw [e, Int64.toBitVec_shiftLeft]
  have e2 : (lN v).toBitVec = BitVec.ofNat 64 v := rfl
  rw [e2, wb_sm v hv, BitVec.shiftLeft_eq', BitVec.getLsbD_shiftLeft, BitVec.toNat_ofNat, Nat.mod_eq_of_lt (show v < 2 ^ 64 by omega)]
  rfl
theorem tb_ushr {v : Nat} (hv : v < 64) (x : Int) (a : Nat) : tb (lushrI x v) a = tb x (v + a) := by
  unfold lushrI
  rw [tb_of]
  have e : ((Int32.ofInt (v : Int)).toInt64.toUInt64 &&& Int64.toUInt64 63) = UInt64.ofNat v := wb_cu v hv
  rw [e]
  have h1 : (UInt64.ofNat v).toNat = v := by
    show (BitVec.ofNat 64 v).toNat = v
    rw [BitVec.toNat_ofNat, Nat.mod_eq_of_lt (by omega)]
  have e3 : ((Int64.ofInt x).toUInt64 >>> UInt64.ofNat v).toInt64.toBitVec = (Int64.ofInt x).toBitVec >>> v := by
    apply BitVec.eq_of_toNat_eq
    show ((Int64.ofInt x).toUInt64 >>> UInt64.ofNat v).toNat = _
    rw [UInt64.toNat_shiftRight, h1, Nat.mod_eq_of_lt hv, BitVec.toNat_ushiftRight]
    rfl
  rw [e3, BitVec.getLsbD_ushiftRight]
  rfl
theorem land1 (x : Int) : landI x 1 = if tb x 0 then 1 else 0 := by
  have h : (Int64.ofInt x &&& Int64.ofInt 1) = if tb x 0 then 1 else 0 := by
    apply Int64.toBitVec_inj.mp
    apply BitVec.eq_of_getLsbD_eq
    intro i hi
    rw [Int64.toBitVec_and, BitVec.getLsbD_and]
    have e1 : (Int64.ofInt 1).toBitVec = 1#64 := rfl
    rw [e1, BitVec.getLsbD_one]
    by_cases h0 : i = 0
    · subst h0
      unfold tb
      cases hx : (Int64.ofInt x).toBitVec.getLsbD 0
      · rfl
      · rfl
    · have h2 : decide (i = 0) = false := by simp [h0]
      rw [h2]
      cases hx : tb x 0
      · show _ = (0 : Int64).toBitVec.getLsbD i
        simp
      · show _ = (1 : Int64).toBitVec.getLsbD i
        have e2 : (1 : Int64).toBitVec = 1#64 := rfl
        rw [e2, BitVec.getLsbD_one, h2]
        simp
  unfold landI
  rw [h]
  cases tb x 0
  · rfl
  · rfl
/-- the amount a is among those that k coins can pay -/
def BB (G : Mem) (k : Int) (a : Nat) : Bool := if a < 64 then tb (G 100 k) a else tb (G 101 k) (a - 64)
theorem BB_congr {G G' : Mem} {k : Int} (h : G' 100 k = G 100 k ∧ G' 101 k = G 101 k) (a : Nat) : BB G' k a = BB G k a := by
  unfold BB
  rw [h.1, h.2]
/-- one coin of the value v more -/
theorem BB_step {G : Mem} {j : Int} {v a : Nat} (hv : 1 ≤ v ∧ v ≤ 50) (ha : a < 128) {G' : Mem} (h0 : G' 100 (j + 1) = lorI (G 100 (j + 1)) (lshlI (G 100 j) v)) (h1 : G' 101 (j + 1) = lorI (G 101 (j + 1)) (lorI (lshlI (G 101 j) v) (lushrI (G 100 j) (64 - (v : Int))))) :
    BB G' (j + 1) a = (BB G (j + 1) a || (decide (v ≤ a) && BB G j (a - v))) := by
  unfold BB
  by_cases h : a < 64
  · rw [if_pos h, if_pos h, if_pos (by omega), h0, tb_or, tb_shl (by omega)]
    congr 1
    by_cases q : v ≤ a
    · simp [h, q, show ¬ a < v by omega]
    · simp [h, q, show a < v by omega]
  · rw [if_neg h, if_neg h, h1, tb_or, tb_or, tb_shl (by omega), show (64 : Int) - (v : Int) = ((64 - v : Nat) : Int) by omega, tb_ushr (by omega)]
    congr 1
    by_cases q : a - 64 < v
    · have e1 : a - v < 64 := by omega
      rw [if_pos e1]
      have e2 : 64 - v + (a - 64) = a - v := by omega
      rw [e2]
      simp [q, show v ≤ a by omega]
    · have e1 : ¬ a - v < 64 := by omega
      rw [if_neg e1, tb_big (a := 64 - v + (a - 64)) (by omega)]
      have e2 : a - 64 - v = a - v - 64 := by omega
      rw [e2]
      simp [q, show v ≤ a by omega, show a - 64 < 64 by omega]
/-- with the first m coins, k of them can pay a -/
def PS (val : Int → Int) : Nat → Int → Int → Bool
  | 0, k, a => decide (k = 0 ∧ a = 0)
  | m + 1, k, a => PS val m k a || (decide (1 ≤ k ∧ val m ≤ a) && PS val m (k - 1) (a - val m))
theorem PS_r {val : Int → Int} : ∀ (m : Nat) (k a : Int), PS val m k a = true → 0 ≤ k ∧ k ≤ m
  | 0, k, a, h => by
    have : k = 0 ∧ a = 0 := by simpa [PS] using h
    omega
  | m + 1, k, a, h => by
    unfold PS at h
    rw [Bool.or_eq_true, Bool.and_eq_true, decide_eq_true_eq] at h
    rcases h with h | h
    · have := PS_r m k a h
      omega
    · have := PS_r m _ _ h.2
      omega
/-- the fewest coins by sets -/
def SetR (f : Int → Bool) (n r : Int) : Prop := ((0 ≤ r ∧ r ≤ n) ∧ f r = true ∧ ∀ k, 0 ≤ k → k < r → f k = false) ∨ (r = 1000 ∧ ∀ k, 0 ≤ k → k ≤ n → f k = false)

theorem inset_l {G : Mem} {k a : Int} (h : 0 ≤ a ∧ a < 64) : (BB G k a.toNat = true) = (landI (lushrI (G 100 k) a) 1 = 1) := by
  obtain ⟨n, rfl⟩ := Int.eq_ofNat_of_zero_le h.1
  unfold BB
  rw [show ((n : Int)).toNat = n by omega, if_pos (by omega), land1, tb_ushr (by omega)]
  cases hx : tb (G 100 k) (n + 0)
  · have hx2 : tb (G 100 k) n = false := hx
    simp
  · have hx2 : tb (G 100 k) n = true := hx
    simp
theorem inset_h {G : Mem} {k a : Int} (h : 64 ≤ a ∧ a < 128) : (BB G k a.toNat = true) = (landI (lushrI (G 101 k) (a - 64)) 1 = 1) := by
  obtain ⟨n, rfl⟩ := Int.eq_ofNat_of_zero_le (show 0 ≤ a by omega)
  unfold BB
  rw [show ((n : Int)).toNat = n by omega, if_neg (by omega), land1, show (n : Int) - 64 = ((n - 64 : Nat) : Int) by omega, tb_ushr (by omega)]
  cases hx : tb (G 101 k) (n - 64 + 0)
  · have hx2 : tb (G 101 k) (n - 64) = false := hx
    simp
  · have hx2 : tb (G 101 k) (n - 64) = true := hx
    simp

set_option maxHeartbeats 4000000 in
set_option maxRecDepth 100000 in
theorem c_X0_isInSet {g : GT} {G : Mem} {k a : Int} (h_k : 0 ≤ k ∧ k ≤ 40) (h_a : 0 ≤ a ∧ a ≤ 99) : Ctr g yX0_isInSet cX0_isInSet 3 (some FieldType.boolean) (rmL 0 0 0) [vR g 1, vI k, vI a] G (RM (bI (BB G k a.toNat = true)) G) NoX := by
  refine ctr_of [some (vR g 1), some (vI k), some (vI a)] (by decide) (Nat.le_of_ble_eq_true rfl) rfl (fun γ E => ?_)
  show V γ g cX0_isInSet 3 RX0 (rmL 0 0 0) G 0 0 0 [some (vR g 1), some (vI k), some (vI a)] []
  refine v_iload_n (pc := 0) rfl dX0_isInSet_0 ?_
  refine v_bipush (pc := 1) (z := 64) rfl dX0_isInSet_1 ?_
  refine v_icmp_ge (pc := 3) (tgt := 27) (by omega) dX0_isInSet_3 (by decide) (fun h1 => ?_) (fun h1 => ?_)
  · skip
    refine v_aload_n (pc := 27) rfl dX0_isInSet_27 ?_
    refine v_getR (pc := 28) (j := 101) fd_X0_24 (rfl) (by decide) rfl dX0_isInSet_28 ?_
    refine v_iload_n (pc := 31) rfl dX0_isInSet_31 ?_
    refine v_lald (pc := 32) (N := 41) rfl rfl (by decide) (by omega) (by decide) dX0_isInSet_32 ?_
    refine v_iload_n (pc := 33) rfl dX0_isInSet_33 ?_
    refine v_bipush (pc := 34) (z := 64) rfl dX0_isInSet_34 ?_
    refine v_isub (pc := 36) dX0_isInSet_36 ?_
    refine v_lushr (pc := 37) dX0_isInSet_37 ?_
    have hl := landI_r (lushrI (G 101 k) (a - 64)) 1
    refine v_lconst (pc := 38) (z := 1) rfl dX0_isInSet_38 ?_
    refine v_land (pc := 39) dX0_isInSet_39 ?_
    refine v_lconst (pc := 40) (z := 1) rfl dX0_isInSet_40 ?_
    refine v_lc_ne (pc := 41) (tgt := 49) (by omega) (by omega) dX0_isInSet_41 dX0_isInSet_42 (by decide) (fun h2 => ?_) (fun h2 => ?_)
    · skip
      refine v_iconst (pc := 49) (z := 0) dX0_isInSet_49 ?_
      exact v_bret (pc := 50) E (by decide) (⟨by rw [bI_f (by rw [inset_h (by omega)]; assumption)], rfl⟩) (Nat.le_of_ble_eq_true rfl) (Nat.le_of_ble_eq_true rfl) dX0_isInSet_50
    · skip
      refine v_iconst (pc := 45) (z := 1) dX0_isInSet_45 ?_
      refine v_goto (pc := 46) (tgt := 50) dX0_isInSet_46 (by decide) ?_
      exact v_bret (pc := 50) E (by decide) (⟨by rw [bI_t (by rw [inset_h (by omega)]; assumption)], rfl⟩) (Nat.le_of_ble_eq_true rfl) (Nat.le_of_ble_eq_true rfl) dX0_isInSet_50
  · skip
    refine v_aload_n (pc := 6) rfl dX0_isInSet_6 ?_
    refine v_getR (pc := 7) (j := 100) fd_X0_20 (rfl) (by decide) rfl dX0_isInSet_7 ?_
    refine v_iload_n (pc := 10) rfl dX0_isInSet_10 ?_
    refine v_lald (pc := 11) (N := 41) rfl rfl (by decide) (by omega) (by decide) dX0_isInSet_11 ?_
    refine v_iload_n (pc := 12) rfl dX0_isInSet_12 ?_
    refine v_lushr (pc := 13) dX0_isInSet_13 ?_
    have hl := landI_r (lushrI (G 100 k) a) 1
    refine v_lconst (pc := 14) (z := 1) rfl dX0_isInSet_14 ?_
    refine v_land (pc := 15) dX0_isInSet_15 ?_
    refine v_lconst (pc := 16) (z := 1) rfl dX0_isInSet_16 ?_
    refine v_lc_ne (pc := 17) (tgt := 25) (by omega) (by omega) dX0_isInSet_17 dX0_isInSet_18 (by decide) (fun h3 => ?_) (fun h3 => ?_)
    · skip
      refine v_iconst (pc := 25) (z := 0) dX0_isInSet_25 ?_
      exact v_bret (pc := 26) E (by decide) (⟨by rw [bI_f (by rw [inset_l (by omega)]; assumption)], rfl⟩) (Nat.le_of_ble_eq_true rfl) (Nat.le_of_ble_eq_true rfl) dX0_isInSet_26
    · skip
      refine v_iconst (pc := 21) (z := 1) dX0_isInSet_21 ?_
      refine v_goto (pc := 22) (tgt := 26) dX0_isInSet_22 (by decide) ?_
      exact v_bret (pc := 26) E (by decide) (⟨by rw [bI_t (by rw [inset_l (by omega)]; assumption)], rfl⟩) (Nat.le_of_ble_eq_true rfl) (Nat.le_of_ble_eq_true rfl) dX0_isInSet_26
set_option maxHeartbeats 4000000 in
set_option maxRecDepth 100000 in
theorem c_X0_setsAnswer {g : GT} {G : Mem} {a : Int} (hn : 0 ≤ G 1 5 ∧ G 1 5 ≤ 40) (h_a : 0 ≤ a ∧ a ≤ 99) : Ctr g yX0_setsAnswer cX0_setsAnswer 3 (some FieldType.int) (rmL 1 0 0) [vR g 1, vI a] G (RP (fun r G' => G' = G ∧ SetR (fun k => BB G k a.toNat) (G 1 5) r)) NoX := by
  refine ctr_of [some (vR g 1), some (vI a), none] (by decide) (Nat.le_of_ble_eq_true rfl) rfl (fun γ E => ?_)
  show V γ g cX0_setsAnswer 3 RX0 (rmL 1 0 0) G 0 0 0 [some (vR g 1), some (vI a), none] []
  refine v_iconst (pc := 0) (z := 0) dX0_setsAnswer_0 ?_
  refine v_istore_n (pc := 1) (by decide) rfl dX0_setsAnswer_1 ?_
  have lp2 : ∀ (m2 : Nat) (i : Int), (0 ≤ i ∧ i ≤ G 1 5 + 1) → (∀ k, 0 ≤ k → k < i → BB G k a.toNat = false) → ((G 1 5 + 1 - i).toNat) < m2 → V γ g cX0_setsAnswer 3 RX0 (rmL 1 0 0) G 0 0 2 [some (vR g 1), some (vI a), some (vI i)] [] := by
    intro m2
    induction m2 with
    | zero => intro i; intros; omega
    | succ m2 ih2 =>
      intro i h0 hf hm2
      refine v_iload_n (pc := 2) rfl dX0_setsAnswer_2 ?_
      refine v_aload_n (pc := 3) rfl dX0_setsAnswer_3 ?_
      refine v_get (pc := 4) 5 fd_X0_59 (rfl) (by decide) rfl rfl dX0_setsAnswer_4 ?_
      refine v_icmp_gt (pc := 7) (tgt := 27) (by omega) dX0_setsAnswer_7 (by decide) (fun h1 => ?_) (fun h1 => ?_)
      · skip
        refine v_sipush (pc := 27) (z := 1000) rfl dX0_setsAnswer_27 ?_
        exact v_iret (pc := 30) E (⟨_, rfl, rfl, Or.inr ⟨rfl, fun k k0 k1 => hf k k0 (by omega)⟩⟩) (Nat.le_of_ble_eq_true rfl) (Nat.le_of_ble_eq_true rfl) dX0_setsAnswer_30
      · skip
        refine v_aload_n (pc := 10) rfl dX0_setsAnswer_10 ?_
        refine v_iload_n (pc := 11) rfl dX0_setsAnswer_11 ?_
        refine v_iload_n (pc := 12) rfl dX0_setsAnswer_12 ?_
        refine v_callV (pc := 13) (rest := []) (c_X0_isInSet (G := G) (k := i) (a := a) (by omega) h_a) iok_X0_isInSet wM_X0_70 (rfl) (by decide) (by decide) rfl (rmOk (by decide) (by decide)) ⟨Nat.le_of_ble_eq_true rfl, Nat.le_of_ble_eq_true rfl⟩ (Nat.le_of_ble_eq_true rfl) rfl dX0_setsAnswer_13 (fun v G' hq => ?_) (fun _ _ h => h.elim)
        obtain ⟨rfl, hG9⟩ := hq
        rw [hG9]
        refine v_stk (st' := [vI (bI (BB G i a.toNat = true))]) rfl ?_
        refine v_if_eq (pc := 16) (tgt := 21) (bI_r _) dX0_setsAnswer_16 (by decide) (fun h2 => ?_) (fun h2 => ?_)
        · skip
          have h2 := bI_eq0.mp h2
          have hnb : ¬ (BB G i a.toNat = true) := by assumption
          refine v_iinc (pc := 21) (y := 1) rfl (by decide) rfl dX0_setsAnswer_21 ?_
          refine v_goto (pc := 24) (tgt := 2) dX0_setsAnswer_24 (by decide) ?_
          exact ih2 (i + 1) (by omega) (fun k k0 k1 => (Classical.em (k = i)).elim (fun e => by rw [e]; exact Bool.eq_false_iff.mpr hnb) (fun e => hf k k0 (by omega))) (by omega)
        · skip
          have h2 := bI_n0 h2
          refine v_iload_n (pc := 19) rfl dX0_setsAnswer_19 ?_
          exact v_iret (pc := 20) E (⟨_, rfl, rfl, Or.inl ⟨by omega, by assumption, hf⟩⟩) (Nat.le_of_ble_eq_true rfl) (Nat.le_of_ble_eq_true rfl) dX0_setsAnswer_20
  refine v_loc (L' := [some (vR g 1), some (vI a), some (vI 0)]) (⟨rfl, rfl, rfl, trivial⟩) ?_
  exact lp2 _ 0 (by omega) (fun k a c => absurd c (by omega)) (Nat.lt_succ_self _)
set_option maxHeartbeats 4000000 in
set_option maxRecDepth 100000 in
theorem c_X0_addCoin {g : GT} {G : Mem} {c v : Int} (h_c : 0 ≤ c ∧ c ≤ 39) (h_v : 1 ≤ v ∧ v ≤ 50) : Ctr g yX0_addCoin cX0_addCoin 6 (none : Option FieldType) (rmL 0 0 0) [vR g 1, vI c, vI v] G (VP (fun G' => (∀ k (a : Nat), 0 ≤ k → k ≤ 40 → a < 128 → BB G' k a = (BB G k a || (decide (1 ≤ k ∧ k ≤ c + 1 ∧ v.toNat ≤ a) && BB G (k - 1) (a - v.toNat)))) ∧ ∀ i z, i ≠ 100 ∧ i ≠ 101 → G' i z = G i z)) NoX := by
  refine ctr_of [some (vR g 1), some (vI c), some (vI v), none, none, none] (by decide) (Nat.le_of_ble_eq_true rfl) rfl (fun γ E => ?_)
  show V γ g cX0_addCoin 6 RX0 (rmL 0 0 0) G 0 0 0 [some (vR g 1), some (vI c), some (vI v), none, none, none] []
  refine v_iload_n (pc := 0) rfl dX0_addCoin_0 ?_
  refine v_istore_n (pc := 1) (by decide) rfl dX0_addCoin_1 ?_
  have lp2 : ∀ (m2 : Nat) (i : Int) (G1 : Mem), (-1 ≤ i ∧ i ≤ c) → (∀ k, k ≤ i + 1 → G1 100 k = G 100 k ∧ G1 101 k = G 101 k) → (∀ k (a : Nat), i + 1 < k → k ≤ 40 → a < 128 → BB G1 k a = (BB G k a || (decide (1 ≤ k ∧ k ≤ c + 1 ∧ v.toNat ≤ a) && BB G (k - 1) (a - v.toNat)))) → (∀ i z, i ≠ 100 ∧ i ≠ 101 → G1 i z = G i z) → ((i + 1).toNat) < m2 → V γ g cX0_addCoin 6 RX0 (rmL 0 0 0) G1 0 0 2 [some (vR g 1), some (vI c), some (vI v), some (vI i), none, none] [] := by
    intro m2
    induction m2 with
    | zero => intro i G1; intros; omega
    | succ m2 ih2 =>
      intro i G1 h0 hlo hhi hG hm2
      refine v_iload_n (pc := 2) rfl dX0_addCoin_2 ?_
      refine v_if_lt (pc := 3) (tgt := 66) (by omega) dX0_addCoin_3 (by decide) (fun h1 => ?_) (fun h1 => ?_)
      · skip
        exact v_vret (pc := 66) E (⟨rfl, fun k a k0 k1 k2 => (Classical.em (1 ≤ k)).elim (fun q => hhi k a (by omega) k1 k2) (fun q => by rw [show k = 0 by omega, BB_congr (hlo 0 (by omega)), show decide (1 ≤ (0 : Int) ∧ (0 : Int) ≤ c + 1 ∧ v.toNat ≤ a) = false by simp]; simp), hG⟩) (Nat.le_of_ble_eq_true rfl) (Nat.le_of_ble_eq_true rfl) dX0_addCoin_66
      · skip
        refine v_aload_n (pc := 6) rfl dX0_addCoin_6 ?_
        refine v_getR (pc := 7) (j := 100) fd_X0_20 (rfl) (by decide) rfl dX0_addCoin_7 ?_
        refine v_iload_n (pc := 10) rfl dX0_addCoin_10 ?_
        refine v_lald (pc := 11) (N := 41) rfl rfl (by decide) (by omega) (by decide) dX0_addCoin_11 ?_
        refine v_bipush (pc := 12) (z := 64) rfl dX0_addCoin_12 ?_
        refine v_iload_n (pc := 14) rfl dX0_addCoin_14 ?_
        refine v_isub (pc := 15) dX0_addCoin_15 ?_
        refine v_lushr (pc := 16) dX0_addCoin_16 ?_
        refine v_lstore (pc := 17) (by decide) rfl dX0_addCoin_17 ?_
        refine v_aload_n (pc := 19) rfl dX0_addCoin_19 ?_
        refine v_getR (pc := 20) (j := 100) fd_X0_20 (rfl) (by decide) rfl dX0_addCoin_20 ?_
        refine v_iload_n (pc := 23) rfl dX0_addCoin_23 ?_
        refine v_iconst (pc := 24) (z := 1) dX0_addCoin_24 ?_
        refine v_iadd (pc := 25) dX0_addCoin_25 ?_
        refine v_dup2 (pc := 26) rfl rfl dX0_addCoin_26 ?_
        refine v_lald (pc := 27) (N := 41) rfl rfl (by decide) (by omega) (by decide) dX0_addCoin_27 ?_
        refine v_aload_n (pc := 28) rfl dX0_addCoin_28 ?_
        refine v_getR (pc := 29) (j := 100) fd_X0_20 (rfl) (by decide) rfl dX0_addCoin_29 ?_
        refine v_iload_n (pc := 32) rfl dX0_addCoin_32 ?_
        refine v_lald (pc := 33) (N := 41) rfl rfl (by decide) (by omega) (by decide) dX0_addCoin_33 ?_
        refine v_iload_n (pc := 34) rfl dX0_addCoin_34 ?_
        refine v_lshl (pc := 35) dX0_addCoin_35 ?_
        refine v_lor (pc := 36) dX0_addCoin_36 ?_
        refine v_last (pc := 37) (N := 41) rfl rfl (by decide) (by omega) (by decide) dX0_addCoin_37 ?_
        refine v_aload_n (pc := 38) rfl dX0_addCoin_38 ?_
        refine v_getR (pc := 39) (j := 101) fd_X0_24 (rfl) (by decide) rfl dX0_addCoin_39 ?_
        refine v_iload_n (pc := 42) rfl dX0_addCoin_42 ?_
        refine v_iconst (pc := 43) (z := 1) dX0_addCoin_43 ?_
        refine v_iadd (pc := 44) dX0_addCoin_44 ?_
        refine v_dup2 (pc := 45) rfl rfl dX0_addCoin_45 ?_
        refine v_lald (pc := 46) (N := 41) rfl rfl (by decide) (by omega) (by decide) dX0_addCoin_46 ?_
        refine v_stk (st' := vJ (G1 101 (i + 1)) :: [vI (i + 1), vR g 101]) (by rw [show _ = _ from upd2_i (by decide)]) ?_
        refine v_aload_n (pc := 47) rfl dX0_addCoin_47 ?_
        refine v_getR (pc := 48) (j := 101) fd_X0_24 (rfl) (by decide) rfl dX0_addCoin_48 ?_
        refine v_iload_n (pc := 51) rfl dX0_addCoin_51 ?_
        refine v_lald (pc := 52) (N := 41) rfl rfl (by decide) (by omega) (by decide) dX0_addCoin_52 ?_
        refine v_stk (st' := vJ (G1 101 i) :: [vJ (G1 101 (i + 1)), vI (i + 1), vR g 101]) (by rw [show _ = _ from upd2_i (by decide)]) ?_
        refine v_iload_n (pc := 53) rfl dX0_addCoin_53 ?_
        refine v_lshl (pc := 54) dX0_addCoin_54 ?_
        refine v_lload (pc := 55) rfl dX0_addCoin_55 ?_
        refine v_lor (pc := 57) dX0_addCoin_57 ?_
        refine v_lor (pc := 58) dX0_addCoin_58 ?_
        refine v_last (pc := 59) (N := 41) rfl rfl (by decide) (by omega) (by decide) dX0_addCoin_59 ?_
        refine v_iinc (pc := 60) (y := (-1)) rfl (by decide) rfl dX0_addCoin_60 ?_
        refine v_goto (pc := 63) (tgt := 2) dX0_addCoin_63 (by decide) ?_
        refine v_loc (L' := [some (vR g 1), some (vI c), some (vI v), some (vI (i + (-1))), none, none]) (⟨rfl, rfl, rfl, rfl, trivial⟩) ?_
        exact ih2 (i + (-1)) (upd2 (upd2 G1 100 (i + 1) (lorI (G1 100 (i + 1)) (lshlI (G1 100 i) v))) 101 (i + 1) (lorI (G1 101 (i + 1)) (lorI (lshlI (G1 101 i) v) (lushrI (G1 100 i) (64 - v))))) (by omega) (fun k k0 => ⟨(upd2_i (by omega)).trans ((upd2_z (by omega)).trans (hlo k (by omega)).1), (upd2_z (by omega)).trans ((upd2_i (by omega)).trans (hlo k (by omega)).2)⟩) (fun k a k0 k1 k2 => by
          by_cases e : k = i + 1
          · subst e
            have q0 := hlo (i + 1) (by omega)
            have q1 := hlo i (by omega)
            have st := BB_step (G := G) (j := i) (v := v.toNat) (a := a) (by omega) k2 (G' := (upd2 (upd2 G1 100 (i + 1) (lorI (G1 100 (i + 1)) (lshlI (G1 100 i) v))) 101 (i + 1) (lorI (G1 101 (i + 1)) (lorI (lshlI (G1 101 i) v) (lushrI (G1 100 i) (64 - v)))))) (by rw [upd2_i (by omega), upd2_s, q0.1, q1.1, show ((v.toNat : Nat) : Int) = v by omega]) (by rw [upd2_s, q0.2, q1.1, q1.2, show ((v.toNat : Nat) : Int) = v by omega])
            rw [st, show i + 1 - 1 = i by omega]
            congr 2
            by_cases q : v.toNat ≤ a
            · simp [q]; omega
            · simp [q]
          · rw [BB_congr (G := G1) ⟨(upd2_i (by omega)).trans (upd2_z e), (upd2_z e).trans (upd2_i (by omega))⟩]
            exact hhi k a (by omega) k1 k2) (fun i z a => (upd2_i a.2).trans ((upd2_i a.1).trans (hG i z a))) (by omega)
  refine v_loc (L' := [some (vR g 1), some (vI c), some (vI v), some (vI c), none, none]) (⟨rfl, rfl, rfl, rfl, trivial⟩) ?_
  exact lp2 _ c G (by omega) (fun _ _ => ⟨rfl, rfl⟩) (fun k a k0 k1 k2 => by rw [show decide (1 ≤ k ∧ k ≤ c + 1 ∧ v.toNat ≤ a) = false by simp; omega]; simp) (fun _ _ _ => rfl) (Nat.lt_succ_self _)
theorem tb_0 : ∀ a, tb 0 a = false := fun a => by
  show (0#64).getLsbD a = false
  simp
theorem tb_1 (a : Nat) : tb 1 a = decide (a = 0) := by
  show (1#64).getLsbD a = decide (a = 0)
  rw [BitVec.getLsbD_one]
  by_cases h : a = 0
  · subst h; rfl
  · simp [h]
theorem sets0 {Gb : Mem} {val : Int → Int} (hz : ∀ k, 0 ≤ k → k ≤ 40 → Gb 100 k = 0 ∧ Gb 101 k = 0) (k : Int) (a : Nat) (k0 : 0 ≤ k) (k1 : k ≤ 40) (k2 : a < 128) : BB (upd2 Gb 100 0 1) k a = PS val (0 : Int).toNat k a := by
  have hz1 := hz k k0 k1
  have e2 : upd2 Gb 100 0 1 101 k = 0 := (upd2_i (by omega)).trans hz1.2
  unfold BB PS
  rw [e2]
  by_cases h : k = 0
  · subst h
    rw [upd2_s]
    by_cases ha : a < 64
    · rw [if_pos ha, tb_1]
      simp
    · rw [if_neg ha, tb_0]
      simp; omega
  · rw [upd2_z h, hz1.1]
    have : decide (k = 0 ∧ (a : Int) = 0) = false := by simp [h]
    split
    · rw [tb_0]; simp [h]
    · rw [tb_0]; simp [h]
theorem sets1 {G1 : Mem} {val : Int → Int} {i k v : Int} {a : Nat} {p : Bool} (hi : 0 ≤ i) (hv : 0 ≤ v) (k0 : 0 ≤ k) (h : 1 ≤ k → BB G1 (k - 1) (a - v.toNat) = PS val i.toNat (k - 1) ((a - v.toNat : Nat) : Int)) :
    (p || (decide (1 ≤ k ∧ k ≤ i + 1 ∧ v.toNat ≤ a) && BB G1 (k - 1) (a - v.toNat))) = (p || (decide (1 ≤ k ∧ v ≤ a) && PS val i.toNat (k - 1) ((a : Int) - v))) := by
  congr 1
  by_cases q : 1 ≤ k ∧ v ≤ a
  · have e : ((a - v.toNat : Nat) : Int) = (a : Int) - v := by omega
    rw [h q.1, e]
    by_cases q2 : k ≤ i + 1
    · have d1 : decide (1 ≤ k ∧ k ≤ i + 1 ∧ v.toNat ≤ a) = true := by simp; omega
      have d2 : decide (1 ≤ k ∧ v ≤ a) = true := by simp; omega
      rw [d1, d2]
    · have d1 : decide (1 ≤ k ∧ k ≤ i + 1 ∧ v.toNat ≤ a) = false := by simp; omega
      have hf : PS val i.toNat (k - 1) ((a : Int) - v) = false := by
        apply Bool.eq_false_iff.mpr
        intro z
        have := PS_r _ _ _ z
        omega
      rw [d1, hf]
      simp
  · have d1 : decide (1 ≤ k ∧ k ≤ i + 1 ∧ v.toNat ≤ a) = false := by simp; omega
    have d2 : decide (1 ≤ k ∧ v ≤ a) = false := by simp; omega
    rw [d1, d2]
    simp

set_option maxHeartbeats 4000000 in
set_option maxRecDepth 100000 in
theorem c_X0_collectSets {g : GT} {b : Nat} {G : Mem} (hb : isS b) (hI : StI G b) : Ctr g yX0_collectSets cX0_collectSets 3 (none : Option FieldType) (rmL 1 0 0) [vR g 1, vR g b] G (VP (fun G' => G' 1 5 = G b 5 ∧ (∀ k (a : Nat), 0 ≤ k → k ≤ 40 → a < 128 → BB G' k a = PS (fun k => G (b + 1) (G (b + 5) k)) (G b 5).toNat k a) ∧ ∀ i z, i ≠ 100 ∧ i ≠ 101 → ¬ (i = 1 ∧ z = 5) → G' i z = G i z)) NoX := by
  refine ctr_of [some (vR g 1), some (vR g b), none] (by decide) (Nat.le_of_ble_eq_true rfl) rfl (fun γ E => ?_)
  show V γ g cX0_collectSets 3 RX0 (rmL 1 0 0) G 0 0 0 [some (vR g 1), some (vR g b), none] []
  have hn := StI_n hI
  have hc := StI_c hI
  have hy := StI_y hI
  have hb2 := isS_lt hb
  refine v_aload_n (pc := 0) rfl dX0_collectSets_0 ?_
  refine v_aload_n (pc := 1) rfl dX0_collectSets_1 ?_
  refine v_get (pc := 2) 5 fd_X0_56 (kdS hb) (ltS hb 0 (by decide)) (tgS hb 5 none rfl) rfl dX0_collectSets_2 ?_
  refine v_put (pc := 5) 5 pd_X0_59 (rfl) (by decide) rfl rfl dX0_collectSets_5 ?_
  refine v_aload_n (pc := 8) rfl dX0_collectSets_8 ?_
  refine v_getR (pc := 9) (j := 100) fd_X0_20 (rfl) (by decide) rfl dX0_collectSets_9 ?_
  refine v_lconst (pc := 12) (z := 0) rfl dX0_collectSets_12 ?_
  refine v_callS (pc := 13) (rest := []) (c_J7_fill_d0a16 (G := (upd2 G 1 5 (G b 5))) (p := 100) (N := 41) (x := 0) rfl rfl (by decide) (by decide)) sok_J7_fill_d0a16 wM_X0_60 (rmOk (by decide) (by decide)) ⟨Nat.le_of_ble_eq_true rfl, Nat.le_of_ble_eq_true rfl⟩ (Nat.le_of_ble_eq_true rfl) rfl dX0_collectSets_13 (fun v Ga hq => ?_) (fun _ _ h => h.elim)
  obtain ⟨rfl, hq⟩ := hq
  refine v_stk (st' := []) rfl ?_
  obtain ⟨ha0, hGa⟩ := hq
  refine v_aload_n (pc := 16) rfl dX0_collectSets_16 ?_
  refine v_getR (pc := 17) (j := 101) fd_X0_24 (rfl) (by decide) rfl dX0_collectSets_17 ?_
  refine v_lconst (pc := 20) (z := 0) rfl dX0_collectSets_20 ?_
  refine v_callS (pc := 21) (rest := []) (c_J7_fill_d0a16 (G := Ga) (p := 101) (N := 41) (x := 0) rfl rfl (by decide) (by decide)) sok_J7_fill_d0a16 wM_X0_60 (rmOk (by decide) (by decide)) ⟨Nat.le_of_ble_eq_true rfl, Nat.le_of_ble_eq_true rfl⟩ (Nat.le_of_ble_eq_true rfl) rfl dX0_collectSets_21 (fun v Gb hq => ?_) (fun _ _ h => h.elim)
  obtain ⟨rfl, hq⟩ := hq
  refine v_stk (st' := []) rfl ?_
  obtain ⟨hb0, hGb⟩ := hq
  have hF0 : ∀ i z, i ≠ 100 ∧ i ≠ 101 → ¬ (i = 1 ∧ z = 5) → Gb i z = G i z := fun i z a c => (hGb i z a.2).trans ((hGa i z a.1).trans (if_neg c))
  have hn0 : Gb 1 5 = G b 5 := (hGb 1 5 (by omega)).trans ((hGa 1 5 (by omega)).trans (upd2_s _ _ _ _))
  have hz0 : ∀ k, 0 ≤ k → k ≤ 40 → Gb 100 k = 0 ∧ Gb 101 k = 0 := fun k k0 k1 => ⟨(hGb 100 k (by omega)).trans (ha0 k k0 (by omega)), hb0 k k0 (by omega)⟩
  refine v_aload_n (pc := 24) rfl dX0_collectSets_24 ?_
  refine v_getR (pc := 25) (j := 100) fd_X0_20 (rfl) (by decide) rfl dX0_collectSets_25 ?_
  refine v_iconst (pc := 28) (z := 0) dX0_collectSets_28 ?_
  refine v_lconst (pc := 29) (z := 1) rfl dX0_collectSets_29 ?_
  refine v_last (pc := 30) (N := 41) rfl rfl (by decide) (by omega) (by decide) dX0_collectSets_30 ?_
  refine v_iconst (pc := 31) (z := 0) dX0_collectSets_31 ?_
  refine v_istore_n (pc := 32) (by decide) rfl dX0_collectSets_32 ?_
  have lp33 : ∀ (m33 : Nat) (i : Int) (G1 : Mem), (0 ≤ i ∧ i ≤ G b 5) → (G1 1 5 = G b 5) → (∀ k (a : Nat), 0 ≤ k → k ≤ 40 → a < 128 → BB G1 k a = PS (fun k => G (b + 1) (G (b + 5) k)) i.toNat k a) → (∀ j z, j ≠ 100 ∧ j ≠ 101 → ¬ (j = 1 ∧ z = 5) → G1 j z = G j z) → ((G b 5 - i).toNat) < m33 → V γ g cX0_collectSets 3 RX0 (rmL 1 0 0) G1 0 0 33 [some (vR g 1), some (vR g b), some (vI i)] [] := by
    intro m33
    induction m33 with
    | zero => intro i G1; intros; omega
    | succ m33 ih33 =>
      intro i G1 h0 hn1 hB hG hm33
      refine v_iload_n (pc := 33) rfl dX0_collectSets_33 ?_
      refine v_aload_n (pc := 34) rfl dX0_collectSets_34 ?_
      refine v_get (pc := 35) 5 fd_X0_59 (rfl) (by decide) rfl rfl dX0_collectSets_35 ?_
      refine v_icmp_ge (pc := 38) (tgt := 63) (by omega) dX0_collectSets_38 (by decide) (fun h1 => ?_) (fun h1 => ?_)
      · skip
        exact v_vret (pc := 63) E (⟨rfl, hn1, by rw [show (G b 5).toNat = i.toNat by omega]; exact hB, hG⟩) (Nat.le_of_ble_eq_true rfl) (Nat.le_of_ble_eq_true rfl) dX0_collectSets_63
      · skip
        have hGk : ∀ j : Nat, j ≤ 7 → ∀ w, G1 (b + j) w = G (b + j) w := fun j hj w => hG (b + j) w (by omega) (by omega)
        have hk := StI_k hI (k := i) (by omega) (by omega)
        have f5 := hGk 5 (by omega) i
        have f1 := hGk 1 (by omega) (G (b + 5) i)
        have f0 : G1 b 0 = G b 0 := hGk 0 (by omega) 0
        have hd := StI_d hI (i := G (b + 5) i) (by omega) (by omega)
        have f15 : G1 (b + 1) (G1 (b + 5) i) = G (b + 1) (G (b + 5) i) := by rw [f5, f1]
        refine v_aload_n (pc := 41) rfl dX0_collectSets_41 ?_
        refine v_iload_n (pc := 42) rfl dX0_collectSets_42 ?_
        refine v_aload_n (pc := 43) rfl dX0_collectSets_43 ?_
        refine v_getR (pc := 44) (j := b + 1) fd_X0_45 (kdS hb) (ltS hb 0 (by decide)) (tgS hb 1 _ rfl) dX0_collectSets_44 ?_
        refine v_aload_n (pc := 47) rfl dX0_collectSets_47 ?_
        refine v_getR (pc := 48) (j := b + 5) fd_X0_63 (kdS hb) (ltS hb 0 (by decide)) (tgS hb 6 _ rfl) dX0_collectSets_48 ?_
        refine v_iload_n (pc := 51) rfl dX0_collectSets_51 ?_
        refine v_iald (pc := 52) (N := 40) (kdS_i hb 5 (by decide)) (lnS_40 hb 5 (by decide)) (ltS hb 5 (by decide)) (by omega) (by decide) dX0_collectSets_52 ?_
        refine v_iald (pc := 53) (N := 5) (kdS_i hb 1 (by decide)) (lnS_5 hb 1 (by decide)) (ltS hb 1 (by decide)) (by omega) (by decide) dX0_collectSets_53 ?_
        refine v_callV (pc := 54) (rest := []) (c_X0_addCoin (G := G1) (c := i) (v := G1 (b + 1) (G1 (b + 5) i)) (by omega) (by omega)) iok_X0_addCoin wM_X0_66 (rfl) (by decide) (by decide) rfl (rmOk (by decide) (by decide)) ⟨Nat.le_of_ble_eq_true rfl, Nat.le_of_ble_eq_true rfl⟩ (Nat.le_of_ble_eq_true rfl) rfl dX0_collectSets_54 (fun v G2 hq => ?_) (fun _ _ h => h.elim)
        obtain ⟨rfl, hq⟩ := hq
        refine v_stk (st' := []) rfl ?_
        obtain ⟨hq2, hq3⟩ := hq
        have hn2 : G2 1 5 = G b 5 := (hq3 1 5 (by omega)).trans hn1
        have hG2 : ∀ j z, j ≠ 100 ∧ j ≠ 101 → ¬ (j = 1 ∧ z = 5) → G2 j z = G j z := fun j z a c => (hq3 j z a).trans (hG j z a c)
        have hB2 : ∀ k (a : Nat), 0 ≤ k → k ≤ 40 → a < 128 → BB G2 k a = PS (fun k => G (b + 1) (G (b + 5) k)) (i + 1).toNat k a := fun k a k0 k1 k2 => by
          rw [hq2 k a k0 k1 k2, show (i + 1).toNat = i.toNat + 1 by omega]
          unfold PS
          rw [show ((i.toNat : Nat) : Int) = i by omega, hB k a k0 k1 k2, f15]
          exact sets1 (by omega) (by omega) k0 (fun h => hB (k - 1) _ (by omega) (by omega) (by omega))
        refine v_iinc (pc := 57) (y := 1) rfl (by decide) rfl dX0_collectSets_57 ?_
        refine v_goto (pc := 60) (tgt := 33) dX0_collectSets_60 (by decide) ?_
        exact ih33 (i + 1) G2 (by omega) hn2 hB2 hG2 (by omega)
  refine v_loc (L' := [some (vR g 1), some (vR g b), some (vI 0)]) (⟨rfl, rfl, rfl, trivial⟩) ?_
  exact lp33 _ 0 (upd2 Gb 100 0 1) (by omega) ((upd2_i (by omega)).trans hn0) (fun k a k0 k1 k2 => sets0 hz0 k a k0 k1 k2) (fun i z a c => (upd2_i a.1).trans (hF0 i z a c)) (Nat.lt_succ_self _)
