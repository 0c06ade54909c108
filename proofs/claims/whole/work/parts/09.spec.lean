-- sums
def sm : Nat → (Int → Int) → Int
  | 0, _ => 0
  | n + 1, f => sm n f + f n
/-- the sum of f over the places below n -/
def sz (n : Int) (f : Int → Int) : Int := sm n.toNat f
theorem sz_0 (f : Int → Int) : sz 0 f = 0 := rfl
theorem sz_s {i : Int} {f : Int → Int} (h : 0 ≤ i) : sz (i + 1) f = sz i f + f i := by
  unfold sz
  have h1 : (i + 1).toNat = i.toNat + 1 := by omega
  rw [h1]
  show sm i.toNat f + f (i.toNat : Int) = _
  rw [show ((i.toNat : Nat) : Int) = i by omega]
theorem sm_congr {f g : Int → Int} : ∀ {n : Nat}, (∀ k : Int, 0 ≤ k → k < n → f k = g k) → sm n f = sm n g
  | 0, _ => rfl
  | n + 1, h => by
    show sm n f + f n = sm n g + g n
    rw [sm_congr (n := n) (fun k h0 h1 => h k h0 (by omega)), h n (by omega) (by omega)]
theorem sz_congr {n : Int} {f g : Int → Int} (h : ∀ k, 0 ≤ k → k < n → f k = g k) : sz n f = sz n g :=
  sm_congr (fun k h0 h1 => h k h0 (by omega))
theorem sm_rng {f : Int → Int} {a c : Int} : ∀ {n : Nat}, (∀ k : Int, 0 ≤ k → k < n → a ≤ f k ∧ f k ≤ c) → n * a ≤ sm n f ∧ sm n f ≤ n * c
  | 0, _ => by simp [sm]
  | n + 1, h => by
    have h1 := sm_rng (f := f) (a := a) (c := c) (n := n) (fun k h0 h1 => h k h0 (by omega))
    have h2 := h n (by omega) (by omega)
    have e1 : ((n + 1 : Nat) : Int) * a = n * a + a := by rw [Int.natCast_add, Int.add_mul]; simp
    have e2 : ((n + 1 : Nat) : Int) * c = n * c + c := by rw [Int.natCast_add, Int.add_mul]; simp
    show _ ≤ sm n f + f n ∧ sm n f + f n ≤ _
    rw [e1, e2]
    omega
theorem sz_rng {n a c : Int} {f : Int → Int} (hn : 0 ≤ n) (h : ∀ k, 0 ≤ k → k < n → a ≤ f k ∧ f k ≤ c) : n * a ≤ sz n f ∧ sz n f ≤ n * c := by
  have := sm_rng (f := f) (a := a) (c := c) (n := n.toNat) (fun k h0 h1 => h k h0 (by omega))
  rw [show ((n.toNat : Nat) : Int) = n by omega] at this
  exact this
/-- a count is between 0 and n -/
theorem sz_cnt {n : Int} {p : Int → Prop} (q : ∀ k, Decidable (p k)) (hn : 0 ≤ n) : 0 ≤ sz n (fun k => @ite _ (p k) (q k) 1 0) ∧ sz n (fun k => @ite _ (p k) (q k) 1 0) ≤ n := by
  have := sz_rng (n := n) (a := 0) (c := 1) (f := fun k => @ite _ (p k) (q k) 1 0) hn (fun k _ _ => by split <;> omega)
  omega
theorem bI_r (p : Prop) : -2147483648 ≤ bI p ∧ bI p < 2147483648 := by rcases bI_rng p with h | h <;> omega
theorem bI_n0 {p : Prop} (h : bI p ≠ 0) : p := Classical.byContradiction fun q => h (bI_f q)
-- shapes of ends
def RM (r : Int) (Gn : Mem) : Option Value → Mem → Prop := fun v G' => v = some (vI r) ∧ G' = Gn
def VM (Gn : Mem) : Option Value → Mem → Prop := fun v G' => v = none ∧ G' = Gn
def RP (P : Int → Mem → Prop) : Option Value → Mem → Prop := fun v G' => ∃ r, v = some (vI r) ∧ P r G'
def VP (P : Mem → Prop) : Option Value → Mem → Prop := fun v G' => v = none ∧ P G'
def XM (E : String) (Gn : Mem) : String → Mem → Prop := fun e G' => e = E ∧ G' = Gn
/-- room, by the depth of the calls -/
def rmL (d mc ms : Nat) : Room := { frames := 20 + 20 * d, cells := mc, slots := ms, locals := 1000 + 300 * d }
theorem rmOk {d d' mc ms mc' ms' mL : Nat} (h : d < d') (hm : mL ≤ 200) : RmOk (rmL d mc ms) (rmL d' mc' ms') mL := by
  constructor
  · show 20 + 20 * d + 1 ≤ 20 + 20 * d'
    omega
  · show 8 + (mL + 11) + (1000 + 300 * d) ≤ 1000 + 300 * d'
    omega
/-- what always holds of a State at the place b -/
def StI (G : Mem) (b : Nat) : Prop :=
  (0 ≤ G b 0 ∧ G b 0 ≤ 5) ∧ (0 ≤ G b 5 ∧ G b 5 ≤ 40) ∧ (0 ≤ G b 10 ∧ G b 10 ≤ 1000000) ∧
  (∀ k, 0 ≤ k → k < G b 5 → (0 ≤ G (b + 5) k ∧ G (b + 5) k < G b 0) ∧ (0 ≤ G (b + 6) k ∧ G (b + 6) k ≤ G b 10) ∧ 0 ≤ G (b + 7) k ∧ G (b + 7) k ≤ 2) ∧
  (∀ i, 0 ≤ i → i < G b 0 → (1 ≤ G (b + 1) i ∧ G (b + 1) i ≤ 50) ∧ (1 ≤ G (b + 2) i ∧ G (b + 2) i ≤ 9) ∧ 0 ≤ G (b + 3) i ∧ G (b + 3) i ≤ 30) ∧
  (∀ r, 0 ≤ r → r < G b 0 → 0 ≤ G (b + 4) r ∧ G (b + 4) r < G b 0) ∧
  (∀ r s, 0 ≤ r → r < s → s < G b 0 → G (b + 1) (G (b + 4) r) < G (b + 1) (G (b + 4) s)) ∧
  (∀ i, 0 ≤ i → i < G b 0 → ∃ r, 0 ≤ r ∧ r < G b 0 ∧ G (b + 4) r = i)
theorem StI_n {G : Mem} {b : Nat} (h : StI G b) : 0 ≤ G b 0 ∧ G b 0 ≤ 5 := h.1
theorem StI_c {G : Mem} {b : Nat} (h : StI G b) : 0 ≤ G b 5 ∧ G b 5 ≤ 40 := h.2.1
theorem StI_y {G : Mem} {b : Nat} (h : StI G b) : 0 ≤ G b 10 ∧ G b 10 ≤ 1000000 := h.2.2.1
theorem StI_k {G : Mem} {b : Nat} (h : StI G b) {k : Int} (h0 : 0 ≤ k) (h1 : k < G b 5) : (0 ≤ G (b + 5) k ∧ G (b + 5) k < G b 0) ∧ (0 ≤ G (b + 6) k ∧ G (b + 6) k ≤ G b 10) ∧ 0 ≤ G (b + 7) k ∧ G (b + 7) k ≤ 2 := h.2.2.2.1 k h0 h1
theorem StI_d {G : Mem} {b : Nat} (h : StI G b) {i : Int} (h0 : 0 ≤ i) (h1 : i < G b 0) : (1 ≤ G (b + 1) i ∧ G (b + 1) i ≤ 50) ∧ (1 ≤ G (b + 2) i ∧ G (b + 2) i ≤ 9) ∧ 0 ≤ G (b + 3) i ∧ G (b + 3) i ≤ 30 := h.2.2.2.2.1 i h0 h1
theorem StI_r {G : Mem} {b : Nat} (h : StI G b) {r : Int} (h0 : 0 ≤ r) (h1 : r < G b 0) : 0 ≤ G (b + 4) r ∧ G (b + 4) r < G b 0 := h.2.2.2.2.2.1 r h0 h1
theorem iok_X3_dieCount : IOk yX3_dieCount cX3_dieCount 1 (some FieldType.int) 0 := ⟨⟨wC_X3_dieCount, wN_X3, by decide, by decide, by decide +kernel⟩, wI_X3_dieCount, wS_X3_dieCount⟩
theorem iok_X3_leaves : IOk yX3_leaves cX3_leaves 1 (some FieldType.int) 0 := ⟨⟨wC_X3_leaves, wN_X3, by decide, by decide, by decide +kernel⟩, wI_X3_leaves, wS_X3_leaves⟩
theorem iok_X3_year : IOk yX3_year cX3_year 1 (some FieldType.int) 0 := ⟨⟨wC_X3_year, wN_X3, by decide, by decide, by decide +kernel⟩, wI_X3_year, wS_X3_year⟩
theorem iok_X3_vaultCoins : IOk yX3_vaultCoins cX3_vaultCoins 1 (some FieldType.int) 0 := ⟨⟨wC_X3_vaultCoins, wN_X3, by decide, by decide, by decide +kernel⟩, wI_X3_vaultCoins, wS_X3_vaultCoins⟩
theorem iok_X3_vaultValue : IOk yX3_vaultValue cX3_vaultValue 3 (some FieldType.int) 0 := ⟨⟨wC_X3_vaultValue, wN_X3, by decide, by decide, by decide +kernel⟩, wI_X3_vaultValue, wS_X3_vaultValue⟩
theorem iok_X3_vaultValueByDies : IOk yX3_vaultValueByDies cX3_vaultValueByDies 3 (some FieldType.int) 0 := ⟨⟨wC_X3_vaultValueByDies, wN_X3, by decide, by decide, by decide +kernel⟩, wI_X3_vaultValueByDies, wS_X3_vaultValueByDies⟩
theorem iok_X2_coinsFrom : IOk yX2_coinsFrom cX2_coinsFrom 4 (some FieldType.int) 1 := ⟨⟨wC_X2_coinsFrom, wN_X2, by decide, by decide, by decide +kernel⟩, wI_X2_coinsFrom, wS_X2_coinsFrom⟩
theorem iok_X3_vaultWeight : IOk yX3_vaultWeight cX3_vaultWeight 1 (some FieldType.int) 0 := ⟨⟨wC_X3_vaultWeight, wN_X3, by decide, by decide, by decide +kernel⟩, wI_X3_vaultWeight, wS_X3_vaultWeight⟩
theorem iok_X2_weightOfCoins : IOk yX2_weightOfCoins cX2_weightOfCoins 3 (some FieldType.int) 0 := ⟨⟨wC_X2_weightOfCoins, wN_X2, by decide, by decide, by decide +kernel⟩, wI_X2_weightOfCoins, wS_X2_weightOfCoins⟩
theorem iok_X3_coinsOfYear : IOk yX3_coinsOfYear cX3_coinsOfYear 2 (some FieldType.int) 1 := ⟨⟨wC_X3_coinsOfYear, wN_X3, by decide, by decide, by decide +kernel⟩, wI_X3_coinsOfYear, wS_X3_coinsOfYear⟩
theorem iok_X2_coinsStruckIn : IOk yX2_coinsStruckIn cX2_coinsStruckIn 4 (some FieldType.int) 1 := ⟨⟨wC_X2_coinsStruckIn, wN_X2, by decide, by decide, by decide +kernel⟩, wI_X2_coinsStruckIn, wS_X2_coinsStruckIn⟩
theorem iok_X3_kinds : IOk yX3_kinds cX3_kinds 3 (some FieldType.int) 0 := ⟨⟨wC_X3_kinds, wN_X3, by decide, by decide, by decide +kernel⟩, wI_X3_kinds, wS_X3_kinds⟩
theorem iok_X2_isFirstOfItsKind : IOk yX2_isFirstOfItsKind cX2_isFirstOfItsKind 3 (some FieldType.boolean) 1 := ⟨⟨wC_X2_isFirstOfItsKind, wN_X2, by decide, by decide, by decide +kernel⟩, wI_X2_isFirstOfItsKind, wS_X2_isFirstOfItsKind⟩
theorem iok_X3_payableAmounts : IOk yX3_payableAmounts cX3_payableAmounts 3 (some FieldType.int) 0 := ⟨⟨wC_X3_payableAmounts, wN_X3, by decide, by decide, by decide +kernel⟩, wI_X3_payableAmounts, wS_X3_payableAmounts⟩
theorem iok_X0_tabulate : IOk yX0_tabulate cX0_tabulate 4 (none : Option FieldType) 1 := ⟨⟨wC_X0_tabulate, wN_X0, by decide, by decide, by decide +kernel⟩, wI_X0_tabulate, wS_X0_tabulate⟩
theorem sok_X0_addValue : SOk yX0_addValue cX0_addValue 8 (none : Option FieldType) 4 := ⟨⟨wC_X0_addValue, wN_X0, by decide, by decide, by decide +kernel⟩, wT_X0_addValue⟩
theorem iok_X0_tableAnswer : IOk yX0_tableAnswer cX0_tableAnswer 2 (some FieldType.int) 1 := ⟨⟨wC_X0_tableAnswer, wN_X0, by decide, by decide, by decide +kernel⟩, wI_X0_tableAnswer, wS_X0_tableAnswer⟩
theorem iok_X3_recallGrams : IOk yX3_recallGrams cX3_recallGrams 2 (some FieldType.int) 1 := ⟨⟨wC_X3_recallGrams, wN_X3, by decide, by decide, by decide +kernel⟩, wI_X3_recallGrams, wS_X3_recallGrams⟩
theorem iok_X2_gramsFromMelting : IOk yX2_gramsFromMelting cX2_gramsFromMelting 4 (some FieldType.int) 1 := ⟨⟨wC_X2_gramsFromMelting, wN_X2, by decide, by decide, by decide +kernel⟩, wI_X2_gramsFromMelting, wS_X2_gramsFromMelting⟩
theorem iok_X3_struckTotal : IOk yX3_struckTotal cX3_struckTotal 1 (some FieldType.int) 0 := ⟨⟨wC_X3_struckTotal, wN_X3, by decide, by decide, by decide +kernel⟩, wI_X3_struckTotal, wS_X3_struckTotal⟩
theorem iok_X3_paidTotal : IOk yX3_paidTotal cX3_paidTotal 1 (some FieldType.int) 0 := ⟨⟨wC_X3_paidTotal, wN_X3, by decide, by decide, by decide +kernel⟩, wI_X3_paidTotal, wS_X3_paidTotal⟩
theorem iok_X3_paidWeight : IOk yX3_paidWeight cX3_paidWeight 1 (some FieldType.int) 0 := ⟨⟨wC_X3_paidWeight, wN_X3, by decide, by decide, by decide +kernel⟩, wI_X3_paidWeight, wS_X3_paidWeight⟩
theorem iok_X3_lostWeight : IOk yX3_lostWeight cX3_lostWeight 1 (some FieldType.int) 0 := ⟨⟨wC_X3_lostWeight, wN_X3, by decide, by decide, by decide +kernel⟩, wI_X3_lostWeight, wS_X3_lostWeight⟩
theorem iok_X3_addedWeight : IOk yX3_addedWeight cX3_addedWeight 1 (some FieldType.int) 0 := ⟨⟨wC_X3_addedWeight, wN_X3, by decide, by decide, by decide +kernel⟩, wI_X3_addedWeight, wS_X3_addedWeight⟩
theorem iok_X3_isConsistent : IOk yX3_isConsistent cX3_isConsistent 2 (some FieldType.boolean) 0 := ⟨⟨wC_X3_isConsistent, wN_X3, by decide, by decide, by decide +kernel⟩, wI_X3_isConsistent, wS_X3_isConsistent⟩
theorem iok_X3_bothWaysAgree : IOk yX3_bothWaysAgree cX3_bothWaysAgree 2 (some FieldType.boolean) 0 := ⟨⟨wC_X3_bothWaysAgree, wN_X3, by decide, by decide, by decide +kernel⟩, wI_X3_bothWaysAgree, wS_X3_bothWaysAgree⟩
theorem iok_X0_collectSets : IOk yX0_collectSets cX0_collectSets 3 (none : Option FieldType) 1 := ⟨⟨wC_X0_collectSets, wN_X0, by decide, by decide, by decide +kernel⟩, wI_X0_collectSets, wS_X0_collectSets⟩
theorem iok_X0_addCoin : IOk yX0_addCoin cX0_addCoin 6 (none : Option FieldType) 2 := ⟨⟨wC_X0_addCoin, wN_X0, by decide, by decide, by decide +kernel⟩, wI_X0_addCoin, wS_X0_addCoin⟩
theorem iok_X0_setsAnswer : IOk yX0_setsAnswer cX0_setsAnswer 3 (some FieldType.int) 1 := ⟨⟨wC_X0_setsAnswer, wN_X0, by decide, by decide, by decide +kernel⟩, wI_X0_setsAnswer, wS_X0_setsAnswer⟩
theorem iok_X0_isInSet : IOk yX0_isInSet cX0_isInSet 3 (some FieldType.boolean) 2 := ⟨⟨wC_X0_isInSet, wN_X0, by decide, by decide, by decide +kernel⟩, wI_X0_isInSet, wS_X0_isInSet⟩
theorem iok_X3_renderVault : IOk yX3_renderVault cX3_renderVault 4 (some FieldType.int) 0 := ⟨⟨wC_X3_renderVault, wN_X3, by decide, by decide, by decide +kernel⟩, wI_X3_renderVault, wS_X3_renderVault⟩
theorem iok_X3_save : IOk yX3_save cX3_save 1 (some FieldType.int) 0 := ⟨⟨wC_X3_save, wN_X3, by decide, by decide, by decide +kernel⟩, wI_X3_save, wS_X3_save⟩
theorem iok_X2_copyFrom : IOk yX2_copyFrom cX2_copyFrom 2 (none : Option FieldType) 1 := ⟨⟨wC_X2_copyFrom, wN_X2, by decide, by decide, by decide +kernel⟩, wI_X2_copyFrom, wS_X2_copyFrom⟩
theorem sok_L_addDie : HOk yL_addDie cL_addDie 5 (some FieldType.int) [(0, 10, 13, 13), (0, 10, 17, 15), (0, 10, 21, 17)] 4 := ⟨⟨wC_L_addDie, wN_L, by decide, by decide, by decide +kernel⟩, wT_L_addDie⟩
theorem iok_X3_addDie : IOk yX3_addDie cX3_addDie 3 (some FieldType.int) 2 := ⟨⟨wC_X3_addDie, wN_X3, by decide, by decide, by decide +kernel⟩, wI_X3_addDie, wS_X3_addDie⟩
theorem iok_X3_change : IOk yX3_change cX3_change 4 (some FieldType.int) 3 := ⟨⟨wC_X3_change, wN_X3, by decide, by decide, by decide +kernel⟩, wI_X3_change, wS_X3_change⟩
theorem iok_X3_faultOf : IOk yX3_faultOf cX3_faultOf 5 (some FieldType.int) 4 := ⟨⟨wC_X3_faultOf, wN_X3, by decide, by decide, by decide +kernel⟩, wI_X3_faultOf, wS_X3_faultOf⟩
theorem iok_X2_faultOfNewDie : IOk yX2_faultOfNewDie cX2_faultOfNewDie 3 (some FieldType.int) 2 := ⟨⟨wC_X2_faultOfNewDie, wN_X2, by decide, by decide, by decide +kernel⟩, wI_X2_faultOfNewDie, wS_X2_faultOfNewDie⟩
theorem iok_X2_dieWithValue : IOk yX2_dieWithValue cX2_dieWithValue 3 (some FieldType.int) 1 := ⟨⟨wC_X2_dieWithValue, wN_X2, by decide, by decide, by decide +kernel⟩, wI_X2_dieWithValue, wS_X2_dieWithValue⟩
theorem iok_X2_faultOfSharpening : IOk yX2_faultOfSharpening cX2_faultOfSharpening 2 (some FieldType.int) 1 := ⟨⟨wC_X2_faultOfSharpening, wN_X2, by decide, by decide, by decide +kernel⟩, wI_X2_faultOfSharpening, wS_X2_faultOfSharpening⟩
theorem iok_X2_hasDie : IOk yX2_hasDie cX2_hasDie 2 (some FieldType.boolean) 1 := ⟨⟨wC_X2_hasDie, wN_X2, by decide, by decide, by decide +kernel⟩, wI_X2_hasDie, wS_X2_hasDie⟩
theorem iok_X2_faultOfLeaves : IOk yX2_faultOfLeaves cX2_faultOfLeaves 2 (some FieldType.int) 1 := ⟨⟨wC_X2_faultOfLeaves, wN_X2, by decide, by decide, by decide +kernel⟩, wI_X2_faultOfLeaves, wS_X2_faultOfLeaves⟩
theorem iok_X2_faultOfStriking : IOk yX2_faultOfStriking cX2_faultOfStriking 3 (some FieldType.int) 2 := ⟨⟨wC_X2_faultOfStriking, wN_X2, by decide, by decide, by decide +kernel⟩, wI_X2_faultOfStriking, wS_X2_faultOfStriking⟩
theorem iok_X2_faultOfMelting : IOk yX2_faultOfMelting cX2_faultOfMelting 2 (some FieldType.int) 1 := ⟨⟨wC_X2_faultOfMelting, wN_X2, by decide, by decide, by decide +kernel⟩, wI_X2_faultOfMelting, wS_X2_faultOfMelting⟩
theorem iok_X3_faultOfPayment : IOk yX3_faultOfPayment cX3_faultOfPayment 3 (some FieldType.int) 2 := ⟨⟨wC_X3_faultOfPayment, wN_X3, by decide, by decide, by decide +kernel⟩, wI_X3_faultOfPayment, wS_X3_faultOfPayment⟩
theorem sok_X3_isAmount : SOk yX3_isAmount cX3_isAmount 1 (some FieldType.boolean) 1 := ⟨⟨wC_X3_isAmount, wN_X3, by decide, by decide, by decide +kernel⟩, wT_X3_isAmount⟩
theorem iok_X0_plan : IOk yX0_plan cX0_plan 7 (some FieldType.boolean) 2 := ⟨⟨wC_X0_plan, wN_X0, by decide, by decide, by decide +kernel⟩, wI_X0_plan, wS_X0_plan⟩
theorem iok_X0_mostOfValue : IOk yX0_mostOfValue cX0_mostOfValue 8 (some FieldType.int) 4 := ⟨⟨wC_X0_mostOfValue, wN_X0, by decide, by decide, by decide +kernel⟩, wI_X0_mostOfValue, wS_X0_mostOfValue⟩
theorem sok_X3_throwFor : SOk yX3_throwFor cX3_throwFor 1 (none : Option FieldType) 1 := ⟨⟨wC_X3_throwFor, wN_X3, by decide, by decide, by decide +kernel⟩, wT_X3_throwFor⟩
theorem iok_X3_remember : IOk yX3_remember cX3_remember 1 (none : Option FieldType) 0 := ⟨⟨wC_X3_remember, wN_X3, by decide, by decide, by decide +kernel⟩, wI_X3_remember, wS_X3_remember⟩
theorem iok_X3_dropOldestChange : IOk yX3_dropOldestChange cX3_dropOldestChange 3 (none : Option FieldType) 0 := ⟨⟨wC_X3_dropOldestChange, wN_X3, by decide, by decide, by decide +kernel⟩, wI_X3_dropOldestChange, wS_X3_dropOldestChange⟩
theorem iok_X3_perform : IOk yX3_perform cX3_perform 5 (some FieldType.int) 4 := ⟨⟨wC_X3_perform, wN_X3, by decide, by decide, by decide +kernel⟩, wI_X3_perform, wS_X3_perform⟩
theorem iok_X2_putDie : IOk yX2_putDie cX2_putDie 5 (some FieldType.int) 2 := ⟨⟨wC_X2_putDie, wN_X2, by decide, by decide, by decide +kernel⟩, wI_X2_putDie, wS_X2_putDie⟩
theorem iok_X2_grind : IOk yX2_grind cX2_grind 3 (some FieldType.int) 1 := ⟨⟨wC_X2_grind, wN_X2, by decide, by decide, by decide +kernel⟩, wI_X2_grind, wS_X2_grind⟩
theorem iok_X2_putLeaves : IOk yX2_putLeaves cX2_putLeaves 2 (some FieldType.int) 1 := ⟨⟨wC_X2_putLeaves, wN_X2, by decide, by decide, by decide +kernel⟩, wI_X2_putLeaves, wS_X2_putLeaves⟩
theorem iok_X2_makeCoins : IOk yX2_makeCoins cX2_makeCoins 4 (some FieldType.int) 2 := ⟨⟨wC_X2_makeCoins, wN_X2, by decide, by decide, by decide +kernel⟩, wI_X2_makeCoins, wS_X2_makeCoins⟩
theorem sok_X3_gradeOfWear : SOk yX3_gradeOfWear cX3_gradeOfWear 1 (some FieldType.int) 1 := ⟨⟨wC_X3_gradeOfWear, wN_X3, by decide, by decide, by decide +kernel⟩, wT_X3_gradeOfWear⟩
theorem iok_X2_age : IOk yX2_age cX2_age 4 (some FieldType.int) 1 := ⟨⟨wC_X2_age, wN_X2, by decide, by decide, by decide +kernel⟩, wI_X2_age, wS_X2_age⟩
theorem iok_X2_lowerAgedCoins : IOk yX2_lowerAgedCoins cX2_lowerAgedCoins 4 (some FieldType.int) 0 := ⟨⟨wC_X2_lowerAgedCoins, wN_X2, by decide, by decide, by decide +kernel⟩, wI_X2_lowerAgedCoins, wS_X2_lowerAgedCoins⟩
theorem iok_X2_melt : IOk yX2_melt cX2_melt 4 (some FieldType.int) 1 := ⟨⟨wC_X2_melt, wN_X2, by decide, by decide, by decide +kernel⟩, wI_X2_melt, wS_X2_melt⟩
theorem iok_X2_removeCoinsStruckIn : IOk yX2_removeCoinsStruckIn cX2_removeCoinsStruckIn 3 (none : Option FieldType) 1 := ⟨⟨wC_X2_removeCoinsStruckIn, wN_X2, by decide, by decide, by decide +kernel⟩, wI_X2_removeCoinsStruckIn, wS_X2_removeCoinsStruckIn⟩
theorem iok_X2_removeCoin : IOk yX2_removeCoin cX2_removeCoin 2 (none : Option FieldType) 1 := ⟨⟨wC_X2_removeCoin, wN_X2, by decide, by decide, by decide +kernel⟩, wI_X2_removeCoin, wS_X2_removeCoin⟩
theorem iok_X2_payOut : IOk yX2_payOut cX2_payOut 6 (some FieldType.int) 2 := ⟨⟨wC_X2_payOut, wN_X2, by decide, by decide, by decide +kernel⟩, wI_X2_payOut, wS_X2_payOut⟩
theorem iok_X2_spendCoin : IOk yX2_spendCoin cX2_spendCoin 4 (none : Option FieldType) 1 := ⟨⟨wC_X2_spendCoin, wN_X2, by decide, by decide, by decide +kernel⟩, wI_X2_spendCoin, wS_X2_spendCoin⟩
theorem iok_X2_isSpentBefore : IOk yX2_isSpentBefore cX2_isSpentBefore 3 (some FieldType.boolean) 2 := ⟨⟨wC_X2_isSpentBefore, wN_X2, by decide, by decide, by decide +kernel⟩, wI_X2_isSpentBefore, wS_X2_isSpentBefore⟩
theorem sok_L_sharpen : HOk yL_sharpen cL_sharpen 4 (some FieldType.int) [(0, 9, 12, 23), (0, 9, 15, 15)] 3 := ⟨⟨wC_L_sharpen, wN_L, by decide, by decide, by decide +kernel⟩, wT_L_sharpen⟩
theorem iok_X3_sharpen : IOk yX3_sharpen cX3_sharpen 2 (some FieldType.int) 1 := ⟨⟨wC_X3_sharpen, wN_X3, by decide, by decide, by decide +kernel⟩, wI_X3_sharpen, wS_X3_sharpen⟩
theorem sok_L_addLeaves : HOk yL_addLeaves cL_addLeaves 4 (some FieldType.int) [(0, 9, 12, 13), (0, 9, 15, 15)] 3 := ⟨⟨wC_L_addLeaves, wN_L, by decide, by decide, by decide +kernel⟩, wT_L_addLeaves⟩
theorem iok_X3_addLeaves : IOk yX3_addLeaves cX3_addLeaves 2 (some FieldType.int) 1 := ⟨⟨wC_X3_addLeaves, wN_X3, by decide, by decide, by decide +kernel⟩, wI_X3_addLeaves, wS_X3_addLeaves⟩
theorem sok_L_strike : HOk yL_strike cL_strike 5 (some FieldType.int) [(0, 10, 13, 23), (0, 10, 17, 13), (0, 10, 21, 15), (0, 10, 25, 17)] 4 := ⟨⟨wC_L_strike, wN_L, by decide, by decide, by decide +kernel⟩, wT_L_strike⟩
theorem iok_X3_strike : IOk yX3_strike cX3_strike 3 (some FieldType.int) 2 := ⟨⟨wC_X3_strike, wN_X3, by decide, by decide, by decide +kernel⟩, wI_X3_strike, wS_X3_strike⟩
theorem sok_L_passYears : HOk yL_passYears cL_passYears 4 (some FieldType.int) [(0, 9, 12, 13)] 3 := ⟨⟨wC_L_passYears, wN_L, by decide, by decide, by decide +kernel⟩, wT_L_passYears⟩
theorem iok_X3_passYears : IOk yX3_passYears cX3_passYears 2 (some FieldType.int) 1 := ⟨⟨wC_X3_passYears, wN_X3, by decide, by decide, by decide +kernel⟩, wI_X3_passYears, wS_X3_passYears⟩
theorem sok_L_recall : HOk yL_recall cL_recall 4 (some FieldType.int) [(0, 9, 12, 13), (0, 9, 15, 37)] 3 := ⟨⟨wC_L_recall, wN_L, by decide, by decide, by decide +kernel⟩, wT_L_recall⟩
theorem iok_X3_recall : IOk yX3_recall cX3_recall 2 (some FieldType.int) 1 := ⟨⟨wC_X3_recall, wN_X3, by decide, by decide, by decide +kernel⟩, wI_X3_recall, wS_X3_recall⟩
theorem sok_L_pay : HOk yL_pay cL_pay 4 (some FieldType.int) [(0, 9, 12, 13), (0, 9, 15, 17)] 3 := ⟨⟨wC_L_pay, wN_L, by decide, by decide, by decide +kernel⟩, wT_L_pay⟩
theorem iok_X3_pay : IOk yX3_pay cX3_pay 2 (some FieldType.int) 1 := ⟨⟨wC_X3_pay, wN_X3, by decide, by decide, by decide +kernel⟩, wI_X3_pay, wS_X3_pay⟩
theorem sok_L_dieValue : HOk yL_dieValue cL_dieValue 4 (some FieldType.int) [(0, 9, 12, 23)] 3 := ⟨⟨wC_L_dieValue, wN_L, by decide, by decide, by decide +kernel⟩, wT_L_dieValue⟩
theorem iok_X3_dieValue : IOk yX3_dieValue cX3_dieValue 2 (some FieldType.int) 1 := ⟨⟨wC_X3_dieValue, wN_X3, by decide, by decide, by decide +kernel⟩, wI_X3_dieValue, wS_X3_dieValue⟩
theorem iok_X3_requireDie : IOk yX3_requireDie cX3_requireDie 2 (none : Option FieldType) 1 := ⟨⟨wC_X3_requireDie, wN_X3, by decide, by decide, by decide +kernel⟩, wI_X3_requireDie, wS_X3_requireDie⟩
theorem sok_L_coinWeight : HOk yL_coinWeight cL_coinWeight 4 (some FieldType.int) [(0, 9, 12, 23)] 3 := ⟨⟨wC_L_coinWeight, wN_L, by decide, by decide, by decide +kernel⟩, wT_L_coinWeight⟩
theorem iok_X3_coinWeight : IOk yX3_coinWeight cX3_coinWeight 2 (some FieldType.int) 1 := ⟨⟨wC_X3_coinWeight, wN_X3, by decide, by decide, by decide +kernel⟩, wI_X3_coinWeight, wS_X3_coinWeight⟩
theorem sok_L_wear : HOk yL_wear cL_wear 4 (some FieldType.int) [(0, 9, 12, 23)] 3 := ⟨⟨wC_L_wear, wN_L, by decide, by decide, by decide +kernel⟩, wT_L_wear⟩
theorem iok_X3_wear : IOk yX3_wear cX3_wear 2 (some FieldType.int) 1 := ⟨⟨wC_X3_wear, wN_X3, by decide, by decide, by decide +kernel⟩, wI_X3_wear, wS_X3_wear⟩
theorem sok_L_nextGrade : HOk yL_nextGrade cL_nextGrade 4 (some FieldType.int) [(0, 9, 12, 23), (0, 9, 15, 15)] 3 := ⟨⟨wC_L_nextGrade, wN_L, by decide, by decide, by decide +kernel⟩, wT_L_nextGrade⟩
theorem iok_X3_nextGrade : IOk yX3_nextGrade cX3_nextGrade 2 (some FieldType.char) 1 := ⟨⟨wC_X3_nextGrade, wN_X3, by decide, by decide, by decide +kernel⟩, wI_X3_nextGrade, wS_X3_nextGrade⟩
theorem sok_L_dieByWear : HOk yL_dieByWear cL_dieByWear 4 (some FieldType.int) [(0, 9, 12, 37)] 3 := ⟨⟨wC_L_dieByWear, wN_L, by decide, by decide, by decide +kernel⟩, wT_L_dieByWear⟩
theorem iok_X3_dieByWear : IOk yX3_dieByWear cX3_dieByWear 3 (some FieldType.int) 1 := ⟨⟨wC_X3_dieByWear, wN_X3, by decide, by decide, by decide +kernel⟩, wI_X3_dieByWear, wS_X3_dieByWear⟩
theorem iok_X2_diesWornMoreThan : IOk yX2_diesWornMoreThan cX2_diesWornMoreThan 5 (some FieldType.int) 1 := ⟨⟨wC_X2_diesWornMoreThan, wN_X2, by decide, by decide, by decide +kernel⟩, wI_X2_diesWornMoreThan, wS_X2_diesWornMoreThan⟩
theorem sok_L_coinsOfValue : HOk yL_coinsOfValue cL_coinsOfValue 4 (some FieldType.int) [(0, 9, 12, 37)] 3 := ⟨⟨wC_L_coinsOfValue, wN_L, by decide, by decide, by decide +kernel⟩, wT_L_coinsOfValue⟩
theorem iok_X3_coinsOfValue : IOk yX3_coinsOfValue cX3_coinsOfValue 2 (some FieldType.int) 1 := ⟨⟨wC_X3_coinsOfValue, wN_X3, by decide, by decide, by decide +kernel⟩, wI_X3_coinsOfValue, wS_X3_coinsOfValue⟩
theorem iok_X3_requireValue : IOk yX3_requireValue cX3_requireValue 3 (some FieldType.int) 1 := ⟨⟨wC_X3_requireValue, wN_X3, by decide, by decide, by decide +kernel⟩, wI_X3_requireValue, wS_X3_requireValue⟩
theorem sok_L_coinsOfGrade : HOk yL_coinsOfGrade cL_coinsOfGrade 4 (some FieldType.int) [(0, 9, 12, 13)] 3 := ⟨⟨wC_L_coinsOfGrade, wN_L, by decide, by decide, by decide +kernel⟩, wT_L_coinsOfGrade⟩
theorem iok_X3_coinsOfGrade : IOk yX3_coinsOfGrade cX3_coinsOfGrade 2 (some FieldType.int) 1 := ⟨⟨wC_X3_coinsOfGrade, wN_X3, by decide, by decide, by decide +kernel⟩, wI_X3_coinsOfGrade, wS_X3_coinsOfGrade⟩
theorem sok_X3_requireGrade : SOk yX3_requireGrade cX3_requireGrade 1 (some FieldType.int) 1 := ⟨⟨wC_X3_requireGrade, wN_X3, by decide, by decide, by decide +kernel⟩, wT_X3_requireGrade⟩
theorem iok_X2_coinsGraded : IOk yX2_coinsGraded cX2_coinsGraded 4 (some FieldType.int) 1 := ⟨⟨wC_X2_coinsGraded, wN_X2, by decide, by decide, by decide +kernel⟩, wI_X2_coinsGraded, wS_X2_coinsGraded⟩
theorem sok_L_canPay : HOk yL_canPay cL_canPay 4 (some FieldType.int) [(0, 16, 19, 13)] 3 := ⟨⟨wC_L_canPay, wN_L, by decide, by decide, by decide +kernel⟩, wT_L_canPay⟩
theorem iok_X3_canPay : IOk yX3_canPay cX3_canPay 2 (some FieldType.boolean) 1 := ⟨⟨wC_X3_canPay, wN_X3, by decide, by decide, by decide +kernel⟩, wI_X3_canPay, wS_X3_canPay⟩
theorem sok_X3_requireAmount : SOk yX3_requireAmount cX3_requireAmount 1 (none : Option FieldType) 1 := ⟨⟨wC_X3_requireAmount, wN_X3, by decide, by decide, by decide +kernel⟩, wT_X3_requireAmount⟩
theorem sok_L_fewestCoins : HOk yL_fewestCoins cL_fewestCoins 4 (some FieldType.int) [(0, 9, 12, 13), (0, 9, 15, 37)] 3 := ⟨⟨wC_L_fewestCoins, wN_L, by decide, by decide, by decide +kernel⟩, wT_L_fewestCoins⟩
theorem iok_X3_fewestCoins : IOk yX3_fewestCoins cX3_fewestCoins 2 (some FieldType.int) 1 := ⟨⟨wC_X3_fewestCoins, wN_X3, by decide, by decide, by decide +kernel⟩, wI_X3_fewestCoins, wS_X3_fewestCoins⟩
theorem sok_X3_requirePayable : SOk yX3_requirePayable cX3_requirePayable 1 (some FieldType.int) 1 := ⟨⟨wC_X3_requirePayable, wN_X3, by decide, by decide, by decide +kernel⟩, wT_X3_requirePayable⟩
theorem sok_L_fewestCoinsBySets : HOk yL_fewestCoinsBySets cL_fewestCoinsBySets 4 (some FieldType.int) [(0, 9, 12, 13), (0, 9, 15, 37)] 3 := ⟨⟨wC_L_fewestCoinsBySets, wN_L, by decide, by decide, by decide +kernel⟩, wT_L_fewestCoinsBySets⟩
theorem iok_X3_fewestCoinsBySets : IOk yX3_fewestCoinsBySets cX3_fewestCoinsBySets 2 (some FieldType.int) 1 := ⟨⟨wC_X3_fewestCoinsBySets, wN_X3, by decide, by decide, by decide +kernel⟩, wI_X3_fewestCoinsBySets, wS_X3_fewestCoinsBySets⟩
theorem sok_L_greedyCoins : HOk yL_greedyCoins cL_greedyCoins 4 (some FieldType.int) [(0, 9, 12, 13), (0, 9, 15, 37)] 3 := ⟨⟨wC_L_greedyCoins, wN_L, by decide, by decide, by decide +kernel⟩, wT_L_greedyCoins⟩
theorem iok_X3_greedyCoins : IOk yX3_greedyCoins cX3_greedyCoins 2 (some FieldType.int) 1 := ⟨⟨wC_X3_greedyCoins, wN_X3, by decide, by decide, by decide +kernel⟩, wI_X3_greedyCoins, wS_X3_greedyCoins⟩
theorem iok_X0_payGreedily : IOk yX0_payGreedily cX0_payGreedily 9 (some FieldType.int) 2 := ⟨⟨wC_X0_payGreedily, wN_X0, by decide, by decide, by decide +kernel⟩, wI_X0_payGreedily, wS_X0_payGreedily⟩
theorem sok_L_coinsUsed : HOk yL_coinsUsed cL_coinsUsed 5 (some FieldType.int) [(0, 10, 13, 13), (0, 10, 17, 37), (0, 10, 21, 17)] 4 := ⟨⟨wC_L_coinsUsed, wN_L, by decide, by decide, by decide +kernel⟩, wT_L_coinsUsed⟩
theorem iok_X3_coinsUsed : IOk yX3_coinsUsed cX3_coinsUsed 4 (some FieldType.int) 2 := ⟨⟨wC_X3_coinsUsed, wN_X3, by decide, by decide, by decide +kernel⟩, wI_X3_coinsUsed, wS_X3_coinsUsed⟩
theorem sok_L_meanWear : HOk yL_meanWear cL_meanWear 3 (some FieldType.int) [(0, 7, 10, 85)] 2 := ⟨⟨wC_L_meanWear, wN_L, by decide, by decide, by decide +kernel⟩, wT_L_meanWear⟩
theorem iok_X3_meanWear : IOk yX3_meanWear cX3_meanWear 3 (some FieldType.double) 0 := ⟨⟨wC_X3_meanWear, wN_X3, by decide, by decide, by decide +kernel⟩, wI_X3_meanWear, wS_X3_meanWear⟩
theorem sok_L_gradeShare : HOk yL_gradeShare cL_gradeShare 4 (some FieldType.int) [(0, 9, 12, 13), (0, 9, 15, 85)] 3 := ⟨⟨wC_L_gradeShare, wN_L, by decide, by decide, by decide +kernel⟩, wT_L_gradeShare⟩
theorem iok_X3_gradeShare : IOk yX3_gradeShare cX3_gradeShare 3 (some FieldType.float) 1 := ⟨⟨wC_X3_gradeShare, wN_X3, by decide, by decide, by decide +kernel⟩, wI_X3_gradeShare, wS_X3_gradeShare⟩
theorem sok_L_renderDie : HOk yL_renderDie cL_renderDie 4 (some FieldType.int) [(0, 9, 12, 23)] 3 := ⟨⟨wC_L_renderDie, wN_L, by decide, by decide, by decide +kernel⟩, wT_L_renderDie⟩
theorem iok_X3_renderDie : IOk yX3_renderDie cX3_renderDie 2 (some FieldType.int) 1 := ⟨⟨wC_X3_renderDie, wN_X3, by decide, by decide, by decide +kernel⟩, wI_X3_renderDie, wS_X3_renderDie⟩
theorem sok_L_outputAt : HOk yL_outputAt cL_outputAt 4 (some FieldType.int) [(0, 9, 12, 23)] 3 := ⟨⟨wC_L_outputAt, wN_L, by decide, by decide, by decide +kernel⟩, wT_L_outputAt⟩
theorem iok_X3_outputAt : IOk yX3_outputAt cX3_outputAt 2 (some FieldType.char) 1 := ⟨⟨wC_X3_outputAt, wN_X3, by decide, by decide, by decide +kernel⟩, wI_X3_outputAt, wS_X3_outputAt⟩
theorem sok_L_type : HOk yL_type cL_type 4 (some FieldType.int) [(0, 9, 12, 13), (0, 9, 15, 15)] 3 := ⟨⟨wC_L_type, wN_L, by decide, by decide, by decide +kernel⟩, wT_L_type⟩
theorem iok_X3_type : IOk yX3_type cX3_type 2 (some FieldType.int) 1 := ⟨⟨wC_X3_type, wN_X3, by decide, by decide, by decide +kernel⟩, wI_X3_type, wS_X3_type⟩
theorem iok_X1_append : IOk yX1_append cX1_append 2 (none : Option FieldType) 1 := ⟨⟨wC_X1_append, wN_X1, by decide, by decide, by decide +kernel⟩, wI_X1_append, wS_X1_append⟩
theorem sok_L_runScript : HOk yL_runScript cL_runScript 3 (some FieldType.int) [(0, 8, 11, 13), (0, 8, 14, 15)] 2 := ⟨⟨wC_L_runScript, wN_L, by decide, by decide, by decide +kernel⟩, wT_L_runScript⟩
theorem iok_X3_runScript : IOk yX3_runScript cX3_runScript 3 (some FieldType.int) 0 := ⟨⟨wC_X3_runScript, wN_X3, by decide, by decide, by decide +kernel⟩, wI_X3_runScript, wS_X3_runScript⟩
theorem iok_X1_parse : IOk yX1_parse cX1_parse 1 (some FieldType.boolean) 0 := ⟨⟨wC_X1_parse, wN_X1, by decide, by decide, by decide +kernel⟩, wI_X1_parse, wS_X1_parse⟩
theorem iok_X1_readCommand : IOk yX1_readCommand cX1_readCommand 1 (some FieldType.boolean) 0 := ⟨⟨wC_X1_readCommand, wN_X1, by decide, by decide, by decide +kernel⟩, wI_X1_readCommand, wS_X1_readCommand⟩
theorem iok_X1_readVerb : IOk yX1_readVerb cX1_readVerb 5 (some FieldType.boolean) 0 := ⟨⟨wC_X1_readVerb, wN_X1, by decide, by decide, by decide +kernel⟩, wI_X1_readVerb, wS_X1_readVerb⟩
theorem sok_X1_wordOf : SOk yX1_wordOf cX1_wordOf 1 (some (FieldType.object "java/lang/String")) 1 := ⟨⟨wC_X1_wordOf, wN_X1, by decide, by decide, by decide +kernel⟩, wT_X1_wordOf⟩
theorem iok_X1_signsMatching : IOk yX1_signsMatching cX1_signsMatching 3 (some FieldType.int) 1 := ⟨⟨wC_X1_signsMatching, wN_X1, by decide, by decide, by decide +kernel⟩, wI_X1_signsMatching, wS_X1_signsMatching⟩
theorem iok_X1_readNumber : IOk yX1_readNumber cX1_readNumber 1 (some FieldType.boolean) 0 := ⟨⟨wC_X1_readNumber, wN_X1, by decide, by decide, by decide +kernel⟩, wI_X1_readNumber, wS_X1_readNumber⟩
theorem iok_X1_readDigit : IOk yX1_readDigit cX1_readDigit 1 (some FieldType.boolean) 0 := ⟨⟨wC_X1_readDigit, wN_X1, by decide, by decide, by decide +kernel⟩, wI_X1_readDigit, wS_X1_readDigit⟩
theorem iok_X1_isAtDigit : IOk yX1_isAtDigit cX1_isAtDigit 1 (some FieldType.boolean) 0 := ⟨⟨wC_X1_isAtDigit, wN_X1, by decide, by decide, by decide +kernel⟩, wI_X1_isAtDigit, wS_X1_isAtDigit⟩
theorem iok_X1_takeDigit : IOk yX1_takeDigit cX1_takeDigit 2 (some FieldType.int) 0 := ⟨⟨wC_X1_takeDigit, wN_X1, by decide, by decide, by decide +kernel⟩, wI_X1_takeDigit, wS_X1_takeDigit⟩
theorem iok_X1_readSign : IOk yX1_readSign cX1_readSign 2 (some FieldType.boolean) 1 := ⟨⟨wC_X1_readSign, wN_X1, by decide, by decide, by decide +kernel⟩, wI_X1_readSign, wS_X1_readSign⟩
theorem iok_X1_readSecond : IOk yX1_readSecond cX1_readSecond 1 (some FieldType.boolean) 0 := ⟨⟨wC_X1_readSecond, wN_X1, by decide, by decide, by decide +kernel⟩, wI_X1_readSecond, wS_X1_readSecond⟩
theorem iok_X1_readYears : IOk yX1_readYears cX1_readYears 1 (some FieldType.boolean) 0 := ⟨⟨wC_X1_readYears, wN_X1, by decide, by decide, by decide +kernel⟩, wI_X1_readYears, wS_X1_readYears⟩
theorem sok_L_errorPosition : HOk yL_errorPosition cL_errorPosition 3 (some FieldType.int) [(0, 8, 11, 37)] 2 := ⟨⟨wC_L_errorPosition, wN_L, by decide, by decide, by decide +kernel⟩, wT_L_errorPosition⟩
theorem iok_X3_errorPosition : IOk yX3_errorPosition cX3_errorPosition 1 (some FieldType.int) 0 := ⟨⟨wC_X3_errorPosition, wN_X3, by decide, by decide, by decide +kernel⟩, wI_X3_errorPosition, wS_X3_errorPosition⟩
theorem sok_L_failedCommand : HOk yL_failedCommand cL_failedCommand 3 (some FieldType.int) [(0, 8, 11, 37)] 2 := ⟨⟨wC_L_failedCommand, wN_L, by decide, by decide, by decide +kernel⟩, wT_L_failedCommand⟩
theorem iok_X3_failedCommand : IOk yX3_failedCommand cX3_failedCommand 1 (some FieldType.int) 0 := ⟨⟨wC_X3_failedCommand, wN_X3, by decide, by decide, by decide +kernel⟩, wI_X3_failedCommand, wS_X3_failedCommand⟩
theorem sok_L_undo : HOk yL_undo cL_undo 3 (some FieldType.int) [(0, 8, 11, 15)] 2 := ⟨⟨wC_L_undo, wN_L, by decide, by decide, by decide +kernel⟩, wT_L_undo⟩
theorem iok_X3_undo : IOk yX3_undo cX3_undo 1 (some FieldType.int) 0 := ⟨⟨wC_X3_undo, wN_X3, by decide, by decide, by decide +kernel⟩, wI_X3_undo, wS_X3_undo⟩
theorem sok_L_restore : HOk yL_restore cL_restore 3 (some FieldType.int) [(0, 8, 11, 15)] 2 := ⟨⟨wC_L_restore, wN_L, by decide, by decide, by decide +kernel⟩, wT_L_restore⟩
theorem iok_X3_restore : IOk yX3_restore cX3_restore 1 (some FieldType.int) 0 := ⟨⟨wC_X3_restore, wN_X3, by decide, by decide, by decide +kernel⟩, wI_X3_restore, wS_X3_restore⟩
theorem iok_X4_thrown : IOk yX4_thrown cX4_thrown 1 (some FieldType.int) 0 := ⟨⟨wC_X4_thrown, wN_X4, by decide, by decide, by decide +kernel⟩, wI_X4_thrown, wS_X4_thrown⟩
theorem iok_X4_addDie : IOk yX4_addDie cX4_addDie 3 (some FieldType.int) 2 := ⟨⟨wC_X4_addDie, wN_X4, by decide, by decide, by decide +kernel⟩, wI_X4_addDie, wS_X4_addDie⟩
theorem iok_X4_starts : IOk yX4_starts cX4_starts 2 (none : Option FieldType) 0 := ⟨⟨wC_X4_starts, wN_X4, by decide, by decide, by decide +kernel⟩, wI_X4_starts, wS_X4_starts⟩
theorem iok_X4_dieIt : IOk yX4_dieIt cX4_dieIt 4 (some FieldType.int) 2 := ⟨⟨wC_X4_dieIt, wN_X4, by decide, by decide, by decide +kernel⟩, wI_X4_dieIt, wS_X4_dieIt⟩
theorem sok_X4_in : SOk yX4_in cX4_in 6 (some FieldType.boolean) 3 := ⟨⟨wC_X4_in, wN_X4, by decide, by decide, by decide +kernel⟩, wT_X4_in⟩
theorem iok_X4_throwing : IOk yX4_throwing cX4_throwing 2 (some FieldType.int) 1 := ⟨⟨wC_X4_throwing, wN_X4, by decide, by decide, by decide +kernel⟩, wI_X4_throwing, wS_X4_throwing⟩
theorem iok_X4_dieOf : IOk yX4_dieOf cX4_dieOf 3 (some FieldType.int) 1 := ⟨⟨wC_X4_dieOf, wN_X4, by decide, by decide, by decide +kernel⟩, wI_X4_dieOf, wS_X4_dieOf⟩
theorem sok_X4_dieAt : SOk yX4_dieAt cX4_dieAt 1 (some FieldType.int) 1 := ⟨⟨wC_X4_dieAt, wN_X4, by decide, by decide, by decide +kernel⟩, wT_X4_dieAt⟩
theorem iok_X4_changed : IOk yX4_changed cX4_changed 3 (some FieldType.int) 1 := ⟨⟨wC_X4_changed, wN_X4, by decide, by decide, by decide +kernel⟩, wI_X4_changed, wS_X4_changed⟩
theorem iok_X4_sharpen : IOk yX4_sharpen cX4_sharpen 2 (some FieldType.int) 1 := ⟨⟨wC_X4_sharpen, wN_X4, by decide, by decide, by decide +kernel⟩, wI_X4_sharpen, wS_X4_sharpen⟩
theorem iok_X4_sharpenIt : IOk yX4_sharpenIt cX4_sharpenIt 3 (some FieldType.int) 1 := ⟨⟨wC_X4_sharpenIt, wN_X4, by decide, by decide, by decide +kernel⟩, wI_X4_sharpenIt, wS_X4_sharpenIt⟩
theorem iok_X4_isDie : IOk yX4_isDie cX4_isDie 2 (some FieldType.boolean) 1 := ⟨⟨wC_X4_isDie, wN_X4, by decide, by decide, by decide +kernel⟩, wI_X4_isDie, wS_X4_isDie⟩
theorem iok_X4_addLeaves : IOk yX4_addLeaves cX4_addLeaves 2 (some FieldType.int) 1 := ⟨⟨wC_X4_addLeaves, wN_X4, by decide, by decide, by decide +kernel⟩, wI_X4_addLeaves, wS_X4_addLeaves⟩
theorem iok_X4_leafIt : IOk yX4_leafIt cX4_leafIt 2 (some FieldType.int) 1 := ⟨⟨wC_X4_leafIt, wN_X4, by decide, by decide, by decide +kernel⟩, wI_X4_leafIt, wS_X4_leafIt⟩
theorem iok_X4_strike : IOk yX4_strike cX4_strike 3 (some FieldType.int) 2 := ⟨⟨wC_X4_strike, wN_X4, by decide, by decide, by decide +kernel⟩, wI_X4_strike, wS_X4_strike⟩
theorem iok_X4_strikeIt : IOk yX4_strikeIt cX4_strikeIt 6 (some FieldType.int) 2 := ⟨⟨wC_X4_strikeIt, wN_X4, by decide, by decide, by decide +kernel⟩, wI_X4_strikeIt, wS_X4_strikeIt⟩
theorem sok_X4_coinAt : SOk yX4_coinAt cX4_coinAt 1 (some FieldType.int) 1 := ⟨⟨wC_X4_coinAt, wN_X4, by decide, by decide, by decide +kernel⟩, wT_X4_coinAt⟩
theorem sok_X4_gradeBy : SOk yX4_gradeBy cX4_gradeBy 1 (some FieldType.int) 1 := ⟨⟨wC_X4_gradeBy, wN_X4, by decide, by decide, by decide +kernel⟩, wT_X4_gradeBy⟩
theorem iok_X4_passYears : IOk yX4_passYears cX4_passYears 2 (some FieldType.int) 1 := ⟨⟨wC_X4_passYears, wN_X4, by decide, by decide, by decide +kernel⟩, wI_X4_passYears, wS_X4_passYears⟩
theorem iok_X4_yearsIt : IOk yX4_yearsIt cX4_yearsIt 7 (some FieldType.int) 1 := ⟨⟨wC_X4_yearsIt, wN_X4, by decide, by decide, by decide +kernel⟩, wI_X4_yearsIt, wS_X4_yearsIt⟩
theorem iok_X4_recall : IOk yX4_recall cX4_recall 2 (some FieldType.int) 1 := ⟨⟨wC_X4_recall, wN_X4, by decide, by decide, by decide +kernel⟩, wI_X4_recall, wS_X4_recall⟩
theorem iok_X4_recallIt : IOk yX4_recallIt cX4_recallIt 4 (some FieldType.int) 1 := ⟨⟨wC_X4_recallIt, wN_X4, by decide, by decide, by decide +kernel⟩, wI_X4_recallIt, wS_X4_recallIt⟩
theorem iok_X4_manyOfYear : IOk yX4_manyOfYear cX4_manyOfYear 4 (some FieldType.int) 1 := ⟨⟨wC_X4_manyOfYear, wN_X4, by decide, by decide, by decide +kernel⟩, wI_X4_manyOfYear, wS_X4_manyOfYear⟩
theorem iok_X4_grams : IOk yX4_grams cX4_grams 2 (some FieldType.int) 1 := ⟨⟨wC_X4_grams, wN_X4, by decide, by decide, by decide +kernel⟩, wI_X4_grams, wS_X4_grams⟩
theorem iok_X4_weightOfCoin : IOk yX4_weightOfCoin cX4_weightOfCoin 2 (some FieldType.int) 1 := ⟨⟨wC_X4_weightOfCoin, wN_X4, by decide, by decide, by decide +kernel⟩, wI_X4_weightOfCoin, wS_X4_weightOfCoin⟩
theorem iok_X4_takesOut : IOk yX4_takesOut cX4_takesOut 3 (none : Option FieldType) 1 := ⟨⟨wC_X4_takesOut, wN_X4, by decide, by decide, by decide +kernel⟩, wI_X4_takesOut, wS_X4_takesOut⟩
theorem iok_X4_pay : IOk yX4_pay cX4_pay 2 (some FieldType.int) 1 := ⟨⟨wC_X4_pay, wN_X4, by decide, by decide, by decide +kernel⟩, wI_X4_pay, wS_X4_pay⟩
theorem iok_X4_payIt : IOk yX4_payIt cX4_payIt 6 (some FieldType.int) 1 := ⟨⟨wC_X4_payIt, wN_X4, by decide, by decide, by decide +kernel⟩, wI_X4_payIt, wS_X4_payIt⟩
theorem iok_X4_fewestFor : IOk yX4_fewestFor cX4_fewestFor 2 (some FieldType.int) 1 := ⟨⟨wC_X4_fewestFor, wN_X4, by decide, by decide, by decide +kernel⟩, wI_X4_fewestFor, wS_X4_fewestFor⟩
theorem iok_X4_works : IOk yX4_works cX4_works 8 (none : Option FieldType) 0 := ⟨⟨wC_X4_works, wN_X4, by decide, by decide, by decide +kernel⟩, wI_X4_works, wS_X4_works⟩
theorem iok_X4_sortsDies : IOk yX4_sortsDies cX4_sortsDies 4 (none : Option FieldType) 0 := ⟨⟨wC_X4_sortsDies, wN_X4, by decide, by decide, by decide +kernel⟩, wI_X4_sortsDies, wS_X4_sortsDies⟩
theorem sok_X4_cell : SOk yX4_cell cX4_cell 2 (some FieldType.int) 2 := ⟨⟨wC_X4_cell, wN_X4, by decide, by decide, by decide +kernel⟩, wT_X4_cell⟩
theorem iok_X4_many : IOk yX4_many cX4_many 4 (some FieldType.int) 1 := ⟨⟨wC_X4_many, wN_X4, by decide, by decide, by decide +kernel⟩, wI_X4_many, wS_X4_many⟩
theorem iok_X4_used : IOk yX4_used cX4_used 7 (some FieldType.int) 2 := ⟨⟨wC_X4_used, wN_X4, by decide, by decide, by decide +kernel⟩, wI_X4_used, wS_X4_used⟩
theorem iok_X4_firstCoin : IOk yX4_firstCoin cX4_firstCoin 6 (some FieldType.int) 1 := ⟨⟨wC_X4_firstCoin, wN_X4, by decide, by decide, by decide +kernel⟩, wI_X4_firstCoin, wS_X4_firstCoin⟩
theorem iok_X4_dieCount : IOk yX4_dieCount cX4_dieCount 1 (some FieldType.int) 0 := ⟨⟨wC_X4_dieCount, wN_X4, by decide, by decide, by decide +kernel⟩, wI_X4_dieCount, wS_X4_dieCount⟩
theorem iok_X4_total : IOk yX4_total cX4_total 2 (some FieldType.int) 1 := ⟨⟨wC_X4_total, wN_X4, by decide, by decide, by decide +kernel⟩, wI_X4_total, wS_X4_total⟩
theorem iok_X4_dieValue : IOk yX4_dieValue cX4_dieValue 2 (some FieldType.int) 1 := ⟨⟨wC_X4_dieValue, wN_X4, by decide, by decide, by decide +kernel⟩, wI_X4_dieValue, wS_X4_dieValue⟩
theorem iok_X4_ofDie : IOk yX4_ofDie cX4_ofDie 3 (some FieldType.int) 2 := ⟨⟨wC_X4_ofDie, wN_X4, by decide, by decide, by decide +kernel⟩, wI_X4_ofDie, wS_X4_ofDie⟩
theorem iok_X4_coinWeight : IOk yX4_coinWeight cX4_coinWeight 2 (some FieldType.int) 1 := ⟨⟨wC_X4_coinWeight, wN_X4, by decide, by decide, by decide +kernel⟩, wI_X4_coinWeight, wS_X4_coinWeight⟩
theorem iok_X4_wear : IOk yX4_wear cX4_wear 2 (some FieldType.int) 1 := ⟨⟨wC_X4_wear, wN_X4, by decide, by decide, by decide +kernel⟩, wI_X4_wear, wS_X4_wear⟩
theorem iok_X4_nextGrade : IOk yX4_nextGrade cX4_nextGrade 3 (some FieldType.char) 1 := ⟨⟨wC_X4_nextGrade, wN_X4, by decide, by decide, by decide +kernel⟩, wI_X4_nextGrade, wS_X4_nextGrade⟩
theorem iok_X4_dieByWear : IOk yX4_dieByWear cX4_dieByWear 6 (some FieldType.int) 1 := ⟨⟨wC_X4_dieByWear, wN_X4, by decide, by decide, by decide +kernel⟩, wI_X4_dieByWear, wS_X4_dieByWear⟩
theorem iok_X4_leaves : IOk yX4_leaves cX4_leaves 1 (some FieldType.int) 0 := ⟨⟨wC_X4_leaves, wN_X4, by decide, by decide, by decide +kernel⟩, wI_X4_leaves, wS_X4_leaves⟩
theorem iok_X4_year : IOk yX4_year cX4_year 1 (some FieldType.int) 0 := ⟨⟨wC_X4_year, wN_X4, by decide, by decide, by decide +kernel⟩, wI_X4_year, wS_X4_year⟩
theorem iok_X4_vaultCoins : IOk yX4_vaultCoins cX4_vaultCoins 1 (some FieldType.int) 0 := ⟨⟨wC_X4_vaultCoins, wN_X4, by decide, by decide, by decide +kernel⟩, wI_X4_vaultCoins, wS_X4_vaultCoins⟩
theorem iok_X4_vaultValue : IOk yX4_vaultValue cX4_vaultValue 3 (some FieldType.int) 0 := ⟨⟨wC_X4_vaultValue, wN_X4, by decide, by decide, by decide +kernel⟩, wI_X4_vaultValue, wS_X4_vaultValue⟩
theorem iok_X4_valueOfCoin : IOk yX4_valueOfCoin cX4_valueOfCoin 2 (some FieldType.int) 1 := ⟨⟨wC_X4_valueOfCoin, wN_X4, by decide, by decide, by decide +kernel⟩, wI_X4_valueOfCoin, wS_X4_valueOfCoin⟩
theorem iok_X4_vaultValueByDies : IOk yX4_vaultValueByDies cX4_vaultValueByDies 1 (some FieldType.int) 0 := ⟨⟨wC_X4_vaultValueByDies, wN_X4, by decide, by decide, by decide +kernel⟩, wI_X4_vaultValueByDies, wS_X4_vaultValueByDies⟩
theorem iok_X4_vaultWeight : IOk yX4_vaultWeight cX4_vaultWeight 3 (some FieldType.int) 0 := ⟨⟨wC_X4_vaultWeight, wN_X4, by decide, by decide, by decide +kernel⟩, wI_X4_vaultWeight, wS_X4_vaultWeight⟩
theorem iok_X4_coinsOfValue : IOk yX4_coinsOfValue cX4_coinsOfValue 3 (some FieldType.int) 1 := ⟨⟨wC_X4_coinsOfValue, wN_X4, by decide, by decide, by decide +kernel⟩, wI_X4_coinsOfValue, wS_X4_coinsOfValue⟩
theorem iok_X4_coinsOfYear : IOk yX4_coinsOfYear cX4_coinsOfYear 2 (some FieldType.int) 1 := ⟨⟨wC_X4_coinsOfYear, wN_X4, by decide, by decide, by decide +kernel⟩, wI_X4_coinsOfYear, wS_X4_coinsOfYear⟩
theorem iok_X4_coinsOfGrade : IOk yX4_coinsOfGrade cX4_coinsOfGrade 2 (some FieldType.int) 1 := ⟨⟨wC_X4_coinsOfGrade, wN_X4, by decide, by decide, by decide +kernel⟩, wI_X4_coinsOfGrade, wS_X4_coinsOfGrade⟩
theorem iok_X4_manyOfGrade : IOk yX4_manyOfGrade cX4_manyOfGrade 4 (some FieldType.int) 1 := ⟨⟨wC_X4_manyOfGrade, wN_X4, by decide, by decide, by decide +kernel⟩, wI_X4_manyOfGrade, wS_X4_manyOfGrade⟩
theorem iok_X4_kinds : IOk yX4_kinds cX4_kinds 7 (some FieldType.int) 0 := ⟨⟨wC_X4_kinds, wN_X4, by decide, by decide, by decide +kernel⟩, wI_X4_kinds, wS_X4_kinds⟩
theorem iok_X4_canPay : IOk yX4_canPay cX4_canPay 2 (some FieldType.boolean) 1 := ⟨⟨wC_X4_canPay, wN_X4, by decide, by decide, by decide +kernel⟩, wI_X4_canPay, wS_X4_canPay⟩
theorem iok_X4_fewestCoins : IOk yX4_fewestCoins cX4_fewestCoins 3 (some FieldType.int) 1 := ⟨⟨wC_X4_fewestCoins, wN_X4, by decide, by decide, by decide +kernel⟩, wI_X4_fewestCoins, wS_X4_fewestCoins⟩
theorem iok_X4_fewestCoinsBySets : IOk yX4_fewestCoinsBySets cX4_fewestCoinsBySets 2 (some FieldType.int) 1 := ⟨⟨wC_X4_fewestCoinsBySets, wN_X4, by decide, by decide, by decide +kernel⟩, wI_X4_fewestCoinsBySets, wS_X4_fewestCoinsBySets⟩
theorem iok_X4_greedyCoins : IOk yX4_greedyCoins cX4_greedyCoins 7 (some FieldType.int) 1 := ⟨⟨wC_X4_greedyCoins, wN_X4, by decide, by decide, by decide +kernel⟩, wI_X4_greedyCoins, wS_X4_greedyCoins⟩
theorem iok_X4_coinsUsed : IOk yX4_coinsUsed cX4_coinsUsed 7 (some FieldType.int) 2 := ⟨⟨wC_X4_coinsUsed, wN_X4, by decide, by decide, by decide +kernel⟩, wI_X4_coinsUsed, wS_X4_coinsUsed⟩
theorem iok_X4_payableAmounts : IOk yX4_payableAmounts cX4_payableAmounts 3 (some FieldType.int) 0 := ⟨⟨wC_X4_payableAmounts, wN_X4, by decide, by decide, by decide +kernel⟩, wI_X4_payableAmounts, wS_X4_payableAmounts⟩
theorem iok_X4_recallGrams : IOk yX4_recallGrams cX4_recallGrams 4 (some FieldType.int) 1 := ⟨⟨wC_X4_recallGrams, wN_X4, by decide, by decide, by decide +kernel⟩, wI_X4_recallGrams, wS_X4_recallGrams⟩
theorem iok_X4_struckTotal : IOk yX4_struckTotal cX4_struckTotal 1 (some FieldType.int) 0 := ⟨⟨wC_X4_struckTotal, wN_X4, by decide, by decide, by decide +kernel⟩, wI_X4_struckTotal, wS_X4_struckTotal⟩
theorem iok_X4_paidTotal : IOk yX4_paidTotal cX4_paidTotal 1 (some FieldType.int) 0 := ⟨⟨wC_X4_paidTotal, wN_X4, by decide, by decide, by decide +kernel⟩, wI_X4_paidTotal, wS_X4_paidTotal⟩
theorem iok_X4_paidWeight : IOk yX4_paidWeight cX4_paidWeight 1 (some FieldType.int) 0 := ⟨⟨wC_X4_paidWeight, wN_X4, by decide, by decide, by decide +kernel⟩, wI_X4_paidWeight, wS_X4_paidWeight⟩
theorem iok_X4_lostWeight : IOk yX4_lostWeight cX4_lostWeight 1 (some FieldType.int) 0 := ⟨⟨wC_X4_lostWeight, wN_X4, by decide, by decide, by decide +kernel⟩, wI_X4_lostWeight, wS_X4_lostWeight⟩
theorem iok_X4_addedWeight : IOk yX4_addedWeight cX4_addedWeight 1 (some FieldType.int) 0 := ⟨⟨wC_X4_addedWeight, wN_X4, by decide, by decide, by decide +kernel⟩, wI_X4_addedWeight, wS_X4_addedWeight⟩
theorem iok_X4_meanWear : IOk yX4_meanWear cX4_meanWear 3 (some FieldType.double) 0 := ⟨⟨wC_X4_meanWear, wN_X4, by decide, by decide, by decide +kernel⟩, wI_X4_meanWear, wS_X4_meanWear⟩
theorem iok_X4_gradeShare : IOk yX4_gradeShare cX4_gradeShare 2 (some FieldType.float) 1 := ⟨⟨wC_X4_gradeShare, wN_X4, by decide, by decide, by decide +kernel⟩, wI_X4_gradeShare, wS_X4_gradeShare⟩
theorem iok_X4_isConsistent : IOk yX4_isConsistent cX4_isConsistent 1 (some FieldType.boolean) 0 := ⟨⟨wC_X4_isConsistent, wN_X4, by decide, by decide, by decide +kernel⟩, wI_X4_isConsistent, wS_X4_isConsistent⟩
theorem iok_X4_renderDie : IOk yX4_renderDie cX4_renderDie 2 (some FieldType.int) 1 := ⟨⟨wC_X4_renderDie, wN_X4, by decide, by decide, by decide +kernel⟩, wI_X4_renderDie, wS_X4_renderDie⟩
theorem iok_X4_writesNumber : IOk yX4_writesNumber cX4_writesNumber 3 (none : Option FieldType) 1 := ⟨⟨wC_X4_writesNumber, wN_X4, by decide, by decide, by decide +kernel⟩, wI_X4_writesNumber, wS_X4_writesNumber⟩
theorem iok_X4_sign : IOk yX4_sign cX4_sign 2 (none : Option FieldType) 1 := ⟨⟨wC_X4_sign, wN_X4, by decide, by decide, by decide +kernel⟩, wI_X4_sign, wS_X4_sign⟩
theorem iok_X4_renderVault : IOk yX4_renderVault cX4_renderVault 2 (some FieldType.int) 0 := ⟨⟨wC_X4_renderVault, wN_X4, by decide, by decide, by decide +kernel⟩, wI_X4_renderVault, wS_X4_renderVault⟩
theorem iok_X4_outputAt : IOk yX4_outputAt cX4_outputAt 2 (some FieldType.char) 1 := ⟨⟨wC_X4_outputAt, wN_X4, by decide, by decide, by decide +kernel⟩, wI_X4_outputAt, wS_X4_outputAt⟩
theorem iok_X4_type : IOk yX4_type cX4_type 2 (some FieldType.int) 1 := ⟨⟨wC_X4_type, wN_X4, by decide, by decide, by decide +kernel⟩, wI_X4_type, wS_X4_type⟩
theorem iok_X4_runScript : IOk yX4_runScript cX4_runScript 4 (some FieldType.int) 0 := ⟨⟨wC_X4_runScript, wN_X4, by decide, by decide, by decide +kernel⟩, wI_X4_runScript, wS_X4_runScript⟩
theorem iok_X4_readCommand : IOk yX4_readCommand cX4_readCommand 4 (none : Option FieldType) 0 := ⟨⟨wC_X4_readCommand, wN_X4, by decide, by decide, by decide +kernel⟩, wI_X4_readCommand, wS_X4_readCommand⟩
theorem iok_X4_likeness : IOk yX4_likeness cX4_likeness 4 (some FieldType.int) 1 := ⟨⟨wC_X4_likeness, wN_X4, by decide, by decide, by decide +kernel⟩, wI_X4_likeness, wS_X4_likeness⟩
theorem iok_X4_readArguments : IOk yX4_readArguments cX4_readArguments 3 (none : Option FieldType) 2 := ⟨⟨wC_X4_readArguments, wN_X4, by decide, by decide, by decide +kernel⟩, wI_X4_readArguments, wS_X4_readArguments⟩
theorem iok_X4_number : IOk yX4_number cX4_number 2 (some FieldType.int) 0 := ⟨⟨wC_X4_number, wN_X4, by decide, by decide, by decide +kernel⟩, wI_X4_number, wS_X4_number⟩
theorem iok_X4_digit : IOk yX4_digit cX4_digit 2 (some FieldType.int) 0 := ⟨⟨wC_X4_digit, wN_X4, by decide, by decide, by decide +kernel⟩, wI_X4_digit, wS_X4_digit⟩
theorem iok_X4_here : IOk yX4_here cX4_here 1 (some FieldType.int) 0 := ⟨⟨wC_X4_here, wN_X4, by decide, by decide, by decide +kernel⟩, wI_X4_here, wS_X4_here⟩
theorem iok_X4_digitBehind : IOk yX4_digitBehind cX4_digitBehind 1 (some FieldType.int) 0 := ⟨⟨wC_X4_digitBehind, wN_X4, by decide, by decide, by decide +kernel⟩, wI_X4_digitBehind, wS_X4_digitBehind⟩
theorem iok_X4_expects : IOk yX4_expects cX4_expects 2 (none : Option FieldType) 1 := ⟨⟨wC_X4_expects, wN_X4, by decide, by decide, by decide +kernel⟩, wI_X4_expects, wS_X4_expects⟩
theorem iok_X4_numberBehind : IOk yX4_numberBehind cX4_numberBehind 1 (some FieldType.int) 0 := ⟨⟨wC_X4_numberBehind, wN_X4, by decide, by decide, by decide +kernel⟩, wI_X4_numberBehind, wS_X4_numberBehind⟩
theorem iok_X4_does : IOk yX4_does cX4_does 4 (none : Option FieldType) 1 := ⟨⟨wC_X4_does, wN_X4, by decide, by decide, by decide +kernel⟩, wI_X4_does, wS_X4_does⟩
theorem iok_X4_errorPosition : IOk yX4_errorPosition cX4_errorPosition 1 (some FieldType.int) 0 := ⟨⟨wC_X4_errorPosition, wN_X4, by decide, by decide, by decide +kernel⟩, wI_X4_errorPosition, wS_X4_errorPosition⟩
theorem iok_X4_failedCommand : IOk yX4_failedCommand cX4_failedCommand 1 (some FieldType.int) 0 := ⟨⟨wC_X4_failedCommand, wN_X4, by decide, by decide, by decide +kernel⟩, wI_X4_failedCommand, wS_X4_failedCommand⟩
theorem iok_X4_undo : IOk yX4_undo cX4_undo 2 (some FieldType.int) 0 := ⟨⟨wC_X4_undo, wN_X4, by decide, by decide, by decide +kernel⟩, wI_X4_undo, wS_X4_undo⟩
theorem iok_X4_save : IOk yX4_save cX4_save 2 (some FieldType.int) 0 := ⟨⟨wC_X4_save, wN_X4, by decide, by decide, by decide +kernel⟩, wI_X4_save, wS_X4_save⟩
theorem iok_X4_restore : IOk yX4_restore cX4_restore 2 (some FieldType.int) 0 := ⟨⟨wC_X4_restore, wN_X4, by decide, by decide, by decide +kernel⟩, wI_X4_restore, wS_X4_restore⟩
