-- Math.max, Math.min
def mxI (a b : Int) : Int := if a < b then b else a
def mnI (a b : Int) : Int := if b < a then b else a
section VM
variable {γ : gT} {g : GT} {cc : ByteArray} {nL : Nat} {own : String} {rm : Room} {G : Mem} {k n : Nat} {pc idx : Nat} {L : List (Option Value)} {st : List Value}
theorem v_mmax {a b : Int} (h : -2147483648 ≤ a ∧ a < 2147483648 ∧ -2147483648 ≤ b ∧ b < 2147483648) (hl : Cond.methodLink own idx yJ9_max_7cf53 ∈ WT) (h1 : 1 ≤ rm.frames) (h2 : (st.map fun v => v.category).sum ≤ 8) (h3 : 21 ≤ rm.locals) (h4 : k ≤ rm.cells) (h5 : n ≤ rm.slots) (d : decode cc pc = .ok (.invokestatic idx, 3)) (kk : V γ g cc nL own rm G k n (pc + 3) L (vI (mxI a b) :: st)) : V γ g cc nL own rm G k n pc L (vI b :: vI a :: st) := by
  obtain ⟨p, l, e, R, s, m, args, below, meth, c, Q⟩ := γ
  intro C H locs ls hP hS hL
  obtain ⟨hx, hb, hml, ho, hts, rfl, hG, hlk, rfl⟩ := id C
  refine va_mmax hx hb (hml.trans hL.1.symm) ho (hts _ hl) (hts _ wT_J9_max_7cf53) (hts _ wN_J9) (hts _ wC_J9_max_7cf53) h1 (by omega) h4 h5 d ?_
  have e1 : (if Int32.ofInt a < Int32.ofInt b then Int32.ofInt b else Int32.ofInt a) = Int32.ofInt (mxI a b) := by
    unfold mxI
    by_cases q : a < b
    · rw [if_pos ((i32_lt h).mpr q), if_pos q]
    · rw [if_neg (fun z => q ((i32_lt h).mp z)), if_neg q]
  rw [e1]
  exact kk C H locs ls hP hS hL
theorem v_mmin {a b : Int} (h : -2147483648 ≤ a ∧ a < 2147483648 ∧ -2147483648 ≤ b ∧ b < 2147483648) (hl : Cond.methodLink own idx yJ9_min_7cf53 ∈ WT) (h1 : 1 ≤ rm.frames) (h2 : (st.map fun v => v.category).sum ≤ 8) (h3 : 21 ≤ rm.locals) (h4 : k ≤ rm.cells) (h5 : n ≤ rm.slots) (d : decode cc pc = .ok (.invokestatic idx, 3)) (kk : V γ g cc nL own rm G k n (pc + 3) L (vI (mnI a b) :: st)) : V γ g cc nL own rm G k n pc L (vI b :: vI a :: st) := by
  obtain ⟨p, l, e, R, s, m, args, below, meth, c, Q⟩ := γ
  intro C H locs ls hP hS hL
  obtain ⟨hx, hb, hml, ho, hts, rfl, hG, hlk, rfl⟩ := id C
  refine va_mmin hx hb (hml.trans hL.1.symm) ho (hts _ hl) (hts _ wT_J9_min_7cf53) (hts _ wN_J9) (hts _ wC_J9_min_7cf53) h1 (by omega) h4 h5 d ?_
  have h' : -2147483648 ≤ b ∧ b < 2147483648 ∧ -2147483648 ≤ a ∧ a < 2147483648 := ⟨h.2.2.1, h.2.2.2, h.1, h.2.1⟩
  have e1 : (if Int32.ofInt b < Int32.ofInt a then Int32.ofInt b else Int32.ofInt a) = Int32.ofInt (mnI a b) := by
    unfold mnI
    by_cases q : b < a
    · rw [if_pos ((i32_lt h').mpr q), if_pos q]
    · rw [if_neg (fun z => q ((i32_lt h').mp z)), if_neg q]
  rw [e1]
  exact kk C H locs ls hP hS hL
end VM
-- queries of a State
/-- how many k below n have f k = d -/
def cntE (n : Int) (f : Int → Int) (d : Int) : Int := sz n (fun k => if f k = d then 1 else 0)
/-- the first i below n with f i = v, or -1 -/
def FstR (n : Int) (f : Int → Int) (v r : Int) : Prop := (r = -1 ∧ ∀ i, 0 ≤ i → i < n → f i ≠ v) ∨ (0 ≤ r ∧ r < n ∧ f r = v ∧ ∀ i, 0 ≤ i → i < r → f i ≠ v)
/-- the weight of all coins: n coins of the dies f, whose weights are w -/
def wgt (n : Int) (f w : Int → Int) : Int := sz n (fun k => w (f k))
/-- what a recall of the year y gives back -/
def mlt (n : Int) (f w yr gr : Int → Int) (y : Int) : Int := sz n (fun k => if yr k = y then mxI 0 (w (f k) - gr k) else 0)
/-- how many dies stand ahead of the die d -/
def ahd (n : Int) (we va : Int → Int) (d : Int) : Int := sz n (fun o => if we d < we o ∨ (we o = we d ∧ va d < va o) then 1 else 0)
/-- no coin before k is of its kind -/
def isFirst (f y gr : Int → Int) (k : Int) : Prop := ∀ e, 0 ≤ e → e < k → ¬ (f e = f k ∧ y e = y k ∧ gr e = gr k)

set_option maxHeartbeats 4000000 in
set_option maxRecDepth 100000 in
theorem c_X2_hasDie {g : GT} {b : Nat} {G : Mem} (hb : isS b) (hI : StI G b) {d : Int} (hd : -2147483648 ≤ d ∧ d < 2147483648) : Ctr g yX2_hasDie cX2_hasDie 2 (some FieldType.boolean) (rmL 0 0 0) [vR g b, vI d] G (RM (bI (0 ≤ d ∧ d < G b 0)) G) NoX := by
  refine ctr_of [some (vR g b), some (vI d)] (by decide) (Nat.le_of_ble_eq_true rfl) rfl (fun γ E => ?_)
  show V γ g cX2_hasDie 2 RX2 (rmL 0 0 0) G 0 0 0 [some (vR g b), some (vI d)] []
  have hn := StI_n hI
  have hc := StI_c hI
  have hy := StI_y hI
  refine v_iload_n (pc := 0) rfl dX2_hasDie_0 ?_
  refine v_if_lt (pc := 1) (tgt := 16) (by omega) dX2_hasDie_1 (by decide) (fun h1 => ?_) (fun h1 => ?_)
  · skip
    refine v_iconst (pc := 16) (z := 0) dX2_hasDie_16 ?_
    exact v_bret (pc := 17) E (by decide) (⟨by rw [bI_f (by omega)], rfl⟩) (Nat.le_of_ble_eq_true rfl) (Nat.le_of_ble_eq_true rfl) dX2_hasDie_17
  · skip
    refine v_iload_n (pc := 4) rfl dX2_hasDie_4 ?_
    refine v_aload_n (pc := 5) rfl dX2_hasDie_5 ?_
    refine v_get (pc := 6) 0 fd_X2_33 (kdS hb) (ltS hb 0 (by decide)) (tgS hb 0 none rfl) rfl dX2_hasDie_6 ?_
    refine v_icmp_ge (pc := 9) (tgt := 16) (by omega) dX2_hasDie_9 (by decide) (fun h2 => ?_) (fun h2 => ?_)
    · skip
      refine v_iconst (pc := 16) (z := 0) dX2_hasDie_16 ?_
      exact v_bret (pc := 17) E (by decide) (⟨by rw [bI_f (by omega)], rfl⟩) (Nat.le_of_ble_eq_true rfl) (Nat.le_of_ble_eq_true rfl) dX2_hasDie_17
    · skip
      refine v_iconst (pc := 12) (z := 1) dX2_hasDie_12 ?_
      refine v_goto (pc := 13) (tgt := 17) dX2_hasDie_13 (by decide) ?_
      exact v_bret (pc := 17) E (by decide) (⟨by rw [bI_t (by omega)], rfl⟩) (Nat.le_of_ble_eq_true rfl) (Nat.le_of_ble_eq_true rfl) dX2_hasDie_17
set_option maxHeartbeats 4000000 in
set_option maxRecDepth 100000 in
theorem c_X2_dieWithValue {g : GT} {b : Nat} {G : Mem} (hb : isS b) (hI : StI G b) {v : Int} (hv : -2147483648 ≤ v ∧ v < 2147483648) : Ctr g yX2_dieWithValue cX2_dieWithValue 3 (some FieldType.int) (rmL 0 0 0) [vR g b, vI v] G (RP (fun r G' => G' = G ∧ FstR (G b 0) (G (b + 1)) v r)) NoX := by
  refine ctr_of [some (vR g b), some (vI v), none] (by decide) (Nat.le_of_ble_eq_true rfl) rfl (fun γ E => ?_)
  show V γ g cX2_dieWithValue 3 RX2 (rmL 0 0 0) G 0 0 0 [some (vR g b), some (vI v), none] []
  have hn := StI_n hI
  have hc := StI_c hI
  have hy := StI_y hI
  refine v_iconst (pc := 0) (z := 0) dX2_dieWithValue_0 ?_
  refine v_istore_n (pc := 1) (by decide) rfl dX2_dieWithValue_1 ?_
  have lp2 : ∀ (m2 : Nat) (i : Int), (0 ≤ i ∧ i ≤ G b 0) → (∀ j, 0 ≤ j → j < i → G (b + 1) j ≠ v) → ((G b 0 - i).toNat) < m2 → V γ g cX2_dieWithValue 3 RX2 (rmL 0 0 0) G 0 0 2 [some (vR g b), some (vI v), some (vI i)] [] := by
    intro m2
    induction m2 with
    | zero => intro i; intros; omega
    | succ m2 ih2 =>
      intro i h0 hf hm2
      refine v_iload_n (pc := 2) rfl dX2_dieWithValue_2 ?_
      refine v_aload_n (pc := 3) rfl dX2_dieWithValue_3 ?_
      refine v_get (pc := 4) 0 fd_X2_33 (kdS hb) (ltS hb 0 (by decide)) (tgS hb 0 none rfl) rfl dX2_dieWithValue_4 ?_
      refine v_icmp_ge (pc := 7) (tgt := 28) (by omega) dX2_dieWithValue_7 (by decide) (fun h1 => ?_) (fun h1 => ?_)
      · skip
        refine v_iconst (pc := 28) (z := (-1)) dX2_dieWithValue_28 ?_
        exact v_iret (pc := 29) E (⟨_, rfl, rfl, Or.inl ⟨rfl, fun j a c => hf j a (by omega)⟩⟩) (Nat.le_of_ble_eq_true rfl) (Nat.le_of_ble_eq_true rfl) dX2_dieWithValue_29
      · skip
        refine v_aload_n (pc := 10) rfl dX2_dieWithValue_10 ?_
        refine v_getR (pc := 11) (j := b + 1) fd_X2_9 (kdS hb) (ltS hb 0 (by decide)) (tgS hb 1 _ rfl) dX2_dieWithValue_11 ?_
        refine v_iload_n (pc := 14) rfl dX2_dieWithValue_14 ?_
        refine v_iald (pc := 15) (N := 5) (kdS_i hb 1 (by decide)) (lnS_5 hb 1 (by decide)) (ltS hb 1 (by decide)) (by omega) (by decide) dX2_dieWithValue_15 ?_
        have r2 := StI_d hI (i := i) (by omega) (by omega)
        refine v_iload_n (pc := 16) rfl dX2_dieWithValue_16 ?_
        refine v_icmp_ne (pc := 17) (tgt := 22) (by omega) dX2_dieWithValue_17 (by decide) (fun h3 => ?_) (fun h3 => ?_)
        · skip
          refine v_iinc (pc := 22) (y := 1) rfl (by decide) rfl dX2_dieWithValue_22 ?_
          refine v_goto (pc := 25) (tgt := 2) dX2_dieWithValue_25 (by decide) ?_
          exact ih2 (i + 1) (by omega) (fun j a c => (Classical.em (j = i)).elim (fun e => by rw [e]; assumption) (fun e => hf j a (by omega))) (by omega)
        · skip
          refine v_iload_n (pc := 20) rfl dX2_dieWithValue_20 ?_
          exact v_iret (pc := 21) E (⟨_, rfl, rfl, Or.inr ⟨by omega, by omega, by assumption, hf⟩⟩) (Nat.le_of_ble_eq_true rfl) (Nat.le_of_ble_eq_true rfl) dX2_dieWithValue_21
  refine v_loc (L' := [some (vR g b), some (vI v), some (vI 0)]) (⟨rfl, rfl, rfl, trivial⟩) ?_
  exact lp2 _ 0 (by omega) (fun j a c => absurd c (by omega)) (Nat.lt_succ_self _)
set_option maxHeartbeats 4000000 in
set_option maxRecDepth 100000 in
theorem c_X2_coinsFrom {g : GT} {b : Nat} {G : Mem} (hb : isS b) (hI : StI G b) {d : Int} (hd : -2147483648 ≤ d ∧ d < 2147483648) : Ctr g yX2_coinsFrom cX2_coinsFrom 4 (some FieldType.int) (rmL 0 0 0) [vR g b, vI d] G (RM (cntE (G b 5) (G (b + 5)) d) G) NoX := by
  refine ctr_of [some (vR g b), some (vI d), none, none] (by decide) (Nat.le_of_ble_eq_true rfl) rfl (fun γ E => ?_)
  show V γ g cX2_coinsFrom 4 RX2 (rmL 0 0 0) G 0 0 0 [some (vR g b), some (vI d), none, none] []
  have hn := StI_n hI
  have hc := StI_c hI
  have hy := StI_y hI
  refine v_iconst (pc := 0) (z := 0) dX2_coinsFrom_0 ?_
  refine v_istore_n (pc := 1) (by decide) rfl dX2_coinsFrom_1 ?_
  refine v_iconst (pc := 2) (z := 0) dX2_coinsFrom_2 ?_
  refine v_istore_n (pc := 3) (by decide) rfl dX2_coinsFrom_3 ?_
  have lp4 : ∀ (m4 : Nat) (i : Int) (c : Int), (0 ≤ i ∧ i ≤ G b 5) → (c = sz i (fun k => if G (b + 5) k = d then 1 else 0)) → ((G b 5 - i).toNat) < m4 → V γ g cX2_coinsFrom 4 RX2 (rmL 0 0 0) G 0 0 4 [some (vR g b), some (vI d), some (vI c), some (vI i)] [] := by
    intro m4
    induction m4 with
    | zero => intro i c; intros; omega
    | succ m4 ih4 =>
      intro i c h0 hs hm4
      refine v_iload_n (pc := 4) rfl dX2_coinsFrom_4 ?_
      refine v_aload_n (pc := 5) rfl dX2_coinsFrom_5 ?_
      refine v_get (pc := 6) 5 fd_X2_43 (kdS hb) (ltS hb 0 (by decide)) (tgS hb 5 none rfl) rfl dX2_coinsFrom_6 ?_
      refine v_icmp_ge (pc := 9) (tgt := 31) (by omega) dX2_coinsFrom_9 (by decide) (fun h1 => ?_) (fun h1 => ?_)
      · skip
        refine v_iload_n (pc := 31) rfl dX2_coinsFrom_31 ?_
        exact v_iret (pc := 32) E (⟨by rw [hs, show i = G b 5 by omega]; rfl, rfl⟩) (Nat.le_of_ble_eq_true rfl) (Nat.le_of_ble_eq_true rfl) dX2_coinsFrom_32
      · skip
        refine v_aload_n (pc := 12) rfl dX2_coinsFrom_12 ?_
        refine v_getR (pc := 13) (j := b + 5) fd_X2_24 (kdS hb) (ltS hb 0 (by decide)) (tgS hb 6 _ rfl) dX2_coinsFrom_13 ?_
        refine v_iload_n (pc := 16) rfl dX2_coinsFrom_16 ?_
        refine v_iald (pc := 17) (N := 40) (kdS_i hb 5 (by decide)) (lnS_40 hb 5 (by decide)) (ltS hb 5 (by decide)) (by omega) (by decide) dX2_coinsFrom_17 ?_
        have r2 := StI_k hI (k := i) (by omega) (by omega)
        refine v_iload_n (pc := 18) rfl dX2_coinsFrom_18 ?_
        refine v_icmp_ne (pc := 19) (tgt := 25) (by omega) dX2_coinsFrom_19 (by decide) (fun h3 => ?_) (fun h3 => ?_)
        · skip
          refine v_iinc (pc := 25) (y := 1) rfl (by decide) rfl dX2_coinsFrom_25 ?_
          refine v_goto (pc := 28) (tgt := 4) dX2_coinsFrom_28 (by decide) ?_
          exact ih4 (i + 1) c (by omega) (by rw [sz_s (by omega)]; first | (rw [if_pos (by omega)]; omega) | (rw [if_neg (by omega)]; omega) | omega) (by omega)
        · skip
          refine v_iinc (pc := 22) (y := 1) rfl (by decide) rfl dX2_coinsFrom_22 ?_
          refine v_iinc (pc := 25) (y := 1) rfl (by decide) rfl dX2_coinsFrom_25 ?_
          refine v_goto (pc := 28) (tgt := 4) dX2_coinsFrom_28 (by decide) ?_
          exact ih4 (i + 1) (c + 1) (by omega) (by rw [sz_s (by omega)]; first | (rw [if_pos (by omega)]; omega) | (rw [if_neg (by omega)]; omega) | omega) (by omega)
  refine v_loc (L' := [some (vR g b), some (vI d), some (vI 0), some (vI 0)]) (⟨rfl, rfl, rfl, rfl, trivial⟩) ?_
  exact lp4 _ 0 0 (by omega) rfl (Nat.lt_succ_self _)
set_option maxHeartbeats 4000000 in
set_option maxRecDepth 100000 in
theorem c_X2_coinsStruckIn {g : GT} {b : Nat} {G : Mem} (hb : isS b) (hI : StI G b) {d : Int} (hd : -2147483648 ≤ d ∧ d < 2147483648) : Ctr g yX2_coinsStruckIn cX2_coinsStruckIn 4 (some FieldType.int) (rmL 0 0 0) [vR g b, vI d] G (RM (cntE (G b 5) (G (b + 6)) d) G) NoX := by
  refine ctr_of [some (vR g b), some (vI d), none, none] (by decide) (Nat.le_of_ble_eq_true rfl) rfl (fun γ E => ?_)
  show V γ g cX2_coinsStruckIn 4 RX2 (rmL 0 0 0) G 0 0 0 [some (vR g b), some (vI d), none, none] []
  have hn := StI_n hI
  have hc := StI_c hI
  have hy := StI_y hI
  refine v_iconst (pc := 0) (z := 0) dX2_coinsStruckIn_0 ?_
  refine v_istore_n (pc := 1) (by decide) rfl dX2_coinsStruckIn_1 ?_
  refine v_iconst (pc := 2) (z := 0) dX2_coinsStruckIn_2 ?_
  refine v_istore_n (pc := 3) (by decide) rfl dX2_coinsStruckIn_3 ?_
  have lp4 : ∀ (m4 : Nat) (i : Int) (c : Int), (0 ≤ i ∧ i ≤ G b 5) → (c = sz i (fun k => if G (b + 6) k = d then 1 else 0)) → ((G b 5 - i).toNat) < m4 → V γ g cX2_coinsStruckIn 4 RX2 (rmL 0 0 0) G 0 0 4 [some (vR g b), some (vI d), some (vI c), some (vI i)] [] := by
    intro m4
    induction m4 with
    | zero => intro i c; intros; omega
    | succ m4 ih4 =>
      intro i c h0 hs hm4
      refine v_iload_n (pc := 4) rfl dX2_coinsStruckIn_4 ?_
      refine v_aload_n (pc := 5) rfl dX2_coinsStruckIn_5 ?_
      refine v_get (pc := 6) 5 fd_X2_43 (kdS hb) (ltS hb 0 (by decide)) (tgS hb 5 none rfl) rfl dX2_coinsStruckIn_6 ?_
      refine v_icmp_ge (pc := 9) (tgt := 31) (by omega) dX2_coinsStruckIn_9 (by decide) (fun h1 => ?_) (fun h1 => ?_)
      · skip
        refine v_iload_n (pc := 31) rfl dX2_coinsStruckIn_31 ?_
        exact v_iret (pc := 32) E (⟨by rw [hs, show i = G b 5 by omega]; rfl, rfl⟩) (Nat.le_of_ble_eq_true rfl) (Nat.le_of_ble_eq_true rfl) dX2_coinsStruckIn_32
      · skip
        refine v_aload_n (pc := 12) rfl dX2_coinsStruckIn_12 ?_
        refine v_getR (pc := 13) (j := b + 6) fd_X2_27 (kdS hb) (ltS hb 0 (by decide)) (tgS hb 7 _ rfl) dX2_coinsStruckIn_13 ?_
        refine v_iload_n (pc := 16) rfl dX2_coinsStruckIn_16 ?_
        refine v_iald (pc := 17) (N := 40) (kdS_i hb 6 (by decide)) (lnS_40 hb 6 (by decide)) (ltS hb 6 (by decide)) (by omega) (by decide) dX2_coinsStruckIn_17 ?_
        have r2 := StI_k hI (k := i) (by omega) (by omega)
        refine v_iload_n (pc := 18) rfl dX2_coinsStruckIn_18 ?_
        refine v_icmp_ne (pc := 19) (tgt := 25) (by omega) dX2_coinsStruckIn_19 (by decide) (fun h3 => ?_) (fun h3 => ?_)
        · skip
          refine v_iinc (pc := 25) (y := 1) rfl (by decide) rfl dX2_coinsStruckIn_25 ?_
          refine v_goto (pc := 28) (tgt := 4) dX2_coinsStruckIn_28 (by decide) ?_
          exact ih4 (i + 1) c (by omega) (by rw [sz_s (by omega)]; first | (rw [if_pos (by omega)]; omega) | (rw [if_neg (by omega)]; omega) | omega) (by omega)
        · skip
          refine v_iinc (pc := 22) (y := 1) rfl (by decide) rfl dX2_coinsStruckIn_22 ?_
          refine v_iinc (pc := 25) (y := 1) rfl (by decide) rfl dX2_coinsStruckIn_25 ?_
          refine v_goto (pc := 28) (tgt := 4) dX2_coinsStruckIn_28 (by decide) ?_
          exact ih4 (i + 1) (c + 1) (by omega) (by rw [sz_s (by omega)]; first | (rw [if_pos (by omega)]; omega) | (rw [if_neg (by omega)]; omega) | omega) (by omega)
  refine v_loc (L' := [some (vR g b), some (vI d), some (vI 0), some (vI 0)]) (⟨rfl, rfl, rfl, rfl, trivial⟩) ?_
  exact lp4 _ 0 0 (by omega) rfl (Nat.lt_succ_self _)
set_option maxHeartbeats 4000000 in
set_option maxRecDepth 100000 in
theorem c_X2_coinsGraded {g : GT} {b : Nat} {G : Mem} (hb : isS b) (hI : StI G b) {d : Int} (hd : -2147483648 ≤ d ∧ d < 2147483648) : Ctr g yX2_coinsGraded cX2_coinsGraded 4 (some FieldType.int) (rmL 0 0 0) [vR g b, vI d] G (RM (cntE (G b 5) (G (b + 7)) d) G) NoX := by
  refine ctr_of [some (vR g b), some (vI d), none, none] (by decide) (Nat.le_of_ble_eq_true rfl) rfl (fun γ E => ?_)
  show V γ g cX2_coinsGraded 4 RX2 (rmL 0 0 0) G 0 0 0 [some (vR g b), some (vI d), none, none] []
  have hn := StI_n hI
  have hc := StI_c hI
  have hy := StI_y hI
  refine v_iconst (pc := 0) (z := 0) dX2_coinsGraded_0 ?_
  refine v_istore_n (pc := 1) (by decide) rfl dX2_coinsGraded_1 ?_
  refine v_iconst (pc := 2) (z := 0) dX2_coinsGraded_2 ?_
  refine v_istore_n (pc := 3) (by decide) rfl dX2_coinsGraded_3 ?_
  have lp4 : ∀ (m4 : Nat) (i : Int) (c : Int), (0 ≤ i ∧ i ≤ G b 5) → (c = sz i (fun k => if G (b + 7) k = d then 1 else 0)) → ((G b 5 - i).toNat) < m4 → V γ g cX2_coinsGraded 4 RX2 (rmL 0 0 0) G 0 0 4 [some (vR g b), some (vI d), some (vI c), some (vI i)] [] := by
    intro m4
    induction m4 with
    | zero => intro i c; intros; omega
    | succ m4 ih4 =>
      intro i c h0 hs hm4
      refine v_iload_n (pc := 4) rfl dX2_coinsGraded_4 ?_
      refine v_aload_n (pc := 5) rfl dX2_coinsGraded_5 ?_
      refine v_get (pc := 6) 5 fd_X2_43 (kdS hb) (ltS hb 0 (by decide)) (tgS hb 5 none rfl) rfl dX2_coinsGraded_6 ?_
      refine v_icmp_ge (pc := 9) (tgt := 31) (by omega) dX2_coinsGraded_9 (by decide) (fun h1 => ?_) (fun h1 => ?_)
      · skip
        refine v_iload_n (pc := 31) rfl dX2_coinsGraded_31 ?_
        exact v_iret (pc := 32) E (⟨by rw [hs, show i = G b 5 by omega]; rfl, rfl⟩) (Nat.le_of_ble_eq_true rfl) (Nat.le_of_ble_eq_true rfl) dX2_coinsGraded_32
      · skip
        refine v_aload_n (pc := 12) rfl dX2_coinsGraded_12 ?_
        refine v_getR (pc := 13) (j := b + 7) fd_X2_30 (kdS hb) (ltS hb 0 (by decide)) (tgS hb 8 _ rfl) dX2_coinsGraded_13 ?_
        refine v_iload_n (pc := 16) rfl dX2_coinsGraded_16 ?_
        refine v_iald (pc := 17) (N := 40) (kdS_i hb 7 (by decide)) (lnS_40 hb 7 (by decide)) (ltS hb 7 (by decide)) (by omega) (by decide) dX2_coinsGraded_17 ?_
        have r2 := StI_k hI (k := i) (by omega) (by omega)
        refine v_iload_n (pc := 18) rfl dX2_coinsGraded_18 ?_
        refine v_icmp_ne (pc := 19) (tgt := 25) (by omega) dX2_coinsGraded_19 (by decide) (fun h3 => ?_) (fun h3 => ?_)
        · skip
          refine v_iinc (pc := 25) (y := 1) rfl (by decide) rfl dX2_coinsGraded_25 ?_
          refine v_goto (pc := 28) (tgt := 4) dX2_coinsGraded_28 (by decide) ?_
          exact ih4 (i + 1) c (by omega) (by rw [sz_s (by omega)]; first | (rw [if_pos (by omega)]; omega) | (rw [if_neg (by omega)]; omega) | omega) (by omega)
        · skip
          refine v_iinc (pc := 22) (y := 1) rfl (by decide) rfl dX2_coinsGraded_22 ?_
          refine v_iinc (pc := 25) (y := 1) rfl (by decide) rfl dX2_coinsGraded_25 ?_
          refine v_goto (pc := 28) (tgt := 4) dX2_coinsGraded_28 (by decide) ?_
          exact ih4 (i + 1) (c + 1) (by omega) (by rw [sz_s (by omega)]; first | (rw [if_pos (by omega)]; omega) | (rw [if_neg (by omega)]; omega) | omega) (by omega)
  refine v_loc (L' := [some (vR g b), some (vI d), some (vI 0), some (vI 0)]) (⟨rfl, rfl, rfl, rfl, trivial⟩) ?_
  exact lp4 _ 0 0 (by omega) rfl (Nat.lt_succ_self _)
set_option maxHeartbeats 4000000 in
set_option maxRecDepth 100000 in
theorem c_X2_weightOfCoins {g : GT} {b : Nat} {G : Mem} (hb : isS b) (hI : StI G b) : Ctr g yX2_weightOfCoins cX2_weightOfCoins 3 (some FieldType.int) (rmL 0 0 0) [vR g b] G (RM (wgt (G b 5) (G (b + 5)) (G (b + 2))) G) NoX := by
  refine ctr_of [some (vR g b), none, none] (by decide) (Nat.le_of_ble_eq_true rfl) rfl (fun γ E => ?_)
  show V γ g cX2_weightOfCoins 3 RX2 (rmL 0 0 0) G 0 0 0 [some (vR g b), none, none] []
  have hn := StI_n hI
  have hc := StI_c hI
  have hy := StI_y hI
  refine v_iconst (pc := 0) (z := 0) dX2_weightOfCoins_0 ?_
  refine v_istore_n (pc := 1) (by decide) rfl dX2_weightOfCoins_1 ?_
  refine v_iconst (pc := 2) (z := 0) dX2_weightOfCoins_2 ?_
  refine v_istore_n (pc := 3) (by decide) rfl dX2_weightOfCoins_3 ?_
  have lp4 : ∀ (m4 : Nat) (i : Int) (c : Int), (0 ≤ i ∧ i ≤ G b 5) → (c = sz i (fun k => G (b + 2) (G (b + 5) k))) → ((G b 5 - i).toNat) < m4 → V γ g cX2_weightOfCoins 3 RX2 (rmL 0 0 0) G 0 0 4 [some (vR g b), some (vI c), some (vI i)] [] := by
    intro m4
    induction m4 with
    | zero => intro i c; intros; omega
    | succ m4 ih4 =>
      intro i c h0 hs hm4
      refine v_iload_n (pc := 4) rfl dX2_weightOfCoins_4 ?_
      refine v_aload_n (pc := 5) rfl dX2_weightOfCoins_5 ?_
      refine v_get (pc := 6) 5 fd_X2_43 (kdS hb) (ltS hb 0 (by decide)) (tgS hb 5 none rfl) rfl dX2_weightOfCoins_6 ?_
      refine v_icmp_ge (pc := 9) (tgt := 32) (by omega) dX2_weightOfCoins_9 (by decide) (fun h1 => ?_) (fun h1 => ?_)
      · skip
        refine v_iload_n (pc := 32) rfl dX2_weightOfCoins_32 ?_
        exact v_iret (pc := 33) E (⟨by rw [hs, show i = G b 5 by omega]; rfl, rfl⟩) (Nat.le_of_ble_eq_true rfl) (Nat.le_of_ble_eq_true rfl) dX2_weightOfCoins_33
      · skip
        refine v_iload_n (pc := 12) rfl dX2_weightOfCoins_12 ?_
        refine v_aload_n (pc := 13) rfl dX2_weightOfCoins_13 ?_
        refine v_getR (pc := 14) (j := b + 2) fd_X2_15 (kdS hb) (ltS hb 0 (by decide)) (tgS hb 2 _ rfl) dX2_weightOfCoins_14 ?_
        refine v_aload_n (pc := 17) rfl dX2_weightOfCoins_17 ?_
        refine v_getR (pc := 18) (j := b + 5) fd_X2_24 (kdS hb) (ltS hb 0 (by decide)) (tgS hb 6 _ rfl) dX2_weightOfCoins_18 ?_
        refine v_iload_n (pc := 21) rfl dX2_weightOfCoins_21 ?_
        refine v_iald (pc := 22) (N := 40) (kdS_i hb 5 (by decide)) (lnS_40 hb 5 (by decide)) (ltS hb 5 (by decide)) (by omega) (by decide) dX2_weightOfCoins_22 ?_
        have r2 := StI_k hI (k := i) (by omega) (by omega)
        refine v_iald (pc := 23) (N := 5) (kdS_i hb 2 (by decide)) (lnS_5 hb 2 (by decide)) (ltS hb 2 (by decide)) (by omega) (by decide) dX2_weightOfCoins_23 ?_
        have r3 := StI_d hI (i := (G (b + 5) i)) (by omega) (by omega)
        refine v_iadd (pc := 24) dX2_weightOfCoins_24 ?_
        refine v_istore_n (pc := 25) (by decide) rfl dX2_weightOfCoins_25 ?_
        refine v_iinc (pc := 26) (y := 1) rfl (by decide) rfl dX2_weightOfCoins_26 ?_
        refine v_goto (pc := 29) (tgt := 4) dX2_weightOfCoins_29 (by decide) ?_
        exact ih4 (i + 1) (c + (G (b + 2) (G (b + 5) i))) (by omega) (by rw [sz_s (by omega)]; first | (rw [if_pos (by omega)]; omega) | (rw [if_neg (by omega)]; omega) | omega) (by omega)
  refine v_loc (L' := [some (vR g b), some (vI 0), some (vI 0)]) (⟨rfl, rfl, rfl, trivial⟩) ?_
  exact lp4 _ 0 0 (by omega) rfl (Nat.lt_succ_self _)
set_option maxHeartbeats 4000000 in
set_option maxRecDepth 100000 in
theorem c_X2_gramsFromMelting {g : GT} {b : Nat} {G : Mem} (hb : isS b) (hI : StI G b) {d : Int} (hd : -2147483648 ≤ d ∧ d < 2147483648) : Ctr g yX2_gramsFromMelting cX2_gramsFromMelting 4 (some FieldType.int) (rmL 0 0 0) [vR g b, vI d] G (RM (mlt (G b 5) (G (b + 5)) (G (b + 2)) (G (b + 6)) (G (b + 7)) d) G) NoX := by
  refine ctr_of [some (vR g b), some (vI d), none, none] (by decide) (Nat.le_of_ble_eq_true rfl) rfl (fun γ E => ?_)
  show V γ g cX2_gramsFromMelting 4 RX2 (rmL 0 0 0) G 0 0 0 [some (vR g b), some (vI d), none, none] []
  have hn := StI_n hI
  have hc := StI_c hI
  have hy := StI_y hI
  refine v_iconst (pc := 0) (z := 0) dX2_gramsFromMelting_0 ?_
  refine v_istore_n (pc := 1) (by decide) rfl dX2_gramsFromMelting_1 ?_
  refine v_iconst (pc := 2) (z := 0) dX2_gramsFromMelting_2 ?_
  refine v_istore_n (pc := 3) (by decide) rfl dX2_gramsFromMelting_3 ?_
  have lp4 : ∀ (m4 : Nat) (i : Int) (c : Int), (0 ≤ i ∧ i ≤ G b 5) → (c = sz i (fun k => if G (b + 6) k = d then mxI 0 (G (b + 2) (G (b + 5) k) - G (b + 7) k) else 0)) → ((G b 5 - i).toNat) < m4 → V γ g cX2_gramsFromMelting 4 RX2 (rmL 0 0 0) G 0 0 4 [some (vR g b), some (vI d), some (vI c), some (vI i)] [] := by
    intro m4
    induction m4 with
    | zero => intro i c; intros; omega
    | succ m4 ih4 =>
      intro i c h0 hs hm4
      refine v_iload_n (pc := 4) rfl dX2_gramsFromMelting_4 ?_
      refine v_aload_n (pc := 5) rfl dX2_gramsFromMelting_5 ?_
      refine v_get (pc := 6) 5 fd_X2_43 (kdS hb) (ltS hb 0 (by decide)) (tgS hb 5 none rfl) rfl dX2_gramsFromMelting_6 ?_
      refine v_icmp_ge (pc := 9) (tgt := 53) (by omega) dX2_gramsFromMelting_9 (by decide) (fun h1 => ?_) (fun h1 => ?_)
      · skip
        refine v_iload_n (pc := 53) rfl dX2_gramsFromMelting_53 ?_
        exact v_iret (pc := 54) E (⟨by rw [hs, show i = G b 5 by omega]; rfl, rfl⟩) (Nat.le_of_ble_eq_true rfl) (Nat.le_of_ble_eq_true rfl) dX2_gramsFromMelting_54
      · skip
        refine v_aload_n (pc := 12) rfl dX2_gramsFromMelting_12 ?_
        refine v_getR (pc := 13) (j := b + 6) fd_X2_27 (kdS hb) (ltS hb 0 (by decide)) (tgS hb 7 _ rfl) dX2_gramsFromMelting_13 ?_
        refine v_iload_n (pc := 16) rfl dX2_gramsFromMelting_16 ?_
        refine v_iald (pc := 17) (N := 40) (kdS_i hb 6 (by decide)) (lnS_40 hb 6 (by decide)) (ltS hb 6 (by decide)) (by omega) (by decide) dX2_gramsFromMelting_17 ?_
        have r2 := StI_k hI (k := i) (by omega) (by omega)
        refine v_iload_n (pc := 18) rfl dX2_gramsFromMelting_18 ?_
        refine v_icmp_ne (pc := 19) (tgt := 47) (by omega) dX2_gramsFromMelting_19 (by decide) (fun h3 => ?_) (fun h3 => ?_)
        · skip
          refine v_iinc (pc := 47) (y := 1) rfl (by decide) rfl dX2_gramsFromMelting_47 ?_
          refine v_goto (pc := 50) (tgt := 4) dX2_gramsFromMelting_50 (by decide) ?_
          exact ih4 (i + 1) c (by omega) (by rw [sz_s (by omega)]; first | (rw [if_pos (by omega)]; omega) | (rw [if_neg (by omega)]; omega) | omega) (by omega)
        · skip
          refine v_iload_n (pc := 22) rfl dX2_gramsFromMelting_22 ?_
          refine v_iconst (pc := 23) (z := 0) dX2_gramsFromMelting_23 ?_
          refine v_aload_n (pc := 24) rfl dX2_gramsFromMelting_24 ?_
          refine v_getR (pc := 25) (j := b + 2) fd_X2_15 (kdS hb) (ltS hb 0 (by decide)) (tgS hb 2 _ rfl) dX2_gramsFromMelting_25 ?_
          refine v_aload_n (pc := 28) rfl dX2_gramsFromMelting_28 ?_
          refine v_getR (pc := 29) (j := b + 5) fd_X2_24 (kdS hb) (ltS hb 0 (by decide)) (tgS hb 6 _ rfl) dX2_gramsFromMelting_29 ?_
          refine v_iload_n (pc := 32) rfl dX2_gramsFromMelting_32 ?_
          refine v_iald (pc := 33) (N := 40) (kdS_i hb 5 (by decide)) (lnS_40 hb 5 (by decide)) (ltS hb 5 (by decide)) (by omega) (by decide) dX2_gramsFromMelting_33 ?_
          have r4 := StI_k hI (k := i) (by omega) (by omega)
          refine v_iald (pc := 34) (N := 5) (kdS_i hb 2 (by decide)) (lnS_5 hb 2 (by decide)) (ltS hb 2 (by decide)) (by omega) (by decide) dX2_gramsFromMelting_34 ?_
          have r5 := StI_d hI (i := (G (b + 5) i)) (by omega) (by omega)
          refine v_aload_n (pc := 35) rfl dX2_gramsFromMelting_35 ?_
          refine v_getR (pc := 36) (j := b + 7) fd_X2_30 (kdS hb) (ltS hb 0 (by decide)) (tgS hb 8 _ rfl) dX2_gramsFromMelting_36 ?_
          refine v_iload_n (pc := 39) rfl dX2_gramsFromMelting_39 ?_
          refine v_iald (pc := 40) (N := 40) (kdS_i hb 7 (by decide)) (lnS_40 hb 7 (by decide)) (ltS hb 7 (by decide)) (by omega) (by decide) dX2_gramsFromMelting_40 ?_
          have r6 := StI_k hI (k := i) (by omega) (by omega)
          refine v_isub (pc := 41) dX2_gramsFromMelting_41 ?_
          refine v_mmax (pc := 42) (by omega) wM_X2_67 (Nat.le_of_ble_eq_true rfl) (Nat.le_of_ble_eq_true rfl) (Nat.le_of_ble_eq_true rfl) (Nat.le_of_ble_eq_true rfl) (Nat.le_of_ble_eq_true rfl) dX2_gramsFromMelting_42 ?_
          refine v_iadd (pc := 45) dX2_gramsFromMelting_45 ?_
          refine v_istore_n (pc := 46) (by decide) rfl dX2_gramsFromMelting_46 ?_
          refine v_iinc (pc := 47) (y := 1) rfl (by decide) rfl dX2_gramsFromMelting_47 ?_
          refine v_goto (pc := 50) (tgt := 4) dX2_gramsFromMelting_50 (by decide) ?_
          exact ih4 (i + 1) (c + (mxI 0 ((G (b + 2) (G (b + 5) i)) - (G (b + 7) i)))) (by omega) (by rw [sz_s (by omega)]; first | (rw [if_pos (by omega)]; omega) | (rw [if_neg (by omega)]; omega) | omega) (by omega)
  refine v_loc (L' := [some (vR g b), some (vI d), some (vI 0), some (vI 0)]) (⟨rfl, rfl, rfl, rfl, trivial⟩) ?_
  exact lp4 _ 0 0 (by omega) rfl (Nat.lt_succ_self _)
set_option maxHeartbeats 4000000 in
set_option maxRecDepth 100000 in
theorem c_X2_diesWornMoreThan {g : GT} {b : Nat} {G : Mem} (hb : isS b) (hI : StI G b) {d : Int} (hd : 0 ≤ d ∧ d < G b 0) : Ctr g yX2_diesWornMoreThan cX2_diesWornMoreThan 5 (some FieldType.int) (rmL 0 0 0) [vR g b, vI d] G (RM (ahd (G b 0) (G (b + 3)) (G (b + 1)) d) G) NoX := by
  refine ctr_of [some (vR g b), some (vI d), none, none, none] (by decide) (Nat.le_of_ble_eq_true rfl) rfl (fun γ E => ?_)
  show V γ g cX2_diesWornMoreThan 5 RX2 (rmL 0 0 0) G 0 0 0 [some (vR g b), some (vI d), none, none, none] []
  have hn := StI_n hI
  have hc := StI_c hI
  have hy := StI_y hI
  refine v_iconst (pc := 0) (z := 0) dX2_diesWornMoreThan_0 ?_
  refine v_istore_n (pc := 1) (by decide) rfl dX2_diesWornMoreThan_1 ?_
  refine v_iconst (pc := 2) (z := 0) dX2_diesWornMoreThan_2 ?_
  refine v_istore_n (pc := 3) (by decide) rfl dX2_diesWornMoreThan_3 ?_
  have lp4 : ∀ (m4 : Nat) (i : Int) (c : Int), (0 ≤ i ∧ i ≤ G b 0) → (c = sz i (fun o => if G (b + 3) d < G (b + 3) o ∨ (G (b + 3) o = G (b + 3) d ∧ G (b + 1) d < G (b + 1) o) then 1 else 0)) → ((G b 0 - i).toNat) < m4 → V γ g cX2_diesWornMoreThan 5 RX2 (rmL 0 0 0) G 0 0 4 [some (vR g b), some (vI d), some (vI c), some (vI i), none] [] := by
    intro m4
    induction m4 with
    | zero => intro i c; intros; omega
    | succ m4 ih4 =>
      intro i c h0 hs hm4
      refine v_iload_n (pc := 4) rfl dX2_diesWornMoreThan_4 ?_
      refine v_aload_n (pc := 5) rfl dX2_diesWornMoreThan_5 ?_
      refine v_get (pc := 6) 0 fd_X2_33 (kdS hb) (ltS hb 0 (by decide)) (tgS hb 0 none rfl) rfl dX2_diesWornMoreThan_6 ?_
      refine v_icmp_ge (pc := 9) (tgt := 78) (by omega) dX2_diesWornMoreThan_9 (by decide) (fun h1 => ?_) (fun h1 => ?_)
      · skip
        refine v_iload_n (pc := 78) rfl dX2_diesWornMoreThan_78 ?_
        exact v_iret (pc := 79) E (⟨by rw [hs, show i = G b 0 by omega]; rfl, rfl⟩) (Nat.le_of_ble_eq_true rfl) (Nat.le_of_ble_eq_true rfl) dX2_diesWornMoreThan_79
      · skip
        refine v_aload_n (pc := 12) rfl dX2_diesWornMoreThan_12 ?_
        refine v_getR (pc := 13) (j := b + 3) fd_X2_18 (kdS hb) (ltS hb 0 (by decide)) (tgS hb 3 _ rfl) dX2_diesWornMoreThan_13 ?_
        refine v_iload_n (pc := 16) rfl dX2_diesWornMoreThan_16 ?_
        refine v_iald (pc := 17) (N := 5) (kdS_i hb 3 (by decide)) (lnS_5 hb 3 (by decide)) (ltS hb 3 (by decide)) (by omega) (by decide) dX2_diesWornMoreThan_17 ?_
        have r2 := StI_d hI (i := i) (by omega) (by omega)
        refine v_aload_n (pc := 18) rfl dX2_diesWornMoreThan_18 ?_
        refine v_getR (pc := 19) (j := b + 3) fd_X2_18 (kdS hb) (ltS hb 0 (by decide)) (tgS hb 3 _ rfl) dX2_diesWornMoreThan_19 ?_
        refine v_iload_n (pc := 22) rfl dX2_diesWornMoreThan_22 ?_
        refine v_iald (pc := 23) (N := 5) (kdS_i hb 3 (by decide)) (lnS_5 hb 3 (by decide)) (ltS hb 3 (by decide)) (by omega) (by decide) dX2_diesWornMoreThan_23 ?_
        have r3 := StI_d hI (i := d) (by omega) (by omega)
        refine v_icmp_ne (pc := 24) (tgt := 31) (by omega) dX2_diesWornMoreThan_24 (by decide) (fun h4 => ?_) (fun h4 => ?_)
        · skip
          refine v_iconst (pc := 31) (z := 0) dX2_diesWornMoreThan_31 ?_
          refine v_istore (pc := 32) (by decide) rfl dX2_diesWornMoreThan_32 ?_
          refine v_aload_n (pc := 34) rfl dX2_diesWornMoreThan_34 ?_
          refine v_getR (pc := 35) (j := b + 3) fd_X2_18 (kdS hb) (ltS hb 0 (by decide)) (tgS hb 3 _ rfl) dX2_diesWornMoreThan_35 ?_
          refine v_iload_n (pc := 38) rfl dX2_diesWornMoreThan_38 ?_
          refine v_iald (pc := 39) (N := 5) (kdS_i hb 3 (by decide)) (lnS_5 hb 3 (by decide)) (ltS hb 3 (by decide)) (by omega) (by decide) dX2_diesWornMoreThan_39 ?_
          have r5 := StI_d hI (i := i) (by omega) (by omega)
          refine v_aload_n (pc := 40) rfl dX2_diesWornMoreThan_40 ?_
          refine v_getR (pc := 41) (j := b + 3) fd_X2_18 (kdS hb) (ltS hb 0 (by decide)) (tgS hb 3 _ rfl) dX2_diesWornMoreThan_41 ?_
          refine v_iload_n (pc := 44) rfl dX2_diesWornMoreThan_44 ?_
          refine v_iald (pc := 45) (N := 5) (kdS_i hb 3 (by decide)) (lnS_5 hb 3 (by decide)) (ltS hb 3 (by decide)) (by omega) (by decide) dX2_diesWornMoreThan_45 ?_
          have r6 := StI_d hI (i := d) (by omega) (by omega)
          refine v_icmp_gt (pc := 46) (tgt := 69) (by omega) dX2_diesWornMoreThan_46 (by decide) (fun h7 => ?_) (fun h7 => ?_)
          · skip
            refine v_iinc (pc := 69) (y := 1) rfl (by decide) rfl dX2_diesWornMoreThan_69 ?_
            refine v_iinc (pc := 72) (y := 1) rfl (by decide) rfl dX2_diesWornMoreThan_72 ?_
            refine v_goto (pc := 75) (tgt := 4) dX2_diesWornMoreThan_75 (by decide) ?_
            refine v_loc (L' := [some (vR g b), some (vI d), some (vI (c + 1)), some (vI (i + 1)), none]) (⟨rfl, rfl, rfl, rfl, trivial⟩) ?_
            exact ih4 (i + 1) (c + 1) (by omega) (by rw [sz_s (by omega)]; first | (rw [if_pos (by omega)]; omega) | (rw [if_neg (by omega)]; omega) | omega) (by omega)
          · skip
            refine v_iload (pc := 49) rfl dX2_diesWornMoreThan_49 ?_
            refine v_if_eq (pc := 51) (tgt := 72) (by omega) dX2_diesWornMoreThan_51 (by decide) (fun _ => ?_) (fun h8 => absurd h8 (by decide))
            refine v_iinc (pc := 72) (y := 1) rfl (by decide) rfl dX2_diesWornMoreThan_72 ?_
            refine v_goto (pc := 75) (tgt := 4) dX2_diesWornMoreThan_75 (by decide) ?_
            refine v_loc (L' := [some (vR g b), some (vI d), some (vI c), some (vI (i + 1)), none]) (⟨rfl, rfl, rfl, rfl, trivial⟩) ?_
            exact ih4 (i + 1) c (by omega) (by rw [sz_s (by omega)]; first | (rw [if_pos (by omega)]; omega) | (rw [if_neg (by omega)]; omega) | omega) (by omega)
        · skip
          refine v_iconst (pc := 27) (z := 1) dX2_diesWornMoreThan_27 ?_
          refine v_goto (pc := 28) (tgt := 32) dX2_diesWornMoreThan_28 (by decide) ?_
          refine v_istore (pc := 32) (by decide) rfl dX2_diesWornMoreThan_32 ?_
          refine v_aload_n (pc := 34) rfl dX2_diesWornMoreThan_34 ?_
          refine v_getR (pc := 35) (j := b + 3) fd_X2_18 (kdS hb) (ltS hb 0 (by decide)) (tgS hb 3 _ rfl) dX2_diesWornMoreThan_35 ?_
          refine v_iload_n (pc := 38) rfl dX2_diesWornMoreThan_38 ?_
          refine v_iald (pc := 39) (N := 5) (kdS_i hb 3 (by decide)) (lnS_5 hb 3 (by decide)) (ltS hb 3 (by decide)) (by omega) (by decide) dX2_diesWornMoreThan_39 ?_
          have r9 := StI_d hI (i := i) (by omega) (by omega)
          refine v_aload_n (pc := 40) rfl dX2_diesWornMoreThan_40 ?_
          refine v_getR (pc := 41) (j := b + 3) fd_X2_18 (kdS hb) (ltS hb 0 (by decide)) (tgS hb 3 _ rfl) dX2_diesWornMoreThan_41 ?_
          refine v_iload_n (pc := 44) rfl dX2_diesWornMoreThan_44 ?_
          refine v_iald (pc := 45) (N := 5) (kdS_i hb 3 (by decide)) (lnS_5 hb 3 (by decide)) (ltS hb 3 (by decide)) (by omega) (by decide) dX2_diesWornMoreThan_45 ?_
          have r10 := StI_d hI (i := d) (by omega) (by omega)
          refine v_icmp_gt (pc := 46) (tgt := 69) (by omega) dX2_diesWornMoreThan_46 (by decide) (fun h11 => ?_) (fun h11 => ?_)
          · skip
            refine v_iinc (pc := 69) (y := 1) rfl (by decide) rfl dX2_diesWornMoreThan_69 ?_
            refine v_iinc (pc := 72) (y := 1) rfl (by decide) rfl dX2_diesWornMoreThan_72 ?_
            refine v_goto (pc := 75) (tgt := 4) dX2_diesWornMoreThan_75 (by decide) ?_
            refine v_loc (L' := [some (vR g b), some (vI d), some (vI (c + 1)), some (vI (i + 1)), none]) (⟨rfl, rfl, rfl, rfl, trivial⟩) ?_
            exact ih4 (i + 1) (c + 1) (by omega) (by rw [sz_s (by omega)]; first | (rw [if_pos (by omega)]; omega) | (rw [if_neg (by omega)]; omega) | omega) (by omega)
          · skip
            refine v_iload (pc := 49) rfl dX2_diesWornMoreThan_49 ?_
            refine v_if_eq (pc := 51) (tgt := 72) (by omega) dX2_diesWornMoreThan_51 (by decide) (fun h12 => absurd h12 (by decide)) (fun _ => ?_)
            refine v_aload_n (pc := 54) rfl dX2_diesWornMoreThan_54 ?_
            refine v_getR (pc := 55) (j := b + 1) fd_X2_9 (kdS hb) (ltS hb 0 (by decide)) (tgS hb 1 _ rfl) dX2_diesWornMoreThan_55 ?_
            refine v_iload_n (pc := 58) rfl dX2_diesWornMoreThan_58 ?_
            refine v_iald (pc := 59) (N := 5) (kdS_i hb 1 (by decide)) (lnS_5 hb 1 (by decide)) (ltS hb 1 (by decide)) (by omega) (by decide) dX2_diesWornMoreThan_59 ?_
            have r13 := StI_d hI (i := i) (by omega) (by omega)
            refine v_aload_n (pc := 60) rfl dX2_diesWornMoreThan_60 ?_
            refine v_getR (pc := 61) (j := b + 1) fd_X2_9 (kdS hb) (ltS hb 0 (by decide)) (tgS hb 1 _ rfl) dX2_diesWornMoreThan_61 ?_
            refine v_iload_n (pc := 64) rfl dX2_diesWornMoreThan_64 ?_
            refine v_iald (pc := 65) (N := 5) (kdS_i hb 1 (by decide)) (lnS_5 hb 1 (by decide)) (ltS hb 1 (by decide)) (by omega) (by decide) dX2_diesWornMoreThan_65 ?_
            have r14 := StI_d hI (i := d) (by omega) (by omega)
            refine v_icmp_le (pc := 66) (tgt := 72) (by omega) dX2_diesWornMoreThan_66 (by decide) (fun h15 => ?_) (fun h15 => ?_)
            · skip
              refine v_iinc (pc := 72) (y := 1) rfl (by decide) rfl dX2_diesWornMoreThan_72 ?_
              refine v_goto (pc := 75) (tgt := 4) dX2_diesWornMoreThan_75 (by decide) ?_
              refine v_loc (L' := [some (vR g b), some (vI d), some (vI c), some (vI (i + 1)), none]) (⟨rfl, rfl, rfl, rfl, trivial⟩) ?_
              exact ih4 (i + 1) c (by omega) (by rw [sz_s (by omega)]; first | (rw [if_pos (by omega)]; omega) | (rw [if_neg (by omega)]; omega) | omega) (by omega)
            · skip
              refine v_iinc (pc := 69) (y := 1) rfl (by decide) rfl dX2_diesWornMoreThan_69 ?_
              refine v_iinc (pc := 72) (y := 1) rfl (by decide) rfl dX2_diesWornMoreThan_72 ?_
              refine v_goto (pc := 75) (tgt := 4) dX2_diesWornMoreThan_75 (by decide) ?_
              refine v_loc (L' := [some (vR g b), some (vI d), some (vI (c + 1)), some (vI (i + 1)), none]) (⟨rfl, rfl, rfl, rfl, trivial⟩) ?_
              exact ih4 (i + 1) (c + 1) (by omega) (by rw [sz_s (by omega)]; first | (rw [if_pos (by omega)]; omega) | (rw [if_neg (by omega)]; omega) | omega) (by omega)
  refine v_loc (L' := [some (vR g b), some (vI d), some (vI 0), some (vI 0), none]) (⟨rfl, rfl, rfl, rfl, trivial⟩) ?_
  exact lp4 _ 0 0 (by omega) rfl (Nat.lt_succ_self _)
set_option maxHeartbeats 4000000 in
set_option maxRecDepth 100000 in
theorem c_X2_isFirstOfItsKind {g : GT} {b : Nat} {G : Mem} (hb : isS b) (hI : StI G b) {d : Int} (hd : 0 ≤ d ∧ d < G b 5) : Ctr g yX2_isFirstOfItsKind cX2_isFirstOfItsKind 3 (some FieldType.boolean) (rmL 0 0 0) [vR g b, vI d] G (RM (bI (isFirst (G (b + 5)) (G (b + 6)) (G (b + 7)) d)) G) NoX := by
  refine ctr_of [some (vR g b), some (vI d), none] (by decide) (Nat.le_of_ble_eq_true rfl) rfl (fun γ E => ?_)
  show V γ g cX2_isFirstOfItsKind 3 RX2 (rmL 0 0 0) G 0 0 0 [some (vR g b), some (vI d), none] []
  have hn := StI_n hI
  have hc := StI_c hI
  have hy := StI_y hI
  refine v_iconst (pc := 0) (z := 0) dX2_isFirstOfItsKind_0 ?_
  refine v_istore_n (pc := 1) (by decide) rfl dX2_isFirstOfItsKind_1 ?_
  have lp2 : ∀ (m2 : Nat) (i : Int), (0 ≤ i ∧ i ≤ d) → (∀ e, 0 ≤ e → e < i → ¬ (G (b + 5) e = G (b + 5) d ∧ G (b + 6) e = G (b + 6) d ∧ G (b + 7) e = G (b + 7) d)) → ((d - i).toNat) < m2 → V γ g cX2_isFirstOfItsKind 3 RX2 (rmL 0 0 0) G 0 0 2 [some (vR g b), some (vI d), some (vI i)] [] := by
    intro m2
    induction m2 with
    | zero => intro i; intros; omega
    | succ m2 ih2 =>
      intro i h0 hf hm2
      refine v_iload_n (pc := 2) rfl dX2_isFirstOfItsKind_2 ?_
      refine v_iload_n (pc := 3) rfl dX2_isFirstOfItsKind_3 ?_
      refine v_icmp_ge (pc := 4) (tgt := 60) (by omega) dX2_isFirstOfItsKind_4 (by decide) (fun h1 => ?_) (fun h1 => ?_)
      · skip
        refine v_iconst (pc := 60) (z := 1) dX2_isFirstOfItsKind_60 ?_
        exact v_bret (pc := 61) E (by decide) (⟨by rw [bI_t (show isFirst _ _ _ _ from fun e a c => hf e a (by omega))], rfl⟩) (Nat.le_of_ble_eq_true rfl) (Nat.le_of_ble_eq_true rfl) dX2_isFirstOfItsKind_61
      · skip
        refine v_aload_n (pc := 7) rfl dX2_isFirstOfItsKind_7 ?_
        refine v_getR (pc := 8) (j := b + 5) fd_X2_24 (kdS hb) (ltS hb 0 (by decide)) (tgS hb 6 _ rfl) dX2_isFirstOfItsKind_8 ?_
        refine v_iload_n (pc := 11) rfl dX2_isFirstOfItsKind_11 ?_
        refine v_iald (pc := 12) (N := 40) (kdS_i hb 5 (by decide)) (lnS_40 hb 5 (by decide)) (ltS hb 5 (by decide)) (by omega) (by decide) dX2_isFirstOfItsKind_12 ?_
        have r2 := StI_k hI (k := i) (by omega) (by omega)
        refine v_aload_n (pc := 13) rfl dX2_isFirstOfItsKind_13 ?_
        refine v_getR (pc := 14) (j := b + 5) fd_X2_24 (kdS hb) (ltS hb 0 (by decide)) (tgS hb 6 _ rfl) dX2_isFirstOfItsKind_14 ?_
        refine v_iload_n (pc := 17) rfl dX2_isFirstOfItsKind_17 ?_
        refine v_iald (pc := 18) (N := 40) (kdS_i hb 5 (by decide)) (lnS_40 hb 5 (by decide)) (ltS hb 5 (by decide)) (by omega) (by decide) dX2_isFirstOfItsKind_18 ?_
        have r3 := StI_k hI (k := d) (by omega) (by omega)
        refine v_icmp_ne (pc := 19) (tgt := 54) (by omega) dX2_isFirstOfItsKind_19 (by decide) (fun h4 => ?_) (fun h4 => ?_)
        · skip
          refine v_iinc (pc := 54) (y := 1) rfl (by decide) rfl dX2_isFirstOfItsKind_54 ?_
          refine v_goto (pc := 57) (tgt := 2) dX2_isFirstOfItsKind_57 (by decide) ?_
          exact ih2 (i + 1) (by omega) (fun j a c => (Classical.em (j = i)).elim (fun e => by rw [e]; omega) (fun e => hf j a (by omega))) (by omega)
        · skip
          refine v_aload_n (pc := 22) rfl dX2_isFirstOfItsKind_22 ?_
          refine v_getR (pc := 23) (j := b + 6) fd_X2_27 (kdS hb) (ltS hb 0 (by decide)) (tgS hb 7 _ rfl) dX2_isFirstOfItsKind_23 ?_
          refine v_iload_n (pc := 26) rfl dX2_isFirstOfItsKind_26 ?_
          refine v_iald (pc := 27) (N := 40) (kdS_i hb 6 (by decide)) (lnS_40 hb 6 (by decide)) (ltS hb 6 (by decide)) (by omega) (by decide) dX2_isFirstOfItsKind_27 ?_
          have r5 := StI_k hI (k := i) (by omega) (by omega)
          refine v_aload_n (pc := 28) rfl dX2_isFirstOfItsKind_28 ?_
          refine v_getR (pc := 29) (j := b + 6) fd_X2_27 (kdS hb) (ltS hb 0 (by decide)) (tgS hb 7 _ rfl) dX2_isFirstOfItsKind_29 ?_
          refine v_iload_n (pc := 32) rfl dX2_isFirstOfItsKind_32 ?_
          refine v_iald (pc := 33) (N := 40) (kdS_i hb 6 (by decide)) (lnS_40 hb 6 (by decide)) (ltS hb 6 (by decide)) (by omega) (by decide) dX2_isFirstOfItsKind_33 ?_
          have r6 := StI_k hI (k := d) (by omega) (by omega)
          refine v_icmp_ne (pc := 34) (tgt := 54) (by omega) dX2_isFirstOfItsKind_34 (by decide) (fun h7 => ?_) (fun h7 => ?_)
          · skip
            refine v_iinc (pc := 54) (y := 1) rfl (by decide) rfl dX2_isFirstOfItsKind_54 ?_
            refine v_goto (pc := 57) (tgt := 2) dX2_isFirstOfItsKind_57 (by decide) ?_
            exact ih2 (i + 1) (by omega) (fun j a c => (Classical.em (j = i)).elim (fun e => by rw [e]; omega) (fun e => hf j a (by omega))) (by omega)
          · skip
            refine v_aload_n (pc := 37) rfl dX2_isFirstOfItsKind_37 ?_
            refine v_getR (pc := 38) (j := b + 7) fd_X2_30 (kdS hb) (ltS hb 0 (by decide)) (tgS hb 8 _ rfl) dX2_isFirstOfItsKind_38 ?_
            refine v_iload_n (pc := 41) rfl dX2_isFirstOfItsKind_41 ?_
            refine v_iald (pc := 42) (N := 40) (kdS_i hb 7 (by decide)) (lnS_40 hb 7 (by decide)) (ltS hb 7 (by decide)) (by omega) (by decide) dX2_isFirstOfItsKind_42 ?_
            have r8 := StI_k hI (k := i) (by omega) (by omega)
            refine v_aload_n (pc := 43) rfl dX2_isFirstOfItsKind_43 ?_
            refine v_getR (pc := 44) (j := b + 7) fd_X2_30 (kdS hb) (ltS hb 0 (by decide)) (tgS hb 8 _ rfl) dX2_isFirstOfItsKind_44 ?_
            refine v_iload_n (pc := 47) rfl dX2_isFirstOfItsKind_47 ?_
            refine v_iald (pc := 48) (N := 40) (kdS_i hb 7 (by decide)) (lnS_40 hb 7 (by decide)) (ltS hb 7 (by decide)) (by omega) (by decide) dX2_isFirstOfItsKind_48 ?_
            have r9 := StI_k hI (k := d) (by omega) (by omega)
            refine v_icmp_ne (pc := 49) (tgt := 54) (by omega) dX2_isFirstOfItsKind_49 (by decide) (fun h10 => ?_) (fun h10 => ?_)
            · skip
              refine v_iinc (pc := 54) (y := 1) rfl (by decide) rfl dX2_isFirstOfItsKind_54 ?_
              refine v_goto (pc := 57) (tgt := 2) dX2_isFirstOfItsKind_57 (by decide) ?_
              exact ih2 (i + 1) (by omega) (fun j a c => (Classical.em (j = i)).elim (fun e => by rw [e]; omega) (fun e => hf j a (by omega))) (by omega)
            · skip
              refine v_iconst (pc := 52) (z := 0) dX2_isFirstOfItsKind_52 ?_
              exact v_bret (pc := 53) E (by decide) (⟨by rw [bI_f (show ¬ isFirst _ _ _ _ from fun q => q i (by omega) (by omega) ⟨by omega, by omega, by omega⟩)], rfl⟩) (Nat.le_of_ble_eq_true rfl) (Nat.le_of_ble_eq_true rfl) dX2_isFirstOfItsKind_53
  refine v_loc (L' := [some (vR g b), some (vI d), some (vI 0)]) (⟨rfl, rfl, rfl, trivial⟩) ?_
  exact lp2 _ 0 (by omega) (fun j a c => absurd c (by omega)) (Nat.lt_succ_self _)
