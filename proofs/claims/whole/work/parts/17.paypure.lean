-- tables of payments
/-- the fewest coins for the amount a when fewer than t coins of the value v are taken, and f tells the rest -/
def mnT (f : Int → Int) (v a : Int) : Nat → Int
  | 0 => 1000
  | t + 1 => if (t : Int) * v ≤ a ∧ f (a - (t : Int) * v) + t < mnT f v a t then f (a - (t : Int) * v) + t else mnT f v a t
def rowF (f : Int → Int) (v c a : Int) : Int := mnT f v a (c + 1).toNat
/-- the table: row r for the r smallest values; vs, cn by rank -/
def Tab (vs cn : Int → Int) : Nat → Int → Int
  | 0 => fun a => if a = 0 then 0 else 1000
  | r + 1 => rowF (Tab vs cn r) (vs r) (cn r)
theorem mnT_le (f : Int → Int) (v a : Int) : ∀ t, mnT f v a t ≤ 1000
  | 0 => Int.le_refl _
  | t + 1 => by
    have := mnT_le f v a t
    unfold mnT
    split <;> omega
theorem mnT_ge {f : Int → Int} {v a : Int} (h : ∀ x, 0 ≤ x → x ≤ a → 0 ≤ f x) (hv : 0 ≤ v) : ∀ t, 0 ≤ mnT f v a t
  | 0 => by show (0 : Int) ≤ 1000; omega
  | t + 1 => by
    have := mnT_ge h hv t
    unfold mnT
    split
    · rename_i q
      have h0 : 0 ≤ (t : Int) * v := Int.mul_nonneg (by omega) hv
      have := h (a - (t : Int) * v) (by omega) (by omega)
      omega
    · omega
/-- taking too much changes nothing -/
theorem mnT_stop {f : Int → Int} {v a : Int} (hv : 0 ≤ v) {t : Nat} (h : a < (t : Int) * v) : ∀ s, mnT f v a (t + s) = mnT f v a t
  | 0 => rfl
  | s + 1 => by
    show (if ((t + s : Nat) : Int) * v ≤ a ∧ _ then _ else _) = _
    have h1 : (t : Int) * v ≤ ((t + s : Nat) : Int) * v := Int.mul_le_mul_of_nonneg_right (by omega) hv
    rw [if_neg (by omega)]
    exact mnT_stop hv h s
theorem Tab_r {vs cn : Int → Int} (hv : ∀ r, 0 ≤ vs r ∨ True) (n : Nat) (h : ∀ r : Nat, r < n → 0 ≤ vs r) : ∀ r, r ≤ n → ∀ a, 0 ≤ Tab vs cn r a ∧ Tab vs cn r a ≤ 1000
  | 0, _, a => by show 0 ≤ (if a = 0 then (0 : Int) else 1000) ∧ (if a = 0 then (0 : Int) else 1000) ≤ 1000; split <;> omega
  | r + 1, hr, a => ⟨mnT_ge (fun x _ _ => (Tab_r hv n h r (by omega) x).1) (h r (by omega)) _, mnT_le _ _ _ _⟩
theorem mnT_congr {f g : Int → Int} {v a : Int} (hv : 0 ≤ v) (h : ∀ x, 0 ≤ x → x ≤ a → f x = g x) : ∀ t, mnT f v a t = mnT g v a t
  | 0 => rfl
  | t + 1 => by
    show (if _ ∧ _ then _ else _) = (if _ ∧ _ then _ else _)
    have ih := mnT_congr hv h t
    have h0 : 0 ≤ (t : Int) * v := Int.mul_nonneg (by omega) hv
    by_cases q : (t : Int) * v ≤ a
    · rw [h _ (by omega) (by omega), ih]
    · rw [if_neg (fun z => q z.1), if_neg (fun z => q z.1), ih]
/-- how many coins of a value are taken: the most, so that the rest has its fewest -/
def mst (f : Int → Int) (fe v x : Int) : Nat → Int
  | 0 => 0
  | t + 1 => if ((t : Int) + 1) * v ≤ x ∧ f (x - ((t : Int) + 1) * v) + ((t : Int) + 1) = fe then (t : Int) + 1 else mst f fe v x t
theorem mst_r (f : Int → Int) (fe v x : Int) : ∀ t : Nat, 0 ≤ mst f fe v x t ∧ mst f fe v x t ≤ t
  | 0 => by show (0 : Int) ≤ 0 ∧ (0 : Int) ≤ 0; omega
  | t + 1 => by
    have := mst_r f fe v x t
    unfold mst
    split <;> omega
theorem mst_x {f : Int → Int} {fe v x : Int} (hx : 0 ≤ x) : ∀ t : Nat, mst f fe v x t * v ≤ x
  | 0 => by show (0 : Int) * v ≤ x; omega
  | t + 1 => by
    unfold mst
    split
    · rename_i q; exact q.1
    · exact mst_x hx t
theorem mst_congr {f g : Int → Int} {fe v x : Int} (hv : 0 ≤ v) (h : ∀ y, 0 ≤ y → y ≤ x → f y = g y) : ∀ t, mst f fe v x t = mst g fe v x t
  | 0 => rfl
  | t + 1 => by
    show (if _ ∧ _ then _ else _) = (if _ ∧ _ then _ else _)
    have ih := mst_congr (fe := fe) hv h t
    have h0 : 0 ≤ ((t : Int) + 1) * v := Int.mul_nonneg (by omega) hv
    by_cases q : ((t : Int) + 1) * v ≤ x
    · rw [h _ (by omega) (by omega), ih]
    · rw [if_neg (fun z => q z.1), if_neg (fun z => q z.1), ih]
/-- what is left behind the k greatest values -/
def rsF (vs cn : Int → Int) (n a : Int) : Nat → Int
  | 0 => a
  | k + 1 => rsF vs cn n a k - mst (Tab vs cn (n - 1 - k).toNat) (Tab vs cn ((n - 1 - k).toNat + 1) (rsF vs cn n a k)) (vs (n - 1 - k)) (rsF vs cn n a k) (cn (n - 1 - k)).toNat * vs (n - 1 - k)
/-- how many coins of the rank r are used -/
def usF (vs cn : Int → Int) (n a r : Int) : Int := mst (Tab vs cn r.toNat) (Tab vs cn (r.toNat + 1) (rsF vs cn n a (n - 1 - r).toNat)) (vs r) (rsF vs cn n a (n - 1 - r).toNat) (cn r).toNat
theorem rsF_s {vs cn : Int → Int} {n a r : Int} (h : 0 ≤ r ∧ r < n) : rsF vs cn n a (n - r).toNat = rsF vs cn n a (n - 1 - r).toNat - usF vs cn n a r * vs r := by
  have e : (n - r).toNat = (n - 1 - r).toNat + 1 := by omega
  rw [e]
  show rsF vs cn n a (n - 1 - r).toNat - mst (Tab vs cn (n - 1 - (((n - 1 - r).toNat : Nat) : Int)).toNat) _ _ _ _ * _ = _
  rw [show n - 1 - (((n - 1 - r).toNat : Nat) : Int) = r by omega]
  rfl
theorem rsF_r {vs cn : Int → Int} {n a : Int} (ha : 0 ≤ a) (hv : ∀ r, 0 ≤ r → r < n → 0 ≤ vs r) : ∀ k : Nat, (k : Int) ≤ n → 0 ≤ rsF vs cn n a k ∧ rsF vs cn n a k ≤ a
  | 0, _ => by show 0 ≤ a ∧ a ≤ a; omega
  | k + 1, hk => by
    have ih := rsF_r (cn := cn) ha hv k (by omega)
    show 0 ≤ _ - _ ∧ _ - _ ≤ a
    have h1 := mst_x (f := Tab vs cn (n - 1 - k).toNat) (fe := Tab vs cn ((n - 1 - k).toNat + 1) (rsF vs cn n a k)) (v := vs (n - 1 - k)) ih.1 (cn (n - 1 - k)).toNat
    have h2 := mst_r (Tab vs cn (n - 1 - k).toNat) (Tab vs cn ((n - 1 - k).toNat + 1) (rsF vs cn n a k)) (vs (n - 1 - k)) (rsF vs cn n a k) (cn (n - 1 - k)).toNat
    have h3 := Int.mul_nonneg h2.1 (hv (n - 1 - k) (by omega) (by omega))
    omega
theorem usF_r {vs cn : Int → Int} {n a r : Int} (hc : 0 ≤ cn r) : 0 ≤ usF vs cn n a r ∧ usF vs cn n a r ≤ cn r := by
  have := mst_r (Tab vs cn r.toNat) (Tab vs cn (r.toNat + 1) (rsF vs cn n a (n - 1 - r).toNat)) (vs r) (rsF vs cn n a (n - 1 - r).toNat) (cn r).toNat
  unfold usF
  omega
/-- the least is reached -/
theorem mnT_at {f : Int → Int} {v a : Int} : ∀ t : Nat, mnT f v a t < 1000 → ∃ s : Nat, s < t ∧ (s : Int) * v ≤ a ∧ f (a - (s : Int) * v) + s = mnT f v a t
  | 0, h => by have : (1000 : Int) < 1000 := h; omega
  | t + 1, h => by
    by_cases q : (t : Int) * v ≤ a ∧ f (a - (t : Int) * v) + t < mnT f v a t
    · refine ⟨t, by omega, q.1, ?_⟩
      show _ = (if _ then _ else _)
      rw [if_pos q]
    · have e : mnT f v a (t + 1) = mnT f v a t := if_neg q
      rw [e] at h ⊢
      obtain ⟨s, h1, h2, h3⟩ := mnT_at t h
      exact ⟨s, by omega, h2, h3⟩
theorem mst_at {f : Int → Int} {fe v x : Int} : ∀ t s : Nat, s ≤ t → (s : Int) * v ≤ x → f (x - (s : Int) * v) + s = fe → f (x - mst f fe v x t * v) + mst f fe v x t = fe
  | 0, s, h, _, h2 => by
    have e : s = 0 := by omega
    rw [e] at h2
    exact h2
  | t + 1, s, h, h1, h2 => by
    by_cases q : ((t : Int) + 1) * v ≤ x ∧ f (x - ((t : Int) + 1) * v) + ((t : Int) + 1) = fe
    · have e : mst f fe v x (t + 1) = (t : Int) + 1 := if_pos q
      rw [e]; exact q.2
    · have e : mst f fe v x (t + 1) = mst f fe v x t := if_neg q
      rw [e]
      refine mst_at t s ?_ h1 h2
      apply Classical.byContradiction
      intro z
      have e2 : s = t + 1 := by omega
      rw [e2] at h1 h2
      exact q ⟨by simpa using h1, by simpa using h2⟩
/-- step by step the fewest coins are used -/
theorem usF_sum {vs cn : Int → Int} {n a : Int} (hn : 0 ≤ n) (hc : ∀ r, 0 ≤ r → r < n → 0 ≤ cn r) (hT : ∀ r : Nat, (r : Int) ≤ n → ∀ x, 0 ≤ Tab vs cn r x) (hp : Tab vs cn n.toNat a < 1000) : ∀ k : Nat, (k : Int) ≤ n → Tab vs cn (n - k).toNat (rsF vs cn n a k) + sz k (fun j => usF vs cn n a (n - 1 - j)) = Tab vs cn n.toNat a
  | 0, _ => by
    rw [show ((0 : Nat) : Int) = 0 from rfl, sz_0, show n - 0 = n by omega]
    show Tab vs cn n.toNat a + 0 = _
    omega
  | k + 1, hk => by
    have ih := usF_sum hn hc hT hp k (by omega)
    rw [show ((k + 1 : Nat) : Int) = (k : Int) + 1 by omega, sz_s (by omega)]
    have hs0 : 0 ≤ sz k (fun j => usF vs cn n a (n - 1 - j)) := sz_nn (by omega) (fun j j0 j1 => (usF_r (hc _ (by omega) (by omega))).1)
    have e1 : (n - k).toNat = (n - 1 - k).toNat + 1 := by omega
    have e2 : n - 1 - (n - 1 - (k : Int)) = k := by omega
    have hlt : Tab vs cn ((n - 1 - k).toNat + 1) (rsF vs cn n a k) < 1000 := by rw [← e1]; omega
    obtain ⟨s, s1, s2, s3⟩ := mnT_at _ hlt
    have e3 := rsF_s (vs := vs) (cn := cn) (a := a) (n := n) (r := n - 1 - k) (by omega)
    have e4 : (n - (n - 1 - (k : Int))).toNat = k + 1 := by omega
    have e5 : (n - 1 - (n - 1 - (k : Int))).toNat = k := by omega
    have hcr := hc (n - 1 - k) (by omega) (by omega)
    rw [e4, e5] at e3
    have e6 : (((n - 1 - (k : Int)).toNat : Nat) : Int) = n - 1 - k := by omega
    rw [e6] at s1 s2 s3
    have hm := mst_at (f := Tab vs cn (n - 1 - k).toNat) (fe := Tab vs cn ((n - 1 - k).toNat + 1) (rsF vs cn n a k)) (v := vs (n - 1 - k)) (x := rsF vs cn n a k) (cn (n - 1 - k)).toNat s (by omega) s2 (by rw [s3]; show mnT _ _ _ _ = mnT _ _ _ _; rw [e6])
    have eu : usF vs cn n a (n - 1 - k) = mst (Tab vs cn (n - 1 - k).toNat) (Tab vs cn ((n - 1 - k).toNat + 1) (rsF vs cn n a k)) (vs (n - 1 - k)) (rsF vs cn n a k) (cn (n - 1 - k)).toNat := by
      unfold usF
      rw [e5]
    rw [← eu, ← e3, ← e1] at hm
    rw [show n - ((k : Int) + 1) = n - 1 - k by omega]
    omega
/-- all is used -/
theorem usF_all {vs cn : Int → Int} {n a : Int} (hn : 0 ≤ n) (hc : ∀ r, 0 ≤ r → r < n → 0 ≤ cn r) (hT : ∀ r : Nat, (r : Int) ≤ n → ∀ x, 0 ≤ Tab vs cn r x) (hp : Tab vs cn n.toNat a < 1000) : sz n (fun j => usF vs cn n a (n - 1 - j)) = Tab vs cn n.toNat a := by
  have h := usF_sum hn hc hT hp n.toNat (by omega)
  rw [show ((n.toNat : Nat) : Int) = n by omega, show n - n = 0 by omega] at h
  have h0 : 0 ≤ sz n (fun j => usF vs cn n a (n - 1 - j)) := sz_nn hn (fun j j0 j1 => (usF_r (hc _ (by omega) (by omega))).1)
  have e : Tab vs cn (0 : Int).toNat (rsF vs cn n a n.toNat) = if rsF vs cn n a n.toNat = 0 then 0 else 1000 := rfl
  rw [e] at h
  by_cases q : rsF vs cn n a n.toNat = 0
  · rw [if_pos q] at h; omega
  · rw [if_neg q] at h; omega
/-- greedily: what is left behind the k greatest values -/
def grR (vs cn : Int → Int) (n a : Int) : Nat → Int
  | 0 => a
  | k + 1 => grR vs cn n a k - mnI (cn (n - 1 - k)) (grR vs cn n a k / vs (n - 1 - k)) * vs (n - 1 - k)
def grU (vs cn : Int → Int) (n a : Int) (k : Int) : Int := mnI (cn (n - 1 - k)) (grR vs cn n a k.toNat / vs (n - 1 - k))
theorem grR_r {vs cn : Int → Int} {n a : Int} (ha : 0 ≤ a) (hv : ∀ r, 0 ≤ r → r < n → 1 ≤ vs r) (hc : ∀ r, 0 ≤ r → r < n → 0 ≤ cn r) : ∀ k : Nat, (k : Int) ≤ n → 0 ≤ grR vs cn n a k ∧ grR vs cn n a k ≤ a
  | 0, _ => by show 0 ≤ a ∧ a ≤ a; omega
  | k + 1, hk => by
    have ih := grR_r ha hv hc k (by omega)
    show 0 ≤ _ - mnI _ _ * _ ∧ _ - mnI _ _ * _ ≤ a
    have h1 := hv (n - 1 - k) (by omega) (by omega)
    have h2 := hc (n - 1 - k) (by omega) (by omega)
    have h3 : 0 ≤ grR vs cn n a k / vs (n - 1 - k) := Int.ediv_nonneg ih.1 (by omega)
    have h4 : grR vs cn n a k / vs (n - 1 - k) * vs (n - 1 - k) ≤ grR vs cn n a k := Int.ediv_mul_le _ (by omega)
    have h5 : 0 ≤ mnI (cn (n - 1 - k)) (grR vs cn n a k / vs (n - 1 - k)) ∧ mnI (cn (n - 1 - k)) (grR vs cn n a k / vs (n - 1 - k)) ≤ grR vs cn n a k / vs (n - 1 - k) := by unfold mnI; split <;> omega
    have h6 := Int.mul_nonneg h5.1 (show 0 ≤ vs (n - 1 - k) by omega)
    have h7 := Int.mul_le_mul_of_nonneg_right h5.2 (show 0 ≤ vs (n - 1 - k) by omega)
    omega
/-- places of the table's rows -/
theorem kdT {i : Nat} (h : 94 ≤ i ∧ i ≤ 99) : kd i = 10 := by
  unfold kd
  rw [if_neg (by omega), if_neg (by omega), if_neg (by omega), if_neg (by omega), if_neg (by omega), if_neg (by omega), if_neg (by omega)]
theorem lnT {i : Nat} (h : 94 ≤ i ∧ i ≤ 99) : ln i = 100 := by
  unfold ln
  rw [if_neg (by omega), if_neg (by omega), if_neg (by omega), if_neg (by omega), if_pos (by omega)]
theorem ltT {i : Nat} (h : 94 ≤ i ∧ i ≤ 99) : i < NP := by show i < 121; omega
section VLEN
variable {γ : gT} {g : GT} {cc : ByteArray} {nL : Nat} {own : String} {rm : Room} {G : Mem} {k n : Nat} {pc idx : Nat} {L : List (Option Value)} {st : List Value}
theorem v_alen {i N : Nat} (hk : kd i = 10 ∨ kd i = 11) (hn : ln i = N) (hi : i < NP) (d : decode cc pc = .ok (.arraylength, 1)) (kk : V γ g cc nL own rm G k n (pc + 1) L (vI (N : Int) :: st)) : V γ g cc nL own rm G k n pc L (vR g i :: st) := by
  obtain ⟨p, l, e, R, s, m, args, below, meth, c0, Q⟩ := γ
  intro C H locs ls hP hS hL
  obtain ⟨q, cap, ml, bf, hs, hP1, hD1⟩ := id hP
  rcases hk with hk | hk
  · have he := (WL_get (g := g) (G := G) (q := q) (cap := cap) (ml := ml) (bf := bf) hi).trans (by rw [cel_i hk])
    exact va_alen C.1 C.2.1 C.2.2.2.2.2.2.1.1 hP1 i 0 he rfl (by rw [hn]; rfl) d (kk C H locs ls hP hS hL)
  · have he := (WL_get (g := g) (G := G) (q := q) (cap := cap) (ml := ml) (bf := bf) hi).trans (by rw [cel_j hk])
    exact va_alen C.1 C.2.1 C.2.2.2.2.2.2.1.1 hP1 i 1 he rfl (by rw [hn]; rfl) d (kk C H locs ls hP hS hL)
/-- longs as bits -/
def lushrI (z y : Int) : Int := ((Int64.ofInt z).toUInt64 >>> ((Int32.ofInt y).toInt64.toUInt64 &&& Int64.toUInt64 63)).toInt64.toInt
def lshlI (z y : Int) : Int := (Int64.ofInt z <<< ((Int32.ofInt y).toInt64 &&& 63)).toInt
def lorI (z y : Int) : Int := (Int64.ofInt z ||| Int64.ofInt y).toInt
def landI (z y : Int) : Int := (Int64.ofInt z &&& Int64.ofInt y).toInt
theorem i64_of (x : Int64) : Int64.ofInt x.toInt = x := Int64.ofInt_toInt x
theorem i64_rng (x : Int64) : -9223372036854775808 ≤ x.toInt ∧ x.toInt < 9223372036854775808 := by
  have h1 := Int64.le_toInt x
  have h2 := Int64.toInt_lt x
  omega
theorem landI_r (x y : Int) : -9223372036854775808 ≤ landI x y ∧ landI x y < 9223372036854775808 := i64_rng _
theorem v_lushr {x y : Int} (d : decode cc pc = .ok (.lushr, 1)) (kk : V γ g cc nL own rm G k n (pc + 1) L (vJ (lushrI x y) :: st)) : V γ g cc nL own rm G k n pc L (vI y :: vJ x :: st) :=
  v_row (fun p l e R s m args below meth c Q H locs ls C hL q => lv_lushr C.1 C.2.1 d (i64_of _).symm q) kk
theorem v_lshl {x y : Int} (d : decode cc pc = .ok (.lshl, 1)) (kk : V γ g cc nL own rm G k n (pc + 1) L (vJ (lshlI x y) :: st)) : V γ g cc nL own rm G k n pc L (vI y :: vJ x :: st) :=
  v_row (fun p l e R s m args below meth c Q H locs ls C hL q => lv_lshl C.1 C.2.1 d (i64_of _).symm q) kk
theorem v_lor {x y : Int} (d : decode cc pc = .ok (.lor, 1)) (kk : V γ g cc nL own rm G k n (pc + 1) L (vJ (lorI x y) :: st)) : V γ g cc nL own rm G k n pc L (vJ y :: vJ x :: st) :=
  v_row (fun p l e R s m args below meth c Q H locs ls C hL q => lv_lor C.1 C.2.1 d (by rw [← i64_of (Int64.ofInt x ||| Int64.ofInt y)]; exact q)) kk
theorem v_land {x y : Int} (d : decode cc pc = .ok (.land, 1)) (kk : V γ g cc nL own rm G k n (pc + 1) L (vJ (landI x y) :: st)) : V γ g cc nL own rm G k n pc L (vJ y :: vJ x :: st) :=
  v_row (fun p l e R s m args below meth c Q H locs ls C hL q => lv_land C.1 C.2.1 d (by rw [← i64_of (Int64.ofInt x &&& Int64.ofInt y)]; exact q)) kk
end VLEN
