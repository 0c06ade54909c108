-- sums, coins as sums
theorem sz_split {a b : Int} {f : Int → Int} (ha : 0 ≤ a) (hb : 0 ≤ b) : sz (a + b) f = sz a f + sz b (fun i => f (a + i)) := by
  obtain ⟨m, rfl⟩ := Int.eq_ofNat_of_zero_le hb
  induction m with
  | zero => show sz (a + 0) f = sz a f + 0; rw [Int.add_zero, Int.add_zero]
  | succ m ih =>
    have e1 : a + ((m + 1 : Nat) : Int) = (a + (m : Int)) + 1 := by omega
    have e2 : ((m + 1 : Nat) : Int) = (m : Int) + 1 := by omega
    rw [e1, e2, sz_s (by omega), sz_s (by omega), ih (by omega)]
    omega
theorem sz_add {n : Int} {f g : Int → Int} (hn : 0 ≤ n) : sz n (fun k => f k + g k) = sz n f + sz n g := by
  obtain ⟨m, rfl⟩ := Int.eq_ofNat_of_zero_le hn
  induction m with
  | zero => rfl
  | succ m ih =>
    have e2 : ((m + 1 : Nat) : Int) = (m : Int) + 1 := by omega
    rw [e2, sz_s (by omega), sz_s (by omega), sz_s (by omega), ih (by omega)]
    omega
theorem sz_sub {n : Int} {f g : Int → Int} (hn : 0 ≤ n) : sz n (fun k => f k - g k) = sz n f - sz n g := by
  obtain ⟨m, rfl⟩ := Int.eq_ofNat_of_zero_le hn
  induction m with
  | zero => rfl
  | succ m ih =>
    have e2 : ((m + 1 : Nat) : Int) = (m : Int) + 1 := by omega
    rw [e2, sz_s (by omega), sz_s (by omega), sz_s (by omega), ih (by omega)]
    omega
theorem sz_mul {n c : Int} {f : Int → Int} (hn : 0 ≤ n) : sz n (fun k => c * f k) = c * sz n f := by
  obtain ⟨m, rfl⟩ := Int.eq_ofNat_of_zero_le hn
  induction m with
  | zero => show (0 : Int) = c * 0; simp
  | succ m ih =>
    have e2 : ((m + 1 : Nat) : Int) = (m : Int) + 1 := by omega
    rw [e2, sz_s (by omega), sz_s (by omega), ih (by omega), Int.mul_add]
theorem sz_zero {n : Int} {f : Int → Int} (hn : 0 ≤ n) (h : ∀ k, 0 ≤ k → k < n → f k = 0) : sz n f = 0 := by
  have := sz_rng (a := 0) (c := 0) (f := f) hn (fun k h0 h1 => by rw [h k h0 h1]; omega)
  omega
theorem sz_one {n : Int} (hn : 0 ≤ n) : sz n (fun _ => 1) = n := by
  have := sz_rng (n := n) (a := 1) (c := 1) (f := fun _ => 1) hn (fun k _ _ => by omega)
  omega
theorem sz_ge {n i : Int} {f : Int → Int} (hn : 0 ≤ n) (h : ∀ k, 0 ≤ k → k < n → 0 ≤ f k) (hi : 0 ≤ i ∧ i < n) : f i ≤ sz n f := by
  have e : n = (i + 1) + (n - i - 1) := by omega
  rw [e, sz_split (by omega) (by omega), sz_s (by omega)]
  have h2 : 0 ≤ sz i f := by
    have hh : ∀ m : Nat, (m : Int) ≤ i → 0 ≤ sz m f := by
      intro m
      induction m with
      | zero => intro _; exact Int.le_refl 0
      | succ m ih =>
        intro hm
        have e2 : ((m + 1 : Nat) : Int) = (m : Int) + 1 := by omega
        rw [e2, sz_s (by omega)]
        have := ih (by omega)
        have := h m (by omega) (by omega)
        omega
    have := hh i.toNat (by omega)
    rw [show ((i.toNat : Nat) : Int) = i by omega] at this
    exact this
  have h3 : 0 ≤ sz (n - i - 1) (fun j => f (i + 1 + j)) := by
    have hh : ∀ m : Nat, (m : Int) ≤ n - i - 1 → 0 ≤ sz m (fun j => f (i + 1 + j)) := by
      intro m
      induction m with
      | zero => intro _; exact Int.le_refl 0
      | succ m ih =>
        intro hm
        have e2 : ((m + 1 : Nat) : Int) = (m : Int) + 1 := by omega
        rw [e2, sz_s (by omega)]
        have := ih (by omega)
        have := h (i + 1 + m) (by omega) (by omega)
        omega
    have := hh (n - i - 1).toNat (by omega)
    rw [show (((n - i - 1).toNat : Nat) : Int) = n - i - 1 by omega] at this
    exact this
  omega
theorem sz_nn {n : Int} {f : Int → Int} (hn : 0 ≤ n) (h : ∀ k, 0 ≤ k → k < n → 0 ≤ f k) : 0 ≤ sz n f := by
  by_cases h0 : n = 0
  · subst h0; exact Int.le_refl 0
  · have := sz_ge (i := 0) hn h (by omega)
    have := h 0 (by omega) (by omega)
    omega
/-- a positive sum has a positive part -/
theorem sz_pos {n : Int} {f : Int → Int} (hn : 0 ≤ n) (h : 0 < sz n f) : ∃ k, 0 ≤ k ∧ k < n ∧ 0 < f k := by
  apply Classical.byContradiction
  intro q
  have h2 : ∀ m : Nat, (m : Int) ≤ n → sz m f ≤ 0 := by
    intro m
    induction m with
    | zero => intro _; exact Int.le_refl 0
    | succ m ih =>
      intro hm
      have e2 : ((m + 1 : Nat) : Int) = (m : Int) + 1 := by omega
      rw [e2, sz_s (by omega)]
      have h3 := ih (by omega)
      have h4 : f m ≤ 0 := Int.not_lt.mp (fun z => q ⟨m, by omega, by omega, z⟩)
      omega
  have := h2 n.toNat (by omega)
  rw [show ((n.toNat : Nat) : Int) = n by omega] at this
  omega
/-- one place changed -/
theorem sz_upd {n c v : Int} {f : Int → Int} (h : 0 ≤ c ∧ c < n) : sz n (fun k => if k = c then v else f k) = sz n f - f c + v := by
  have e : n = (c + 1) + (n - c - 1) := by omega
  have h1 : sz c (fun k => if k = c then v else f k) = sz c f := sz_congr (fun k _ h1 => if_neg (by omega))
  have h2 : sz (n - c - 1) (fun i => if c + 1 + i = c then v else f (c + 1 + i)) = sz (n - c - 1) (fun i => f (c + 1 + i)) := sz_congr (fun k h0 _ => if_neg (by omega))
  rw [e, sz_split (by omega) (by omega), sz_split (f := f) (by omega) (by omega), sz_s (by omega), sz_s (by omega), h1]
  rw [h2, if_pos rfl]
  omega
theorem mul_rng {a b A B : Int} (h1 : 0 ≤ a ∧ a ≤ A) (h2 : 0 ≤ b ∧ b ≤ B) : 0 ≤ a * b ∧ a * b ≤ A * B :=
  ⟨Int.mul_nonneg h1.1 h2.1, Int.mul_le_mul h1.2 h2.2 h2.1 (by omega)⟩
/-- the sum over the coins of a State -/
def cs (G : Mem) (b : Nat) (φ : Int → Int → Int → Int) : Int := sz (G b 5) (fun k => φ (G (b + 5) k) (G (b + 6) k) (G (b + 7) k))
/-- the coins of a State are such as they are -/
def CkI (G : Mem) (b : Nat) : Prop := (0 ≤ G b 5 ∧ G b 5 ≤ 40) ∧ ∀ k, 0 ≤ k → k < G b 5 → (0 ≤ G (b + 5) k ∧ G (b + 5) k < G b 0) ∧ (0 ≤ G (b + 6) k ∧ G (b + 6) k ≤ G b 10) ∧ 0 ≤ G (b + 7) k ∧ G (b + 7) k ≤ 2
theorem StI_Ck {G : Mem} {b : Nat} (h : StI G b) : CkI G b := ⟨h.2.1, h.2.2.2.1⟩
/-- other coins -/
theorem StI_coins {G G' : Mem} {b : Nat} (h : StI G b) (hC : CkI G' b) (h0 : G' b 0 = G b 0) (hy : 0 ≤ G' b 10 ∧ G' b 10 ≤ 1000000) (hd : ∀ z, 0 ≤ z → z < G b 0 → G' (b + 1) z = G (b + 1) z ∧ G' (b + 2) z = G (b + 2) z ∧ (0 ≤ G' (b + 3) z ∧ G' (b + 3) z ≤ 30) ∧ G' (b + 4) z = G (b + 4) z) : StI G' b := by
  obtain ⟨a1, a2, a3, a4, a5, a6, a7, a8⟩ := h
  refine ⟨by rw [h0]; exact a1, hC.1, hy, hC.2, fun i i0 i1 => ?_, fun r r0 r1 => ?_, fun r s r0 rs s1 => ?_, fun i i0 i1 => ?_⟩
  · rw [h0] at i1
    obtain ⟨e1, e2, e3, e4⟩ := hd i i0 i1
    rw [e1, e2]
    exact ⟨(a5 i i0 i1).1, (a5 i i0 i1).2.1, e3⟩
  · rw [h0] at r1 ⊢
    rw [(hd r r0 r1).2.2.2]
    exact a6 r r0 r1
  · rw [h0] at s1
    have q1 := a6 r r0 (by omega)
    have q2 := a6 s (by omega) s1
    rw [(hd r r0 (by omega)).2.2.2, (hd s (by omega) s1).2.2.2, (hd _ q1.1 q1.2).1, (hd _ q2.1 q2.2).1]
    exact a7 r s r0 rs s1
  · rw [h0] at i1
    obtain ⟨r, r0, r1, r2⟩ := a8 i i0 i1
    exact ⟨r, r0, by rw [h0]; exact r1, by rw [(hd r r0 r1).2.2.2]; exact r2⟩
theorem rmvC_n (G : Mem) (b : Nat) (c : Int) : rmvC G b c b 5 = G b 5 - 1 := by
  unfold rmvC
  rw [upd2_i (by omega), upd2_i (by omega), upd2_i (by omega), upd2_s]
theorem rmvC_o {G : Mem} {b i : Nat} {c z : Int} (h : i ≠ b + 5 ∧ i ≠ b + 6 ∧ i ≠ b + 7) (h2 : ¬ (i = b ∧ z = 5)) : rmvC G b c i z = G i z := by
  unfold rmvC
  rw [upd2_i h.2.2, upd2_i h.2.1, upd2_i h.1]
  exact if_neg h2
theorem rmvC_k (G : Mem) (b : Nat) (c z : Int) : (rmvC G b c (b + 5) z = if z = c then G (b + 5) (G b 5 - 1) else G (b + 5) z) ∧ (rmvC G b c (b + 6) z = if z = c then G (b + 6) (G b 5 - 1) else G (b + 6) z) ∧ (rmvC G b c (b + 7) z = if z = c then G (b + 7) (G b 5 - 1) else G (b + 7) z) := by
  unfold rmvC
  by_cases h : z = c
  · subst h
    refine ⟨?_, ?_, ?_⟩
    · rw [upd2_i (by omega), upd2_i (by omega), upd2_s, if_pos rfl]
    · rw [upd2_i (by omega), upd2_s, if_pos rfl]
    · rw [upd2_s, if_pos rfl]
  · refine ⟨?_, ?_, ?_⟩
    · rw [upd2_i (by omega), upd2_i (by omega), upd2_z h, upd2_i (by omega), if_neg h]
    · rw [upd2_i (by omega), upd2_z h, upd2_i (by omega), upd2_i (by omega), if_neg h]
    · rw [upd2_z h, upd2_i (by omega), upd2_i (by omega), upd2_i (by omega), if_neg h]
theorem rmvC_cs {G : Mem} {b : Nat} {c : Int} (h : 0 ≤ c ∧ c < G b 5) (φ : Int → Int → Int → Int) : cs (rmvC G b c) b φ = cs G b φ - φ (G (b + 5) c) (G (b + 6) c) (G (b + 7) c) := by
  unfold cs
  rw [rmvC_n]
  generalize hf : (fun k => φ (G (b + 5) k) (G (b + 6) k) (G (b + 7) k)) = f
  have hc : φ (G (b + 5) c) (G (b + 6) c) (G (b + 7) c) = f c := by rw [← hf]
  have e : (fun k => φ (rmvC G b c (b + 5) k) (rmvC G b c (b + 6) k) (rmvC G b c (b + 7) k)) = fun k => if k = c then f (G b 5 - 1) else f k := by
    funext k
    rw [(rmvC_k G b c k).1, (rmvC_k G b c k).2.1, (rmvC_k G b c k).2.2, ← hf]
    by_cases hk : k = c
    · rw [if_pos hk, if_pos hk, if_pos hk, if_pos hk]
    · rw [if_neg hk, if_neg hk, if_neg hk, if_neg hk]
  rw [e, hc]
  have es : sz (G b 5) f = sz (G b 5 - 1) f + f (G b 5 - 1) := by
    have := sz_s (i := G b 5 - 1) (f := f) (by omega)
    rw [show G b 5 - 1 + 1 = G b 5 by omega] at this
    exact this
  by_cases hl : c = G b 5 - 1
  · have e2 : sz (G b 5 - 1) (fun k => if k = c then f (G b 5 - 1) else f k) = sz (G b 5 - 1) f := sz_congr (fun k _ h1 => if_neg (by omega))
    rw [e2, es, hl]
    omega
  · rw [sz_upd (by omega), es]
    omega
theorem rmvC_Ck {G : Mem} {b : Nat} {c : Int} (h : 0 ≤ c ∧ c < G b 5) (hC : CkI G b) : CkI (rmvC G b c) b := by
  obtain ⟨h1, h2⟩ := hC
  refine ⟨by rw [rmvC_n]; omega, fun k k0 k1 => ?_⟩
  rw [rmvC_n] at k1
  rw [rmvC_o (i := b) (z := 0) (by omega) (by omega), rmvC_o (i := b) (z := 10) (by omega) (by omega), (rmvC_k G b c k).1, (rmvC_k G b c k).2.1, (rmvC_k G b c k).2.2]
  by_cases hk : k = c
  · rw [if_pos hk, if_pos hk, if_pos hk]
    exact h2 _ (by omega) (by omega)
  · rw [if_neg hk, if_neg hk, if_neg hk]
    exact h2 k k0 (by omega)
theorem cs_n (G : Mem) (b : Nat) (h : 0 ≤ G b 5) : cs G b (fun _ _ _ => 1) = G b 5 := sz_one h
-- the best coin of a die, by the counts of its coins
/-- (y, g) is the first to be spent -/
def Bp (c : Int → Int → Int) (y g : Int) : Prop := 0 < c y g ∧ ∀ y' g', 0 < c y' g' → g' < g ∨ (g' = g ∧ y ≤ y')
theorem Bp_one {c : Int → Int → Int} {y g y' g' : Int} (h : Bp c y g) (h' : Bp c y' g') : y = y' ∧ g = g' := by
  have h1 := h.2 y' g' h'.1
  have h2 := h'.2 y g h.1
  omega
noncomputable def bst (c : Int → Int → Int) : Int × Int := @dite _ (∃ q : Int × Int, Bp c q.1 q.2) (Classical.propDecidable _) (fun h => Classical.choose h) (fun _ => (0, 0))
theorem bst_of {c : Int → Int → Int} {y g : Int} (h : Bp c y g) : bst c = (y, g) := by
  have hx : ∃ q : Int × Int, Bp c q.1 q.2 := ⟨(y, g), h⟩
  have h1 : bst c = Classical.choose hx := dif_pos hx
  have h2 := Bp_one (Classical.choose_spec hx) h
  rw [h1]
  exact Prod.ext h2.1 h2.2
/-- the counts when j have been spent -/
noncomputable def cjs (c : Int → Int → Int) : Nat → Int → Int → Int
  | 0 => c
  | j + 1 => fun y g => cjs c j y g - (if y = (bst (cjs c j)).1 ∧ g = (bst (cjs c j)).2 then 1 else 0)
/-- the counts of the coins of a die -/
def cnt3 (F : (Int → Int → Int → Int) → Int) (d : Int) : Int → Int → Int := fun y g => F (fun d' y' g' => if d' = d ∧ y' = y ∧ g' = g then 1 else 0)
/-- the sum over the first u coins of a die that are spent -/
noncomputable def remS (F : (Int → Int → Int → Int) → Int) (d u : Int) (φ : Int → Int → Int → Int) : Int := sz u (fun j => φ d (bst (cjs (cnt3 F d) j.toNat)).1 (bst (cjs (cnt3 F d) j.toNat)).2)
theorem remS_0 (F : (Int → Int → Int → Int) → Int) (d : Int) (φ : Int → Int → Int → Int) : remS F d 0 φ = 0 := rfl
theorem remS_s {F : (Int → Int → Int → Int) → Int} {d j : Int} {φ : Int → Int → Int → Int} (h : 0 ≤ j) : remS F d (j + 1) φ = remS F d j φ + φ d (bst (cjs (cnt3 F d) j.toNat)).1 (bst (cjs (cnt3 F d) j.toNat)).2 := sz_s h
theorem remS_ne {F : (Int → Int → Int → Int) → Int} {d d' u y g : Int} (hu : 0 ≤ u) (h : d ≠ d') : remS F d u (fun d1 y1 g1 => if d1 = d' ∧ y1 = y ∧ g1 = g then 1 else 0) = 0 :=
  sz_zero hu (fun k _ _ => if_neg (fun q => h q.1))
theorem remS_eq (F : (Int → Int → Int → Int) → Int) (d y g : Int) : ∀ j : Nat, cjs (cnt3 F d) j y g = cnt3 F d y g - remS F d j (fun d1 y1 g1 => if d1 = d ∧ y1 = y ∧ g1 = g then 1 else 0)
  | 0 => by rw [show ((0 : Nat) : Int) = 0 from rfl, remS_0]; show cnt3 F d y g = _; omega
  | j + 1 => by
    rw [show ((j + 1 : Nat) : Int) = (j : Int) + 1 by omega, remS_s (by omega)]
    have ih := remS_eq F d y g j
    show cjs (cnt3 F d) j y g - _ = _
    rw [ih, show ((j : Int)).toNat = j by omega]
    by_cases h : y = (bst (cjs (cnt3 F d) j)).1 ∧ g = (bst (cjs (cnt3 F d) j)).2
    · rw [if_pos h, if_pos ⟨rfl, h.1.symm, h.2.symm⟩]; omega
    · rw [if_neg h, if_neg (fun q => h ⟨q.2.1.symm, q.2.2.symm⟩)]; omega
