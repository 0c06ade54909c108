-- choices of coins: how many of each rank
def SelN (n : Nat) (vs c : Int → Int) (k a : Int) : Prop := ∃ t : Int → Int, (∀ r, 0 ≤ r → r < (n : Int) → 0 ≤ t r ∧ t r ≤ c r) ∧ sm n t = k ∧ sm n (fun r => t r * vs r) = a
def cmR (ρ : Int → Int) (m : Nat) (r : Int) : Int := sm m (fun k => if ρ k = r then 1 else 0)
theorem sm_ge0 {f : Int → Int} : ∀ {n : Nat}, (∀ k : Int, 0 ≤ k → k < n → 0 ≤ f k) → 0 ≤ sm n f
  | 0, _ => Int.le_refl _
  | n + 1, h => by
    have h1 := sm_ge0 (f := f) (n := n) (fun k a b => h k a (by omega))
    have h2 := h n (by omega) (by omega)
    show 0 ≤ sm n f + f n
    omega
theorem sm_one {e : Int} (h0 : 0 ≤ e) {n : Nat} (h1 : e < n) (f : Int → Int) : sm n (fun r => (if r = e then 1 else 0) * f r) = f e := by
  have h := sm_pt (f := f) h0 n
  rw [if_pos h1] at h
  rw [← h]
  exact sm_congr fun k _ _ => by
    by_cases q : k = e
    · rw [if_pos q, if_pos q.symm]; omega
    · rw [if_neg q, if_neg (fun w => q w.symm)]; omega
theorem sm_one1 {e : Int} (h0 : 0 ≤ e) {n : Nat} (h1 : e < n) : sm n (fun r => if r = e then 1 else 0) = 1 := by
  have h := sm_one h0 h1 (fun _ => 1)
  exact Eq.trans (sm_congr (g := fun r => (if r = e then 1 else 0) * 1) fun k _ _ => (Int.mul_one _).symm) h
theorem PS_sel {n M : Nat} {vs ρ val : Int → Int} (hv : ∀ r, 0 ≤ r → r < (n : Int) → 1 ≤ vs r) (hρ : ∀ k : Int, 0 ≤ k → k < M → (0 ≤ ρ k ∧ ρ k < n) ∧ val k = vs (ρ k)) : ∀ m : Nat, m ≤ M → ∀ k a : Int, PS val m k a = true ↔ SelN n vs (cmR ρ m) k a
  | 0, _, k, a => by
    constructor
    · intro h
      have h2 : k = 0 ∧ a = 0 := of_decide_eq_true h
      have z : ∀ j : Nat, sm j (fun _ => (0 : Int)) = 0 := fun j => by
        induction j with
        | zero => rfl
        | succ j ih =>
          show sm j (fun _ => (0 : Int)) + 0 = 0
          omega
      refine ⟨fun _ => 0, fun r _ _ => ⟨Int.le_refl _, Int.le_refl _⟩, by rw [h2.1]; exact z n, ?_⟩
      rw [h2.2]
      exact (sm_congr (g := fun _ => 0) fun r _ _ => Int.zero_mul _).trans (z n)
    · rintro ⟨t, ht, h1, h2⟩
      have t0 : ∀ r, 0 ≤ r → r < (n : Int) → t r = 0 := fun r a b => by
        have q := ht r a b
        have w : cmR ρ 0 r = 0 := rfl
        omega
      have z : ∀ j : Nat, sm j (fun _ => (0 : Int)) = 0 := fun j => by
        induction j with
        | zero => rfl
        | succ j ih =>
          show sm j (fun _ => (0 : Int)) + 0 = 0
          omega
      have e1 : sm n t = 0 := (sm_congr (g := fun _ => 0) t0).trans (z n)
      have e2 : sm n (fun r => t r * vs r) = 0 := (sm_congr (g := fun _ => 0) fun r a b => by rw [t0 r a b]; omega).trans (z n)
      exact decide_eq_true ⟨by omega, by omega⟩
  | m + 1, hm, k, a => by
    have ih := PS_sel hv hρ m (by omega)
    have hr := hρ m (by omega) (by omega)
    have hc : ∀ r, cmR ρ (m + 1) r = cmR ρ m r + if ρ m = r then 1 else 0 := fun r => rfl
    have hPS : PS val (m + 1) k a = (PS val m k a || (decide (1 ≤ k ∧ val m ≤ a) && PS val m (k - 1) (a - val m))) := rfl
    rw [hPS, Bool.or_eq_true, Bool.and_eq_true, decide_eq_true_eq, ih k a, ih (k - 1) (a - val m)]
    constructor
    · rintro (⟨t, ht, h1, h2⟩ | ⟨hka, t, ht, h1, h2⟩)
      · exact ⟨t, fun r r0 r1 => by have := ht r r0 r1; rw [hc]; split <;> omega, h1, h2⟩
      · refine ⟨fun r => t r + if r = ρ m then 1 else 0, fun r r0 r1 => ?_, ?_, ?_⟩
        · have := ht r r0 r1
          rw [hc]
          show 0 ≤ t r + (if r = ρ m then 1 else 0) ∧ t r + (if r = ρ m then 1 else 0) ≤ _
          by_cases q : r = ρ m
          · rw [if_pos q, if_pos q.symm]; omega
          · rw [if_neg q, if_neg (fun w => q w.symm)]; omega
        · rw [sm_ad, sm_one1 hr.1.1 hr.1.2, h1]; omega
        · have e : sm n (fun r => (t r + if r = ρ m then 1 else 0) * vs r) = sm n (fun r => t r * vs r) + sm n (fun r => (if r = ρ m then 1 else 0) * vs r) := by
            rw [← sm_ad]
            exact sm_congr fun r _ _ => Int.add_mul _ _ _
          rw [e, sm_one hr.1.1 hr.1.2 vs, h2, hr.2]; omega
    · rintro ⟨t, ht, h1, h2⟩
      by_cases q : t (ρ m) ≤ cmR ρ m (ρ m)
      · refine Or.inl ⟨t, fun r r0 r1 => ?_, h1, h2⟩
        have := ht r r0 r1
        by_cases w : ρ m = r
        · rw [← w] at this ⊢; omega
        · rw [hc, if_neg w] at this; omega
      · have e0 : sm n (fun r => t r - if r = ρ m then 1 else 0) = k - 1 := by
          have e := sm_ad (a := fun r => t r - if r = ρ m then 1 else 0) (b := fun r => if r = ρ m then 1 else 0) n
          rw [sm_one1 hr.1.1 hr.1.2, show (fun r => t r - (if r = ρ m then 1 else 0) + if r = ρ m then 1 else 0) = t from funext fun r => by omega, h1] at e
          omega
        have e1 : sm n (fun r => (t r - if r = ρ m then 1 else 0) * vs r) = a - val m := by
          have e := sm_ad (a := fun r => (t r - if r = ρ m then 1 else 0) * vs r) (b := fun r => (if r = ρ m then 1 else 0) * vs r) n
          rw [sm_one hr.1.1 hr.1.2 vs, show (fun r => (t r - (if r = ρ m then 1 else 0)) * vs r + (if r = ρ m then 1 else 0) * vs r) = fun r => t r * vs r from funext fun r => by rw [← Int.add_mul, show t r - (if r = ρ m then 1 else 0) + (if r = ρ m then 1 else 0) = t r by omega], h2] at e
          rw [hr.2]; omega
        have ht2 : ∀ r, 0 ≤ r → r < (n : Int) → 0 ≤ t r - (if r = ρ m then 1 else 0) ∧ t r - (if r = ρ m then 1 else 0) ≤ cmR ρ m r := fun r r0 r1 => by
          have := ht r r0 r1
          rw [hc] at this
          by_cases w : r = ρ m
          · rw [if_pos w]; rw [if_pos w.symm] at this; rw [← w] at q
            have w0 : 0 ≤ cmR ρ m r := sm_ge0 fun k _ _ => by split <;> omega
            omega
          · rw [if_neg w]; rw [if_neg (fun x => w x.symm)] at this; omega
        have g0 : 0 ≤ k - 1 := by rw [← e0]; exact sm_ge0 fun r r0 r1 => (ht2 r r0 r1).1
        have g1 : 0 ≤ a - val m := by rw [← e1]; exact sm_ge0 fun r r0 r1 => Int.mul_nonneg (ht2 r r0 r1).1 (by have := hv r r0 r1; omega)
        exact Or.inr ⟨⟨by omega, by omega⟩, _, ht2, e0, e1⟩
