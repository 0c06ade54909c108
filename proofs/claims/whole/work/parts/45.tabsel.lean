-- the table is the least choice
theorem mnT_min {f : Int → Int} {v a : Int} : ∀ n t : Nat, t < n → (t : Int) * v ≤ a → mnT f v a n ≤ f (a - (t : Int) * v) + t
  | 0, t, h, _ => absurd h (by omega)
  | n + 1, t, h, h2 => by
    unfold mnT
    by_cases e : t = n
    · subst e
      split <;> omega
    · have ih := mnT_min (f := f) n t (by omega) h2
      split <;> omega
theorem mnT_at2 {f : Int → Int} {v a : Int} : ∀ n : Nat, mnT f v a n < 1000 → ∃ t : Nat, t < n ∧ (t : Int) * v ≤ a ∧ mnT f v a n = f (a - (t : Int) * v) + t
  | 0, h => absurd h (by show ¬ (1000 : Int) < 1000; omega)
  | n + 1, h => by
    unfold mnT at h ⊢
    split at h
    · rename_i q
      rw [if_pos q]
      exact ⟨n, by omega, q.1, rfl⟩
    · rename_i q
      rw [if_neg q]
      obtain ⟨t, h1, h2, h3⟩ := mnT_at2 n h
      exact ⟨t, by omega, h2, h3⟩
theorem Tab_min {vs cn : Int → Int} : ∀ (d : Nat) (t : Int → Int) (k a : Int), (∀ r, 0 ≤ r → r < (d : Int) → 0 ≤ vs r) → (∀ r, 0 ≤ r → r < (d : Int) → 0 ≤ t r ∧ t r ≤ cn r) → sm d t = k → sm d (fun r => t r * vs r) = a → Tab vs cn d a ≤ k
  | 0, t, k, a, _, _, h1, h2 => by
    have e1 : k = 0 := h1.symm
    have e2 : a = 0 := h2.symm
    show (if a = 0 then (0 : Int) else 1000) ≤ k
    rw [if_pos e2]; omega
  | d + 1, t, k, a, hv, ht, h1, h2 => by
    have ih := Tab_min d t (sm d t) (sm d (fun r => t r * vs r)) (fun r a b => hv r a (by omega)) (fun r a b => ht r a (by omega)) rfl rfl
    have g : 0 ≤ sm d (fun r => t r * vs r) := sm_ge0 fun r a b => Int.mul_nonneg (ht r a (by omega)).1 (hv r a (by omega))
    have e1 : sm d t + t d = k := h1
    have e2 : sm d (fun r => t r * vs r) + t d * vs d = a := h2
    have hd := ht d (by omega) (by omega)
    obtain ⟨s, hs⟩ := Int.eq_ofNat_of_zero_le hd.1
    have hm := mnT_min (f := Tab vs cn d) (v := vs d) (a := a) (cn d + 1).toNat s (by omega) (by rw [← hs]; omega)
    rw [← hs, show a - t d * vs d = sm d (fun r => t r * vs r) by omega] at hm
    show mnT (Tab vs cn d) (vs d) a (cn d + 1).toNat ≤ k
    omega
theorem Tab_at {vs cn : Int → Int} : ∀ (d : Nat) (a : Int), (∀ r, 0 ≤ r → r < (d : Int) → 0 ≤ vs r) → (∀ r, 0 ≤ r → r < (d : Int) → 0 ≤ cn r) → (∀ r : Nat, r ≤ d → ∀ a, 0 ≤ Tab vs cn r a) → Tab vs cn d a < 1000 → SelN d vs cn (Tab vs cn d a) a
  | 0, a, _, _, _, h => by
    have h2 : (if a = 0 then (0 : Int) else 1000) < 1000 := h
    by_cases q : a = 0
    · refine ⟨fun _ => 0, fun r r0 r1 => absurd r1 (by omega), ?_, ?_⟩
      · show (0 : Int) = if a = 0 then 0 else 1000
        rw [if_pos q]
      · exact q.symm
    · rw [if_neg q] at h2; omega
  | d + 1, a, hv, hc, hT, h => by
    have h2 : mnT (Tab vs cn d) (vs d) a (cn d + 1).toNat < 1000 := h
    obtain ⟨s, s1, s2, s3⟩ := mnT_at2 _ h2
    have e : Tab vs cn (d + 1) a = Tab vs cn d (a - (s : Int) * vs d) + s := s3
    have hcd := hc d (by omega) (by omega)
    obtain ⟨t, ht, h3, h4⟩ := Tab_at d (a - (s : Int) * vs d) (fun r a b => hv r a (by omega)) (fun r a b => hc r a (by omega)) (fun r hr => hT r (by omega)) (by omega)
    refine ⟨fun r => if r = (d : Int) then (s : Int) else t r, fun r r0 r1 => ?_, ?_, ?_⟩
    · show 0 ≤ (if r = (d : Int) then (s : Int) else t r) ∧ (if r = (d : Int) then (s : Int) else t r) ≤ cn r
      by_cases q : r = (d : Int)
      · rw [if_pos q, q]; omega
      · rw [if_neg q]; exact ht r r0 (by omega)
    · show sm d (fun r => if r = (d : Int) then (s : Int) else t r) + (if (d : Int) = (d : Int) then (s : Int) else t d) = _
      rw [if_pos rfl, e, ← h3]
      rw [sm_congr (g := t) (fun r a b => if_neg (by omega))]
    · show sm d (fun r => (if r = (d : Int) then (s : Int) else t r) * vs r) + (if (d : Int) = (d : Int) then (s : Int) else t d) * vs d = a
      rw [if_pos rfl, sm_congr (g := fun r => t r * vs r) (fun r a b => by rw [if_neg (by omega)]), h4]
      omega
