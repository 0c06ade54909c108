-- table and sets agree
theorem tab_sets {G : Mem} (hI : StI G 4) (a : Int) (r : Int) (h : SetR (fun k => PS (fun k => G 5 (G 9 k)) (G 4 5).toNat k a) (G 4 5) r) : r = Tab (vsR G 4) (cnR G 4) (G 4 0).toNat a := by
  have hn := StI_n hI
  have hc := StI_c hI
  have h0 : ∀ i : Int, ∃ r : Int, 0 ≤ i → i < G 4 0 → 0 ≤ r ∧ r < G 4 0 ∧ G 8 r = i := fun i => by
    by_cases q : 0 ≤ i ∧ i < G 4 0
    · obtain ⟨r, x⟩ := hI.2.2.2.2.2.2.2 i q.1 q.2
      exact ⟨r, fun _ _ => x⟩
    · exact ⟨0, fun a b => absurd ⟨a, b⟩ q⟩
  obtain ⟨R, hR⟩ := Classical.axiomOfChoice h0
  have hv : ∀ r, 0 ≤ r → r < ((G 4 0).toNat : Int) → 1 ≤ vsR G 4 r := fun r a b => (vsR_r hI a (by omega)).1
  have hρ : ∀ k : Int, 0 ≤ k → k < ((G 4 5).toNat : Int) → (0 ≤ R (G 9 k) ∧ R (G 9 k) < ((G 4 0).toNat : Int)) ∧ G 5 (G 9 k) = vsR G 4 (R (G 9 k)) := fun k a b => by
    have hk := (S4_k hI a (by omega)).1
    have x := hR (G 9 k) hk.1 hk.2
    refine ⟨by omega, ?_⟩
    show G 5 (G 9 k) = G 5 (G 8 (R (G 9 k)))
    rw [x.2.2]
  have hcm : ∀ r, 0 ≤ r → r < ((G 4 0).toNat : Int) → cmR (fun k => R (G 9 k)) (G 4 5).toNat r = cnR G 4 r := fun r a b => by
    show sm (G 4 5).toNat _ = sm (G 4 5).toNat (fun k => if G 9 k = G 8 r then 1 else 0)
    refine sm_congr fun k k0 k1 => ?_
    have hk := (S4_k hI k0 (by omega)).1
    have x := hR (G 9 k) hk.1 hk.2
    by_cases q : R (G 9 k) = r
    · rw [if_pos q, if_pos (by rw [← q, x.2.2])]
    · rw [if_neg q, if_neg (fun w => q (StI_inj hI x.1 x.2.1 a (by omega) (x.2.2.trans w)))]
  have hsel : ∀ k, PS (fun k => G 5 (G 9 k)) (G 4 5).toNat k a = true ↔ SelN (G 4 0).toNat (vsR G 4) (cnR G 4) k a := fun k => by
    rw [PS_sel (n := (G 4 0).toNat) (M := (G 4 5).toNat) (vs := vsR G 4) (ρ := fun k => R (G 9 k)) hv hρ (G 4 5).toNat (Nat.le_refl _) k a]
    constructor
    · rintro ⟨t, ht, x⟩
      exact ⟨t, fun r a b => by rw [← hcm r a b]; exact ht r a b, x⟩
    · rintro ⟨t, ht, x⟩
      exact ⟨t, fun r a b => by rw [hcm r a b]; exact ht r a b, x⟩
  have hmin : ∀ k, SelN (G 4 0).toNat (vsR G 4) (cnR G 4) k a → Tab (vsR G 4) (cnR G 4) (G 4 0).toNat a ≤ k := fun k ⟨t, ht, x, y⟩ => Tab_min _ t k a (fun r a b => by have := hv r a b; omega) ht x y
  have hat := Tab_at (vs := vsR G 4) (cn := cnR G 4) (G 4 0).toNat a (fun r a b => by have := hv r a b; omega) (fun r _ _ => (cnR_r hI r).1) (fun r hr a => (TabR hI (r := r) (by omega) a).1)
  have hTr := TabR hI (r := (G 4 0).toNat) (by omega) a
  rcases h with ⟨q1, q2, q3⟩ | ⟨q1, q2⟩
  · have m1 := hmin r ((hsel r).mp q2)
    have m2 := (hsel _).mpr (hat (by omega))
    by_cases w : Tab (vsR G 4) (cnR G 4) (G 4 0).toNat a < r
    · have := q3 _ hTr.1 w
      exact absurd (m2.symm.trans this) (by decide)
    · omega
  · by_cases w : Tab (vsR G 4) (cnR G 4) (G 4 0).toNat a < 1000
    · have m2 := (hsel _).mpr (hat w)
      have m3 := PS_r _ _ _ m2
      have := q2 _ hTr.1 (by omega)
      exact absurd (m2.symm.trans this) (by decide)
    · omega
