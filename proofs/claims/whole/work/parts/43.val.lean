-- the value of the vault, both ways
theorem sm_ad {a b : Int → Int} : ∀ n : Nat, sm n (fun i => a i + b i) = sm n a + sm n b
  | 0 => rfl
  | n + 1 => by
    show sm n (fun i => a i + b i) + (a n + b n) = (sm n a + a n) + (sm n b + b n)
    rw [sm_ad n]; omega
theorem sm_pt {f : Int → Int} {e : Int} (h0 : 0 ≤ e) : ∀ n : Nat, sm n (fun i => f i * (if e = i then 1 else 0)) = if e < (n : Int) then f e else 0
  | 0 => by
    rw [if_neg (by omega)]; rfl
  | n + 1 => by
    show sm n (fun i => f i * (if e = i then 1 else 0)) + f n * (if e = (n : Int) then 1 else 0) = _
    rw [sm_pt h0 n]
    by_cases q : e = (n : Int)
    · rw [if_pos q, if_neg (by omega), if_pos (by omega), q]; omega
    · rw [if_neg q, Int.mul_zero, Int.add_zero]
      by_cases w : e < (n : Int)
      · rw [if_pos w, if_pos (by omega)]
      · rw [if_neg w, if_neg (by omega)]
theorem sm_cnt {f d : Int → Int} {N : Nat} : ∀ m : Nat, (∀ k : Int, 0 ≤ k → k < m → 0 ≤ d k ∧ d k < N) → sm m (fun k => f (d k)) = sm N (fun i => f i * sm m (fun k => if d k = i then 1 else 0))
  | 0, _ => by
    show (0 : Int) = sm N (fun i => f i * 0)
    have : ∀ n : Nat, sm n (fun i => f i * 0) = 0 := fun n => by
      induction n with
      | zero => rfl
      | succ n ih =>
        show sm n (fun i => f i * 0) + f n * 0 = 0
        rw [ih]; omega
    exact (this N).symm
  | m + 1, h => by
    have ih := sm_cnt (f := f) (d := d) (N := N) m (fun k k0 k1 => h k k0 (by omega))
    have hd := h m (by omega) (by omega)
    have hp := sm_pt (f := f) (e := d m) hd.1 N
    rw [if_pos hd.2] at hp
    show sm m (fun k => f (d k)) + f (d m) = sm N (fun i => f i * (sm m (fun k => if d k = i then 1 else 0) + if d m = i then 1 else 0))
    rw [ih, ← hp, ← sm_ad N]
    exact congrArg (sm N) (funext fun i => (Int.mul_add _ _ _).symm)
theorem val_both {G : Mem} (hI : StI G 4) : sz (G 4 5) (fun k => G 5 (G 9 k)) = sz (G 4 0) (fun i => G 5 i * cntE (G 4 5) (G 9) i) := by
  have hn := StI_n hI
  have hc := StI_c hI
  exact sm_cnt (f := G 5) (d := G 9) (N := (G 4 0).toNat) (G 4 5).toNat (fun k k0 k1 => by have := S4_k hI k0 (by omega); omega)
