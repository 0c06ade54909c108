-- the class's answers and the model's, where their states are alike
theorem cnt_pos {f : Int → Int} {c : Int} : ∀ n : Nat, (0 ≤ cntE (n : Int) f c ∧ (0 < cntE (n : Int) f c ↔ ∃ k : Int, 0 ≤ k ∧ k < n ∧ f k = c))
  | 0 => ⟨Int.le_refl 0, fun h => absurd h (by show ¬ (0 : Int) < 0; omega), fun ⟨k, a, b, _⟩ => by omega⟩
  | n + 1 => by
    obtain ⟨i1, i2⟩ := cnt_pos (f := f) (c := c) n
    have e : cntE ((n + 1 : Nat) : Int) f c = cntE (n : Int) f c + (if f (n : Int) = c then 1 else 0) := by
      unfold cntE
      rw [show ((n + 1 : Nat) : Int) = (n : Int) + 1 by omega, sz_s (by omega)]
    rw [e]
    by_cases q : f (n : Int) = c
    · rw [if_pos q]
      exact ⟨by omega, fun _ => ⟨n, by omega, by omega, q⟩, fun _ => by omega⟩
    · rw [if_neg q, Int.add_zero]
      refine ⟨i1, fun h => ?_, fun ⟨k, a, b, w⟩ => ?_⟩
      · obtain ⟨k, a, b, w⟩ := i2.mp h
        exact ⟨k, a, by omega, w⟩
      · have hk : k ≠ (n : Int) := fun z => q (by rw [← z]; exact w)
        exact i2.mpr ⟨k, a, by omega, w⟩
theorem sz_pt {x : Int} {v : Int → Int} (hx : 0 ≤ x) : ∀ B : Nat, sz (B : Int) (fun c => if c = x then v c else 0) = if x < (B : Int) then v x else 0
  | 0 => by rw [if_neg (by omega)]; rfl
  | B + 1 => by
    rw [show ((B + 1 : Nat) : Int) = (B : Int) + 1 by omega, sz_s (by omega), sz_pt hx B]
    by_cases q : (B : Int) = x
    · rw [if_pos q, if_neg (by omega), if_pos (by omega), q, Int.zero_add]
    · rw [if_neg q, Int.add_zero]
      by_cases q2 : x < (B : Int)
      · rw [if_pos q2, if_pos (by omega)]
      · rw [if_neg q2, if_neg (by omega)]
def kcode (f y g : Int → Int) (k : Int) : Int := (f k * 1000001 + y k) * 3 + g k
def kRng (n : Int) (f y g : Int → Int) : Prop := ∀ k, 0 ≤ k → k < n → (0 ≤ f k ∧ f k < 5) ∧ (0 ≤ y k ∧ y k ≤ 1000000) ∧ 0 ≤ g k ∧ g k ≤ 2
theorem first_c {f y g : Int → Int} {n : Nat} (h : kRng ((n + 1 : Nat) : Int) f y g) : isFirst f y g (n : Int) ↔ cntE (n : Int) (kcode f y g) (kcode f y g n) = 0 := by
  have hp := cnt_pos (f := kcode f y g) (c := kcode f y g n) n
  constructor
  · intro hf
    by_cases q : 0 < cntE (n : Int) (kcode f y g) (kcode f y g n)
    · obtain ⟨k, a, b, w⟩ := hp.2.mp q
      have h1 := h k a (by omega)
      have h2 := h n (by omega) (by omega)
      unfold kcode at w
      exact absurd ⟨by omega, by omega, by omega⟩ (hf k a b)
    · omega
  · intro hz k a b hk
    have : 0 < cntE (n : Int) (kcode f y g) (kcode f y g n) := hp.2.mpr ⟨k, a, b, by unfold kcode; rw [hk.1, hk.2.1, hk.2.2]⟩
    omega
theorem kinds_D {f y g : Int → Int} {B : Nat} (hB : B = 15000015) : ∀ n : Nat, kRng (n : Int) f y g → sz (n : Int) (fun k => bI (isFirst f y g k)) = sz (B : Int) (fun c => bI (0 < cntE (n : Int) (kcode f y g) c))
  | 0, _ => by
    rw [sz_zero (n := (B : Int)) (by omega) (fun c _ _ => bI_f (by show ¬ (0 : Int) < 0; omega))]
    rfl
  | n + 1, h => by
    have ih := kinds_D (f := f) (y := y) (g := g) hB n (fun k a b => h k a (by omega))
    have hc := h n (by omega) (by omega)
    have e1 : sz (B : Int) (fun c => bI (0 < cntE ((n + 1 : Nat) : Int) (kcode f y g) c)) = sz (B : Int) (fun c => bI (0 < cntE (n : Int) (kcode f y g) c) + (if c = kcode f y g n then (if cntE (n : Int) (kcode f y g) (kcode f y g n) = 0 then 1 else 0) else 0)) := by
      refine sz_congr fun c c0 c1 => ?_
      have e : cntE ((n + 1 : Nat) : Int) (kcode f y g) c = cntE (n : Int) (kcode f y g) c + (if kcode f y g (n : Int) = c then 1 else 0) := by
        unfold cntE
        rw [show ((n + 1 : Nat) : Int) = (n : Int) + 1 by omega, sz_s (by omega)]
      rw [e]
      have hp := (cnt_pos (f := kcode f y g) (c := c) n).1
      by_cases q : kcode f y g n = c
      · rw [if_pos q, if_pos q.symm, bI_t (by omega), q]
        by_cases q2 : cntE (n : Int) (kcode f y g) c = 0
        · rw [if_pos q2, bI_f (by omega)]
          rfl
        · rw [if_neg q2, bI_t (by omega)]
          rfl
      · rw [if_neg q, if_neg (fun z => q z.symm), Int.add_zero, Int.add_zero]
    have e2 : bI (isFirst f y g n) = (if cntE (n : Int) (kcode f y g) (kcode f y g n) = 0 then 1 else 0) := by
      by_cases q : cntE (n : Int) (kcode f y g) (kcode f y g n) = 0
      · rw [if_pos q, bI_t ((first_c h).mpr q)]
      · rw [if_neg q, bI_f (fun z => q ((first_c h).mp z))]
    have hk : 0 ≤ kcode f y g n ∧ kcode f y g n < 15000015 := by unfold kcode; omega
    rw [e1, sz_add (by omega), sz_pt (v := fun _ => if cntE (n : Int) (kcode f y g) (kcode f y g n) = 0 then 1 else 0) hk.1 B, if_pos (by omega), ← ih, ← e2, show ((n + 1 : Nat) : Int) = (n : Int) + 1 by omega, sz_s (by omega)]
theorem kinds_eq {n n' : Int} {f y g f' y' g' : Int → Int} (h0 : 0 ≤ n) (h0' : 0 ≤ n') (h : kRng n f y g) (h' : kRng n' f' y' g') (he : ∀ φ : Int → Int → Int → Int, sz n (fun k => φ (f k) (y k) (g k)) = sz n' (fun k => φ (f' k) (y' k) (g' k))) : sz n (fun k => bI (isFirst f y g k)) = sz n' (fun k => bI (isFirst f' y' g' k)) := by
  obtain ⟨m, rfl⟩ := Int.eq_ofNat_of_zero_le h0
  obtain ⟨m', rfl⟩ := Int.eq_ofNat_of_zero_le h0'
  obtain ⟨B, hB⟩ : ∃ B : Nat, B = 15000015 := ⟨_, rfl⟩
  rw [kinds_D hB m h, kinds_D hB m' h']
  refine sz_congr fun c _ _ => ?_
  have e : cntE (m : Int) (kcode f y g) c = cntE (m' : Int) (kcode f' y' g') c := he (fun d yy gg => if (d * 1000001 + yy) * 3 + gg = c then 1 else 0)
  rw [e]
section QREL
variable {M : Int → Int} {G : Mem} {b : Nat}
theorem qr_n (h : Rel M G b) : M 0 = G b 0 := h.1.1
theorem qr_c (h : Rel M G b) : M 3 = G b 5 := h.1.2.2.2.1
theorem qr_value (hI : StI G b) (h : Rel M G b) : sz (M 3) (fun k => M (9 + 3 * M (24 + 3 * k))) = sz (G b 5) (fun k => G (b + 1) (G (b + 5) k)) :=
  (h.2.2 (fun d _ _ => M (9 + 3 * d))).trans (cs_W (ψ' := fun d _ _ => G (b + 1) d) hI fun d _ _ d0 d1 => (h.2.1 d d0 d1).1)
theorem qr_weight (hI : StI G b) (h : Rel M G b) : sz (M 3) (fun k => M (9 + 3 * M (24 + 3 * k) + 1)) = wgt (G b 5) (G (b + 5)) (G (b + 2)) :=
  (h.2.2 (fun d _ _ => M (9 + 3 * d + 1))).trans (cs_W (ψ' := fun d _ _ => G (b + 2) d) hI fun d _ _ d0 d1 => (h.2.1 d d0 d1).2.1)
theorem qr_die (h : Rel M G b) (x : Int) : cntE (M 3) (fun k => M (24 + 3 * k)) x = cntE (G b 5) (G (b + 5)) x := h.2.2 (fun d _ _ => if d = x then 1 else 0)
theorem qr_year (h : Rel M G b) (x : Int) : cntE (M 3) (fun k => M (24 + 3 * k + 1)) x = cntE (G b 5) (G (b + 6)) x := h.2.2 (fun _ y _ => if y = x then 1 else 0)
theorem qr_grade (h : Rel M G b) (x : Int) : cntE (M 3) (fun k => M (24 + 3 * k + 2)) x = cntE (G b 5) (G (b + 7)) x := h.2.2 (fun _ _ g => if g = x then 1 else 0)
theorem qr_mlt (hI : StI G b) (h : Rel M G b) (y : Int) : mlt (M 3) (fun k => M (24 + 3 * k)) (fun i => M (9 + 3 * i + 1)) (fun k => M (24 + 3 * k + 1)) (fun k => M (24 + 3 * k + 2)) y = mlt (G b 5) (G (b + 5)) (G (b + 2)) (G (b + 6)) (G (b + 7)) y :=
  (h.2.2 (fun d yy g => if yy = y then mxI 0 (M (9 + 3 * d + 1) - g) else 0)).trans (cs_W (ψ' := fun d yy g => if yy = y then mxI 0 (G (b + 2) d - g) else 0) hI fun d yy g d0 d1 => by rw [(h.2.1 d d0 d1).2.1])
theorem qr_ahd (h : Rel M G b) {d : Int} (h0 : 0 ≤ d) (h1 : d < G b 0) : ahd (M 0) (fun i => M (9 + 3 * i + 2)) (fun i => M (9 + 3 * i)) d = ahd (G b 0) (G (b + 3)) (G (b + 1)) d := by
  unfold ahd
  rw [qr_n h]
  refine sz_congr fun o o0 o1 => ?_
  have a := h.2.1 o o0 o1
  have c := h.2.1 d h0 h1
  show (if M (9 + 3 * d + 2) < M (9 + 3 * o + 2) ∨ (M (9 + 3 * o + 2) = M (9 + 3 * d + 2) ∧ M (9 + 3 * d) < M (9 + 3 * o)) then (1 : Int) else 0) = _
  rw [a.1, a.2.2, c.1, c.2.2]
theorem qr_wear (h : Rel M G b) : sz (M 0) (fun k => M (9 + 3 * k + 2)) = sz (G b 0) (G (b + 3)) := by
  rw [qr_n h]
  exact sz_congr fun o o0 o1 => (h.2.1 o o0 o1).2.2
theorem qr_kinds (hM : MoI M) (hI : StI G b) (h : Rel M G b) : sz (M 3) (fun k => bI (isFirst (fun k => M (24 + 3 * k)) (fun k => M (24 + 3 * k + 1)) (fun k => M (24 + 3 * k + 2)) k)) = sz (G b 5) (fun k => bI (isFirst (G (b + 5)) (G (b + 6)) (G (b + 7)) k)) := by
  have hn := StI_n hI
  have hy := StI_y hI
  have hm := MoI_n hM
  have hmy := MoI_y hM
  refine kinds_eq (MoI_c hM).1 (StI_c hI).1 (fun k a c => ?_) (fun k a c => ?_) h.2.2
  · have q := MoI_k hM a c
    exact ⟨⟨q.1.1, by omega⟩, ⟨q.2.1.1, by omega⟩, q.2.2⟩
  · have q := StI_k hI a c
    exact ⟨⟨q.1.1, by omega⟩, ⟨q.2.1.1, by omega⟩, q.2.2⟩
end QREL
