-- class and model: what they are to each other
/-- the model's row M is what the State at b is -/
def Rel (M : Int → Int) (G : Mem) (b : Nat) : Prop :=
  (M 0 = G b 0 ∧ M 1 = G b 9 ∧ M 2 = G b 10 ∧ M 3 = G b 5 ∧ M 4 = G b 11 ∧ M 5 = G b 12 ∧ M 6 = G b 13 ∧ M 7 = G b 14 ∧ M 8 = G b 15) ∧
  (∀ i, 0 ≤ i → i < G b 0 → M (9 + 3 * i) = G (b + 1) i ∧ M (9 + 3 * i + 1) = G (b + 2) i ∧ M (9 + 3 * i + 2) = G (b + 3) i) ∧
  ∀ φ : Int → Int → Int → Int, csM M φ = cs G b φ
theorem Rel_144 {M M' : Int → Int} {G : Mem} {b : Nat} (h3 : 0 ≤ M 3 ∧ M 3 ≤ 40) (h5 : G b 0 ≤ 5) (h : Rel M G b) (hz : ∀ z, 0 ≤ z → z < 144 → M' z = M z) : Rel M' G b := by
  obtain ⟨h1, h2, h4⟩ := h
  refine ⟨?_, fun i i0 i1 => ?_, fun φ => ?_⟩
  · rw [hz 0 (by omega) (by omega), hz 1 (by omega) (by omega), hz 2 (by omega) (by omega), hz 3 (by omega) (by omega), hz 4 (by omega) (by omega), hz 5 (by omega) (by omega), hz 6 (by omega) (by omega), hz 7 (by omega) (by omega), hz 8 (by omega) (by omega)]
    exact h1
  · rw [hz (9 + 3 * i) (by omega) (by omega), hz (9 + 3 * i + 1) (by omega) (by omega), hz (9 + 3 * i + 2) (by omega) (by omega)]
    exact h2 i i0 i1
  · rw [← h4]
    unfold csM
    rw [hz 3 (by omega) (by omega)]
    exact sz_congr fun k k0 k1 => by rw [hz (24 + 3 * k) (by omega) (by omega), hz (24 + 3 * k + 1) (by omega) (by omega), hz (24 + 3 * k + 2) (by omega) (by omega)]
theorem Rel_st {M : Int → Int} {G G' : Mem} {b b' : Nat} (hI : StI G b) (h : Rel M G b) (hc : CpS G G' b' b) : Rel M G' b' := by
  obtain ⟨h1, h2, h4⟩ := h
  obtain ⟨⟨c0, c5, c9, c10, c11, c12, c13, c14, c15⟩, cd, ck, -⟩ := hc
  have hn := StI_n hI
  have hcc := StI_c hI
  refine ⟨by rw [c0, c5, c9, c10, c11, c12, c13, c14, c15]; exact h1, fun i i0 i1 => ?_, fun φ => ?_⟩
  · rw [c0] at i1
    obtain ⟨d1, d2, d3, -⟩ := cd i i0 (by omega)
    rw [d1, d2, d3]; exact h2 i i0 i1
  · rw [h4]
    unfold cs
    rw [c5]
    exact sz_congr fun k k0 k1 => by
      obtain ⟨e1, e2, e3⟩ := ck k k0 (by omega)
      rw [e1, e2, e3]
theorem Rel_fr {M : Int → Int} {G G' : Mem} {b : Nat} (h : Rel M G b) (hE : ∀ j : Nat, j ≤ 7 → ∀ w, G' (b + j) w = G (b + j) w) : Rel M G' b := by
  obtain ⟨h1, h2, h4⟩ := h
  have e : ∀ w, G' b w = G b w := fun w => hE 0 (by omega) w
  refine ⟨by rw [e, e, e, e, e, e, e, e, e]; exact h1, fun i i0 i1 => ?_, fun φ => ?_⟩
  · rw [e] at i1
    rw [hE 1 (by omega), hE 2 (by omega), hE 3 (by omega)]; exact h2 i i0 i1
  · rw [h4, cs_same hE]
theorem Rel_csF {M : Int → Int} {G : Mem} {b : Nat} (h : Rel M G b) : csM M = cs G b := funext h.2.2
theorem Rel_cnt {M : Int → Int} {G : Mem} {b : Nat} (h : Rel M G b) (d : Int) : cntE (M 3) (fun k => M (24 + 3 * k)) d = cntE (G b 5) (G (b + 5)) d := h.2.2 (fun dd _ _ => if dd = d then 1 else 0)
theorem Rel_cntY {M : Int → Int} {G : Mem} {b : Nat} (h : Rel M G b) (d : Int) : cntE (M 3) (fun k => M (24 + 3 * k + 1)) d = cntE (G b 5) (G (b + 6)) d := h.2.2 (fun _ yy _ => if yy = d then 1 else 0)
theorem Rel_cntG {M : Int → Int} {G : Mem} {b : Nat} (h : Rel M G b) (d : Int) : cntE (M 3) (fun k => M (24 + 3 * k + 2)) d = cntE (G b 5) (G (b + 7)) d := h.2.2 (fun _ _ gg => if gg = d then 1 else 0)
-- ranks
theorem sz_above {n s : Int} (h : 0 ≤ s ∧ s < n) : sz n (fun t => if s < t then 1 else 0) = n - 1 - s := by
  have e := sz_split (a := s + 1) (b := n - 1 - s) (f := fun t => if s < t then 1 else 0) (by omega) (by omega)
  rw [show s + 1 + (n - 1 - s) = n by omega] at e
  rw [e, sz_zero (by omega) (fun k _ k1 => if_neg (by omega)), sz_congr (g := fun _ => 1) (fun k k0 _ => if_pos (by omega)), sz_one (by omega)]
  omega
theorem perm_sz {n : Int} {d F : Int → Int} (hn : 0 ≤ n) (hr : ∀ k, 0 ≤ k → k < n → 0 ≤ d k ∧ d k < n) (hi : ∀ j k, 0 ≤ j → j < k → k < n → d j ≠ d k) : sz n (fun k => F (d k)) = sz n F := by
  have e : ((n.toNat : Nat) : Int) = n := by omega
  exact perm_sum (n := n.toNat) (fun k k0 k1 => by rw [e] at k1 ⊢; exact hr k k0 k1) (fun j k j0 jk k1 => by rw [e] at k1; exact hi j k j0 jk k1)
theorem rev_sz {n : Int} {F : Int → Int} (hn : 0 ≤ n) : sz n (fun k => F (n - 1 - k)) = sz n F :=
  perm_sz (d := fun k => n - 1 - k) hn (fun k _ _ => by show 0 ≤ n - 1 - k ∧ n - 1 - k < n; omega) (fun j k _ _ _ => by show n - 1 - j ≠ n - 1 - k; omega)
theorem StI_ρ {G : Mem} {b : Nat} (hI : StI G b) {j k : Int} (j0 : 0 ≤ j) (jk : j < k) (k1 : k < G b 0) : G (b + 4) j ≠ G (b + 4) k := fun e => by
  have := hI.2.2.2.2.2.2.1 j k j0 jk k1
  rw [e] at this
  omega
theorem ρ_sz {G : Mem} {b : Nat} (hI : StI G b) (F : Int → Int) : sz (G b 0) (fun s => F (G (b + 4) s)) = sz (G b 0) F :=
  perm_sz (StI_n hI).1 (fun k k0 k1 => StI_r hI k0 k1) (fun j k j0 jk k1 => StI_ρ hI j0 jk k1)
theorem rk_ρ {M : Int → Int} {G : Mem} {b : Nat} (hI : StI G b) (h : Rel M G b) {s : Int} (s0 : 0 ≤ s) (s1 : s < G b 0) : rkM M (G (b + 4) s) = G b 0 - 1 - s := by
  have hv : ∀ i, 0 ≤ i → i < G b 0 → M (9 + 3 * i) = G (b + 1) i := fun i a c => (h.2.1 i a c).1
  have hr := StI_r hI s0 s1
  unfold rkM
  rw [h.1.1, ← sz_above ⟨s0, s1⟩, ← ρ_sz hI (fun o => if M (9 + 3 * G (b + 4) s) < M (9 + 3 * o) then 1 else 0)]
  refine sz_congr fun t t0 t1 => ?_
  have ht := StI_r hI t0 t1
  rw [hv _ hr.1 hr.2, hv _ ht.1 ht.2]
  have hlt := hI.2.2.2.2.2.2.1
  refine if_congr ?_ rfl rfl
  constructor
  · intro q
    refine Int.not_le.mp fun z => ?_
    by_cases e : t = s
    · rw [e] at q; omega
    · have := hlt t s t0 (by omega) s1; omega
  · intro q
    exact hlt s t s0 q t1
theorem β_ρ {M β : Int → Int} {G : Mem} {b : Nat} (hI : StI G b) (h : Rel M G b) (hβ : SrtM M β) {s : Int} (s0 : 0 ≤ s) (s1 : s < G b 0) : β (M 0 - 1 - s) = G (b + 4) s := by
  have hr := StI_r hI s0 s1
  have e := hβ.1 (G (b + 4) s) hr.1 (by rw [h.1.1]; exact hr.2)
  rw [rk_ρ hI h s0 s1] at e
  rw [h.1.1]; exact e
theorem vs_rel {M β : Int → Int} {G : Mem} {b : Nat} (hI : StI G b) (h : Rel M G b) (hβ : SrtM M β) {s : Int} (s0 : 0 ≤ s) (s1 : s < G b 0) : vsB M β s = vsR G b s ∧ cnB M β s = cnR G b s := by
  have e := β_ρ hI h hβ s0 s1
  have hr := StI_r hI s0 s1
  constructor
  · show M (9 + 3 * β (M 0 - 1 - s)) = _
    rw [e]; exact (h.2.1 _ hr.1 hr.2).1
  · show cntE _ _ (β (M 0 - 1 - s)) = _
    rw [e]; exact Rel_cnt h _
theorem Tab_cg {vs cn vs' cn' : Int → Int} : ∀ k : Nat, (∀ r : Int, 0 ≤ r → r < k → vs r = vs' r ∧ cn r = cn' r) → Tab vs cn k = Tab vs' cn' k
  | 0, _ => rfl
  | k + 1, h => by
    show rowF (Tab vs cn k) (vs k) (cn k) = rowF (Tab vs' cn' k) (vs' k) (cn' k)
    rw [Tab_cg k (fun r a c => h r a (by omega)), (h k (by omega) (by omega)).1, (h k (by omega) (by omega)).2]
theorem rsF_cg {vs cn vs' cn' : Int → Int} {n a : Int} (h : ∀ r : Int, 0 ≤ r → r < n → vs r = vs' r ∧ cn r = cn' r) : ∀ k : Nat, (k : Int) ≤ n → rsF vs cn n a k = rsF vs' cn' n a k
  | 0, _ => rfl
  | k + 1, hk => by
    have ih := rsF_cg (a := a) h k (by omega)
    have hr := h (n - 1 - k) (by omega) (by omega)
    show rsF vs cn n a k - mst (Tab vs cn (n - 1 - k).toNat) (Tab vs cn ((n - 1 - k).toNat + 1) (rsF vs cn n a k)) (vs (n - 1 - k)) (rsF vs cn n a k) (cn (n - 1 - k)).toNat * vs (n - 1 - k) = rsF vs' cn' n a k - mst (Tab vs' cn' (n - 1 - k).toNat) (Tab vs' cn' ((n - 1 - k).toNat + 1) (rsF vs' cn' n a k)) (vs' (n - 1 - k)) (rsF vs' cn' n a k) (cn' (n - 1 - k)).toNat * vs' (n - 1 - k)
    rw [ih, hr.1, hr.2, Tab_cg (n - 1 - k).toNat (fun r a c => h r a (by omega)), Tab_cg ((n - 1 - k).toNat + 1) (fun r a c => h r a (by omega))]
theorem usF_cg {vs cn vs' cn' : Int → Int} {n a r : Int} (h : ∀ r : Int, 0 ≤ r → r < n → vs r = vs' r ∧ cn r = cn' r) (h0 : 0 ≤ r ∧ r < n) : usF vs cn n a r = usF vs' cn' n a r := by
  have hr := h r h0.1 h0.2
  unfold usF
  rw [rsF_cg h (n - 1 - r).toNat (by omega), hr.1, hr.2, Tab_cg r.toNat (fun r a c => h r a (by omega)), Tab_cg (r.toNat + 1) (fun r a c => h r a (by omega))]
theorem grR_cg {vs cn vs' cn' : Int → Int} {n a : Int} (h : ∀ r : Int, 0 ≤ r → r < n → vs r = vs' r ∧ cn r = cn' r) : ∀ k : Nat, (k : Int) ≤ n → grR vs cn n a k = grR vs' cn' n a k
  | 0, _ => rfl
  | k + 1, hk => by
    have hr := h (n - 1 - k) (by omega) (by omega)
    show grR vs cn n a k - mnI (cn (n - 1 - k)) (grR vs cn n a k / vs (n - 1 - k)) * vs (n - 1 - k) = grR vs' cn' n a k - mnI (cn' (n - 1 - k)) (grR vs' cn' n a k / vs' (n - 1 - k)) * vs' (n - 1 - k)
    rw [grR_cg h k (by omega), hr.1, hr.2]
theorem grU_cg {vs cn vs' cn' : Int → Int} {n a k : Int} (h : ∀ r : Int, 0 ≤ r → r < n → vs r = vs' r ∧ cn r = cn' r) (h0 : 0 ≤ k ∧ k < n) : grU vs cn n a k = grU vs' cn' n a k := by
  have hr := h (n - 1 - k) (by omega) (by omega)
  unfold grU
  rw [grR_cg h k.toNat (by omega), hr.1, hr.2]
section RL
variable {M β : Int → Int} {G : Mem} {b : Nat}
theorem vs_all (hI : StI G b) (h : Rel M G b) (hβ : SrtM M β) : ∀ r : Int, 0 ≤ r → r < G b 0 → vsB M β r = vsR G b r ∧ cnB M β r = cnR G b r := fun _ a c => vs_rel hI h hβ a c
theorem Tab_rel (hI : StI G b) (h : Rel M G b) (hβ : SrtM M β) (a : Int) : Tab (vsB M β) (cnB M β) (M 0).toNat a = Tab (vsR G b) (cnR G b) (G b 0).toNat a := by
  rw [h.1.1, Tab_cg (G b 0).toNat (fun r r0 r1 => vs_rel hI h hβ r0 (by have := StI_n hI; omega))]
theorem us_rel (hI : StI G b) (h : Rel M G b) (hβ : SrtM M β) (a : Int) {k : Int} (h0 : 0 ≤ k ∧ k < G b 0) : usB M β a k = usF (vsR G b) (cnR G b) (G b 0) a (G b 0 - 1 - k) := by
  show usF _ _ (M 0) a (M 0 - 1 - k) = _
  rw [h.1.1]
  exact usF_cg (vs_all hI h hβ) (by omega)
end RL
-- faults
theorem FltDie_eq {n : Int} {dv dv' : Int → Int} {v w r q : Int} (hd : ∀ i, 0 ≤ i → i < n → dv' i = dv i) (h : FltDie n dv v w r) (h' : FltDie n dv' v w q) : q = r := by
  unfold FltDie at h h'
  rcases h with ⟨a, b⟩ | ⟨a, ⟨b, c⟩ | ⟨b, ⟨⟨i, i0, i1, i2⟩, c⟩ | ⟨d, c⟩⟩⟩ <;> rcases h' with ⟨a', b'⟩ | ⟨a', ⟨b', c'⟩ | ⟨b', ⟨⟨j, j0, j1, j2⟩, c'⟩ | ⟨d', c'⟩⟩⟩ <;> first | omega | skip
  · exact absurd ((hd i i0 i1).trans i2) (d' i i0 i1)
  · exact absurd ((hd j j0 j1).symm.trans j2) (d j j0 j1)
theorem FltSh_eq {n : Int} {we we' : Int → Int} {d r q : Int} (hd : ∀ i, 0 ≤ i → i < n → we' i = we i) (h : FltSh n we d r) (h' : FltSh n we' d q) : q = r := by
  unfold FltSh at h h'
  by_cases z : 0 ≤ d ∧ d < n
  · rw [hd d z.1 z.2] at h'; omega
  · omega
theorem FltLf_eq {lv z r q : Int} (h : FltLf lv z r) (h' : FltLf lv z q) : q = r := by
  unfold FltLf at h h'; omega
theorem FltSt_eq {n c lv : Int} {wt we wt' we' : Int → Int} {d z r q : Int} (hd : ∀ i, 0 ≤ i → i < n → wt' i = wt i ∧ we' i = we i) (h : FltSt n c lv wt we d z r) (h' : FltSt n c lv wt' we' d z q) : q = r := by
  unfold FltSt at h h'
  by_cases e : 0 ≤ d ∧ d < n
  · rw [(hd d e.1 e.2).1, (hd d e.1 e.2).2] at h'
    rcases h with ⟨a, b⟩ | ⟨a, ⟨b, c⟩ | ⟨b, ⟨c, k⟩ | ⟨c, ⟨k, l⟩ | ⟨k, l⟩⟩⟩⟩ <;> rcases h' with ⟨a', b'⟩ | ⟨a', ⟨b', c'⟩ | ⟨b', ⟨c', k'⟩ | ⟨c', ⟨k', l'⟩ | ⟨k', l'⟩⟩⟩⟩ <;> omega
  · omega
theorem FltMl_eq {y n n' : Int} {cy cy' : Int → Int} {z r q : Int} (hc : cntE n' cy' z = cntE n cy z) (h : FltMl y n cy z r) (h' : FltMl y n' cy' z q) : q = r := by
  unfold FltMl at h h'
  rw [hc] at h'
  omega
theorem FltPy_eq {M : Int → Int} {G : Mem} {b : Nat} (hI : StI G b) (h : Rel M G b) {a r q : Int} (h1 : FltPay G b a r) (h2 : FltPy M a q) : q = r := by
  unfold FltPay at h1
  unfold FltPy at h2
  rcases h2 with h2 | ⟨h2, β, hβ, h3⟩
  · omega
  · rw [Tab_rel hI h hβ] at h3
    omega
theorem Flt_rel {M : Int → Int} {G : Mem} {b : Nat} (hI : StI G b) (h : Rel M G b) {v f s r q : Int} (h1 : FltV G b v f s r) (h2 : FltM M v f s q) : q = r := by
  obtain ⟨⟨e0, e9, e10, e5, -⟩, hd, -⟩ := id h
  unfold FltV at h1
  unfold FltM at h2
  by_cases v0 : v = 0
  · rw [if_pos v0] at h1 h2
    rw [e0] at h2
    exact FltDie_eq (fun i a c => (hd i a c).1) h1 h2
  rw [if_neg v0] at h1 h2
  by_cases v1 : v = 1
  · rw [if_pos v1] at h1 h2
    rw [e0] at h2
    exact FltSh_eq (fun i a c => (hd i a c).2.2) h1 h2
  rw [if_neg v1] at h1 h2
  by_cases v2 : v = 2
  · rw [if_pos v2] at h1 h2
    rw [e9] at h2
    exact FltLf_eq h1 h2
  rw [if_neg v2] at h1 h2
  by_cases v3 : v = 3
  · rw [if_pos v3] at h1 h2
    rw [e0, e5, e9] at h2
    exact FltSt_eq (fun i a c => ⟨(hd i a c).2.1, (hd i a c).2.2⟩) h1 h2
  rw [if_neg v3] at h1 h2
  by_cases v4 : v = 4
  · rw [if_pos v4] at h1 h2
    unfold FltYr at h1 h2
    omega
  rw [if_neg v4] at h1 h2
  by_cases v5 : v = 5
  · rw [if_pos v5] at h1 h2
    rw [e10] at h2
    exact FltMl_eq (Rel_cntY h f) h1 h2
  rw [if_neg v5] at h1 h2
  exact FltPy_eq hI h h1 h2
