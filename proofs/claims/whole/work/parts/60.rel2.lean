-- a command does the same to class and model
section RS
variable {M M' : Int → Int} {G G' : Mem} {b : Nat}
theorem cs_more {c z : Int} {f g k f' g' k' : Int → Int} {φ : Int → Int → Int → Int} (hc : 0 ≤ c) (hz : 0 ≤ z) (h : ∀ j, 0 ≤ j → j < c → f' j = f j ∧ g' j = g j ∧ k' j = k j) : sz (c + z) (fun j => φ (f' j) (g' j) (k' j)) = sz c (fun j => φ (f j) (g j) (k j)) + sz z (fun j => φ (f' (c + j)) (g' (c + j)) (k' (c + j))) := by
  rw [sz_split hc hz]
  congr 1
  exact sz_congr fun j j0 j1 => by
    obtain ⟨e1, e2, e3⟩ := h j j0 j1
    rw [e1, e2, e3]
theorem st_Die {f s r r' : Int} (hI : StI G b) (hM : MoI M) (h : Rel M G b) (hn : G b 0 < 5) (hp : PfDie G G' b f s r) (hm : PmDie M M' f s r') : r' = r ∧ Rel M' G' b := by
  obtain ⟨⟨e0, e9, e10, e5, e11, e12, e13, e14, e15⟩, hd, hc⟩ := h
  obtain ⟨p1, -, p2, ⟨p3, p4, p5⟩, p6, p7⟩ := hp
  obtain ⟨m1, m2, m3, m4, m5⟩ := hm
  have hnn := StI_n hI
  have hz : ∀ z, z ≠ 0 → (z < 9 ∨ 24 ≤ z) → M' z = M z := fun z a c => m5 z a (by omega) (by omega)
  have gz : ∀ z, z ≠ 0 → G' b z = G b z := fun z a => p7 b z (by omega) (by omega)
  refine ⟨by omega, ⟨by omega, ?_, ?_, ?_, ?_, ?_, ?_, ?_, ?_⟩, fun i i0 i1 => ?_, fun φ => ?_⟩
  · rw [hz 1 (by omega) (by omega), gz 9 (by omega)]; exact e9
  · rw [hz 2 (by omega) (by omega), gz 10 (by omega)]; exact e10
  · rw [hz 3 (by omega) (by omega), gz 5 (by omega)]; exact e5
  · rw [hz 4 (by omega) (by omega), gz 11 (by omega)]; exact e11
  · rw [hz 5 (by omega) (by omega), gz 12 (by omega)]; exact e12
  · rw [hz 6 (by omega) (by omega), gz 13 (by omega)]; exact e13
  · rw [hz 7 (by omega) (by omega), gz 14 (by omega)]; exact e14
  · rw [hz 8 (by omega) (by omega), gz 15 (by omega)]; exact e15
  · by_cases q : i = G b 0
    · rw [q, p3, p4, p5, ← e0, m3, m4, m5 (9 + 3 * M 0 + 2) (by omega) (by omega) (by omega)]
      exact ⟨rfl, rfl, hM.2.2.2.2.2.1 (M 0) (by omega) (by omega)⟩
    · obtain ⟨q1, q2, q3⟩ := p6 i i0 (by omega)
      rw [q1, q2, q3, m5 (9 + 3 * i) (by omega) (by omega) (by omega), m5 (9 + 3 * i + 1) (by omega) (by omega) (by omega), m5 (9 + 3 * i + 2) (by omega) (by omega) (by omega)]
      exact hd i i0 (by omega)
  · rw [csM_same (M := M) (hz 3 (by omega) (by omega)) (fun z a => hz z (by omega) (by omega)), hc]
    exact (cs_congr (gz 5 (by omega)) (fun k _ _ => ⟨p7 (b + 5) k (by omega) (by omega), p7 (b + 6) k (by omega) (by omega), p7 (b + 7) k (by omega) (by omega)⟩)).symm
theorem st_Sh {f r r' : Int} (hI : StI G b) (h : Rel M G b) (hd0 : 0 ≤ f ∧ f < G b 0) (hp : r = G (b + 3) f ∧ G' = upd2 G (b + 3) f 0) (hm : PmSh M M' f r') : r' = r ∧ Rel M' G' b := by
  obtain ⟨hs, hd, hc⟩ := h
  obtain ⟨p1, rfl⟩ := hp
  obtain ⟨m1, m2, m3⟩ := hm
  have hn := StI_n hI
  have hz : ∀ z, z < 9 ∨ 24 ≤ z → M' z = M z := fun z a => m3 z (by omega)
  have gz : ∀ z, upd2 G (b + 3) f 0 b z = G b z := fun z => upd2_i (by omega)
  refine ⟨by rw [m1, p1]; exact (hd f hd0.1 hd0.2).2.2, ?_, fun i i0 i1 => ?_, fun φ => ?_⟩
  · rw [hz 0 (by omega), hz 1 (by omega), hz 2 (by omega), hz 3 (by omega), hz 4 (by omega), hz 5 (by omega), hz 6 (by omega), hz 7 (by omega), hz 8 (by omega), gz, gz, gz, gz, gz, gz, gz, gz, gz]
    exact hs
  · rw [gz] at i1
    rw [m3 (9 + 3 * i) (by omega), m3 (9 + 3 * i + 1) (by omega), upd2_i (by omega), upd2_i (by omega)]
    obtain ⟨q1, q2, q3⟩ := hd i i0 i1
    refine ⟨q1, q2, ?_⟩
    by_cases q : i = f
    · rw [q, m2, upd2_s]
    · rw [m3 (9 + 3 * i + 2) (by omega), upd2_z q]; exact q3
  · rw [csM_same (M := M) (hz 3 (by omega)) (fun z a => hz z (by omega)), hc]
    exact (cs_congr (gz 5) (fun k _ _ => ⟨upd2_i (by omega), upd2_i (by omega), upd2_i (by omega)⟩)).symm
theorem st_Lf {f r r' : Int} (h : Rel M G b) (hp : r = G b 9 + f ∧ G' = ptL G b f) (hm : PmLf M M' f r') : r' = r ∧ Rel M' G' b := by
  obtain ⟨⟨e0, e9, e10, e5, e11, e12, e13, e14, e15⟩, hd, hc⟩ := h
  obtain ⟨p1, rfl⟩ := hp
  obtain ⟨m1, m2, m3, m4⟩ := hm
  have go : ∀ i z, i ≠ b → ptL G b f i z = G i z := fun i z a => by unfold ptL; rw [upd2_i a, upd2_i a]
  have gz : ∀ z, z ≠ 9 → z ≠ 15 → ptL G b f b z = G b z := fun z a c => by unfold ptL; rw [upd2_z c, upd2_z a]
  have g9 : ptL G b f b 9 = G b 9 + f := by unfold ptL; rw [upd2_z (by decide), upd2_s]
  have g15 : ptL G b f b 15 = G b 15 + f := by unfold ptL; rw [upd2_s]
  refine ⟨by omega, ⟨?_, by rw [m2, g9, e9], ?_, ?_, ?_, ?_, ?_, ?_, by rw [m3, g15, e15]⟩, fun i i0 i1 => ?_, fun φ => ?_⟩
  · rw [m4 0 (by omega) (by omega), gz 0 (by omega) (by omega)]; exact e0
  · rw [m4 2 (by omega) (by omega), gz 10 (by omega) (by omega)]; exact e10
  · rw [m4 3 (by omega) (by omega), gz 5 (by omega) (by omega)]; exact e5
  · rw [m4 4 (by omega) (by omega), gz 11 (by omega) (by omega)]; exact e11
  · rw [m4 5 (by omega) (by omega), gz 12 (by omega) (by omega)]; exact e12
  · rw [m4 6 (by omega) (by omega), gz 13 (by omega) (by omega)]; exact e13
  · rw [m4 7 (by omega) (by omega), gz 14 (by omega) (by omega)]; exact e14
  · rw [gz 0 (by omega) (by omega)] at i1
    rw [m4 (9 + 3 * i) (by omega) (by omega), m4 (9 + 3 * i + 1) (by omega) (by omega), m4 (9 + 3 * i + 2) (by omega) (by omega), go (b + 1) i (by omega), go (b + 2) i (by omega), go (b + 3) i (by omega)]
    exact hd i i0 i1
  · rw [csM_same (M := M) (m4 3 (by omega) (by omega)) (fun z a => m4 z (by omega) (by omega)), hc]
    exact (cs_congr (gz 5 (by omega) (by omega)) (fun k _ _ => ⟨go _ k (by omega), go _ k (by omega), go _ k (by omega)⟩)).symm
theorem st_St {d z r r' : Int} (hI : StI G b) (h : Rel M G b) (hd0 : 0 ≤ d ∧ d < G b 0) (hz0 : 0 ≤ z) (hp : PfSt G G' b d z r) (hm : PmSt M M' d z r') : r' = r ∧ Rel M' G' b := by
  obtain ⟨⟨e0, e9, e10, e5, e11, e12, e13, e14, e15⟩, hd, hc⟩ := h
  obtain ⟨p1, p5, pold, pnew, pw, pwo, p9, p11, po⟩ := hp
  obtain ⟨m1, m3, m4, m2, mw, mk, mo⟩ := hm
  have hn := StI_n hI
  have hcc := StI_c hI
  have hdd := hd d hd0.1 hd0.2
  have gz : ∀ w, w ≠ 5 → w ≠ 9 → w ≠ 11 → G' b w = G b w := fun w a c e => po b w (by omega) (by omega)
  have hz : ∀ w, w ≠ 1 → w ≠ 3 → w ≠ 4 → w < 9 → M' w = M w := fun w a c e f => mo w a c e (by omega) (by omega)
  refine ⟨by omega, ⟨?_, ?_, ?_, by omega, by omega, ?_, ?_, ?_, ?_⟩, fun i i0 i1 => ?_, fun φ => ?_⟩
  · rw [hz 0 (by omega) (by omega) (by omega) (by omega), gz 0 (by omega) (by omega) (by omega)]; exact e0
  · rw [m2, p9, hdd.2.1, e9]
  · rw [hz 2 (by omega) (by omega) (by omega) (by omega), gz 10 (by omega) (by omega) (by omega)]; exact e10
  · rw [hz 5 (by omega) (by omega) (by omega) (by omega), gz 12 (by omega) (by omega) (by omega)]; exact e12
  · rw [hz 6 (by omega) (by omega) (by omega) (by omega), gz 13 (by omega) (by omega) (by omega)]; exact e13
  · rw [hz 7 (by omega) (by omega) (by omega) (by omega), gz 14 (by omega) (by omega) (by omega)]; exact e14
  · rw [hz 8 (by omega) (by omega) (by omega) (by omega), gz 15 (by omega) (by omega) (by omega)]; exact e15
  · rw [gz 0 (by omega) (by omega) (by omega)] at i1
    obtain ⟨q1, q2, q3⟩ := hd i i0 i1
    rw [mo (9 + 3 * i) (by omega) (by omega) (by omega) (by omega) (by omega), mo (9 + 3 * i + 1) (by omega) (by omega) (by omega) (by omega) (by omega), po (b + 1) i (by omega) (by omega), po (b + 2) i (by omega) (by omega)]
    refine ⟨q1, q2, ?_⟩
    by_cases q : i = d
    · rw [q, mw, pw, hdd.2.2]
    · rw [mo (9 + 3 * i + 2) (by omega) (by omega) (by omega) (by omega) (by omega), pwo i q]; exact q3
  · have a1 := cs_more (c := M 3) (z := z) (φ := φ) (f := fun k => M (24 + 3 * k)) (g := fun k => M (24 + 3 * k + 1)) (k := fun k => M (24 + 3 * k + 2)) (f' := fun k => M' (24 + 3 * k)) (g' := fun k => M' (24 + 3 * k + 1)) (k' := fun k => M' (24 + 3 * k + 2)) (by omega) hz0 (fun j j0 j1 => ⟨mo _ (by omega) (by omega) (by omega) (by omega) (by omega), mo _ (by omega) (by omega) (by omega) (by omega) (by omega), mo _ (by omega) (by omega) (by omega) (by omega) (by omega)⟩)
    have a2 := cs_more (c := G b 5) (z := z) (φ := φ) (f := G (b + 5)) (g := G (b + 6)) (k := G (b + 7)) (f' := G' (b + 5)) (g' := G' (b + 6)) (k' := G' (b + 7)) (by omega) hz0 pold
    have a3 := hc φ
    show sz (M' 3) (fun k => φ (M' (24 + 3 * k)) (M' (24 + 3 * k + 1)) (M' (24 + 3 * k + 2))) = sz (G' b 5) (fun k => φ (G' (b + 5) k) (G' (b + 6) k) (G' (b + 7) k))
    rw [m3, p5, a1, a2]
    change sz (M 3) (fun j => φ (M (24 + 3 * j)) (M (24 + 3 * j + 1)) (M (24 + 3 * j + 2))) = sz (G b 5) (fun j => φ (G (b + 5) j) (G (b + 6) j) (G (b + 7) j)) at a3
    rw [a3]
    congr 1
    exact sz_congr fun j j0 j1 => by
      obtain ⟨x1, x2, x3⟩ := mk j j0 j1
      obtain ⟨y1, y2, y3⟩ := pnew j j0 j1
      rw [x1, x2, x3, y1, y2, y3, e10, hdd.2.2]
theorem st_Yr {Y r r' : Int} (hI : StI G b) (hM : MoI M) (h : Rel M G b) (hp : PfYr G G' b Y r) (hm : PmYr M M' Y r') : r' = r ∧ Rel M' G' b := by
  obtain ⟨⟨e0, e9, e10, e5, e11, e12, e13, e14, e15⟩, hd, hc⟩ := h
  obtain ⟨p1, p10, pg, po⟩ := hp
  obtain ⟨m1, m2, mg, mo⟩ := hm
  have hn := StI_n hI
  have hz : ∀ w, w ≠ 2 → w < 24 → M' w = M w := fun w a c => mo w a (fun k _ _ => by omega)
  have gz : ∀ w, w ≠ 10 → G' b w = G b w := fun w a => po b w (by omega) (by omega)
  refine ⟨?_, ⟨?_, ?_, by omega, ?_, ?_, ?_, ?_, ?_, ?_⟩, fun i i0 i1 => ?_, fun φ => ?_⟩
  · have := hc (fun _ yy gg => agd Y.toNat (M 2) yy gg - gg)
    rw [m1, p1, ← e10]
    exact this
  · rw [hz 0 (by omega) (by omega), gz 0 (by omega)]; exact e0
  · rw [hz 1 (by omega) (by omega), gz 9 (by omega)]; exact e9
  · rw [hz 3 (by omega) (by omega), gz 5 (by omega)]; exact e5
  · rw [hz 4 (by omega) (by omega), gz 11 (by omega)]; exact e11
  · rw [hz 5 (by omega) (by omega), gz 12 (by omega)]; exact e12
  · rw [hz 6 (by omega) (by omega), gz 13 (by omega)]; exact e13
  · rw [hz 7 (by omega) (by omega), gz 14 (by omega)]; exact e14
  · rw [hz 8 (by omega) (by omega), gz 15 (by omega)]; exact e15
  · rw [gz 0 (by omega)] at i1
    rw [hz (9 + 3 * i) (by omega) (by omega), hz (9 + 3 * i + 1) (by omega) (by omega), hz (9 + 3 * i + 2) (by omega) (by omega), po (b + 1) i (by omega) (by omega), po (b + 2) i (by omega) (by omega), po (b + 3) i (by omega) (by omega)]
    exact hd i i0 i1
  · have a := hc (fun dd yy gg => φ dd yy (agd Y.toNat (M 2) yy gg))
    show sz (M' 3) _ = sz (G' b 5) _
    rw [hz 3 (by omega) (by omega), gz 5 (by omega)]
    refine Eq.trans (sz_congr fun k k0 k1 => ?_) (a.trans (sz_congr fun k k0 k1 => ?_))
    · rw [mg k k0 k1, mo (24 + 3 * k) (by omega) (fun j _ _ => by omega), mo (24 + 3 * k + 1) (by omega) (fun j _ _ => by omega)]
    · rw [pg k k0 k1, po (b + 5) k (by omega) (by omega), po (b + 6) k (by omega) (by omega), e10]
theorem cs_W {ψ ψ' : Int → Int → Int → Int} (hI : StI G b) (h : ∀ d y g, 0 ≤ d → d < G b 0 → ψ d y g = ψ' d y g) : cs G b ψ = cs G b ψ' :=
  cs_fcongr fun k k0 k1 => h _ _ _ (StI_k hI k0 k1).1.1 (StI_k hI k0 k1).1.2
theorem coins_eq (hM' : MoI M') (hI' : StI G' b) (hc : ∀ φ : Int → Int → Int → Int, csM M' φ = cs G' b φ) : M' 3 = G' b 5 := by
  have a := hc (fun _ _ _ => 1)
  rw [cs_n G' b (StI_c hI').1] at a
  rw [← a]
  exact (sz_one (MoI_c hM').1).symm
theorem st_Ml {y r r' : Int} (hI : StI G b) (h : Rel M G b) (hM' : MoI M') (hp : PfMl G G' b y r) (hm : PmMl M M' y r') : r' = r ∧ Rel M' G' b := by
  obtain ⟨⟨e0, e9, e10, e5, e11, e12, e13, e14, e15⟩, hd, hc⟩ := h
  obtain ⟨p1, hI', pc, p9, p14, po⟩ := hp
  obtain ⟨m1, mc, m2, m7, mo⟩ := hm
  have hn := StI_n hI
  have hW : ∀ d, 0 ≤ d → d < G b 0 → M (9 + 3 * d + 1) = G (b + 2) d := fun d a c => (hd d a c).2.1
  have hr : r' = r := by
    rw [m1, p1, mltM_cs, hc]
    exact (cs_W (ψ := fun dd yy gg => if yy = y then mxI 0 (M (9 + 3 * dd + 1) - gg) else 0) (ψ' := fun dd yy gg => if yy = y then mxI 0 (G (b + 2) dd - gg) else 0) hI (fun d yy g a c => by rw [hW d a c])).trans rfl
  have hw1 : csM M (fun dd _ _ => wM M dd) = cs G b (fun dd _ _ => G (b + 2) dd) := by
    rw [hc]; exact cs_W hI (fun d yy g a c => hW d a c)
  have hw2 : csM M (fun dd yy _ => if yy = y then 0 else wM M dd) = cs G b (fun dd yy _ => if yy = y then 0 else G (b + 2) dd) := by
    rw [hc]; exact cs_W hI (fun d yy g a c => by show (if yy = y then (0 : Int) else M (9 + 3 * d + 1)) = _; rw [hW d a c])
  have gz : ∀ w, w ≠ 5 → w ≠ 9 → w ≠ 14 → G' b w = G b w := fun w a c e => po b w (by omega) (by omega)
  have hφ : ∀ φ : Int → Int → Int → Int, csM M' φ = cs G' b φ := fun φ => by rw [mc, pc, hc]
  refine ⟨hr, ⟨?_, by omega, ?_, coins_eq hM' hI' hφ, ?_, ?_, ?_, by rw [m7, p14, hw1, hw2, hr, e14], ?_⟩, fun i i0 i1 => ?_, hφ⟩
  · rw [mo 0 (by omega) (by omega) (by omega) (by omega), gz 0 (by omega) (by omega) (by omega)]; exact e0
  · rw [mo 2 (by omega) (by omega) (by omega) (by omega), gz 10 (by omega) (by omega) (by omega)]; exact e10
  · rw [mo 4 (by omega) (by omega) (by omega) (by omega), gz 11 (by omega) (by omega) (by omega)]; exact e11
  · rw [mo 5 (by omega) (by omega) (by omega) (by omega), gz 12 (by omega) (by omega) (by omega)]; exact e12
  · rw [mo 6 (by omega) (by omega) (by omega) (by omega), gz 13 (by omega) (by omega) (by omega)]; exact e13
  · rw [mo 8 (by omega) (by omega) (by omega) (by omega), gz 15 (by omega) (by omega) (by omega)]; exact e15
  · rw [gz 0 (by omega) (by omega) (by omega)] at i1
    rw [mo (9 + 3 * i) (by omega) (by omega) (by omega) (by omega), mo (9 + 3 * i + 1) (by omega) (by omega) (by omega) (by omega), mo (9 + 3 * i + 2) (by omega) (by omega) (by omega) (by omega), po (b + 1) i (by omega) (by omega), po (b + 2) i (by omega) (by omega), po (b + 3) i (by omega) (by omega)]
    exact hd i i0 i1
theorem st_Py {a r r' : Int} (hb : isS b) (hI : StI G b) (hM : MoI M) (h : Rel M G b) (hM' : MoI M') (ha : 0 ≤ a) (hok : Tab (vsR G b) (cnR G b) (G b 0).toNat a ≠ 1000) (hp : PfPay G G' b a r) (hm : PmPy M M' a r') : r' = r ∧ Rel M' G' b := by
  have hh := h
  obtain ⟨⟨e0, e9, e10, e5, e11, e12, e13, e14, e15⟩, hd, hc⟩ := h
  obtain ⟨G1, pf, pu, p1, hI', pc, p12, p13, po⟩ := hp
  obtain ⟨β, hβ, m1, mc, m5, m6, mo⟩ := hm
  have hb2 := isS_lt hb
  have hn := StI_n hI
  have hlt : Tab (vsR G b) (cnR G b) (G b 0).toNat a < 1000 := by
    have := TabR hI (r := (G b 0).toNat) (by omega) a
    omega
  have hall := usF_all (vs := vsR G b) (cn := cnR G b) (n := G b 0) (a := a) hn.1 (fun r _ _ => (cnR_r hI r).1) (fun r hr x => (TabR hI hr x).1) hlt
  have hk : ∀ F : Int → Int → Int, sz (G b 0) (fun e => F e (G1 92 e)) = sz (M 0) (fun k => F (β k) (usB M β a k)) := fun F => by
    rw [← ρ_sz hI (fun e => F e (G1 92 e)), e0, ← rev_sz hn.1]
    refine sz_congr fun k k0 k1 => ?_
    have hs := pu (G b 0 - 1 - k) (by omega) (by omega)
    have hbr := β_ρ hI hh hβ (s := G b 0 - 1 - k) (by omega) (by omega)
    rw [e0, show G b 0 - 1 - (G b 0 - 1 - k) = k by omega] at hbr
    rw [us_rel hI hh hβ a ⟨k0, k1⟩, hbr, hs]
  have hr : r' = r := by
    rw [m1, p1, Tab_rel hI hh hβ, ← hall]
    have := hk (fun _ u => u)
    rw [this, e0]
    exact sz_congr fun k k0 k1 => (us_rel hI hh hβ a ⟨k0, k1⟩).symm
  have gz : ∀ w, w ≠ 5 → w ≠ 12 → w ≠ 13 → G' b w = G b w := fun w x y z => (po b w (by omega) (by omega)).trans (pf b w (by omega) (by omega))
  have go : ∀ j : Nat, 1 ≤ j → j ≤ 4 → ∀ w, G' (b + j) w = G (b + j) w := fun j j0 j1 w => (po (b + j) w (by omega) (by omega)).trans (pf (b + j) w (by omega) (by omega))
  have hφ : ∀ φ : Int → Int → Int → Int, csM M' φ = cs G' b φ := fun φ => by
    have q := hk (fun e u => remS (cs G b) e u φ)
    rw [mc, pc, q, hc, Rel_csF hh]
  have hw : G' b 13 = M' 6 := by
    have q := hk (fun e u => u * G (b + 2) e)
    rw [p13, q, m6, e13]
    congr 1
    refine sz_congr fun k k0 k1 => ?_
    have hbr := (hβ.2 k k0 k1).1
    rw [(hd (β k) hbr.1 (by omega)).2.1]
  refine ⟨hr, ⟨?_, ?_, ?_, coins_eq hM' hI' hφ, ?_, by rw [m5, p12, e12], hw.symm, ?_, ?_⟩, fun i i0 i1 => ?_, hφ⟩
  · rw [mo 0 (by omega) (by omega) (by omega) (by omega), gz 0 (by omega) (by omega) (by omega)]; exact e0
  · rw [mo 1 (by omega) (by omega) (by omega) (by omega), gz 9 (by omega) (by omega) (by omega)]; exact e9
  · rw [mo 2 (by omega) (by omega) (by omega) (by omega), gz 10 (by omega) (by omega) (by omega)]; exact e10
  · rw [mo 4 (by omega) (by omega) (by omega) (by omega), gz 11 (by omega) (by omega) (by omega)]; exact e11
  · rw [mo 7 (by omega) (by omega) (by omega) (by omega), gz 14 (by omega) (by omega) (by omega)]; exact e14
  · rw [mo 8 (by omega) (by omega) (by omega) (by omega), gz 15 (by omega) (by omega) (by omega)]; exact e15
  · rw [gz 0 (by omega) (by omega) (by omega)] at i1
    rw [mo (9 + 3 * i) (by omega) (by omega) (by omega) (by omega), mo (9 + 3 * i + 1) (by omega) (by omega) (by omega) (by omega), mo (9 + 3 * i + 2) (by omega) (by omega) (by omega) (by omega), go 1 (by omega) (by omega), go 2 (by omega) (by omega), go 3 (by omega) (by omega)]
    exact hd i i0 i1
end RS
/-- a command that has no fault does the same to both -/
theorem st_rel {M M' : Int → Int} {G G' : Mem} {b : Nat} {v f s r r' : Int} (hb : isS b) (h_v : 0 ≤ v ∧ v < 7) (hI : StI G b) (hM : MoI M) (h : Rel M G b) (hM' : MoI M') (hok : FltV G b v f s 0) (hp : Pf G G' b v f s r) (hm : PmM M M' v f s r') : r' = r ∧ Rel M' G' b := by
  unfold FltV at hok
  unfold Pf at hp
  unfold PmM at hm
  by_cases v0 : v = 0
  · rw [if_pos v0] at hok hp hm
    unfold FltDie at hok
    refine st_Die hI hM h ?_ hp hm
    rcases hok with q | ⟨_, q | ⟨q, _⟩⟩
    · omega
    · omega
    · exact q
  rw [if_neg v0] at hok hp hm
  by_cases v1 : v = 1
  · rw [if_pos v1] at hok hp hm
    unfold FltSh at hok
    exact st_Sh hI h (by omega) hp hm
  rw [if_neg v1] at hok hp hm
  by_cases v2 : v = 2
  · rw [if_pos v2] at hok hp hm
    exact st_Lf h hp hm
  rw [if_neg v2] at hok hp hm
  by_cases v3 : v = 3
  · rw [if_pos v3] at hok hp hm
    unfold FltSt at hok
    exact st_St hI h (by omega) (by omega) hp hm
  rw [if_neg v3] at hok hp hm
  by_cases v4 : v = 4
  · rw [if_pos v4] at hok hp hm
    exact st_Yr hI hM h hp hm
  rw [if_neg v4] at hok hp hm
  by_cases v5 : v = 5
  · rw [if_pos v5] at hok hp hm
    exact st_Ml hI h hM' hp hm
  rw [if_neg v5] at hok hp hm
  unfold FltPay at hok
  refine st_Py hb hI hM h hM' (by omega) ?_ hp hm
  rcases hok with q | ⟨_, q | q⟩
  · omega
  · exact q.1
  · omega
