-- the texts of both
/-- all its signs are below 128 -/
def TxR (t : Tx) : Prop := 0 ≤ t.1 ∧ ∀ z, 0 ≤ z → z < t.1 → 0 ≤ t.2 z ∧ t.2 z < 128
theorem TxR_0 : TxR t0 := ⟨Int.le_refl 0, fun z a b => absurd b (by show ¬ z < 0; omega)⟩
theorem TxR_c {t : Tx} {c : Int} (h : TxR t) (hc : 0 ≤ c ∧ c < 128) : TxR (tc t c) := by
  refine ⟨by rw [tc_n]; have := h.1; omega, fun z a b => ?_⟩
  rw [tc_n] at b
  show 0 ≤ (if z = t.1 then c else t.2 z) ∧ (if z = t.1 then c else t.2 z) < 128
  by_cases q : z = t.1
  · rw [if_pos q]; exact hc
  · rw [if_neg q]; exact h.2 z a (by omega)
theorem TxR_n {t : Tx} {v : Int} (h : TxR t) (hv : 0 ≤ v ∧ v < 100) : TxR (tnum t v) := by
  unfold tnum
  split
  · exact TxR_c h (by omega)
  · exact TxR_c (TxR_c h (by omega)) (by omega)
theorem TxR_v {v c : Int → Int} : ∀ n : Nat, (∀ h : Nat, h < n → (0 ≤ v h ∧ v h < 100) ∧ 0 ≤ c h ∧ c h < 100) → TxR (vtx v c n)
  | 0, _ => TxR_0
  | n + 1, hh => by
    have ih := TxR_v (v := v) (c := c) n (fun h q => hh h (by omega))
    have h1 := hh n (by omega)
    show TxR (if 0 < c n then tnum (tc (tnum (if 0 < (vtx v c n).1 then tc (vtx v c n) 32 else vtx v c n) (v n)) 120) (c n) else vtx v c n)
    have h2 : TxR (if 0 < (vtx v c n).1 then tc (vtx v c n) 32 else vtx v c n) := by
      split
      · exact TxR_c ih (by omega)
      · exact ih
    split
    · exact TxR_n (TxR_c (TxR_n h2 h1.1) (by omega)) h1.2
    · exact ih
theorem vtx_cg {v c v' c' : Int → Int} : ∀ n : Nat, (∀ h : Nat, h < n → v h = v' h ∧ c h = c' h) → vtx v c n = vtx v' c' n
  | 0, _ => rfl
  | n + 1, hh => by
    have ih := vtx_cg (v := v) (c := c) (v' := v') (c' := c') n (fun h q => hh h (by omega))
    have h1 := hh n (by omega)
    show (if 0 < c n then tnum (tc (tnum (if 0 < (vtx v c n).1 then tc (vtx v c n) 32 else vtx v c n) (v n)) 120) (c n) else vtx v c n) = (if 0 < c' n then tnum (tc (tnum (if 0 < (vtx v' c' n).1 then tc (vtx v' c' n) 32 else vtx v' c' n) (v' n)) 120) (c' n) else vtx v' c' n)
    rw [ih, h1.1, h1.2]
theorem TextI_of {G : Mem} {t : Tx} (hl : LnI G t) (h1 : G 122 0 = t.1) (h2 : ∀ z, G 121 z = t.2 z) (hr : TxR t) : TextI G := by
  obtain ⟨⟨a1, a2⟩, a3, a4⟩ := hl
  refine ⟨by omega, by omega, fun z z0 z1 => ?_⟩
  rw [a2 z z0 (by omega), h2 z]
  exact ⟨rfl, hr.2 z z0 (by omega)⟩
/-- after both have written the same text -/
theorem LawI_wr {G G2 : Mem} {t : Tx} {r1 Y A : Int} (hI : LawI G Y A) (hf : FrL (upd2 (sbG G t) 119 0 r1) G2) (hl : LnI G2 t) (hr : TxR t) : LawI G2 Y A ∧ G2 119 0 = r1 := by
  have k : ∀ p z, p ≠ 119 → p ≠ 112 → p ≠ 115 → ¬ (p = 106 ∧ (z = 8 ∨ z = 15)) → G2 p z = sbG G t p z := fun p z a b c d => (hf p z b c d).trans (upd2_i a)
  refine ⟨LawI_tx hI (fun p z kk nt => ?_) (TextI_of hl (k 122 0 (by omega) (by omega) (by omega) (by omega)) (fun z => k 121 z (by omega) (by omega) (by omega) (by omega)) hr), (hf 119 0 (by omega) (by omega) (by omega)).trans (upd2_s _ _ _ _)⟩
  unfold lawK at kk
  unfold textP at nt
  rw [k p z (by omega) (by omega) (by omega) (by omega)]
  show (if p = 121 then t.2 z else if p = 122 ∧ z = 0 then t.1 else G p z) = G p z
  rw [if_neg (by omega), if_neg (by omega)]
theorem LawI_wr0 {G G2 : Mem} {t : Tx} {Y A : Int} (hI : LawI G Y A) (hf : FrL (sbG G t) G2) (hl : LnI G2 t) (hr : TxR t) : LawI G2 Y A := by
  have k : ∀ p z, p ≠ 112 → p ≠ 115 → ¬ (p = 106 ∧ (z = 8 ∨ z = 15)) → G2 p z = sbG G t p z := hf
  refine LawI_tx hI (fun p z kk nt => ?_) (TextI_of hl (k 122 0 (by omega) (by omega) (by omega)) (fun z => k 121 z (by omega) (by omega) (by omega)) hr)
  unfold lawK at kk
  unfold textP at nt
  rw [k p z (by omega) (by omega) (by omega)]
  show (if p = 121 then t.2 z else if p = 122 ∧ z = 0 then t.1 else G p z) = G p z
  rw [if_neg (by omega), if_neg (by omega)]
theorem op_renderDie {G G1 G2 : Mem} {v w : Option Value} {Y A : Int} {d : Int} (hI : LawI G Y A) (h1 : LQ (fun v G' => (0 ≤ d ∧ d < G 4 0) ∧ v = some (vI (tnum (tc (tnum (tc (tnum (tc (tnum t0 d) 58) (G 5 d)) 119) (G 6 d)) 47) (G 7 d)).1) ∧ G' = sbG G (tnum (tc (tnum (tc (tnum (tc (tnum t0 d) 58) (G 5 d)) 119) (G 6 d)) 47) (G 7 d))) (fun e G' => e = eIB ∧ G' = G ∧ ¬ (0 ≤ d ∧ d < G 4 0)) [eIB] v G1) (h2 : RP (fun r G' => (¬ (0 ≤ d ∧ d < G1 107 0) ∧ G' = upd2 G1 106 8 1) ∨ ((0 ≤ d ∧ d < G1 107 0) ∧ G' 106 8 = 0 ∧ FrL G1 G' ∧ LnI G' (tnum (tc (tnum (tc (tnum (tc (tnum t0 d) 58) (G1 107 (9 + 3 * d))) 119) (G1 107 (9 + 3 * d + 1))) 47) (G1 107 (9 + 3 * d + 2))) ∧ r = G' 106 15)) w G2) : OpJ G2 v w Y A := by
  obtain ⟨hSt, hM, hR, -⟩ := id hI.1
  have e0 : G 107 0 = G 4 0 := qr_n hR
  have ed : ∀ d, 0 ≤ d → d < G 4 0 → G 107 (9 + 3 * d) = G 5 d ∧ G 107 (9 + 3 * d + 1) = G 6 d ∧ G 107 (9 + 3 * d + 2) = G 7 d := hR.2.1
  obtain ⟨r, rfl, hp⟩ := h2
  rcases h1 with ⟨rfl, r1, G9, hr, ⟨hd, hv, rfl⟩, rfl⟩ | ⟨i, e, hc, ⟨he, rfl, hx⟩, rfl⟩
  · have e7 : ∀ z, (upd2 (sbG G (tnum (tc (tnum (tc (tnum (tc (tnum t0 d) 58) (G 5 d)) 119) (G 6 d)) 47) (G 7 d))) 119 0 r1) 107 z = G 107 z := fun z => rfl
    rcases hp with ⟨hn, -⟩ | ⟨-, h8, hf, hl, hr2⟩
    · rw [e7] at hn
      exfalso; omega
    · have h3 := ed d hd.1 hd.2
      have hn := StI_n hSt
      have hb := S4_d hSt hd.1 hd.2
      rw [e7, e7, e7, h3.1, h3.2.1, h3.2.2] at hl
      have hT : TxR (tnum (tc (tnum (tc (tnum (tc (tnum t0 d) 58) (G 5 d)) 119) (G 6 d)) 47) (G 7 d)) := TxR_n (TxR_c (TxR_n (TxR_c (TxR_n (TxR_c (TxR_n TxR_0 (by omega)) (by omega)) (by omega)) (by omega)) (by omega)) (by omega)) (by omega)
      have hw := LawI_wr hI hf hl hT
      have hr3 : some (vI r) = some (vI r1) := by rw [hv, hr2, hl.1.1]
      exact ⟨0, r1, rfl, hr3, by omega, hr, h8, fun _ => hw.2, hw.1⟩
  · rcases hp with ⟨hn, rfl⟩ | ⟨hn, -⟩
    · rcases i with _ | i
      · obtain ⟨r2, hr2, he2⟩ := int_norm (v := some (vI r)) ⟨r, rfl⟩
        exact ⟨1, r2, rfl, he2, by omega, hr2, upd2_s _ _ _ _, fun q => by omega, LawI_fr hI (LFr_106 _ _)⟩
      · cases hc
    · exfalso; omega
theorem op_renderVault {G G1 G2 : Mem} {v w : Option Value} {Y A : Int} (hI : LawI G Y A) (h1 : (fun v G' => v = some (vI (vtx (fun h => G 5 (G 8 (G 4 0 - 1 - h))) (fun h => cntE (G 4 5) (G 9) (G 8 (G 4 0 - 1 - h))) (G 4 0).toNat).1) ∧ G' = sbG G (vtx (fun h => G 5 (G 8 (G 4 0 - 1 - h))) (fun h => cntE (G 4 5) (G 9) (G 8 (G 4 0 - 1 - h))) (G 4 0).toNat)) v G1) (h2 : (RP (fun r G' => G' 106 8 = 0 ∧ FrL G1 G' ∧ r = G' 106 15 ∧ ∃ β, SrtM (G1 107) β ∧ LnI G' (vtx (fun h => G1 107 (9 + 3 * β h)) (fun h => cntE (G1 107 3) (fun k => G1 107 (24 + 3 * k)) (β h)) (G1 107 0).toNat))) w G2) : OpD G2 v w Y A := by
  obtain ⟨hSt, hM, hR, -⟩ := id hI.1
  have e0 : G 107 0 = G 4 0 := qr_n hR
  have e3 : G 107 3 = G 4 5 := qr_c hR
  have ed : ∀ d, 0 ≤ d → d < G 4 0 → G 107 (9 + 3 * d) = G 5 d ∧ G 107 (9 + 3 * d + 1) = G 6 d ∧ G 107 (9 + 3 * d + 2) = G 7 d := hR.2.1
  have hn := StI_n hSt
  have hc := StI_c hSt
  obtain ⟨hv, rfl⟩ := h1
  obtain ⟨r, hw, h8, hf, hr, β, hβ, hl⟩ := h2
  have hcg : ∀ h : Nat, h < (G 4 0).toNat → β h = G 8 (G 4 0 - 1 - h) ∧ 0 ≤ β h ∧ β h < G 4 0 := fun h hh => by
    have q := β_ρ (s := G 4 0 - 1 - h) hSt hR hβ (by omega) (by omega)
    rw [show G 107 0 - 1 - (G 4 0 - 1 - (h : Int)) = h by omega] at q
    have q2 := hβ.2 h (by omega) (by show (h : Int) < G 107 0; omega)
    have q3 : 0 ≤ β h ∧ β h < G 107 0 := q2.1
    exact ⟨q, q3.1, by omega⟩
  have hl2 : LnI G2 (vtx (fun h => G 5 (G 8 (G 4 0 - 1 - h))) (fun h => cntE (G 4 5) (G 9) (G 8 (G 4 0 - 1 - h))) (G 4 0).toNat) := by
    have e : vtx (fun h => G 107 (9 + 3 * β h)) (fun h => cntE (G 107 3) (fun k => G 107 (24 + 3 * k)) (β h)) (G 107 0).toNat = vtx (fun h => G 5 (G 8 (G 4 0 - 1 - h))) (fun h => cntE (G 4 5) (G 9) (G 8 (G 4 0 - 1 - h))) (G 4 0).toNat := by
      rw [e0]
      refine vtx_cg _ fun h hh => ?_
      obtain ⟨q1, q2, q3⟩ := hcg h hh
      rw [qr_die hR, (ed _ q2 q3).1, q1]
      exact ⟨rfl, rfl⟩
    rw [← e]
    exact hl
  have hT : TxR (vtx (fun h => G 5 (G 8 (G 4 0 - 1 - h))) (fun h => cntE (G 4 5) (G 9) (G 8 (G 4 0 - 1 - h))) (G 4 0).toNat) := TxR_v _ fun h hh => by
    have q := S4_r hSt (r := G 4 0 - 1 - h) (by omega) (by omega)
    have q2 := (S4_d hSt q.1 q.2).1
    have q3 : 0 ≤ cntE (G 4 5) (G 9) (G 8 (G 4 0 - 1 - h)) ∧ cntE (G 4 5) (G 9) (G 8 (G 4 0 - 1 - h)) ≤ G 4 5 := sz_cnt (n := G 4 5) (p := fun k => G 9 k = G 8 (G 4 0 - 1 - h)) (fun k => Int.instDecidableEq _ _) hc.1
    omega
  obtain ⟨r2, hr2, he⟩ := int_norm ⟨_, hv⟩
  exact ⟨r2, he, by rw [hw, ← he, hv, hr, hl2.1.1], hr2, LawI_wr0 hI hf hl2 hT⟩
