-- a state of the class and one of the model, alike and sound; what the law's loop keeps
theorem sz_mono {f g : Int → Int} : ∀ n : Nat, (∀ k : Int, 0 ≤ k → k < n → f k ≤ g k) → sz (n : Int) f ≤ sz (n : Int) g
  | 0, _ => Int.le_refl 0
  | n + 1, h => by
    have ih := sz_mono (f := f) (g := g) n (fun k a b => h k a (by omega))
    have h1 := h n (by omega) (by omega)
    rw [show ((n + 1 : Nat) : Int) = (n : Int) + 1 by omega, sz_s (by omega), sz_s (by omega)]
    omega
theorem sz_monoI {f g : Int → Int} {n : Int} (hn : 0 ≤ n) (h : ∀ k : Int, 0 ≤ k → k < n → f k ≤ g k) : sz n f ≤ sz n g := by
  obtain ⟨m, rfl⟩ := Int.eq_ofNat_of_zero_le hn
  exact sz_mono m h
def cwt (G : Mem) (b : Nat) : Int := cs G b (fun d _ _ => G (b + 2) d)
def LWt (G : Mem) (b : Nat) : Int := G b 9 + cwt G b
theorem cwt_r {G : Mem} {b : Nat} (hI : StI G b) : 0 ≤ cwt G b ∧ cwt G b ≤ 360 := by
  have hc := StI_c hI
  have h := sz_le (f := fun k => G (b + 2) (G (b + 5) k)) (b := 9) hc.1 (fun k k0 k1 => by
    have q := (StI_k hI k0 k1).1
    have q2 := (StI_d hI q.1 q.2).2.1
    show 0 ≤ G (b + 2) (G (b + 5) k) ∧ G (b + 2) (G (b + 5) k) ≤ 9
    omega) (by omega)
  show 0 ≤ sz (G b 5) (fun k => G (b + 2) (G (b + 5) k)) ∧ sz (G b 5) (fun k => G (b + 2) (G (b + 5) k)) ≤ 360
  omega
theorem Pf_lw {G G' : Mem} {b : Nat} {v f s r : Int} (hb : isS b) (hI : StI G b) (h_v : 0 ≤ v ∧ v < 7) (hok : FltV G b v f s 0) (h : Pf G G' b v f s r) (hW : LWt G b ≤ 1359) (h15 : 0 ≤ G b 15) : LWt G' b ≤ 1359 ∧ G b 15 ≤ G' b 15 ∧ G' b 15 ≤ G b 15 + 99 := by
  have hbl := isS_lt hb
  have hn := StI_n hI
  have hc := StI_c hI
  have hcw := cwt_r hI
  unfold Pf at h
  unfold FltV at hok
  unfold LWt at *
  by_cases e0 : v = 0
  · rw [if_pos e0] at h
    obtain ⟨-, -, -, -, h5, h6⟩ := h
    have ec : cwt G' b = cwt G b := cw_eq (h6 b 5 (by omega) (by omega)) (fun k k0 k1 => by
      have hk := (StI_k hI k0 k1).1
      rw [h6 (b + 5) k (by omega) (by omega)]
      exact (h5 _ hk.1 hk.2).2.1)
    rw [ec, h6 b 9 (by omega) (by omega), h6 b 15 (by omega) (by omega)]
    omega
  · rw [if_neg e0] at h hok
    by_cases e1 : v = 1
    · rw [if_pos e1] at h
      obtain ⟨-, rfl⟩ := h
      have hk : ∀ i z, i ≠ b + 3 → upd2 G (b + 3) f 0 i z = G i z := fun i z q => upd2_i q
      have ec : cwt (upd2 G (b + 3) f 0) b = cwt G b := cw_eq (hk b 5 (by omega)) (fun k k0 k1 => by rw [hk (b + 5) k (by omega), hk (b + 2) _ (by omega)])
      rw [ec, hk b 9 (by omega), hk b 15 (by omega)]
      omega
    · rw [if_neg e1] at h hok
      by_cases e2 : v = 2
      · rw [if_pos e2] at h hok
        obtain ⟨-, rfl⟩ := h
        unfold FltLf at hok
        have hk : ∀ i z, ¬ (i = b ∧ (z = 9 ∨ z = 15)) → ptL G b f i z = G i z := fun i z q => (upd2_n (by omega)).trans (upd2_n (by omega))
        have e9 : ptL G b f b 9 = G b 9 + f := (upd2_z (by decide)).trans (upd2_s _ _ _ _)
        have e15 : ptL G b f b 15 = G b 15 + f := upd2_s _ _ _ _
        have ec : cwt (ptL G b f) b = cwt G b := cw_eq (hk b 5 (by omega)) (fun k k0 k1 => by rw [hk (b + 5) k (by omega), hk (b + 2) _ (by omega)])
        rw [ec, e9, e15]
        omega
      · rw [if_neg e2] at h hok
        by_cases e3 : v = 3
        · rw [if_pos e3] at h hok
          obtain ⟨-, h5, hold, hnew, -, -, h9, -, hk⟩ := h
          unfold FltSt at hok
          have hs : 1 ≤ s := by
            rcases hok with q | ⟨q1, q | ⟨q2, q⟩⟩
            · omega
            · omega
            · omega
          have hwt : ∀ d, G' (b + 2) d = G (b + 2) d := fun d => hk (b + 2) d (by omega) (by omega)
          have hcs : cwt G' b = cwt G b + s * G (b + 2) f := by
            unfold cwt
            have a1 : cs G' b (fun d _ _ => G' (b + 2) d) = cs G' b (fun d _ _ => G (b + 2) d) := sz_congr (fun k _ _ => hwt _)
            rw [a1]
            unfold cs
            rw [h5, cs_more (f := G (b + 5)) (g := G (b + 6)) (k := G (b + 7)) (f' := G' (b + 5)) (g' := G' (b + 6)) (k' := G' (b + 7)) (φ := fun d _ _ => G (b + 2) d) hc.1 (by omega) hold]
            have a2 : sz s (fun j => G (b + 2) (G' (b + 5) (G b 5 + j))) = sz s (fun _ => G (b + 2) f) := sz_congr (fun j j0 j1 => by rw [(hnew j j0 j1).1])
            show _ + sz s (fun j => G (b + 2) (G' (b + 5) (G b 5 + j))) = _
            rw [a2, sz_k (by omega)]
          rw [hcs, h9, hk b 15 (by omega) (by omega)]
          omega
        · rw [if_neg e3] at h hok
          by_cases e4 : v = 4
          · rw [if_pos e4] at h
            obtain ⟨-, h10, -, hk⟩ := h
            have ec : cwt G' b = cwt G b := cw_eq (hk b 5 (by omega) (by omega)) (fun k k0 k1 => by rw [hk (b + 5) k (by omega) (by omega), hk (b + 2) _ (by omega) (by omega)])
            rw [ec, hk b 9 (by omega) (by omega), hk b 15 (by omega) (by omega)]
            omega
          · rw [if_neg e4] at h hok
            by_cases e5 : v = 5
            · rw [if_pos e5] at h
              obtain ⟨hr, -, hcs, h9, h14, hk⟩ := h
              have hwt : G' (b + 2) = G (b + 2) := funext fun d => hk (b + 2) d (by omega) (by omega)
              have hle : r ≤ cs G b (fun dd yy _ => if yy = f then G (b + 2) dd else 0) := by
                rw [hr]
                refine sz_monoI hc.1 fun k k0 k1 => ?_
                have q := StI_k hI k0 k1
                have q2 := (StI_d hI q.1.1 q.1.2).2.1
                show (if G (b + 6) k = f then mxI 0 (G (b + 2) (G (b + 5) k) - G (b + 7) k) else 0) ≤ (if G (b + 6) k = f then G (b + 2) (G (b + 5) k) else 0)
                by_cases qq : G (b + 6) k = f
                · rw [if_pos qq, if_pos qq]
                  unfold mxI
                  split <;> omega
                · rw [if_neg qq, if_neg qq]
                  exact Int.le_refl 0
              have hsum : cs G b (fun dd yy _ => if yy = f then 0 else G (b + 2) dd) + cs G b (fun dd yy _ => if yy = f then G (b + 2) dd else 0) = cwt G b := by
                unfold cwt cs
                rw [← sz_add hc.1]
                refine sz_congr fun k _ _ => ?_
                dsimp only
                by_cases qq : G (b + 6) k = f
                · rw [if_pos qq, if_pos qq]; omega
                · rw [if_neg qq, if_neg qq]; omega
              have ec : cwt G' b = cs G b (fun dd yy _ => if yy = f then 0 else G (b + 2) dd) := by
                unfold cwt
                rw [hwt, hcs]
              rw [ec, h9, hk b 15 (by omega) (by omega)]
              omega
            · rw [if_neg e5] at h
              obtain ⟨G1, hF, hu, -, -, hcs, -, h13, hk⟩ := h
              have hwt : G' (b + 2) = G (b + 2) := funext fun d => (hk (b + 2) d (by omega) (by omega)).trans (hF (b + 2) d (by omega) (by omega))
              have hu0 : ∀ e, 0 ≤ e → e < G b 0 → 0 ≤ G1 92 e := fun e e0 e1 => by
                obtain ⟨s9, s0, s1, hs⟩ := hI.2.2.2.2.2.2.2 e e0 e1
                rw [← hs, hu s9 s0 s1]
                have hcr := cnR_r hI s9
                exact (usF_r hcr.1).1
              have hsum : sz (G b 0) (fun e => remS (cs G b) e (G1 92 e) (fun d _ _ => G (b + 2) d)) = sz (G b 0) (fun e => G1 92 e * G (b + 2) e) := sz_congr (fun e e0 e1 => remS_w (w := G (b + 2)) (hu0 e e0 e1))
              have hpos : 0 ≤ sz (G b 0) (fun e => G1 92 e * G (b + 2) e) := by
                have := sz_monoI (f := fun _ => 0) (g := fun e => G1 92 e * G (b + 2) e) hn.1 (fun e e0 e1 => Int.mul_nonneg (hu0 e e0 e1) (by have := (StI_d hI e0 e1).2.1; omega))
                rw [sz_zero hn.1 (fun _ _ _ => rfl)] at this
                exact this
              have e9 : G' b 9 = G b 9 := (hk b 9 (by omega) (by omega)).trans (hF b 9 (by omega) (by omega))
              have e15 : G' b 15 = G b 15 := (hk b 15 (by omega) (by omega)).trans (hF b 15 (by omega) (by omega))
              have ec : cwt G' b = cwt G b - sz (G b 0) (fun e => G1 92 e * G (b + 2) e) := by
                unfold cwt
                rw [hwt, hcs, hsum]
              rw [ec, e9, e15]
              omega
/-- the class's state at b and the model's row M: sound, alike; years and added weight are bounded -/
def SSk (M : Int → Int) (G : Mem) (b : Nat) (Y A : Int) : Prop := StI G b ∧ MoI M ∧ Rel M G b ∧ WGT G b ∧ (0 ≤ G b 9 ∧ LWt G b ≤ 1359) ∧ G b 10 ≤ Y ∧ 0 ≤ G b 15 ∧ G b 15 ≤ A
section SOK
variable {M M' : Int → Int} {G G' : Mem} {b b' : Nat} {Y A Y' A' : Int}
theorem SSk_up (h : SSk M G b Y A) (h1 : Y ≤ Y') (h2 : A ≤ A') : SSk M G b Y' A' := by
  obtain ⟨a1, a2, a3, a4, a5, a6, a7⟩ := h
  exact ⟨a1, a2, a3, a4, a5, by omega, by omega⟩
theorem SSk_lv (h : SSk M G b Y A) : 0 ≤ G b 9 ∧ G b 9 ≤ 1359 := by
  have := cwt_r h.1
  have h5 := h.2.2.2.2.1
  unfold LWt at h5
  omega
theorem cwt_rel (hI : StI G b) (hI' : StI G' b') (hR : Rel M G b) (hR' : Rel M G' b') (hw : ∀ d, 0 ≤ d → d < G' b' 0 → G' (b' + 2) d = G (b + 2) d) : cwt G' b' = cwt G b := by
  unfold cwt
  rw [cs_W (ψ' := fun d _ _ => G (b + 2) d) hI' (fun d _ _ d0 d1 => hw d d0 d1), ← hR'.2.2, hR.2.2]
theorem SSk_mv (h : SSk M G b Y A) (hI' : StI G' b') (hR' : Rel M' G' b') (hM' : MoI M') (hcs : csM M' = csM M) (h0 : ∀ z, z = 0 ∨ z = 9 ∨ z = 10 ∨ z = 13 ∨ z = 14 ∨ z = 15 → G' b' z = G b z) (hw : ∀ d, 0 ≤ d → d < G b 0 → G' (b' + 2) d = G (b + 2) d) : SSk M' G' b' Y A := by
  obtain ⟨a1, a2, a3, a4, a5, a6, a7⟩ := h
  have ec : cwt G' b' = cwt G b := by
    unfold cwt
    rw [cs_W (ψ' := fun d _ _ => G (b + 2) d) hI' (fun d _ _ d0 d1 => hw d d0 (by rw [h0 0 (by omega)] at d1; exact d1)), ← hR'.2.2, hcs, a3.2.2]
  refine ⟨hI', hM', hR', ?_, ?_, by rw [h0 10 (by omega)]; exact a6, by rw [h0 15 (by omega)]; exact a7⟩
  · have a4' : G b 15 = G b 9 + cwt G b + G b 13 + G b 14 := a4
    show G' b' 15 = G' b' 9 + cwt G' b' + G' b' 13 + G' b' 14
    rw [ec, h0 15 (by omega), h0 9 (by omega), h0 13 (by omega), h0 14 (by omega)]
    exact a4'
  · unfold LWt at *
    rw [ec, h0 9 (by omega)]
    exact a5
theorem SSk_fr (h : SSk M G b Y A) (hE : ∀ j : Nat, j ≤ 7 → ∀ w, G' (b + j) w = G (b + j) w) : SSk M G' b Y A :=
  SSk_mv h (StI_sameB h.1 hE) (Rel_fr h.2.2.1 hE) h.2.1 rfl (fun z _ => hE 0 (by omega) z) (fun d _ _ => hE 2 (by omega) d)
theorem SSk_cp (h : SSk M G b Y A) (hc : CpS G G' b' b) : SSk M G' b' Y A :=
  SSk_mv h (StI_cp hc h.1) (Rel_st h.1 h.2.2.1 hc) h.2.1 rfl (fun z hz => by
    have q := hc.1
    rcases hz with rfl | rfl | rfl | rfl | rfl | rfl
    · exact q.1
    · exact q.2.2.1
    · exact q.2.2.2.1
    · exact q.2.2.2.2.2.2.1
    · exact q.2.2.2.2.2.2.2.1
    · exact q.2.2.2.2.2.2.2.2) (fun d d0 d1 => (hc.2.1 d d0 (by have := StI_n h.1; omega)).2.1)
theorem csM_144 (h : MoI M) (hz : ∀ z, 0 ≤ z → z < 144 → M' z = M z) : csM M' = csM M := by
  have hc := MoI_c h
  funext φ
  unfold csM
  rw [hz 3 (by omega) (by omega)]
  exact sz_congr fun k k0 k1 => by rw [hz (24 + 3 * k) (by omega) (by omega), hz (24 + 3 * k + 1) (by omega) (by omega), hz (24 + 3 * k + 2) (by omega) (by omega)]
theorem SSk_144 (h : SSk M G b Y A) (hz : ∀ z, 0 ≤ z → z < 144 → M' z = M z) : SSk M' G b Y A :=
  SSk_mv h h.1 (Rel_144 (MoI_c h.2.1) (StI_n h.1).2 h.2.2.1 hz) (MoI_144 h.2.1 hz) (csM_144 h.2.1 hz) (fun _ _ => rfl) (fun _ _ _ => rfl)
theorem SSk_step {v f s r r' : Int} (hb : isS b) (h_v : 0 ≤ v ∧ v < 7) (h : SSk M G b Y A) (hY : Y + 20 ≤ 1000000) (hok : FltV G b v f s 0) (hp : Pf G G' b v f s r) (hM' : MoI M') (hm : PmM M M' v f s r') : r' = r ∧ SSk M' G' b (Y + 20) (A + 99) := by
  obtain ⟨a1, a2, a3, a4, a5, a6, a7⟩ := h
  obtain ⟨e, hR⟩ := st_rel hb h_v a1 a2 a3 hM' hok hp hm
  have k1 := Pf_keep hb a1 h_v hok a5.1 (by omega) hp
  have k2 := Pf_weight hb a1 h_v hok hp a4
  have k3 := Pf_lw hb a1 h_v hok hp a5.2 a7.1
  exact ⟨e, k1.1, hM', hR, k2, ⟨k1.2.1.1, k3.1⟩, by omega, by omega, by omega⟩
end SOK
/-- the text of both -/
def TextI (G : Mem) : Prop := (0 ≤ G 122 0 ∧ G 122 0 ≤ 79) ∧ G 106 15 = G 122 0 ∧ ∀ z, 0 ≤ z → z < G 122 0 → G 115 z = G 121 z ∧ 0 ≤ G 121 z ∧ G 121 z < 128
/-- what the law's loop keeps, after i commands -/
def LawI (G : Mem) (Y A : Int) : Prop :=
  SSk (G 107) G 4 Y A ∧
  (PastI G ∧ G 106 5 = G 0 8 ∧ ∀ j, 0 ≤ j → j < G 0 8 → SSk (fun k => G 110 (144 * j + k)) G (G 3 j).toNat Y A) ∧
  ((G 0 7 = 0 ∨ G 0 7 = 1) ∧ G 106 3 = G 0 7 ∧ (G 0 7 = 1 → SSk (G 109) G 20 Y A)) ∧
  ((0 ≤ G 2 1 ∧ G 2 1 ≤ 60) ∧ G 106 10 = G 2 1 ∧ (∀ j, G 111 j = G 102 j) ∧ ∀ j, 0 ≤ j → j < G 2 1 → 32 ≤ G 102 j ∧ G 102 j ≤ 126) ∧
  ((-1 ≤ G 0 9 ∧ G 0 9 ≤ 1000) ∧ G 106 6 = G 0 9 ∧ (-1 ≤ G 0 10 ∧ G 0 10 ≤ 1000) ∧ G 106 7 = G 0 10) ∧
  TextI G ∧
  McL G
theorem LawI_up {G : Mem} {Y A Y' A' : Int} (h : LawI G Y A) (h1 : Y ≤ Y') (h2 : A ≤ A') : LawI G Y' A' := by
  obtain ⟨a1, ⟨a2, a3, a4⟩, ⟨a5, a6, a7⟩, a8⟩ := h
  exact ⟨SSk_up a1 h1 h2, ⟨a2, a3, fun j b c => SSk_up (a4 j b c) h1 h2⟩, ⟨a5, a6, fun q => SSk_up (a7 q) h1 h2⟩, a8⟩
/-- what no question touches -/
def lawK (p : Nat) (z : Int) : Prop := p ≠ 1 ∧ ¬ (92 ≤ p ∧ p ≤ 101) ∧ ¬ (103 ≤ p ∧ p ≤ 105) ∧ ¬ (p = 2 ∧ (z = 2 ∨ z = 3)) ∧ ¬ (p = 106 ∧ (z = 8 ∨ 19 ≤ z)) ∧ p ≠ 108 ∧ ¬ (112 ≤ p ∧ p ≤ 114) ∧ p ≠ 118 ∧ p ≠ 119 ∧ p ≠ 120
def LFr (G G' : Mem) : Prop := ∀ p z, lawK p z → G' p z = G p z
theorem LFr_t {G G1 G2 : Mem} (h1 : LFr G G1) (h2 : LFr G1 G2) : LFr G G2 := fun p z h => (h2 p z h).trans (h1 p z h)
theorem LFr_r (G : Mem) : LFr G G := fun _ _ _ => rfl
theorem LFr_u {G : Mem} {p : Nat} {z v : Int} (h : ¬ lawK p z) : LFr G (upd2 G p z v) := fun i w k => upd2_n fun q => h (by rw [← q.1, ← q.2]; exact k)
/-- where the text lies -/
def textP (p : Nat) (z : Int) : Prop := p = 115 ∨ 121 ≤ p ∨ (p = 106 ∧ z = 15)
theorem LawI_tx {G G' : Mem} {Y A : Int} (h : LawI G Y A) (hf : ∀ p z, lawK p z → ¬ textP p z → G' p z = G p z) (ht : TextI G') : LawI G' Y A := by
  obtain ⟨a1, ⟨a2, a3, a4⟩, ⟨a5, a6, a7⟩, ⟨s1, s2, s3, s4⟩, ⟨e1, e2, e3, e4⟩, -, c1, c2⟩ := h
  have kk : ∀ p : Nat, (p = 0 ∨ (3 ≤ p ∧ p < 92) ∨ p = 102 ∨ p = 107 ∨ (109 ≤ p ∧ p ≤ 111) ∨ p = 116 ∨ p = 117) → ∀ z, G' p z = G p z := fun p hp z => hf p z (by unfold lawK; omega) (by unfold textP; omega)
  have kf : ∀ p : Nat, (p = 0 ∨ (3 ≤ p ∧ p < 92) ∨ p = 102 ∨ p = 107 ∨ (109 ≤ p ∧ p ≤ 111) ∨ p = 116 ∨ p = 117) → G' p = G p := fun p hp => funext (kk p hp)
  have k6 : ∀ z, z < 15 → z ≠ 8 → G' 106 z = G 106 z := fun z z1 z2 => hf 106 z (by unfold lawK; omega) (by unfold textP; omega)
  have k21 : G' 2 1 = G 2 1 := hf 2 1 (by unfold lawK; omega) (by unfold textP; omega)
  have st : ∀ b : Nat, isS b → ∀ j : Nat, j ≤ 7 → ∀ w, G' (b + j) w = G (b + j) w := fun b hb j hj w => kk (b + j) (by have := isS_lt hb; omega) w
  refine ⟨?_, ⟨?_, ?_, fun j j0 j1 => ?_⟩, ⟨?_, ?_, fun q => ?_⟩, ⟨?_, ?_, fun j => ?_, fun j j0 j1 => ?_⟩, ⟨?_, ?_, ?_, ?_⟩, ht, fun q hq => ?_, fun q hq m m0 m1 => ?_⟩
  · rw [kf 107 (by omega)]
    exact SSk_fr a1 (st 4 isS4)
  · unfold PastI
    rw [kf 0 (by omega), kf 3 (by omega)]
    exact a2
  · rw [k6 5 (by omega) (by omega), kk 0 (by omega)]
    exact a3
  · rw [kk 0 (by omega)] at j1
    rw [kf 110 (by omega), kk 3 (by omega)]
    exact SSk_fr (a4 j j0 j1) (st _ (a2.2.1 j j0 (by have := a2.1; omega)).2)
  · rw [kk 0 (by omega)]
    exact a5
  · rw [k6 3 (by omega) (by omega), kk 0 (by omega)]
    exact a6
  · rw [kk 0 (by omega)] at q
    rw [kf 109 (by omega)]
    exact SSk_fr (a7 q) (st 20 isS20)
  · rw [k21]
    exact s1
  · rw [k21, k6 10 (by omega) (by omega)]
    exact s2
  · rw [kk 111 (by omega), kk 102 (by omega)]
    exact s3 j
  · rw [k21] at j1
    rw [kk 102 (by omega)]
    exact s4 j j0 j1
  · rw [kk 0 (by omega)]
    exact e1
  · rw [k6 6 (by omega) (by omega), kk 0 (by omega)]
    exact e2
  · rw [kk 0 (by omega)]
    exact e3
  · rw [k6 7 (by omega) (by omega), kk 0 (by omega)]
    exact e4
  · rw [kf 117 (by omega)]
    exact c1 q hq
  · rw [kf 116 (by omega), kf 117 (by omega)]
    exact c2 q hq m m0 m1
theorem LawI_fr {G G' : Mem} {Y A : Int} (h : LawI G Y A) (hf : LFr G G') : LawI G' Y A := by
  refine LawI_tx h (fun p z k _ => hf p z k) ?_
  obtain ⟨t1, t2, t3⟩ := h.2.2.2.2.2.1
  have e1 : G' 122 0 = G 122 0 := hf 122 0 (by unfold lawK; omega)
  have e2 : G' 106 15 = G 106 15 := hf 106 15 (by unfold lawK; omega)
  refine ⟨by rw [e1]; exact t1, by rw [e1, e2]; exact t2, fun z z0 z1 => ?_⟩
  rw [hf 115 z (by unfold lawK; omega), hf 121 z (by unfold lawK; omega)]
  exact t3 z z0 (by omega)
