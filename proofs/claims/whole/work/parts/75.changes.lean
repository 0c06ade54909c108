-- the seven changes of both
theorem isS_dj {a b : Nat} (ha : isS a) (hb : isS b) (h : a ≠ b) : a + 7 < b ∨ b + 7 < a := by
  obtain ⟨k, _, rfl⟩ := ha
  obtain ⟨m, _, rfl⟩ := hb
  omega
/-- the past, in the class and in the model's row -/
def PastL (G : Mem) (R : Int → Int) (n Y A : Int) : Prop := PastI G ∧ n = G 0 8 ∧ ∀ j, 0 ≤ j → j < G 0 8 → SSk (fun k => R (144 * j + k)) G (G 3 j).toNat Y A
/-- the model remembers its row M -/
def RemMd (R R' M : Int → Int) (n n' : Int) : Prop := ∃ c sh : Int, ((n < 8 ∧ c = n ∧ sh = 0) ∨ (n = 8 ∧ c = 7 ∧ sh = 144)) ∧ n' = c + 1 ∧ (∀ z, 0 ≤ z → z < 144 * c → R' z = R (z + sh)) ∧ ∀ k, 0 ≤ k → k < 144 → R' (144 * c + k) = M k
theorem past_step {G Gb : Mem} {R R' M : Int → Int} {n n' Y A : Int} (h : PastL G R n Y A) (h4 : SSk M G 4 Y A) (hr : RemR G Gb) (hm : RemMd R R' M n n') : PastL Gb R' n' Y A := by
  obtain ⟨hp, hn, hs⟩ := h
  obtain ⟨G1, h1, G2, hc, rfl⟩ := hr
  obtain ⟨c, sh, hcs, hn', hR1, hR2⟩ := hm
  have hp1 : PastI G1 := by
    rcases h1 with ⟨_, rfl⟩ | ⟨_, q⟩
    · exact hp
    · exact DropR_past q hp
  have hc8 : G1 0 8 = c ∧ 0 ≤ c ∧ c < 8 := by
    have h8 := hp.1
    rcases h1 with ⟨w, rfl⟩ | ⟨w, q⟩
    · omega
    · have := q.2.2.1
      omega
  have hq := hp1.2.1 c hc8.2.1 hc8.2.2
  rw [← hc8.1] at hq
  have hl := isS_lt hq.2
  have hfr : ∀ i z, ¬ ((G1 3 (G1 0 8)).toNat ≤ i ∧ i ≤ (G1 3 (G1 0 8)).toNat + 7) → G2 i z = G1 i z := fun i z q => hc.2.2.2 i z (by omega)
  have e3 : ∀ z, upd2 G2 0 8 (G1 0 8 + 1) 3 z = G1 3 z := fun z => (upd2_i (by decide)).trans (hfr 3 z (by omega))
  have e8 : upd2 G2 0 8 (G1 0 8 + 1) 0 8 = c + 1 := by rw [upd2_s, hc8.1]
  have hold : ∀ i z, 28 ≤ i → i < 92 → G1 i z = G i z := fun i z a b => by
    rcases h1 with ⟨w, rfl⟩ | ⟨w, q⟩
    · rfl
    · exact q.2.2.2 i z (by omega) (by omega)
  refine ⟨⟨by rw [e8]; omega, fun i a b => by rw [e3]; exact hp1.2.1 i a b, fun i j a b c => by rw [e3, e3]; exact hp1.2.2 i j a b c⟩, by rw [e8, hn'], fun j j0 j1 => ?_⟩
  rw [e8] at j1
  rw [e3]
  by_cases q : j = c
  · subst q
    have h41 : SSk M G1 4 Y A := by
      rcases h1 with ⟨w, rfl⟩ | ⟨w, q⟩
      · exact h4
      · exact SSk_fr h4 fun i hi w => q.2.2.2 (4 + i) w (by omega) (by omega)
    rw [← hc8.1]
    exact SSk_144 (SSk_fr (SSk_cp h41 hc) fun i hi w => upd2_i (by omega)) fun z z0 z1 => by rw [hc8.1]; exact hR2 z z0 z1
  · have hj := hp1.2.1 j j0 (by omega)
    have hne : G1 3 j ≠ G1 3 (G1 0 8) := by
      rw [hc8.1]
      exact hp1.2.2 j c j0 (by omega) hc8.2.2
    have hdj := isS_dj hj.2 hq.2 (by omega)
    have hjl := isS_lt hj.2
    have key : ∃ j' : Int, 0 ≤ j' ∧ j' < G 0 8 ∧ G1 3 j = G 3 j' ∧ 144 * j + sh = 144 * j' := by
      rcases h1 with ⟨w, rfl⟩ | ⟨w, q2⟩
      · exact ⟨j, j0, by omega, rfl, by omega⟩
      · exact ⟨j + 1, by omega, by omega, q2.1 j j0 (by omega), by omega⟩
    obtain ⟨j', a1, a2, a3, a4⟩ := key
    have hs1 := hs j' a1 a2
    rw [← a3] at hs1
    refine SSk_144 (SSk_fr hs1 fun i hi w => ?_) fun z z0 z1 => ?_
    · rw [upd2_i (by omega), hfr _ _ (by omega), hold _ _ (by omega) (by omega)]
    · show R' (144 * j + z) = R (144 * j' + z)
      rw [hR1 _ (by omega) (by omega), ← a4]
      congr 1
      omega
theorem chg_law {G G9 G2 : Mem} {v f s r1 r Y A : Int} {w0 : Option Value} (h_v : 0 ≤ v ∧ v < 7) (hI : LawI G Y A) (hY : Y + 20 ≤ 1000000) (hq : ChQ G v f s w0 G9) (hm : ChM (upd2 G9 119 0 r1) G2 v f s r) : G2 106 8 = 0 ∧ w0 = some (vI r) ∧ G2 119 0 = r1 ∧ LawI G2 (Y + 20) (A + 99) := by
  obtain ⟨hok, Ga, Gb, r0, hF, hrem, hpf, hw⟩ := hq
  have hIa : LawI Ga Y A := LawI_fr hI (FrP_l hF)
  obtain ⟨hS4, ⟨hp, hn5, hps⟩, ⟨s1, s2, s3⟩, ⟨c1, c2, c3⟩, ⟨e1, e2, e3, e4⟩, tI, hMc⟩ := hIa
  have hoka := flt_same isS4 (FrP_s isS4 hF) hok
  have rk := RemR_k hp hrem
  have hokb : FltV Gb 4 v f s 0 := flt_same isS4 (fun j hj w => rk (4 + j) w (by omega)) hoka
  have hS4b : SSk (Ga 107) Gb 4 Y A := SSk_fr hS4 fun j hj w => rk (4 + j) w (by omega)
  have pf : ∀ i z, ¬ (4 ≤ i ∧ i ≤ 11) → ¬ (92 ≤ i ∧ i ≤ 99 ∧ i ≠ 93) → ¬ (i = 1 ∧ z = 4) → G9 i z = Gb i z := fun i z => Pf_fr hpf i z
  obtain ⟨q, hfm, h8, hfr, hcase⟩ := hm
  have g9 : ∀ i z, 92 ≤ i → ¬ (92 ≤ i ∧ i ≤ 99) → i ≠ 119 → upd2 G9 119 0 r1 i z = Ga i z := fun i z a b c => (upd2_i c).trans ((pf i z (by omega) (by omega) (by omega)).trans (rk i z (by omega)))
  have e7 : upd2 G9 119 0 r1 107 = Ga 107 := funext fun z => g9 107 z (by omega) (by omega) (by omega)
  rw [e7] at hfm hcase
  have hq0 : q = 0 := Flt_rel hS4.1 hS4.2.2.1 hoka hfm
  subst hq0
  rcases hcase with ⟨hne, -⟩ | ⟨-, hM2, hPm, hRem⟩
  · exact absurd rfl hne
  have h80 : G2 106 8 = 0 := h8
  have st := SSk_step isS4 h_v hS4b hY hokb hpf hM2 hPm
  have k2 : ∀ p z, p ≠ 107 → p ≠ 108 → p ≠ 110 → ¬ (112 ≤ p ∧ p ≤ 114) → ¬ (p = 106 ∧ (z = 5 ∨ z = 8)) → p ≠ 119 → G2 p z = G9 p z := fun p z a b c d e f9 => (hfr p z a b c d e).trans (upd2_i f9)
  have k : ∀ p z, (12 ≤ p ∧ p < 28) ∨ p = 102 ∨ p = 109 ∨ p = 111 ∨ (115 ≤ p ∧ p ≤ 117) ∨ 121 ≤ p ∨ (p = 0 ∧ z ≠ 8) ∨ p = 2 ∨ (p = 106 ∧ z ≠ 5 ∧ z ≠ 8) → G2 p z = Ga p z := fun p z a => (k2 p z (by omega) (by omega) (by omega) (by omega) (by omega) (by omega)).trans ((pf p z (by omega) (by omega) (by omega)).trans (rk p z (by omega)))
  have kf : ∀ p : Nat, (12 ≤ p ∧ p < 28) ∨ p = 102 ∨ p = 109 ∨ p = 111 ∨ (115 ≤ p ∧ p ≤ 117) ∨ 121 ≤ p ∨ p = 2 → G2 p = Ga p := fun p a => funext fun z => k p z (by omega)
  have pb : ∀ p z, p = 0 ∨ p = 3 ∨ (28 ≤ p ∧ p < 92) → G2 p z = Gb p z := fun p z a => (k2 p z (by omega) (by omega) (by omega) (by omega) (by omega) (by omega)).trans (pf p z (by omega) (by omega) (by omega))
  have hpast : PastL Gb (G2 110) (G2 106 5) Y A := by
    refine past_step (R := Ga 110) (n := Ga 106 5) (M := Ga 107) ⟨hp, hn5, hps⟩ hS4 hrem ?_
    have e5 : upd2 G9 119 0 r1 106 5 = Ga 106 5 := g9 106 5 (by omega) (by omega) (by omega)
    have e10 : upd2 G9 119 0 r1 110 = Ga 110 := funext fun z => g9 110 z (by omega) (by omega) (by omega)
    rw [e5, e10] at hRem
    exact hRem
  obtain ⟨p1, p2, p3⟩ := hpast
  refine ⟨h80, by rw [hw, st.1], (hfr 119 0 (by omega) (by omega) (by omega) (by omega) (by omega)).trans (upd2_s _ _ _ _), ?_, ⟨?_, ?_, fun j j0 j1 => ?_⟩, ⟨?_, ?_, fun h1 => ?_⟩, ⟨?_, ?_, ?_⟩, ⟨?_, ?_, ?_, ?_⟩, ?_, ?_⟩
  · exact SSk_fr st.2 fun j hj w => k2 (4 + j) w (by omega) (by omega) (by omega) (by omega) (by omega) (by omega)
  · unfold PastI
    rw [show G2 0 8 = Gb 0 8 from pb 0 8 (by omega), show G2 3 = Gb 3 from funext fun z => pb 3 z (by omega)]
    exact p1
  · rw [show G2 0 8 = Gb 0 8 from pb 0 8 (by omega)]
    exact p2
  · rw [show G2 0 8 = Gb 0 8 from pb 0 8 (by omega)] at j1
    rw [show G2 3 j = Gb 3 j from pb 3 j (by omega)]
    have hj := p1.2.1 j j0 (by have := p1.1; omega)
    have hl := isS_lt hj.2
    exact SSk_up (SSk_fr (p3 j j0 j1) fun i hi w => pb _ w (by omega)) (by omega) (by omega)
  · rw [k 0 7 (by omega)]
    exact s1
  · rw [k 106 3 (by omega), k 0 7 (by omega)]
    exact s2
  · rw [k 0 7 (by omega)] at h1
    rw [kf 109 (by omega)]
    exact SSk_up (SSk_fr (s3 h1) fun i hi w => k (20 + i) w (by omega)) (by omega) (by omega)
  · rw [k 2 1 (by omega)]
    exact c1
  · rw [k 2 1 (by omega), k 106 10 (by omega)]
    exact c2
  · rw [k 2 1 (by omega), kf 111 (by omega), kf 102 (by omega)]
    exact c3
  · rw [k 0 9 (by omega)]
    exact e1
  · rw [k 106 6 (by omega), k 0 9 (by omega)]
    exact e2
  · rw [k 0 10 (by omega)]
    exact e3
  · rw [k 106 7 (by omega), k 0 10 (by omega)]
    exact e4
  · unfold TextI
    rw [kf 122 (by omega), kf 121 (by omega), kf 115 (by omega), k 106 15 (by omega)]
    exact tI
  · unfold McL
    rw [kf 116 (by omega), kf 117 (by omega)]
    exact hMc
theorem op_chg {G G1 G2 : Mem} {v f s Y A : Int} {cl : List String} {v1 w : Option Value} (h_v : 0 ≤ v ∧ v < 7) (hcl : ∀ (G : Mem) (r : Int) (i : Nat), FltV G 4 v f s r → r ≠ 0 → cl[i]? = some (flX r) → kOf v r = (i : Int) + 1 ∧ (i : Int) + 1 ≤ 5) (hI : LawI G Y A) (hY : Y + 20 ≤ 1000000) (h1 : LQ (ChQ G v f s) (ChX G v f s) cl v1 G1) (h2 : RP (fun r G' => ChM G1 G' v f s r) w G2) : OpJ G2 v1 w (Y + 20) (A + 99) := by
  obtain ⟨r, rfl, hm⟩ := h2
  rcases h1 with ⟨rfl, r1, G9, hr, hq, rfl⟩ | ⟨i, e, hc, ⟨hF, r0, hfl, hr0, rfl⟩, rfl⟩
  · obtain ⟨a1, a2, a3, a4⟩ := chg_law h_v hI hY hq hm
    exact ⟨0, r1, rfl, a2.symm, by omega, hr, a1, fun _ => a3, a4⟩
  · obtain ⟨k1, k2⟩ := hcl G r0 i hfl hr0 hc
    obtain ⟨q, hfm, h8, hfr, hcase⟩ := hm
    have hf1 : LFr G G1 := FrP_l hF
    have e7 : G1 107 = G 107 := funext fun z => hf1 107 z (by unfold lawK; omega)
    rw [e7] at hfm
    have hq0 : q = r0 := Flt_rel hI.1.1 hI.1.2.2.1 hfl hfm
    subst hq0
    rcases hcase with ⟨-, c7, c5, c10⟩ | ⟨hz, -⟩
    · obtain ⟨r2, hr2, he2⟩ := int_norm (v := some (vI r)) ⟨r, rfl⟩
      refine ⟨(i : Int) + 1, r2, rfl, he2, by omega, hr2, by rw [h8, k1], fun z => by omega, LawI_up (LawI_fr hI (LFr_t hf1 fun p z kk => ?_)) (by omega) (by omega)⟩
      unfold lawK at kk
      by_cases a1 : p = 107
      · rw [a1, c7]
      · by_cases a2 : p = 110
        · rw [a2, c10]
        · by_cases a3 : p = 106 ∧ z = 5
          · rw [a3.1, a3.2, c5]
          · exact hfr p z a1 (by omega) a2 (by omega) (by omega)
    · exact absurd hz hr0
theorem kcl_0 {G : Mem} {f s r : Int} {i : Nat} (h : FltV G 4 0 f s r) (hr : r ≠ 0) (hc : [eIA, eIS, eUO][i]? = some (flX r)) : kOf 0 r = (i : Int) + 1 ∧ (i : Int) + 1 ≤ 5 := by
  unfold FltV at h
  rw [if_pos rfl] at h
  unfold FltDie at h
  have h9 : r = 2 ∨ r = 3 ∨ r = 4 := by rcases h with ⟨-, q⟩ | ⟨-, ⟨-, q⟩ | ⟨-, ⟨-, q⟩ | ⟨-, q⟩⟩⟩ <;> omega
  rcases h9 with rfl | rfl | rfl <;> rcases i with _ | _ | _ | i <;> first | exact ⟨rfl, by decide⟩ | exact absurd (Option.some.inj hc) (by decide +kernel) | cases hc
theorem op_addDie {G G1 G2 : Mem} {v1 w : Option Value} {f s Y A : Int} (hI : LawI G Y A) (hY : Y + 20 ≤ 1000000) (h1 : LQ (ChQ G 0 f s) (ChX G 0 f s) [eIA, eIS, eUO] v1 G1) (h2 : RP (fun r G' => ChM G1 G' 0 f s r) w G2) : OpJ G2 v1 w (Y + 20) (A + 99) :=
  op_chg (by decide) (fun G r i a b c => kcl_0 a b c) hI hY h1 h2
theorem kcl_1 {G : Mem} {f r : Int} {i : Nat} (h : FltV G 4 1 f 0 r) (hr : r ≠ 0) (hc : [eIB, eIS][i]? = some (flX r)) : kOf 1 r = (i : Int) + 1 ∧ (i : Int) + 1 ≤ 5 := by
  unfold FltV at h
  rw [if_neg (by decide), if_pos rfl] at h
  unfold FltSh at h
  have h9 : r = 1 ∨ r = 3 := by rcases h with ⟨-, q⟩ | ⟨-, ⟨-, q⟩ | ⟨-, q⟩⟩ <;> omega
  rcases h9 with rfl | rfl <;> rcases i with _ | _ | i <;> first | exact ⟨rfl, by decide⟩ | exact absurd (Option.some.inj hc) (by decide +kernel) | cases hc
theorem op_sharpen {G G1 G2 : Mem} {v1 w : Option Value} {f Y A : Int} (hI : LawI G Y A) (hY : Y + 20 ≤ 1000000) (h1 : LQ (ChQ G 1 f 0) (ChX G 1 f 0) [eIB, eIS] v1 G1) (h2 : RP (fun r G' => ChM G1 G' 1 f 0 r) w G2) : OpJ G2 v1 w (Y + 20) (A + 99) :=
  op_chg (by decide) (fun G r i a b c => kcl_1 a b c) hI hY h1 h2
theorem kcl_2 {G : Mem} {f r : Int} {i : Nat} (h : FltV G 4 2 f 0 r) (hr : r ≠ 0) (hc : [eIA, eIS][i]? = some (flX r)) : kOf 2 r = (i : Int) + 1 ∧ (i : Int) + 1 ≤ 5 := by
  unfold FltV at h
  rw [if_neg (by decide), if_neg (by decide), if_pos rfl] at h
  unfold FltLf at h
  have h9 : r = 2 ∨ r = 3 := by rcases h with ⟨-, q⟩ | ⟨-, ⟨-, q⟩ | ⟨-, q⟩⟩ <;> omega
  rcases h9 with rfl | rfl <;> rcases i with _ | _ | i <;> first | exact ⟨rfl, by decide⟩ | exact absurd (Option.some.inj hc) (by decide +kernel) | cases hc
theorem op_addLeaves {G G1 G2 : Mem} {v1 w : Option Value} {f Y A : Int} (hI : LawI G Y A) (hY : Y + 20 ≤ 1000000) (h1 : LQ (ChQ G 2 f 0) (ChX G 2 f 0) [eIA, eIS] v1 G1) (h2 : RP (fun r G' => ChM G1 G' 2 f 0 r) w G2) : OpJ G2 v1 w (Y + 20) (A + 99) :=
  op_chg (by decide) (fun G r i a b c => kcl_2 a b c) hI hY h1 h2
theorem kcl_3 {G : Mem} {f s r : Int} {i : Nat} (h : FltV G 4 3 f s r) (hr : r ≠ 0) (hc : [eIB, eIA, eIS, eUO][i]? = some (flX r)) : kOf 3 r = (i : Int) + 1 ∧ (i : Int) + 1 ≤ 5 := by
  unfold FltV at h
  rw [if_neg (by decide), if_neg (by decide), if_neg (by decide), if_pos rfl] at h
  unfold FltSt at h
  have h9 : r = 1 ∨ r = 2 ∨ r = 3 ∨ r = 4 := by rcases h with ⟨-, q⟩ | ⟨-, ⟨-, q⟩ | ⟨-, ⟨-, q⟩ | ⟨-, ⟨-, q⟩ | ⟨-, q⟩⟩⟩⟩ <;> omega
  rcases h9 with rfl | rfl | rfl | rfl <;> rcases i with _ | _ | _ | _ | i <;> first | exact ⟨rfl, by decide⟩ | exact absurd (Option.some.inj hc) (by decide +kernel) | cases hc
theorem op_strike {G G1 G2 : Mem} {v1 w : Option Value} {f s Y A : Int} (hI : LawI G Y A) (hY : Y + 20 ≤ 1000000) (h1 : LQ (ChQ G 3 f s) (ChX G 3 f s) [eIB, eIA, eIS, eUO] v1 G1) (h2 : RP (fun r G' => ChM G1 G' 3 f s r) w G2) : OpJ G2 v1 w (Y + 20) (A + 99) :=
  op_chg (by decide) (fun G r i a b c => kcl_3 a b c) hI hY h1 h2
theorem kcl_4 {G : Mem} {f r : Int} {i : Nat} (h : FltV G 4 4 f 0 r) (hr : r ≠ 0) (hc : [eIA][i]? = some (flX r)) : kOf 4 r = (i : Int) + 1 ∧ (i : Int) + 1 ≤ 5 := by
  unfold FltV at h
  rw [if_neg (by decide), if_neg (by decide), if_neg (by decide), if_neg (by decide), if_pos rfl] at h
  unfold FltYr at h
  have h9 : r = 2 := by rcases h with ⟨-, q⟩ | ⟨-, q⟩ <;> omega
  rcases h9 with rfl <;> rcases i with _ | i <;> first | exact ⟨rfl, by decide⟩ | exact absurd (Option.some.inj hc) (by decide +kernel) | cases hc
theorem op_passYears {G G1 G2 : Mem} {v1 w : Option Value} {f Y A : Int} (hI : LawI G Y A) (hY : Y + 20 ≤ 1000000) (h1 : LQ (ChQ G 4 f 0) (ChX G 4 f 0) [eIA] v1 G1) (h2 : RP (fun r G' => ChM G1 G' 4 f 0 r) w G2) : OpJ G2 v1 w (Y + 20) (A + 99) :=
  op_chg (by decide) (fun G r i a b c => kcl_4 a b c) hI hY h1 h2
theorem kcl_5 {G : Mem} {f r : Int} {i : Nat} (h : FltV G 4 5 f 0 r) (hr : r ≠ 0) (hc : [eIA, eNE][i]? = some (flX r)) : kOf 5 r = (i : Int) + 1 ∧ (i : Int) + 1 ≤ 5 := by
  unfold FltV at h
  rw [if_neg (by decide), if_neg (by decide), if_neg (by decide), if_neg (by decide), if_neg (by decide), if_pos rfl] at h
  unfold FltMl at h
  have h9 : r = 2 ∨ r = 5 := by rcases h with ⟨-, q⟩ | ⟨-, ⟨-, q⟩ | ⟨-, q⟩⟩ <;> omega
  rcases h9 with rfl | rfl <;> rcases i with _ | _ | i <;> first | exact ⟨rfl, by decide⟩ | exact absurd (Option.some.inj hc) (by decide +kernel) | cases hc
theorem op_recall {G G1 G2 : Mem} {v1 w : Option Value} {f Y A : Int} (hI : LawI G Y A) (hY : Y + 20 ≤ 1000000) (h1 : LQ (ChQ G 5 f 0) (ChX G 5 f 0) [eIA, eNE] v1 G1) (h2 : RP (fun r G' => ChM G1 G' 5 f 0 r) w G2) : OpJ G2 v1 w (Y + 20) (A + 99) :=
  op_chg (by decide) (fun G r i a b c => kcl_5 a b c) hI hY h1 h2
theorem kcl_6 {G : Mem} {f r : Int} {i : Nat} (h : FltV G 4 6 f 0 r) (hr : r ≠ 0) (hc : [eIA, eUO][i]? = some (flX r)) : kOf 6 r = (i : Int) + 1 ∧ (i : Int) + 1 ≤ 5 := by
  unfold FltV at h
  rw [if_neg (by decide), if_neg (by decide), if_neg (by decide), if_neg (by decide), if_neg (by decide), if_neg (by decide)] at h
  unfold FltPay at h
  have h9 : r = 2 ∨ r = 4 := by rcases h with ⟨-, q⟩ | ⟨-, ⟨-, q⟩ | ⟨-, q⟩⟩ <;> omega
  rcases h9 with rfl | rfl <;> rcases i with _ | _ | i <;> first | exact ⟨rfl, by decide⟩ | exact absurd (Option.some.inj hc) (by decide +kernel) | cases hc
theorem op_pay {G G1 G2 : Mem} {v1 w : Option Value} {f Y A : Int} (hI : LawI G Y A) (hY : Y + 20 ≤ 1000000) (h1 : LQ (ChQ G 6 f 0) (ChX G 6 f 0) [eIA, eUO] v1 G1) (h2 : RP (fun r G' => ChM G1 G' 6 f 0 r) w G2) : OpJ G2 v1 w (Y + 20) (A + 99) :=
  op_chg (by decide) (fun G r i a b c => kcl_6 a b c) hI hY h1 h2
