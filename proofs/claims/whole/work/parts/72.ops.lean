-- a question asked of both
/-- the answers of a command: c the fault's number, r the answer; both agree, and the law's loop goes on -/
def OpJ (G2 : Mem) (v w : Option Value) (Y A : Int) : Prop := ∃ c r : Int, v = some (vI c) ∧ w = some (vI r) ∧ (0 ≤ c ∧ c ≤ 5) ∧ (-2147483648 ≤ r ∧ r < 2147483648) ∧ G2 106 8 = c ∧ (c = 0 → G2 119 0 = r) ∧ LawI G2 Y A
theorem LFr_119 (G : Mem) (v : Int) : LFr G (upd2 G 119 0 v) := LFr_u (by unfold lawK; omega)
theorem LFr_106 (G : Mem) (v : Int) : LFr G (upd2 G 106 8 v) := LFr_u (by unfold lawK; omega)
theorem opq {G G1 G2 : Mem} {Q : Option Value → Mem → Prop} {X : String → Mem → Prop} {cl : List String} {v w : Option Value} {P : Mem → Int → Int → Prop} {Y A : Int} (hI : LawI G Y A) (h1 : LQ Q X cl v G1) (h2 : QR G1 (P G1) w G2) (hQ : ∀ u G9, Q u G9 → G9 = G) (hX : ∀ e G9, X e G9 → G9 = G) (hP : ∀ r, P (upd2 G 119 0 r) = P G)
    (ok : ∀ r1 k r, Q (some (vI r1)) G → P G k r → k = 0 ∧ some (vI r1) = some (vI r)) (bad : ∀ (i : Nat) e k r, cl[i]? = some e → X e G → P G k r → k = (i : Int) + 1) : OpJ G2 v w Y A := by
  obtain ⟨r, k, rfl, hp, hk, rfl⟩ := h2
  rcases h1 with ⟨rfl, r1, G9, hr, hq, rfl⟩ | ⟨i, e, hc, hx, rfl⟩
  · have e9 := hQ _ _ hq
    subst e9
    rw [hP] at hp
    obtain ⟨rfl, he⟩ := ok r1 k r hq hp
    exact ⟨0, r1, rfl, he.symm, by omega, hr, upd2_s _ _ _ _, fun _ => (upd2_i (by decide)).trans (upd2_s _ _ _ _), LawI_fr hI (LFr_t (LFr_119 _ _) (LFr_106 _ _))⟩
  · have e9 := hX _ _ hx
    subst e9
    have hi := bad i e k r hc hx hp
    obtain ⟨r2, hr2, he2⟩ := int_norm (v := some (vI r)) ⟨r, rfl⟩
    exact ⟨(i : Int) + 1, r2, rfl, he2, by omega, hr2, by rw [upd2_s]; exact hi, fun q => by omega, LawI_fr hI (LFr_106 _ _)⟩

theorem op_dieValue {G G1 G2 : Mem} {v w : Option Value} {Y A : Int} {d : Int} (h_d : -2147483648 ≤ d ∧ d < 2147483648) (hI : LawI G Y A) (h1 : LQ (fun v G' => v = some (vI (G 5 d)) ∧ G' = G ∧ 0 ≤ d ∧ d < G 4 0) (fun e G' => e = eIB ∧ G' = G ∧ ¬ (0 ≤ d ∧ d < G 4 0)) [eIB] v G1) (h2 : QR G1 (fun k r => (k = 0 ∧ (0 ≤ d ∧ d < G1 107 0) ∧ r = G1 107 (9 + 3 * d)) ∨ (k = 1 ∧ ¬ (0 ≤ d ∧ d < G1 107 0))) w G2) : OpJ G2 v w Y A := by
  obtain ⟨hSt, hM, hR, -⟩ := id hI.1
  have e0 : G 107 0 = G 4 0 := qr_n hR
  have ed : ∀ d, 0 ≤ d → d < G 4 0 → G 107 (9 + 3 * d) = G 5 d ∧ G 107 (9 + 3 * d + 1) = G 6 d ∧ G 107 (9 + 3 * d + 2) = G 7 d := hR.2.1
  refine opq (P := fun G => (fun k r => (k = 0 ∧ (0 ≤ d ∧ d < G 107 0) ∧ r = G 107 (9 + 3 * d)) ∨ (k = 1 ∧ ¬ (0 ≤ d ∧ d < G 107 0)))) hI h1 h2 (fun u G9 h => by exact h.2.1) (fun e G9 h => by exact h.2.1) (fun _ => rfl) ?_ ?_
  · intro r1 k r hq hp
    rcases hp with ⟨hk, hd, hr⟩ | ⟨hk, hd⟩
    · exact ⟨hk, by rw [hq.1, hr, (ed d hq.2.2.1 hq.2.2.2).1]⟩
    · exfalso; omega
  · intro i e k r hc hx hp
    rcases i with _ | i
    · rcases hp with ⟨hk, hd, hr⟩ | ⟨hk, hd⟩
      · exfalso; omega
      · omega
    · cases hc
theorem op_coinWeight {G G1 G2 : Mem} {v w : Option Value} {Y A : Int} {d : Int} (h_d : -2147483648 ≤ d ∧ d < 2147483648) (hI : LawI G Y A) (h1 : LQ (fun v G' => v = some (vI (G 6 d)) ∧ G' = G ∧ 0 ≤ d ∧ d < G 4 0) (fun e G' => e = eIB ∧ G' = G ∧ ¬ (0 ≤ d ∧ d < G 4 0)) [eIB] v G1) (h2 : QR G1 (fun k r => (k = 0 ∧ (0 ≤ d ∧ d < G1 107 0) ∧ r = G1 107 (9 + 3 * d + 1)) ∨ (k = 1 ∧ ¬ (0 ≤ d ∧ d < G1 107 0))) w G2) : OpJ G2 v w Y A := by
  obtain ⟨hSt, hM, hR, -⟩ := id hI.1
  have e0 : G 107 0 = G 4 0 := qr_n hR
  have ed : ∀ d, 0 ≤ d → d < G 4 0 → G 107 (9 + 3 * d) = G 5 d ∧ G 107 (9 + 3 * d + 1) = G 6 d ∧ G 107 (9 + 3 * d + 2) = G 7 d := hR.2.1
  refine opq (P := fun G => (fun k r => (k = 0 ∧ (0 ≤ d ∧ d < G 107 0) ∧ r = G 107 (9 + 3 * d + 1)) ∨ (k = 1 ∧ ¬ (0 ≤ d ∧ d < G 107 0)))) hI h1 h2 (fun u G9 h => by exact h.2.1) (fun e G9 h => by exact h.2.1) (fun _ => rfl) ?_ ?_
  · intro r1 k r hq hp
    rcases hp with ⟨hk, hd, hr⟩ | ⟨hk, hd⟩
    · exact ⟨hk, by rw [hq.1, hr, (ed d hq.2.2.1 hq.2.2.2).2.1]⟩
    · exfalso; omega
  · intro i e k r hc hx hp
    rcases i with _ | i
    · rcases hp with ⟨hk, hd, hr⟩ | ⟨hk, hd⟩
      · exfalso; omega
      · omega
    · cases hc
theorem op_wear {G G1 G2 : Mem} {v w : Option Value} {Y A : Int} {d : Int} (h_d : -2147483648 ≤ d ∧ d < 2147483648) (hI : LawI G Y A) (h1 : LQ (fun v G' => v = some (vI (G 7 d)) ∧ G' = G ∧ 0 ≤ d ∧ d < G 4 0) (fun e G' => e = eIB ∧ G' = G ∧ ¬ (0 ≤ d ∧ d < G 4 0)) [eIB] v G1) (h2 : QR G1 (fun k r => (k = 0 ∧ (0 ≤ d ∧ d < G1 107 0) ∧ r = G1 107 (9 + 3 * d + 2)) ∨ (k = 1 ∧ ¬ (0 ≤ d ∧ d < G1 107 0))) w G2) : OpJ G2 v w Y A := by
  obtain ⟨hSt, hM, hR, -⟩ := id hI.1
  have e0 : G 107 0 = G 4 0 := qr_n hR
  have ed : ∀ d, 0 ≤ d → d < G 4 0 → G 107 (9 + 3 * d) = G 5 d ∧ G 107 (9 + 3 * d + 1) = G 6 d ∧ G 107 (9 + 3 * d + 2) = G 7 d := hR.2.1
  refine opq (P := fun G => (fun k r => (k = 0 ∧ (0 ≤ d ∧ d < G 107 0) ∧ r = G 107 (9 + 3 * d + 2)) ∨ (k = 1 ∧ ¬ (0 ≤ d ∧ d < G 107 0)))) hI h1 h2 (fun u G9 h => by exact h.2.1) (fun e G9 h => by exact h.2.1) (fun _ => rfl) ?_ ?_
  · intro r1 k r hq hp
    rcases hp with ⟨hk, hd, hr⟩ | ⟨hk, hd⟩
    · exact ⟨hk, by rw [hq.1, hr, (ed d hq.2.2.1 hq.2.2.2).2.2]⟩
    · exfalso; omega
  · intro i e k r hc hx hp
    rcases i with _ | i
    · rcases hp with ⟨hk, hd, hr⟩ | ⟨hk, hd⟩
      · exfalso; omega
      · omega
    · cases hc
theorem op_nextGrade {G G1 G2 : Mem} {v w : Option Value} {Y A : Int} {d : Int} (h_d : -2147483648 ≤ d ∧ d < 2147483648) (hI : LawI G Y A) (h1 : LQ (fun v G' => v = some (vI (65 + gow (G 7 d))) ∧ G' = G ∧ (0 ≤ d ∧ d < G 4 0) ∧ G 7 d < 30) (fun e G' => G' = G ∧ ((e = eIB ∧ ¬ (0 ≤ d ∧ d < G 4 0)) ∨ (e = eIS ∧ (0 ≤ d ∧ d < G 4 0) ∧ 30 ≤ G 7 d))) [eIB, eIS] v G1) (h2 : QR G1 (fun k r => (k = 0 ∧ (0 ≤ d ∧ d < G1 107 0) ∧ G1 107 (9 + 3 * d + 2) ≠ 30 ∧ r = 65 + gow (G1 107 (9 + 3 * d + 2))) ∨ (k = 1 ∧ ¬ (0 ≤ d ∧ d < G1 107 0)) ∨ (k = 2 ∧ (0 ≤ d ∧ d < G1 107 0) ∧ G1 107 (9 + 3 * d + 2) = 30)) w G2) : OpJ G2 v w Y A := by
  obtain ⟨hSt, hM, hR, -⟩ := id hI.1
  have e0 : G 107 0 = G 4 0 := qr_n hR
  have ed : ∀ d, 0 ≤ d → d < G 4 0 → G 107 (9 + 3 * d) = G 5 d ∧ G 107 (9 + 3 * d + 1) = G 6 d ∧ G 107 (9 + 3 * d + 2) = G 7 d := hR.2.1
  refine opq (P := fun G => (fun k r => (k = 0 ∧ (0 ≤ d ∧ d < G 107 0) ∧ G 107 (9 + 3 * d + 2) ≠ 30 ∧ r = 65 + gow (G 107 (9 + 3 * d + 2))) ∨ (k = 1 ∧ ¬ (0 ≤ d ∧ d < G 107 0)) ∨ (k = 2 ∧ (0 ≤ d ∧ d < G 107 0) ∧ G 107 (9 + 3 * d + 2) = 30))) hI h1 h2 (fun u G9 h => by exact h.2.1) (fun e G9 h => by exact h.1) (fun _ => rfl) ?_ ?_
  · intro r1 k r hq hp
    have e7 := (ed d hq.2.2.1.1 hq.2.2.1.2).2.2
    rcases hp with ⟨hk, hd, h30, hr⟩ | ⟨hk, hd⟩ | ⟨hk, hd, h30⟩
    · exact ⟨hk, by rw [hq.1, hr, e7]⟩
    · exfalso; omega
    · exfalso; omega
  · intro i e k r hc hx hp
    rcases i with _ | _ | i
    · have he := Option.some.inj hc
      subst he
      rcases hx.2 with ⟨-, q⟩ | ⟨q, -⟩
      · rcases hp with ⟨hk, hd, -⟩ | ⟨hk, hd⟩ | ⟨hk, hd, -⟩
        · exfalso; omega
        · omega
        · exfalso; omega
      · exact absurd q (by decide +kernel)
    · have he := Option.some.inj hc
      subst he
      rcases hx.2 with ⟨q, -⟩ | ⟨-, hd9, h30⟩
      · exact absurd q (by decide +kernel)
      · have e7 := (ed d hd9.1 hd9.2).2.2
        have hw := (MoI_d hM (i := d) hd9.1 (by omega)).2.2
        rcases hp with ⟨hk, hd, h3, -⟩ | ⟨hk, hd⟩ | ⟨hk, hd, -⟩
        · exfalso; omega
        · exfalso; omega
        · omega
    · cases hc
theorem op_coinsOfGrade {G G1 G2 : Mem} {v w : Option Value} {Y A : Int} {c : Int} (h_c : 0 ≤ c ∧ c < 65536) (hI : LawI G Y A) (h1 : LQ (fun v G' => v = some (vI (cntE (G 4 5) (G 11) (c - 65))) ∧ G' = G ∧ 65 ≤ c ∧ c ≤ 67) (fun e G' => e = eIA ∧ G' = G ∧ ¬ (65 ≤ c ∧ c ≤ 67)) [eIA] v G1) (h2 : QR G1 (fun k r => (k = 0 ∧ (65 ≤ c ∧ c ≤ 67) ∧ r = cntE (G1 107 3) (fun k => G1 107 (24 + 3 * k + 2)) (c - 65)) ∨ (k = 1 ∧ ¬ (65 ≤ c ∧ c ≤ 67))) w G2) : OpJ G2 v w Y A := by
  obtain ⟨hSt, hM, hR, -⟩ := id hI.1
  have e0 : G 107 0 = G 4 0 := qr_n hR
  have ed : ∀ d, 0 ≤ d → d < G 4 0 → G 107 (9 + 3 * d) = G 5 d ∧ G 107 (9 + 3 * d + 1) = G 6 d ∧ G 107 (9 + 3 * d + 2) = G 7 d := hR.2.1
  refine opq (P := fun G => (fun k r => (k = 0 ∧ (65 ≤ c ∧ c ≤ 67) ∧ r = cntE (G 107 3) (fun k => G 107 (24 + 3 * k + 2)) (c - 65)) ∨ (k = 1 ∧ ¬ (65 ≤ c ∧ c ≤ 67)))) hI h1 h2 (fun u G9 h => by exact h.2.1) (fun e G9 h => by exact h.2.1) (fun _ => rfl) ?_ ?_
  · intro r1 k r hq hp
    rcases hp with ⟨hk, hd, hr⟩ | ⟨hk, hd⟩
    · exact ⟨hk, by rw [hq.1, hr]; exact congrArg (fun z => some (vI z)) (qr_grade hR (c - 65)).symm⟩
    · exfalso; omega
  · intro i e k r hc hx hp
    rcases i with _ | i
    · rcases hp with ⟨hk, hd, hr⟩ | ⟨hk, hd⟩
      · exfalso; omega
      · omega
    · cases hc
theorem op_outputAt {G G1 G2 : Mem} {v w : Option Value} {Y A : Int} {d : Int} (h_d : -2147483648 ≤ d ∧ d < 2147483648) (hI : LawI G Y A) (h1 : LQ (fun v G' => v = some (vI (G 121 d)) ∧ G' = G ∧ 0 ≤ d ∧ d < G 122 0) (fun e G' => e = eIB ∧ G' = G ∧ ¬ (0 ≤ d ∧ d < G 122 0)) [eIB] v G1) (h2 : QR G1 (fun k r => (k = 0 ∧ (0 ≤ d ∧ d < G1 106 15) ∧ r = G1 115 d) ∨ (k = 1 ∧ ¬ (0 ≤ d ∧ d < G1 106 15))) w G2) : OpJ G2 v w Y A := by
  obtain ⟨hSt, hM, hR, -⟩ := id hI.1
  have e0 : G 107 0 = G 4 0 := qr_n hR
  have ed : ∀ d, 0 ≤ d → d < G 4 0 → G 107 (9 + 3 * d) = G 5 d ∧ G 107 (9 + 3 * d + 1) = G 6 d ∧ G 107 (9 + 3 * d + 2) = G 7 d := hR.2.1
  obtain ⟨t1, t2, t3⟩ := hI.2.2.2.2.2.1
  refine opq (P := fun G => (fun k r => (k = 0 ∧ (0 ≤ d ∧ d < G 106 15) ∧ r = G 115 d) ∨ (k = 1 ∧ ¬ (0 ≤ d ∧ d < G 106 15)))) hI h1 h2 (fun u G9 h => by exact h.2.1) (fun e G9 h => by exact h.2.1) (fun _ => rfl) ?_ ?_
  · intro r1 k r hq hp
    rcases hp with ⟨hk, hd, hr⟩ | ⟨hk, hd⟩
    · exact ⟨hk, by rw [hq.1, hr, (t3 d hq.2.2.1 hq.2.2.2).1]⟩
    · exfalso; omega
  · intro i e k r hc hx hp
    rcases i with _ | i
    · rcases hp with ⟨hk, hd, hr⟩ | ⟨hk, hd⟩
      · exfalso; omega
      · omega
    · cases hc
theorem op_errorPosition {G G1 G2 : Mem} {v w : Option Value} {Y A : Int} (hI : LawI G Y A) (h1 : LQ (fun v G' => v = some (vI (G 0 9)) ∧ G' = G ∧ G 0 9 ≠ -1) (fun e G' => e = eNE ∧ G' = G ∧ G 0 9 = -1) [eNE] v G1) (h2 : QR G1 (fun k r => (k = 0 ∧ G1 106 6 ≠ -1 ∧ r = G1 106 6) ∨ (k = 1 ∧ G1 106 6 = -1)) w G2) : OpJ G2 v w Y A := by
  obtain ⟨hSt, hM, hR, -⟩ := id hI.1
  have e0 : G 107 0 = G 4 0 := qr_n hR
  have ed : ∀ d, 0 ≤ d → d < G 4 0 → G 107 (9 + 3 * d) = G 5 d ∧ G 107 (9 + 3 * d + 1) = G 6 d ∧ G 107 (9 + 3 * d + 2) = G 7 d := hR.2.1
  obtain ⟨-, -, -, -, ⟨e1, e2, e3, e4⟩, -⟩ := id hI
  refine opq (P := fun G => (fun k r => (k = 0 ∧ G 106 6 ≠ -1 ∧ r = G 106 6) ∨ (k = 1 ∧ G 106 6 = -1))) hI h1 h2 (fun u G9 h => by exact h.2.1) (fun e G9 h => by exact h.2.1) (fun _ => rfl) ?_ ?_
  · intro r1 k r hq hp
    rcases hp with ⟨hk, hd, hr⟩ | ⟨hk, hd⟩
    · exact ⟨hk, by rw [hq.1, hr, e2]⟩
    · exfalso; omega
  · intro i e k r hc hx hp
    rcases i with _ | i
    · rcases hp with ⟨hk, hd, hr⟩ | ⟨hk, hd⟩
      · exfalso; omega
      · omega
    · cases hc
theorem op_failedCommand {G G1 G2 : Mem} {v w : Option Value} {Y A : Int} (hI : LawI G Y A) (h1 : LQ (fun v G' => v = some (vI (G 0 10)) ∧ G' = G ∧ G 0 10 ≠ -1) (fun e G' => e = eNE ∧ G' = G ∧ G 0 10 = -1) [eNE] v G1) (h2 : QR G1 (fun k r => (k = 0 ∧ G1 106 7 ≠ -1 ∧ r = G1 106 7) ∨ (k = 1 ∧ G1 106 7 = -1)) w G2) : OpJ G2 v w Y A := by
  obtain ⟨hSt, hM, hR, -⟩ := id hI.1
  have e0 : G 107 0 = G 4 0 := qr_n hR
  have ed : ∀ d, 0 ≤ d → d < G 4 0 → G 107 (9 + 3 * d) = G 5 d ∧ G 107 (9 + 3 * d + 1) = G 6 d ∧ G 107 (9 + 3 * d + 2) = G 7 d := hR.2.1
  obtain ⟨-, -, -, -, ⟨e1, e2, e3, e4⟩, -⟩ := id hI
  refine opq (P := fun G => (fun k r => (k = 0 ∧ G 106 7 ≠ -1 ∧ r = G 106 7) ∨ (k = 1 ∧ G 106 7 = -1))) hI h1 h2 (fun u G9 h => by exact h.2.1) (fun e G9 h => by exact h.2.1) (fun _ => rfl) ?_ ?_
  · intro r1 k r hq hp
    rcases hp with ⟨hk, hd, hr⟩ | ⟨hk, hd⟩
    · exact ⟨hk, by rw [hq.1, hr, e4]⟩
    · exfalso; omega
  · intro i e k r hc hx hp
    rcases i with _ | i
    · rcases hp with ⟨hk, hd, hr⟩ | ⟨hk, hd⟩
      · exfalso; omega
      · omega
    · cases hc
theorem op_dieByWear {G G1 G2 : Mem} {v w : Option Value} {Y A : Int} {x : Int} (h_x : -2147483648 ≤ x ∧ x < 2147483648) (hI : LawI G Y A) (h1 : LQ (fun v G' => ∃ d, v = some (vI d) ∧ G' = G ∧ (0 ≤ d ∧ d < G 4 0) ∧ ahd (G 4 0) (G 7) (G 5) d = x ∧ ∀ e, 0 ≤ e → e < d → ahd (G 4 0) (G 7) (G 5) e ≠ x) (fun e G' => e = eNE ∧ G' = G ∧ ∀ d, 0 ≤ d → d < G 4 0 → ahd (G 4 0) (G 7) (G 5) d ≠ x) [eNE] v G1) (h2 : QR G1 (fun k r => (k = 0 ∧ (0 ≤ r ∧ r < G1 107 0) ∧ ahd (G1 107 0) (fun i => G1 107 (9 + 3 * i + 2)) (fun i => G1 107 (9 + 3 * i))  r = x ∧ ∀ e, 0 ≤ e → e < r → ahd (G1 107 0) (fun i => G1 107 (9 + 3 * i + 2)) (fun i => G1 107 (9 + 3 * i))  e ≠ x) ∨ (k = 1 ∧ ∀ e, 0 ≤ e → e < G1 107 0 → ahd (G1 107 0) (fun i => G1 107 (9 + 3 * i + 2)) (fun i => G1 107 (9 + 3 * i))  e ≠ x)) w G2) : OpJ G2 v w Y A := by
  obtain ⟨hSt, hM, hR, -⟩ := id hI.1
  have e0 : G 107 0 = G 4 0 := qr_n hR
  have ed : ∀ d, 0 ≤ d → d < G 4 0 → G 107 (9 + 3 * d) = G 5 d ∧ G 107 (9 + 3 * d + 1) = G 6 d ∧ G 107 (9 + 3 * d + 2) = G 7 d := hR.2.1
  have ea : ∀ d, 0 ≤ d → d < G 4 0 → ahd (G 107 0) (fun i => G 107 (9 + 3 * i + 2)) (fun i => G 107 (9 + 3 * i)) d = ahd (G 4 0) (G 7) (G 5) d := fun d a c => qr_ahd hR a c
  refine opq (P := fun G => (fun k r => (k = 0 ∧ (0 ≤ r ∧ r < G 107 0) ∧ ahd (G 107 0) (fun i => G 107 (9 + 3 * i + 2)) (fun i => G 107 (9 + 3 * i))  r = x ∧ ∀ e, 0 ≤ e → e < r → ahd (G 107 0) (fun i => G 107 (9 + 3 * i + 2)) (fun i => G 107 (9 + 3 * i))  e ≠ x) ∨ (k = 1 ∧ ∀ e, 0 ≤ e → e < G 107 0 → ahd (G 107 0) (fun i => G 107 (9 + 3 * i + 2)) (fun i => G 107 (9 + 3 * i))  e ≠ x))) hI h1 h2 (fun u G9 h => by obtain ⟨d, h⟩ := h; exact h.2.1) (fun e G9 h => by exact h.2.1) (fun _ => rfl) ?_ ?_
  · intro r1 k r hq hp
    obtain ⟨d, hv, -, hd0, hdx, hdl⟩ := hq
    rcases hp with ⟨hk, hr0, hrx, hrl⟩ | ⟨hk, hno⟩
    · have e : d = r := by
        rcases Int.lt_trichotomy d r with q | q | q
        · have a := hrl d hd0.1 q
          rw [ea d hd0.1 hd0.2] at a
          exact absurd hdx a
        · exact q
        · have a := hdl r hr0.1 q
          rw [← ea r hr0.1 (by omega)] at a
          exact absurd hrx a
      exact ⟨hk, by rw [hv, e]⟩
    · have a := hno d hd0.1 (by omega)
      rw [ea d hd0.1 hd0.2] at a
      exact absurd hdx a
  · intro i e k r hc hx hp
    rcases i with _ | i
    · rcases hp with ⟨hk, hr0, hrx, hrl⟩ | ⟨hk, hno⟩
      · have a := hx.2.2 r hr0.1 (by omega)
        rw [← ea r hr0.1 (by omega)] at a
        exact absurd hrx a
      · omega
    · cases hc
theorem op_coinsOfValue {G G1 G2 : Mem} {v w : Option Value} {Y A : Int} {x : Int} (h_x : -2147483648 ≤ x ∧ x < 2147483648) (hI : LawI G Y A) (h1 : LQ (fun v G' => ∃ d, v = some (vI (cntE (G 4 5) (G 9) d)) ∧ G' = G ∧ (0 ≤ d ∧ d < G 4 0) ∧ G 5 d = x) (fun e G' => e = eNE ∧ G' = G ∧ ∀ i, 0 ≤ i → i < G 4 0 → G 5 i ≠ x) [eNE] v G1) (h2 : QR G1 (fun k r => (k = 0 ∧ ∃ d, (0 ≤ d ∧ d < G1 107 0) ∧ G1 107 (9 + 3 * d) = x ∧ r = cntE (G1 107 3) (fun k => G1 107 (24 + 3 * k)) d) ∨ (k = 1 ∧ ∀ i, 0 ≤ i → i < G1 107 0 → G1 107 (9 + 3 * i) ≠ x)) w G2) : OpJ G2 v w Y A := by
  obtain ⟨hSt, hM, hR, -⟩ := id hI.1
  have e0 : G 107 0 = G 4 0 := qr_n hR
  have ed : ∀ d, 0 ≤ d → d < G 4 0 → G 107 (9 + 3 * d) = G 5 d ∧ G 107 (9 + 3 * d + 1) = G 6 d ∧ G 107 (9 + 3 * d + 2) = G 7 d := hR.2.1
  refine opq (P := fun G => (fun k r => (k = 0 ∧ ∃ d, (0 ≤ d ∧ d < G 107 0) ∧ G 107 (9 + 3 * d) = x ∧ r = cntE (G 107 3) (fun k => G 107 (24 + 3 * k)) d) ∨ (k = 1 ∧ ∀ i, 0 ≤ i → i < G 107 0 → G 107 (9 + 3 * i) ≠ x))) hI h1 h2 (fun u G9 h => by obtain ⟨d, h⟩ := h; exact h.2.1) (fun e G9 h => by exact h.2.1) (fun _ => rfl) ?_ ?_
  · intro r1 k r hq hp
    obtain ⟨d, hv, -, hd0, hdx⟩ := hq
    rcases hp with ⟨hk, d2, hd2, hx2, hr⟩ | ⟨hk, hno⟩
    · have e : d = d2 := by
        have a1 := (ed d hd0.1 hd0.2).1
        rcases Int.lt_trichotomy d d2 with q | q | q
        · exact absurd (show G 107 (9 + 3 * d) = G 107 (9 + 3 * d2) by omega) (hM.2.2.2.2.2.2 d d2 hd0.1 q hd2.2)
        · exact q
        · exact absurd (show G 107 (9 + 3 * d2) = G 107 (9 + 3 * d) by omega) (hM.2.2.2.2.2.2 d2 d hd2.1 q (by omega))
      exact ⟨hk, by rw [hv, hr, e]; exact congrArg (fun z => some (vI z)) (qr_die hR d2).symm⟩
    · exact absurd ((ed d hd0.1 hd0.2).1.trans hdx) (hno d hd0.1 (by omega))
  · intro i e k r hc hx hp
    rcases i with _ | i
    · rcases hp with ⟨hk, d2, hd2, hx2, hr⟩ | ⟨hk, hno⟩
      · exact absurd ((ed d2 hd2.1 (by omega)).1.symm.trans hx2) (hx.2.2 d2 hd2.1 (by omega))
      · omega
    · cases hc
