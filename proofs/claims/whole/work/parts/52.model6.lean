-- the model's pay
/-- a State's memory whose coins are the model's -/
def vG (M : Int → Int) : Mem := fun j z => if j = 9 then M (24 + 3 * z) else if j = 10 then M (24 + 3 * z + 1) else if j = 11 then M (24 + 3 * z + 2) else M 3
theorem csM_cs (M : Int → Int) (φ : Int → Int → Int → Int) : csM M φ = cs (vG M) 4 φ := rfl
theorem bst_nextM {M : Int → Int} {F X : (Int → Int → Int → Int) → Int} {i j s : Int} (h0 : 0 ≤ M 3) (hj : 0 ≤ j) (hX : ∀ y gr, X (fun d1 y1 g1 => if d1 = i ∧ y1 = y ∧ g1 = gr then 1 else 0) = 0)
    (hF : ∀ φ, csM M φ = F φ - X φ - remS F i j φ) (hs : (0 ≤ s ∧ s < M 3) ∧ M (24 + 3 * s) = i) (hb : ∀ k, 0 ≤ k → k < M 3 → M (24 + 3 * k) = i → M (24 + 3 * k + 2) < M (24 + 3 * s + 2) ∨ (M (24 + 3 * k + 2) = M (24 + 3 * s + 2) ∧ M (24 + 3 * s + 1) ≤ M (24 + 3 * k + 1))) :
    bst (cjs (cnt3 F i) j.toNat) = (M (24 + 3 * s + 1), M (24 + 3 * s + 2)) := by
  have e : cjs (cnt3 F i) j.toNat = cnt3 (cs (vG M) 4) i := by
    funext y gr
    have e1 := remS_eq F i y gr j.toNat
    have e2 := hF (fun d1 y1 g1 => if d1 = i ∧ y1 = y ∧ g1 = gr then 1 else 0)
    rw [show ((j.toNat : Nat) : Int) = j by omega] at e1
    rw [e1]
    show _ = csM M (fun d1 y1 g1 => if d1 = i ∧ y1 = y ∧ g1 = gr then 1 else 0)
    rw [e2, hX]
    show F _ - _ = F _ - 0 - _
    omega
  rw [e]
  have q : ∀ y g, 0 < cnt3 (cs (vG M) 4) i y g ↔ ∃ k, 0 ≤ k ∧ k < M 3 ∧ M (24 + 3 * k) = i ∧ M (24 + 3 * k + 1) = y ∧ M (24 + 3 * k + 2) = g := fun y g => cnt3_pos (G := vG M) (b := 4) h0
  refine bst_of ⟨(q _ _).mpr ⟨s, hs.1.1, hs.1.2, hs.2, rfl, rfl⟩, fun y' g' h => ?_⟩
  obtain ⟨k, k0, k1, k2, rfl, rfl⟩ := (q _ _).mp h
  exact hb k k0 k1 k2
/-- the coin k leaves the row m, whose place 6 has become v -/
theorem tk_step6 {G1 G3 : Mem} {k v : Int} (hI : MoI (G1 107)) (hk : 0 ≤ k ∧ k < G1 107 3) (h : G3 = setM (upd2 G1 107 6 v) (tkM (upd2 G1 107 6 v 107) k)) :
    (∀ φ : Int → Int → Int → Int, csM (G3 107) φ = csM (G1 107) φ - φ (G1 107 (24 + 3 * k)) (G1 107 (24 + 3 * k + 1)) (G1 107 (24 + 3 * k + 2))) ∧ MoI (G3 107) ∧ (∀ z, z < 24 → z ≠ 3 → z ≠ 6 → G3 107 z = G1 107 z) ∧ G3 107 6 = v ∧ ∀ i z, i ≠ 107 → G3 i z = G1 i z := by
  have e7 : G3 107 = tkM (upd2 G1 107 6 v 107) k := by rw [h, setM_7]
  have c3 : upd2 G1 107 6 v 107 3 = G1 107 3 := upd2_z (by decide)
  have hI2 : MoI (upd2 G1 107 6 v 107) := MoI_eq hI (fun z a => upd2_z (by omega))
  have hk2 : 0 ≤ k ∧ k < upd2 G1 107 6 v 107 3 := by rw [c3]; exact hk
  have h40 := (MoI_c hI2).2
  refine ⟨fun φ => ?_, by rw [e7]; exact MoI_tk hI2 hk2, fun z z0 z3 z7 => ?_, by rw [e7, tkM_lo hk.1 (by decide) (by decide), upd2_s], fun i z a => ?_⟩
  · rw [e7, csM_tk hk2 h40, csM_same (M := G1 107) c3 (fun z a => upd2_z (by omega)), upd2_z (by omega), upd2_z (by omega), upd2_z (by omega)]
  · rw [e7, tkM_lo hk.1 z0 z3, upd2_z z7]
  · rw [h, setM_o a, upd2_i a]
theorem csM_fx {M : Int → Int} {F : (Int → Int → Int → Int) → Int} (d : Int) (h : F = csM M) : F (fun dd _ _ => if dd = d then 1 else 0) = cntE (M 3) (fun k => M (24 + 3 * k)) d := by rw [h]; rfl
/-- how many coins of the die at the place h are used -/
abbrev usB (M β : Int → Int) (a h : Int) : Int := usF (vsB M β) (cnB M β) (M 0) a (M 0 - 1 - h)
def FltPy (M : Int → Int) (a q : Int) : Prop := (¬ (1 ≤ a ∧ a ≤ 99) ∧ q = 2) ∨ ((1 ≤ a ∧ a ≤ 99) ∧ ∃ β, SrtM M β ∧ ((Tab (vsB M β) (cnB M β) (M 0).toNat a ≠ 1000 ∧ q = 0) ∨ (Tab (vsB M β) (cnB M β) (M 0).toNat a = 1000 ∧ q = 4)))
def PmPy (M M' : Int → Int) (a r : Int) : Prop := ∃ β, SrtM M β ∧ r = Tab (vsB M β) (cnB M β) (M 0).toNat a ∧ (∀ φ, csM M' φ = csM M φ - sz (M 0) (fun h => remS (csM M) (β h) (usB M β a h) φ)) ∧ M' 5 = M 5 + a ∧ M' 6 = M 6 + sz (M 0) (fun h => usB M β a h * M (9 + 3 * β h + 1)) ∧ ∀ z, z < 24 → z ≠ 3 → z ≠ 5 → z ≠ 6 → M' z = M z
theorem srt_inj {M β : Int → Int} (hβ : SrtM M β) {h k : Int} (h0 : 0 ≤ h ∧ h < M 0) (k0 : 0 ≤ k ∧ k < M 0) (hne : h ≠ k) : β h ≠ β k := fun e => hne (by rw [← (hβ.2 h h0.1 h0.2).2, ← (hβ.2 k k0.1 k0.2).2, e])
theorem usB_r {M β : Int → Int} (hM : MoI M) (a : Int) {h : Int} (h0 : 0 ≤ h ∧ h < M 0) : 0 ≤ usB M β a h ∧ usB M β a h ≤ cntE (M 3) (fun k => M (24 + 3 * k)) (β h) ∧ usB M β a h ≤ 40 := by
  have hc := cnB_r β hM (M 0 - 1 - h)
  have hu := usF_r (vs := vsB M β) (cn := cnB M β) (n := M 0) (a := a) (r := M 0 - 1 - h) hc.1
  have e : cnB M β (M 0 - 1 - h) = cntE (M 3) (fun k => M (24 + 3 * k)) (β h) := by
    show cntE _ _ (β (M 0 - 1 - (M 0 - 1 - h))) = _
    rw [show M 0 - 1 - (M 0 - 1 - h) = h by omega]
  have h40 := Int.le_trans hu.2 hc.2
  rw [e] at hu
  exact ⟨hu.1, hu.2, h40⟩

set_option maxHeartbeats 4000000 in
set_option maxRecDepth 100000 in
theorem c_X4_payIt {g : GT} {G : Mem} (hM : MoI (G 107)) (h8 : G 106 8 = 0) {a : Int} (h_a : -2147483648 ≤ a ∧ a < 2147483648) : Ctr g yX4_payIt cX4_payIt 6 (some FieldType.int) (rmL 5 0 0) [vR g 106, vI a] G (RP (fun r G' => ∃ q, FltPy (G 107) a q ∧ EndM G G' 6 q (MoI (G' 107) ∧ PmPy (G 107) (G' 107) a r))) NoX := by
  refine ctr_of [some (vR g 106), some (vI a), none, none, none, none] (by decide) (Nat.le_of_ble_eq_true rfl) rfl (fun γ E => ?_)
  show V γ g cX4_payIt 6 RX4 (rmL 5 0 0) G 0 0 0 [some (vR g 106), some (vI a), none, none, none, none] []
  have hn := MoI_n hM
  have hc := MoI_c hM
  have hy := MoI_y hM
  refine v_iload_n (pc := 0) rfl dX4_payIt_0 ?_
  refine v_i2l (pc := 1) (by omega) dX4_payIt_1 ?_
  refine v_lconst (pc := 2) (z := 1) rfl dX4_payIt_2 ?_
  refine v_ldc2 (pc := 3) (z := 99) wG_X4_103 (by decide) dX4_payIt_3 ?_
  refine v_callS (pc := 6) (rest := []) (c_X4_in (by omega) (by omega) (by omega)) sok_X4_in wM_X4_60 (rmOk (by decide) (by decide)) ⟨Nat.le_of_ble_eq_true rfl, Nat.le_of_ble_eq_true rfl⟩ (Nat.le_of_ble_eq_true rfl) rfl dX4_payIt_6 (fun v G' hq => ?_) (fun _ _ h => h.elim)
  obtain ⟨rfl, hG9⟩ := hq
  rw [hG9]
  refine v_stk (st' := [vI (bI (1 ≤ a ∧ a ≤ 99))]) rfl ?_
  refine v_if_ne (pc := 9) (tgt := 18) (bI_r _) dX4_payIt_9 (by decide) (fun bq1 => ?_) (fun bq1 => ?_)
  · skip
    have bq1 := bI_n0 bq1
    have ha5 : 1 ≤ a ∧ a ≤ 99 := by assumption
    refine v_aload_n (pc := 18) rfl dX4_payIt_18 ?_
    refine v_iload_n (pc := 19) rfl dX4_payIt_19 ?_
    refine v_callV (pc := 20) (rest := []) (c_X4_fewestFor hM (a := a) (by omega)) iok_X4_fewestFor wM_X4_150 (rfl) (by decide) (by decide) rfl (rmOk (by decide) (by decide)) ⟨Nat.le_of_ble_eq_true rfl, Nat.le_of_ble_eq_true rfl⟩ (Nat.le_of_ble_eq_true rfl) rfl dX4_payIt_20 (fun v G1 hq => ?_) (fun _ _ h => h.elim)
    obtain ⟨w, rfl, hq⟩ := hq
    refine v_stk (st' := [vI w]) rfl ?_
    obtain ⟨hw, hwr, hW⟩ := hq
    obtain ⟨hS, hT, hF1⟩ := id hW
    have m7 : ∀ z, G1 107 z = G 107 z := fun z => hF1 107 z (by decide) (by decide)
    have e7 : G1 107 = G 107 := funext m7
    refine v_istore_n (pc := 23) (by decide) rfl dX4_payIt_23 ?_
    refine v_iload_n (pc := 24) rfl dX4_payIt_24 ?_
    refine v_sipush (pc := 25) (z := 1000) rfl dX4_payIt_25 ?_
    refine v_icmp_ne (pc := 28) (tgt := 37) (by omega) dX4_payIt_28 (by decide) (fun bq2 => ?_) (fun bq2 => ?_)
    · skip
      refine v_iload_n (pc := 37) rfl dX4_payIt_37 ?_
      refine v_istore_n (pc := 38) (by decide) rfl dX4_payIt_38 ?_
      refine v_iconst (pc := 39) (z := 0) dX4_payIt_39 ?_
      refine v_istore (pc := 40) (by decide) rfl dX4_payIt_40 ?_
      have lp42 : ∀ (m42 : Nat) (h : Int) (x : Int) (G2 : Mem), (0 ≤ h ∧ h ≤ G 107 0) → (x = rsF (vsB (G 107) (G1 112)) (cnB (G 107) (G1 112)) (G 107 0) a h.toNat) → (∀ e, 0 ≤ e → e < h → G2 114 e = usB (G 107) (G1 112) a e) → (∀ j z, j ≠ 114 → G2 j z = G1 j z) → ((G 107 0 - h).toNat) < m42 → V γ g cX4_payIt 6 RX4 (rmL 5 0 0) G2 0 0 42 [some (vR g 106), some (vI a), some (vI w), some (vI x), some (vI h), none] [] := by
        intro m42
        induction m42 with
        | zero => intro h x G2; intros; omega
        | succ m42 ih42 =>
          intro h x G2 h0 hx hu hF2 hm42
          have k7 : ∀ z, G2 107 z = G 107 z := fun z => (hF2 107 z (by decide)).trans (m7 z)
          have ke7 : G2 107 = G 107 := funext k7
          have k0 := k7 0
          have k12 : ∀ z, G2 112 z = G1 112 z := fun z => hF2 112 z (by decide)
          have hxr := rsF_r (vs := (vsB (G 107) (G1 112))) (cn := (cnB (G 107) (G1 112))) (n := G 107 0) (a := a) (by omega) (fun r r0 r1 => by have := vsB_r hM hS r0 r1; omega) h.toNat (by omega)
          rw [← hx] at hxr
          refine v_iload (pc := 42) rfl dX4_payIt_42 ?_
          refine v_aload_n (pc := 44) rfl dX4_payIt_44 ?_
          refine v_getR (pc := 45) (j := 107) fd_X4_9 (rfl) (by decide) rfl dX4_payIt_45 ?_
          refine v_iconst (pc := 48) (z := 0) dX4_payIt_48 ?_
          refine v_iald (pc := 49) (N := 144) rfl rfl (by decide) (by omega) (by decide) dX4_payIt_49 ?_
          refine v_icmp_ge (pc := 50) (tgt := 99) (by omega) dX4_payIt_50 (by decide) (fun bq3 => ?_) (fun bq3 => ?_)
          · skip
            refine v_iconst (pc := 99) (z := 0) dX4_payIt_99 ?_
            refine v_istore (pc := 100) (by decide) rfl dX4_payIt_100 ?_
            have lp102 : ∀ (m102 : Nat) (h : Int) (G3 : Mem), (0 ≤ h ∧ h ≤ G 107 0) → (MoI (G3 107)) → (∀ φ, csM (G3 107) φ = csM (G 107) φ - sz h (fun e => remS (csM (G 107)) (G1 112 e) (usB (G 107) (G1 112) a e) φ)) → (G3 107 6 = G 107 6 + sz h (fun e => usB (G 107) (G1 112) a e * G 107 (9 + 3 * G1 112 e + 1))) → (∀ z, z < 24 → z ≠ 3 → z ≠ 6 → G3 107 z = G 107 z) → (∀ j z, j ≠ 107 → G3 j z = G2 j z) → ((G 107 0 - h).toNat) < m102 → V γ g cX4_payIt 6 RX4 (rmL 5 0 0) G3 0 0 102 [some (vR g 106), some (vI a), some (vI w), none, some (vI h), none] [] := by
              intro m102
              induction m102 with
              | zero => intro h G3; intros; omega
              | succ m102 ih102 =>
                intro h G3 i0 hI3 hc3 h6 ho3 hF3 hm102
                have n0 : G3 107 0 = G 107 0 := ho3 0 (by decide) (by decide) (by decide)
                have n14 : ∀ e, 0 ≤ e → e < G 107 0 → G3 114 e = usB (G 107) (G1 112) a e := fun e e0 e1 => (hF3 114 e (by decide)).trans (hu e e0 (by omega))
                refine v_iload (pc := 102) rfl dX4_payIt_102 ?_
                refine v_aload_n (pc := 104) rfl dX4_payIt_104 ?_
                refine v_getR (pc := 105) (j := 107) fd_X4_9 (rfl) (by decide) rfl dX4_payIt_105 ?_
                refine v_iconst (pc := 108) (z := 0) dX4_payIt_108 ?_
                refine v_iald (pc := 109) (N := 144) rfl rfl (by decide) (by omega) (by decide) dX4_payIt_109 ?_
                refine v_icmp_ge (pc := 110) (tgt := 182) (by omega) dX4_payIt_110 (by decide) (fun bq4 => ?_) (fun bq4 => ?_)
                · skip
                  refine v_aload_n (pc := 182) rfl dX4_payIt_182 ?_
                  refine v_getR (pc := 183) (j := 107) fd_X4_9 (rfl) (by decide) rfl dX4_payIt_183 ?_
                  refine v_iconst (pc := 186) (z := 5) dX4_payIt_186 ?_
                  refine v_dup2 (pc := 187) rfl rfl dX4_payIt_187 ?_
                  refine v_iald (pc := 188) (N := 144) rfl rfl (by decide) (by omega) (by decide) dX4_payIt_188 ?_
                  refine v_iload_n (pc := 189) rfl dX4_payIt_189 ?_
                  refine v_iadd (pc := 190) dX4_payIt_190 ?_
                  refine v_iast (pc := 191) (N := 144) rfl rfl (by decide) (by omega) (by decide) dX4_payIt_191 ?_
                  refine v_iload_n (pc := 192) rfl dX4_payIt_192 ?_
                  exact v_iret (pc := 193) E (⟨_, rfl, 0, Or.inr ⟨ha5, G1 112, hS, Or.inl ⟨by omega, rfl⟩⟩, by rw [upd2_i (by decide), hF3 106 8 (by decide), hF2 106 8 (by decide), hF1 106 8 (by decide) (by decide), h8]; rfl, fun i z b c d => by rw [upd2_i b, hF3 i z b, hF2 i z (by omega)]; exact hF1 i z (by omega) (by omega), Or.inr ⟨rfl, MoI_eq hI3 (fun z b => upd2_z (by omega)), G1 112, hS, hw, fun φ => by rw [csM_same (M := G3 107) (upd2_z (by decide)) (fun z b => upd2_z (by omega)), hc3, show h = G 107 0 by omega], by rw [upd2_s, ho3 5 (by decide) (by decide) (by decide)], by rw [upd2_z (by decide), h6, show h = G 107 0 by omega], fun z b c d e => by rw [upd2_z d]; exact ho3 z b c e⟩⟩) (Nat.le_of_ble_eq_true rfl) (Nat.le_of_ble_eq_true rfl) dX4_payIt_193
                · skip
                  have hβ := hS.2 h (by omega) (by omega)
                  have hur := usB_r (β := G1 112) hM a (h := h) (by omega)
                  have hwd := MoI_d hM hβ.1.1 hβ.1.2
                  refine v_iconst (pc := 113) (z := 0) dX4_payIt_113 ?_
                  refine v_istore (pc := 114) (by decide) rfl dX4_payIt_114 ?_
                  have lp116 : ∀ (m116 : Nat) (j : Int) (G4 : Mem), (0 ≤ j ∧ j ≤ usB (G 107) (G1 112) a h) → (MoI (G4 107)) → (∀ φ, csM (G4 107) φ = csM (G 107) φ - sz h (fun e => remS (csM (G 107)) (G1 112 e) (usB (G 107) (G1 112) a e) φ) - remS (csM (G 107)) (G1 112 h) j φ) → (G4 107 6 = G 107 6 + sz h (fun e => usB (G 107) (G1 112) a e * G 107 (9 + 3 * G1 112 e + 1)) + j * G 107 (9 + 3 * G1 112 h + 1)) → (∀ z, z < 24 → z ≠ 3 → z ≠ 6 → G4 107 z = G 107 z) → (∀ j z, j ≠ 107 → G4 j z = G2 j z) → ((usB (G 107) (G1 112) a h - j).toNat) < m116 → V γ g cX4_payIt 6 RX4 (rmL 5 0 0) G4 0 0 116 [some (vR g 106), some (vI a), some (vI w), none, some (vI h), some (vI j)] [] := by
                    intro m116
                    induction m116 with
                    | zero => intro j G4; intros; omega
                    | succ m116 ih116 =>
                      intro j G4 j0 hI4 hc4 h64 ho4 hF4 hm116
                      have n12 : G4 112 h = G1 112 h := (hF4 112 h (by decide)).trans (hF2 112 h (by decide))
                      have n14b : G4 114 h = usB (G 107) (G1 112) a h := (hF4 114 h (by decide)).trans (hu h (by omega) (by omega))
                      have o0 : G4 107 0 = G 107 0 := ho4 0 (by decide) (by decide) (by decide)
                      refine v_iload (pc := 116) rfl dX4_payIt_116 ?_
                      refine v_aload_n (pc := 118) rfl dX4_payIt_118 ?_
                      refine v_getR (pc := 119) (j := 114) fd_X4_38 (rfl) (by decide) rfl dX4_payIt_119 ?_
                      refine v_iload (pc := 122) rfl dX4_payIt_122 ?_
                      refine v_iald (pc := 124) (N := 5) rfl rfl (by decide) (by omega) (by decide) dX4_payIt_124 ?_
                      refine v_icmp_ge (pc := 125) (tgt := 176) (by omega) dX4_payIt_125 (by decide) (fun bq5 => ?_) (fun bq5 => ?_)
                      · skip
                        refine v_iinc (pc := 176) (y := 1) rfl (by decide) rfl dX4_payIt_176 ?_
                        refine v_goto (pc := 179) (tgt := 102) dX4_payIt_179 (by decide) ?_
                        refine v_loc (L' := [some (vR g 106), some (vI a), some (vI w), none, some (vI (h + 1)), none]) (⟨rfl, rfl, rfl, rfl, trivial⟩) ?_
                        exact ih102 (h + 1) G4 (by omega) hI4 (fun φ => by rw [hc4, sz_s (by omega), show j = usB (G 107) (G1 112) a h by omega]; omega) (by rw [h64, sz_s (by omega), show j = usB (G 107) (G1 112) a h by omega]; omega) ho4 hF4 (by omega)
                      · skip
                        refine v_aload_n (pc := 128) rfl dX4_payIt_128 ?_
                        refine v_getR (pc := 129) (j := 107) fd_X4_9 (rfl) (by decide) rfl dX4_payIt_129 ?_
                        refine v_bipush (pc := 132) (z := 6) rfl dX4_payIt_132 ?_
                        refine v_dup2 (pc := 134) rfl rfl dX4_payIt_134 ?_
                        refine v_iald (pc := 135) (N := 144) rfl rfl (by decide) (by omega) (by decide) dX4_payIt_135 ?_
                        refine v_aload_n (pc := 136) rfl dX4_payIt_136 ?_
                        refine v_getR (pc := 137) (j := 107) fd_X4_9 (rfl) (by decide) rfl dX4_payIt_137 ?_
                        refine v_aload_n (pc := 140) rfl dX4_payIt_140 ?_
                        refine v_getR (pc := 141) (j := 112) fd_X4_32 (rfl) (by decide) rfl dX4_payIt_141 ?_
                        refine v_iload (pc := 144) rfl dX4_payIt_144 ?_
                        refine v_iald (pc := 146) (N := 5) rfl rfl (by decide) (by omega) (by decide) dX4_payIt_146 ?_
                        refine v_callS (pc := 147) (rest := [vR g 107, vI (G4 107 6), vI 6, vR g 107]) (c_X4_dieAt) sok_X4_dieAt wM_X4_64 (rmOk (by decide) (by decide)) ⟨Nat.le_of_ble_eq_true rfl, Nat.le_of_ble_eq_true rfl⟩ (Nat.le_of_ble_eq_true rfl) rfl dX4_payIt_147 (fun v G' hq => ?_) (fun _ _ h => h.elim)
                        obtain ⟨rfl, hG9⟩ := hq
                        rw [hG9]
                        refine v_stk (st' := [vI (9 + 3 * (G4 112 h)), vR g 107, vI (G4 107 6), vI 6, vR g 107]) rfl ?_
                        refine v_iconst (pc := 150) (z := 1) dX4_payIt_150 ?_
                        refine v_iadd (pc := 151) dX4_payIt_151 ?_
                        refine v_iald (pc := 152) (N := 144) rfl rfl (by decide) (by omega) (by decide) dX4_payIt_152 ?_
                        obtain ⟨wv, h_wv⟩ : ∃ w9, w9 = (G4 107 ((9 + 3 * (G4 112 h)) + 1)) := ⟨_, rfl⟩
                        refine v_stk (st' := [vI wv, vI (G4 107 6), vI 6, vR g 107]) (by rw [h_wv]) ?_
                        have hwv : G 107 (9 + 3 * G1 112 h + 1) = wv := by rw [h_wv, n12]; exact (ho4 _ (by omega) (by omega) (by omega)).symm
                        refine v_iadd (pc := 153) dX4_payIt_153 ?_
                        refine v_iast (pc := 154) (N := 144) rfl rfl (by decide) (by omega) (by decide) dX4_payIt_154 ?_
                        obtain ⟨v6, h_v6⟩ : ∃ w9, w9 = ((G4 107 6) + wv) := ⟨_, rfl⟩
                        rw [← h_v6]
                        obtain ⟨G6, hG6⟩ : ∃ x : Mem, x = upd2 G4 107 6 v6 := ⟨_, rfl⟩
                        rw [← hG6]
                        have p3 : G6 107 3 = G4 107 3 := by rw [hG6]; exact upd2_z (by decide)
                        have p12 : G6 112 h = G1 112 h := by rw [hG6]; exact (upd2_i (by decide)).trans n12
                        have pk : ∀ z, 24 ≤ z → G6 107 z = G4 107 z := fun z a => by rw [hG6]; exact upd2_z (by omega)
                        have hI6 : MoI (G6 107) := by rw [hG6]; exact MoI_eq hI4 (fun z a => upd2_z (by omega))
                        refine v_aload_n (pc := 155) rfl dX4_payIt_155 ?_
                        refine v_aload_n (pc := 156) rfl dX4_payIt_156 ?_
                        refine v_aload_n (pc := 157) rfl dX4_payIt_157 ?_
                        refine v_getR (pc := 158) (j := 112) fd_X4_32 (rfl) (by decide) rfl dX4_payIt_158 ?_
                        refine v_iload (pc := 161) rfl dX4_payIt_161 ?_
                        refine v_iald (pc := 163) (N := 5) rfl rfl (by decide) (by omega) (by decide) dX4_payIt_163 ?_
                        rw [p12]
                        refine v_stk (st' := [vI (G1 112 h), vR g 106, vR g 106]) rfl ?_
                        refine v_callV (pc := 164) (rest := [vR g 106]) (c_X4_firstCoin hI6 (d := G1 112 h) (by omega)) iok_X4_firstCoin wM_X4_156 (rfl) (by decide) (by decide) rfl (rmOk (by decide) (by decide)) ⟨Nat.le_of_ble_eq_true rfl, Nat.le_of_ble_eq_true rfl⟩ (Nat.le_of_ble_eq_true rfl) rfl dX4_payIt_164 (fun v G' hq => ?_) (fun _ _ h => h.elim)
                        obtain ⟨r, rfl, hq⟩ := hq
                        refine v_stk (st' := [vI r, vR g 106]) rfl ?_
                        obtain ⟨hG9, hfc⟩ := hq
                        rw [hG9]
                        have hn5 : csM (G4 107) (fun dd _ _ => if dd = G1 112 h then 1 else 0) = cntE (G 107 3) (fun k => G 107 (24 + 3 * k)) (G1 112 h) - j := by
                          rw [hc4, csM_fx (G1 112 h) rfl, remS_die (by omega), sz_zero (by omega) (fun e e0 e1 => remS_die_ne (usB_r hM a (by omega)).1 (srt_inj hS (by omega) (by omega) (by omega)))]
                          omega
                        have hsp : ((0 ≤ r ∧ r < G4 107 3) ∧ G4 107 (24 + 3 * r) = G1 112 h) ∧ ∀ k, 0 ≤ k → k < G4 107 3 → G4 107 (24 + 3 * k) = G1 112 h → G4 107 (24 + 3 * k + 2) < G4 107 (24 + 3 * r + 2) ∨ (G4 107 (24 + 3 * k + 2) = G4 107 (24 + 3 * r + 2) ∧ G4 107 (24 + 3 * r + 1) ≤ G4 107 (24 + 3 * k + 1)) := by
                          rw [p3] at hfc
                          rcases hfc with q | q
                          · exfalso
                            obtain ⟨k, k0, k1, k2⟩ := cntE_pos (n := G4 107 3) (d := G1 112 h) (f := fun k => G4 107 (24 + 3 * k)) (MoI_c hI4).1 (by show 0 < csM (G4 107) (fun dd _ _ => if dd = G1 112 h then 1 else 0); rw [hn5]; omega)
                            exact q.2 k k0 k1 (by rw [pk _ (by omega)]; exact k2)
                          · refine ⟨⟨q.1, by rw [← pk _ (by omega)]; exact q.2.1⟩, fun k k0 k1 k2 => ?_⟩
                            have := q.2.2 k k0 k1 (by rw [pk _ (by omega)]; exact k2)
                            rw [pk _ (by omega), pk _ (by omega), pk _ (by omega), pk _ (by omega)] at this
                            exact this
                        have hbn := bst_nextM (X := fun φ => sz h (fun e => remS (csM (G 107)) (G1 112 e) (usB (G 107) (G1 112) a e) φ)) (MoI_c hI4).1 j0.1 (fun y gr => sz_zero (by omega) (fun e e0 e1 => remS_ne (usB_r hM a (by omega)).1 (srt_inj hS (by omega) (by omega) (by omega)))) hc4 hsp.1 hsp.2
                        refine v_callV (pc := 167) (rest := []) (c_X4_takesOut hI6 (c := r) (by rw [p3]; exact hsp.1.1)) iok_X4_takesOut wM_X4_131 (rfl) (by decide) (by decide) rfl (rmOk (by decide) (by decide)) ⟨Nat.le_of_ble_eq_true rfl, Nat.le_of_ble_eq_true rfl⟩ (Nat.le_of_ble_eq_true rfl) rfl dX4_payIt_167 (fun v G' hq => ?_) (fun _ _ h => h.elim)
                        obtain ⟨rfl, hG9⟩ := hq
                        rw [hG9]
                        refine v_stk (st' := []) rfl ?_
                        obtain ⟨G5, hG5⟩ : ∃ x : Mem, x = setM G6 (tkM (G6 107) r) := ⟨_, rfl⟩
                        rw [← hG5]
                        rw [hG6] at hG5
                        obtain ⟨tφ, tI, tz, t6, tF⟩ := tk_step6 hI4 hsp.1.1 hG5
                        have hc5 : ∀ φ, csM (G5 107) φ = csM (G 107) φ - sz h (fun e => remS (csM (G 107)) (G1 112 e) (usB (G 107) (G1 112) a e) φ) - remS (csM (G 107)) (G1 112 h) (j + 1) φ := fun φ => by
                          rw [tφ, hc4, remS_s (by omega), hbn, hsp.1.2]
                          dsimp only
                          omega
                        rw [h_v6] at t6
                        refine v_iinc (pc := 170) (y := 1) rfl (by decide) rfl dX4_payIt_170 ?_
                        refine v_goto (pc := 173) (tgt := 116) dX4_payIt_173 (by decide) ?_
                        exact ih116 (j + 1) G5 (by omega) tI hc5 (by rw [t6, h64, ← hwv, Int.add_mul]; omega) (fun z a b c => (tz z a b c).trans (ho4 z a b c)) (fun j z q => (tF j z q).trans (hF4 j z q)) (by omega)
                  refine v_loc (L' := [some (vR g 106), some (vI a), some (vI w), none, some (vI h), some (vI 0)]) (⟨rfl, rfl, rfl, rfl, rfl, trivial⟩) ?_
                  exact lp116 _ 0 G3 (by omega) hI3 (fun φ => by rw [hc3, remS_0]; omega) (by rw [h6]; omega) ho3 hF3 (Nat.lt_succ_self _)
            refine v_loc (L' := [some (vR g 106), some (vI a), some (vI w), none, some (vI 0), none]) (⟨rfl, rfl, rfl, rfl, trivial⟩) ?_
            exact lp102 _ 0 G2 (by omega) (by rw [ke7]; exact hM) (fun φ => by rw [sz_0, ke7]; omega) (by rw [sz_0, k7]; omega) (fun z _ _ _ => k7 z) (fun _ _ _ => rfl) (Nat.lt_succ_self _)
          · skip
            have k12h := k12 h
            have hβ := hS.2 h (by omega) (by omega)
            have hvv := vsB_r hM hS (r := G 107 0 - 1 - h) (by omega) (by omega)
            have hur := usB_r (β := G1 112) hM a (h := h) (by omega)
            have kT : ∀ e y, (e = h ∨ e = h + 1) → 0 ≤ y → y ≤ 99 → G2 113 (100 * e + y) = Tab (vsB (G 107) (G1 112)) (cnB (G 107) (G1 112)) (G 107 0 - e).toNat y := fun e y he y0 y1 => (hF2 113 _ (by decide)).trans (hT e (by omega) (by omega) y y0 (by omega))
            refine v_aload_n (pc := 53) rfl dX4_payIt_53 ?_
            refine v_getR (pc := 54) (j := 114) fd_X4_38 (rfl) (by decide) rfl dX4_payIt_54 ?_
            refine v_iload (pc := 57) rfl dX4_payIt_57 ?_
            refine v_aload_n (pc := 59) rfl dX4_payIt_59 ?_
            refine v_iload (pc := 60) rfl dX4_payIt_60 ?_
            refine v_iload_n (pc := 62) rfl dX4_payIt_62 ?_
            refine v_callV (pc := 63) (rest := [vI h, vR g 114]) (c_X4_used (G := G2) (by rw [ke7]; exact hM) (f := h) (x := x) (by omega) (by omega) (by rw [k12, k0]; exact hβ.1) (fun e y he y0 y1 => by rw [kT e y he y0 y1]; exact TabB hM hS (by omega) y)) iok_X4_used wM_X4_153 (rfl) (by decide) (by decide) rfl (rmOk (by decide) (by decide)) ⟨Nat.le_of_ble_eq_true rfl, Nat.le_of_ble_eq_true rfl⟩ (Nat.le_of_ble_eq_true rfl) rfl dX4_payIt_63 (fun v G' hq => ?_) (fun _ _ h => h.elim)
            obtain ⟨rfl, hG9⟩ := hq
            rw [hG9]
            obtain ⟨u, h_u⟩ : ∃ w9, w9 = (mst (fun y => G2 113 (100 * (h + 1) + y)) (G2 113 (100 * h + x)) (G2 107 (9 + 3 * G2 112 h)) x (cntE (G2 107 3) (fun k => G2 107 (24 + 3 * k)) (G2 112 h)).toNat) := ⟨_, rfl⟩
            refine v_stk (st' := [vI u, vI h, vR g 114]) (by rw [h_u]; rfl) ?_
            have huu : u = usB (G 107) (G1 112) a h := by
              show u = usF _ _ _ _ _
              unfold usF
              rw [show G 107 0 - 1 - (G 107 0 - 1 - h) = h by omega, ← hx, h_u, ke7, k12, kT h x (Or.inl rfl) (by omega) (by omega), show (G 107 0 - 1 - h).toNat + 1 = (G 107 0 - h).toNat by omega]
              have e1 : vsB (G 107) (G1 112) (G 107 0 - 1 - h) = G 107 (9 + 3 * G1 112 h) := by
                show G 107 (9 + 3 * G1 112 (G 107 0 - 1 - (G 107 0 - 1 - h))) = _
                rw [show G 107 0 - 1 - (G 107 0 - 1 - h) = h by omega]
              have e2 : cnB (G 107) (G1 112) (G 107 0 - 1 - h) = cntE (G 107 3) (fun k => G 107 (24 + 3 * k)) (G1 112 h) := by
                show cntE _ _ (G1 112 (G 107 0 - 1 - (G 107 0 - 1 - h))) = _
                rw [show G 107 0 - 1 - (G 107 0 - 1 - h) = h by omega]
              rw [e1, e2]
              rw [e1] at hvv
              refine mst_congr (by omega) (fun y y0 y1 => ?_) _
              rw [kT (h + 1) y (Or.inr rfl) y0 (by omega), show (G 107 0 - (h + 1)).toNat = (G 107 0 - 1 - h).toNat by omega]
            have hx3 : x - u * G2 107 (9 + 3 * G2 112 h) = rsF (vsB (G 107) (G1 112)) (cnB (G 107) (G1 112)) (G 107 0) a (h + 1).toNat := by
              have e1 : vsB (G 107) (G1 112) (G 107 0 - 1 - h) = G 107 (9 + 3 * G1 112 h) := by
                show G 107 (9 + 3 * G1 112 (G 107 0 - 1 - (G 107 0 - 1 - h))) = _
                rw [show G 107 0 - 1 - (G 107 0 - 1 - h) = h by omega]
              have := rsF_s (vs := (vsB (G 107) (G1 112))) (cn := (cnB (G 107) (G1 112))) (n := G 107 0) (a := a) (r := G 107 0 - 1 - h) (by omega)
              rw [show G 107 0 - (G 107 0 - 1 - h) = h + 1 by omega, show G 107 0 - 1 - (G 107 0 - 1 - h) = h by omega, ← hx, e1] at this
              rw [this, k7, k12, huu]
            have hu3 : ∀ e, 0 ≤ e → e < h + 1 → upd2 G2 114 h u 114 e = usB (G 107) (G1 112) a e := fun e e0 e1 => by
              by_cases q : e = h
              · rw [q, upd2_s]; exact huu
              · rw [upd2_z q]; exact hu e e0 (by omega)
            refine v_iast (pc := 66) (N := 5) rfl rfl (by decide) (by omega) (by decide) dX4_payIt_66 ?_
            refine v_iload_n (pc := 67) rfl dX4_payIt_67 ?_
            refine v_aload_n (pc := 68) rfl dX4_payIt_68 ?_
            refine v_getR (pc := 69) (j := 114) fd_X4_38 (rfl) (by decide) rfl dX4_payIt_69 ?_
            refine v_iload (pc := 72) rfl dX4_payIt_72 ?_
            refine v_iald (pc := 74) (N := 5) rfl rfl (by decide) (by omega) (by decide) dX4_payIt_74 ?_
            refine v_top (b := u) (upd2_s _ _ _ _) ?_
            refine v_aload_n (pc := 75) rfl dX4_payIt_75 ?_
            refine v_getR (pc := 76) (j := 107) fd_X4_9 (rfl) (by decide) rfl dX4_payIt_76 ?_
            refine v_aload_n (pc := 79) rfl dX4_payIt_79 ?_
            refine v_getR (pc := 80) (j := 112) fd_X4_32 (rfl) (by decide) rfl dX4_payIt_80 ?_
            refine v_iload (pc := 83) rfl dX4_payIt_83 ?_
            refine v_iald (pc := 85) (N := 5) rfl rfl (by decide) (by omega) (by decide) dX4_payIt_85 ?_
            refine v_top (b := G2 112 h) (upd2_i (by decide)) ?_
            refine v_callS (pc := 86) (rest := [vR g 107, vI u, vI x]) (c_X4_dieAt) sok_X4_dieAt wM_X4_64 (rmOk (by decide) (by decide)) ⟨Nat.le_of_ble_eq_true rfl, Nat.le_of_ble_eq_true rfl⟩ (Nat.le_of_ble_eq_true rfl) rfl dX4_payIt_86 (fun v G' hq => ?_) (fun _ _ h => h.elim)
            obtain ⟨rfl, hG9⟩ := hq
            rw [hG9]
            refine v_stk (st' := [vI (9 + 3 * (G2 112 h)), vR g 107, vI u, vI x]) rfl ?_
            refine v_iald (pc := 89) (N := 144) rfl rfl (by decide) (by omega) (by decide) dX4_payIt_89 ?_
            refine v_top (b := G2 107 (9 + 3 * (G2 112 h))) (upd2_i (by decide)) ?_
            refine v_imul (pc := 90) dX4_payIt_90 ?_
            refine v_isub (pc := 91) dX4_payIt_91 ?_
            refine v_istore_n (pc := 92) (by decide) rfl dX4_payIt_92 ?_
            refine v_iinc (pc := 93) (y := 1) rfl (by decide) rfl dX4_payIt_93 ?_
            refine v_goto (pc := 96) (tgt := 42) dX4_payIt_96 (by decide) ?_
            exact ih42 (h + 1) (x - (u * (G2 107 (9 + 3 * (G2 112 h))))) (upd2 G2 114 h u) (by omega) hx3 hu3 (fun j z q => (upd2_i q).trans (hF2 j z q)) (by omega)
      refine v_loc (L' := [some (vR g 106), some (vI a), some (vI w), some (vI a), some (vI 0), none]) (⟨rfl, rfl, rfl, rfl, rfl, trivial⟩) ?_
      exact lp42 _ 0 a G1 (by omega) rfl (fun e a c => absurd c (by omega)) (fun _ _ _ => rfl) (Nat.lt_succ_self _)
    · skip
      refine v_aload_n (pc := 31) rfl dX4_payIt_31 ?_
      refine v_iconst (pc := 32) (z := 2) dX4_payIt_32 ?_
      refine v_callV (pc := 33) (rest := []) (c_X4_throwing) iok_X4_throwing wM_X4_81 (rfl) (by decide) (by decide) rfl (rmOk (by decide) (by decide)) ⟨Nat.le_of_ble_eq_true rfl, Nat.le_of_ble_eq_true rfl⟩ (Nat.le_of_ble_eq_true rfl) rfl dX4_payIt_33 (fun v G' hq => ?_) (fun _ _ h => h.elim)
      obtain ⟨rfl, hG9⟩ := hq
      rw [hG9]
      refine v_stk (st' := [vI (-1)]) rfl ?_
      exact v_iret (pc := 36) E (⟨_, rfl, 4, Or.inr ⟨ha5, G1 112, hS, Or.inr ⟨by omega, rfl⟩⟩, by rw [upd2_s]; rfl, fun i z a b c => by rw [upd2, if_neg c]; exact hF1 i z (by omega) (by omega), Or.inl ⟨by decide, by rw [show upd2 G1 106 8 2 107 = G1 107 from funext fun w => upd2_i (by decide)]; exact e7⟩⟩) (Nat.le_of_ble_eq_true rfl) (Nat.le_of_ble_eq_true rfl) dX4_payIt_36
  · skip
    have bq1 := bI_eq0.mp bq1
    refine v_aload_n (pc := 12) rfl dX4_payIt_12 ?_
    refine v_iconst (pc := 13) (z := 1) dX4_payIt_13 ?_
    refine v_callV (pc := 14) (rest := []) (c_X4_throwing) iok_X4_throwing wM_X4_81 (rfl) (by decide) (by decide) rfl (rmOk (by decide) (by decide)) ⟨Nat.le_of_ble_eq_true rfl, Nat.le_of_ble_eq_true rfl⟩ (Nat.le_of_ble_eq_true rfl) rfl dX4_payIt_14 (fun v G' hq => ?_) (fun _ _ h => h.elim)
    obtain ⟨rfl, hG9⟩ := hq
    rw [hG9]
    refine v_stk (st' := [vI (-1)]) rfl ?_
    exact v_iret (pc := 17) E (⟨_, rfl, 2, Or.inl ⟨by omega, rfl⟩, by rw [upd2_s]; rfl, fun i z a b c => if_neg c, Or.inl ⟨by decide, funext fun w => upd2_i (by decide)⟩⟩) (Nat.le_of_ble_eq_true rfl) (Nat.le_of_ble_eq_true rfl) dX4_payIt_17
