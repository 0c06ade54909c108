/-- a row copied into another -/
def cpy2 (G : Mem) (d s : Nat) (m : Int) : Mem := fun j w => if j = d ∧ 0 ≤ w ∧ w < m then G s w else G j w
theorem cpy2_i {G : Mem} {d s j : Nat} {m w : Int} (h : j ≠ d) : cpy2 G d s m j w = G j w := if_neg fun q => h q.1
theorem cpy2_s {G : Mem} {d s : Nat} {m w : Int} (h : 0 ≤ w ∧ w < m) : cpy2 G d s m d w = G s w := if_pos ⟨rfl, h⟩
section VCP
variable {γ : gT} {g : GT} {cc : ByteArray} {nL : Nat} {own : String} {rm : Room} {G : Mem} {k n : Nat} {pc idx : Nat} {L : List (Option Value)} {st : List Value}
theorem v_copy {i0 i1 N0 N1 : Nat} {m : Int} (hk0 : kd i0 = 10) (hn0 : ln i0 = N0) (hi0 : i0 < NP) (hk1 : kd i1 = 10) (hn1 : ln i1 = N1) (hi1 : i1 < NP) (hm : 0 ≤ m ∧ m ≤ (N0 : Int) ∧ m ≤ (N1 : Int)) (hl : Cond.methodLink own idx arraycopyName ∈ WT) (hN : N0 < 2147483648) (h1 : 1 ≤ rm.frames) (h2 : (st.map fun v => v.category).sum + (nativeFrameWords "java/lang/System" "arraycopy" 5 + 11) ≤ rm.locals) (d : decode cc pc = .ok (.invokestatic idx, 3)) (kk : V γ g cc nL own rm (cpy2 G i1 i0 m) k n (pc + 3) L st) : V γ g cc nL own rm G k n pc L (vI m :: vI 0 :: vR g i1 :: vI 0 :: vR g i0 :: st) := by
  obtain ⟨p, l, e, R, s, mm, args, below, meth, c0, Q⟩ := γ
  intro C H locs ls hP hS hL
  obtain ⟨hx, hb, hml, ho, hts, rfl, hG, hlk, rfl⟩ := id C
  obtain ⟨q, cap, ml, bf, hs, hP1, hD1⟩ := id hP
  have he0 := (WL_get (g := g) (G := G) (q := q) (cap := cap) (ml := ml) (bf := bf) hi0).trans (by rw [cel_i hk0])
  have he1 := (WL_get (g := g) (G := G) (q := q) (cap := cap) (ml := ml) (bf := bf) hi1).trans (by rw [cel_i hk1])
  have z0 : (Int32.ofInt 0).toNatClampNeg = 0 := rfl
  have zm : (Int32.ofInt m).toNatClampNeg = m.toNat := i32_nat hm.1 (by omega)
  refine va_copyi (ty := .int) hx hb (hml.trans hL.1.symm) ho (hts _ hl) (hts _ wV_arraycopyName) (hts _ wT_arraycopyName) (hts _ wN_J10) hG.1 hP1 hD1 hS i0 i1 0 0 he0 he1 rfl rfl rfl (by decide) (by decide) (fun z => by have := (i32_lt (a := m) (b := 0) (by omega)).mp z; omega) (by rw [z0, zm, hn0]; omega) (by rw [z0, zm, hn1]; omega) (fun _ _ => rfl) h1 h2 d (fun H1 locs1 hP2 hD2 hS2 => ?_)
  have hu : va_cpy (fun j : Nat => Int32.ofInt (G i0 j)) (fun j : Nat => Int32.ofInt (G i1 j)) 0 0 m.toNat = fun j : Nat => Int32.ofInt (cpy2 G i1 i0 m i1 j) := by
    funext j
    by_cases hj : j < m.toNat
    · rw [pk_cpy_in (Nat.zero_le _) (by omega), cpy2_s (by omega)]
      simp
    · rw [pk_cpy_out (by omega)]
      have : cpy2 G i1 i0 m i1 j = G i1 j := if_neg (fun z => hj (by omega))
      rw [this]
  rw [z0, zm, hu] at hP2 hD2
  exact kk C H1 locs1 ls (WP_mk hi1 (by rw [cel_i hk1]) (fun j hj => funext fun w => cpy2_i hj) hs hP2 hD2) hS2 hL
end VCP
/-- only the State at b changes -/
def FrS (G G' : Mem) (b : Nat) : Prop := ∀ i z, (i < b ∨ b + 7 < i) → G' i z = G i z
/-- the State at b has become what the State at o was -/
def CpS (G G' : Mem) (b o : Nat) : Prop :=
  (G' b 0 = G o 0 ∧ G' b 5 = G o 5 ∧ G' b 9 = G o 9 ∧ G' b 10 = G o 10 ∧ G' b 11 = G o 11 ∧ G' b 12 = G o 12 ∧ G' b 13 = G o 13 ∧ G' b 14 = G o 14 ∧ G' b 15 = G o 15) ∧
  (∀ z, 0 ≤ z → z < 5 → G' (b + 1) z = G (o + 1) z ∧ G' (b + 2) z = G (o + 2) z ∧ G' (b + 3) z = G (o + 3) z ∧ G' (b + 4) z = G (o + 4) z) ∧
  (∀ z, 0 ≤ z → z < 40 → G' (b + 5) z = G (o + 5) z ∧ G' (b + 6) z = G (o + 6) z ∧ G' (b + 7) z = G (o + 7) z) ∧ FrS G G' b
/-- a coin gets the next lower grade -/
def lwr1 (y cy cg : Int) : Int := if (y - cy = 5 ∨ y - cy = 10) ∧ cg ≠ 2 then 1 else 0
/-- the grade of a coin of the year cy after m years from the year y on -/
def agd : Nat → Int → Int → Int → Int
  | 0, _, _, cg => cg
  | m + 1, y, cy, cg => agd m y cy cg + lwr1 (y + (m : Int) + 1) cy (agd m y cy cg)
theorem lwr1_r {y cy cg : Int} (h : 0 ≤ cg ∧ cg ≤ 2) : 0 ≤ cg + lwr1 y cy cg ∧ cg + lwr1 y cy cg ≤ 2 := by
  unfold lwr1
  split <;> omega
theorem agd_r {y cy cg : Int} (h : 0 ≤ cg ∧ cg ≤ 2) : ∀ m, 0 ≤ agd m y cy cg ∧ agd m y cy cg ≤ 2
  | 0 => h
  | m + 1 => lwr1_r (agd_r h m)
def rmvC (G : Mem) (b : Nat) (c : Int) : Mem := upd2 (upd2 (upd2 (upd2 G b 5 (G b 5 - 1)) (b + 5) c (G (b + 5) (G b 5 - 1))) (b + 6) c (G (b + 6) (G b 5 - 1))) (b + 7) c (G (b + 7) (G b 5 - 1))
def ptL (G : Mem) (b : Nat) (z : Int) : Mem := upd2 (upd2 G b 9 (G b 9 + z)) b 15 (G b 15 + z)

set_option maxHeartbeats 4000000 in
set_option maxRecDepth 100000 in
theorem c_X2_copyFrom {g : GT} {b o : Nat} {G : Mem} (hb : isS b) (ho : isS o) (hbo : b + 7 < o ∨ o + 7 < b) : Ctr g yX2_copyFrom cX2_copyFrom 2 (none : Option FieldType) (rmL 0 0 0) [vR g b, vR g o] G (VP (fun G' => CpS G G' b o)) NoX := by
  refine ctr_of [some (vR g b), some (vR g o)] (by decide) (Nat.le_of_ble_eq_true rfl) rfl (fun γ E => ?_)
  show V γ g cX2_copyFrom 2 RX2 (rmL 0 0 0) G 0 0 0 [some (vR g b), some (vR g o)] []
  refine v_aload_n (pc := 0) rfl dX2_copyFrom_0 ?_
  refine v_aload_n (pc := 1) rfl dX2_copyFrom_1 ?_
  refine v_get (pc := 2) 0 fd_X2_33 (kdS ho) (ltS ho 0 (by decide)) (tgS ho 0 none rfl) rfl dX2_copyFrom_2 ?_
  refine v_put (pc := 5) 0 pd_X2_33 (kdS hb) (ltS hb 0 (by decide)) (tgS hb 0 none rfl) rfl dX2_copyFrom_5 ?_
  refine v_aload_n (pc := 8) rfl dX2_copyFrom_8 ?_
  refine v_getR (pc := 9) (j := o + 1) fd_X2_9 (kdS ho) (ltS ho 0 (by decide)) (tgS ho 1 _ rfl) dX2_copyFrom_9 ?_
  refine v_iconst (pc := 12) (z := 0) dX2_copyFrom_12 ?_
  refine v_aload_n (pc := 13) rfl dX2_copyFrom_13 ?_
  refine v_getR (pc := 14) (j := b + 1) fd_X2_9 (kdS hb) (ltS hb 0 (by decide)) (tgS hb 1 _ rfl) dX2_copyFrom_14 ?_
  refine v_iconst (pc := 17) (z := 0) dX2_copyFrom_17 ?_
  refine v_iconst (pc := 18) (z := 5) dX2_copyFrom_18 ?_
  refine v_copy (pc := 19) (N0 := 5) (N1 := 5) (kdS_i ho 1 (by decide)) (lnS_5 ho 1 (by decide)) (ltS ho 1 (by decide)) (kdS_i hb 1 (by decide)) (lnS_5 hb 1 (by decide)) (ltS hb 1 (by decide)) (by omega) wM_X2_37 (by decide) (Nat.le_of_ble_eq_true rfl) (by decide +kernel) dX2_copyFrom_19 ?_
  refine v_aload_n (pc := 22) rfl dX2_copyFrom_22 ?_
  refine v_getR (pc := 23) (j := o + 2) fd_X2_15 (kdS ho) (ltS ho 0 (by decide)) (tgS ho 2 _ rfl) dX2_copyFrom_23 ?_
  refine v_iconst (pc := 26) (z := 0) dX2_copyFrom_26 ?_
  refine v_aload_n (pc := 27) rfl dX2_copyFrom_27 ?_
  refine v_getR (pc := 28) (j := b + 2) fd_X2_15 (kdS hb) (ltS hb 0 (by decide)) (tgS hb 2 _ rfl) dX2_copyFrom_28 ?_
  refine v_iconst (pc := 31) (z := 0) dX2_copyFrom_31 ?_
  refine v_iconst (pc := 32) (z := 5) dX2_copyFrom_32 ?_
  refine v_copy (pc := 33) (N0 := 5) (N1 := 5) (kdS_i ho 2 (by decide)) (lnS_5 ho 2 (by decide)) (ltS ho 2 (by decide)) (kdS_i hb 2 (by decide)) (lnS_5 hb 2 (by decide)) (ltS hb 2 (by decide)) (by omega) wM_X2_37 (by decide) (Nat.le_of_ble_eq_true rfl) (by decide +kernel) dX2_copyFrom_33 ?_
  refine v_aload_n (pc := 36) rfl dX2_copyFrom_36 ?_
  refine v_getR (pc := 37) (j := o + 3) fd_X2_18 (kdS ho) (ltS ho 0 (by decide)) (tgS ho 3 _ rfl) dX2_copyFrom_37 ?_
  refine v_iconst (pc := 40) (z := 0) dX2_copyFrom_40 ?_
  refine v_aload_n (pc := 41) rfl dX2_copyFrom_41 ?_
  refine v_getR (pc := 42) (j := b + 3) fd_X2_18 (kdS hb) (ltS hb 0 (by decide)) (tgS hb 3 _ rfl) dX2_copyFrom_42 ?_
  refine v_iconst (pc := 45) (z := 0) dX2_copyFrom_45 ?_
  refine v_iconst (pc := 46) (z := 5) dX2_copyFrom_46 ?_
  refine v_copy (pc := 47) (N0 := 5) (N1 := 5) (kdS_i ho 3 (by decide)) (lnS_5 ho 3 (by decide)) (ltS ho 3 (by decide)) (kdS_i hb 3 (by decide)) (lnS_5 hb 3 (by decide)) (ltS hb 3 (by decide)) (by omega) wM_X2_37 (by decide) (Nat.le_of_ble_eq_true rfl) (by decide +kernel) dX2_copyFrom_47 ?_
  refine v_aload_n (pc := 50) rfl dX2_copyFrom_50 ?_
  refine v_getR (pc := 51) (j := o + 4) fd_X2_21 (kdS ho) (ltS ho 0 (by decide)) (tgS ho 4 _ rfl) dX2_copyFrom_51 ?_
  refine v_iconst (pc := 54) (z := 0) dX2_copyFrom_54 ?_
  refine v_aload_n (pc := 55) rfl dX2_copyFrom_55 ?_
  refine v_getR (pc := 56) (j := b + 4) fd_X2_21 (kdS hb) (ltS hb 0 (by decide)) (tgS hb 4 _ rfl) dX2_copyFrom_56 ?_
  refine v_iconst (pc := 59) (z := 0) dX2_copyFrom_59 ?_
  refine v_iconst (pc := 60) (z := 5) dX2_copyFrom_60 ?_
  refine v_copy (pc := 61) (N0 := 5) (N1 := 5) (kdS_i ho 4 (by decide)) (lnS_5 ho 4 (by decide)) (ltS ho 4 (by decide)) (kdS_i hb 4 (by decide)) (lnS_5 hb 4 (by decide)) (ltS hb 4 (by decide)) (by omega) wM_X2_37 (by decide) (Nat.le_of_ble_eq_true rfl) (by decide +kernel) dX2_copyFrom_61 ?_
  refine v_aload_n (pc := 64) rfl dX2_copyFrom_64 ?_
  refine v_aload_n (pc := 65) rfl dX2_copyFrom_65 ?_
  refine v_get (pc := 66) 5 fd_X2_43 (kdS ho) (ltS ho 0 (by decide)) (tgS ho 5 none rfl) rfl dX2_copyFrom_66 ?_
  refine v_top (b := G o 5) (((((cpy2_i (by omega)).trans (cpy2_i (by omega))).trans (cpy2_i (by omega))).trans (cpy2_i (by omega))).trans (upd2_i (by omega))) ?_
  refine v_put (pc := 69) 5 pd_X2_43 (kdS hb) (ltS hb 0 (by decide)) (tgS hb 5 none rfl) rfl dX2_copyFrom_69 ?_
  refine v_aload_n (pc := 72) rfl dX2_copyFrom_72 ?_
  refine v_getR (pc := 73) (j := o + 5) fd_X2_24 (kdS ho) (ltS ho 0 (by decide)) (tgS ho 6 _ rfl) dX2_copyFrom_73 ?_
  refine v_iconst (pc := 76) (z := 0) dX2_copyFrom_76 ?_
  refine v_aload_n (pc := 77) rfl dX2_copyFrom_77 ?_
  refine v_getR (pc := 78) (j := b + 5) fd_X2_24 (kdS hb) (ltS hb 0 (by decide)) (tgS hb 6 _ rfl) dX2_copyFrom_78 ?_
  refine v_iconst (pc := 81) (z := 0) dX2_copyFrom_81 ?_
  refine v_bipush (pc := 82) (z := 40) rfl dX2_copyFrom_82 ?_
  refine v_copy (pc := 84) (N0 := 40) (N1 := 40) (kdS_i ho 5 (by decide)) (lnS_40 ho 5 (by decide)) (ltS ho 5 (by decide)) (kdS_i hb 5 (by decide)) (lnS_40 hb 5 (by decide)) (ltS hb 5 (by decide)) (by omega) wM_X2_37 (by decide) (Nat.le_of_ble_eq_true rfl) (by decide +kernel) dX2_copyFrom_84 ?_
  refine v_aload_n (pc := 87) rfl dX2_copyFrom_87 ?_
  refine v_getR (pc := 88) (j := o + 6) fd_X2_27 (kdS ho) (ltS ho 0 (by decide)) (tgS ho 7 _ rfl) dX2_copyFrom_88 ?_
  refine v_iconst (pc := 91) (z := 0) dX2_copyFrom_91 ?_
  refine v_aload_n (pc := 92) rfl dX2_copyFrom_92 ?_
  refine v_getR (pc := 93) (j := b + 6) fd_X2_27 (kdS hb) (ltS hb 0 (by decide)) (tgS hb 7 _ rfl) dX2_copyFrom_93 ?_
  refine v_iconst (pc := 96) (z := 0) dX2_copyFrom_96 ?_
  refine v_bipush (pc := 97) (z := 40) rfl dX2_copyFrom_97 ?_
  refine v_copy (pc := 99) (N0 := 40) (N1 := 40) (kdS_i ho 6 (by decide)) (lnS_40 ho 6 (by decide)) (ltS ho 6 (by decide)) (kdS_i hb 6 (by decide)) (lnS_40 hb 6 (by decide)) (ltS hb 6 (by decide)) (by omega) wM_X2_37 (by decide) (Nat.le_of_ble_eq_true rfl) (by decide +kernel) dX2_copyFrom_99 ?_
  refine v_aload_n (pc := 102) rfl dX2_copyFrom_102 ?_
  refine v_getR (pc := 103) (j := o + 7) fd_X2_30 (kdS ho) (ltS ho 0 (by decide)) (tgS ho 8 _ rfl) dX2_copyFrom_103 ?_
  refine v_iconst (pc := 106) (z := 0) dX2_copyFrom_106 ?_
  refine v_aload_n (pc := 107) rfl dX2_copyFrom_107 ?_
  refine v_getR (pc := 108) (j := b + 7) fd_X2_30 (kdS hb) (ltS hb 0 (by decide)) (tgS hb 8 _ rfl) dX2_copyFrom_108 ?_
  refine v_iconst (pc := 111) (z := 0) dX2_copyFrom_111 ?_
  refine v_bipush (pc := 112) (z := 40) rfl dX2_copyFrom_112 ?_
  refine v_copy (pc := 114) (N0 := 40) (N1 := 40) (kdS_i ho 7 (by decide)) (lnS_40 ho 7 (by decide)) (ltS ho 7 (by decide)) (kdS_i hb 7 (by decide)) (lnS_40 hb 7 (by decide)) (ltS hb 7 (by decide)) (by omega) wM_X2_37 (by decide) (Nat.le_of_ble_eq_true rfl) (by decide +kernel) dX2_copyFrom_114 ?_
  refine v_aload_n (pc := 117) rfl dX2_copyFrom_117 ?_
  refine v_aload_n (pc := 118) rfl dX2_copyFrom_118 ?_
  refine v_get (pc := 119) 9 fd_X2_46 (kdS ho) (ltS ho 0 (by decide)) (tgS ho 9 none rfl) rfl dX2_copyFrom_119 ?_
  refine v_top (b := G o 9) (((((((((cpy2_i (by omega)).trans (cpy2_i (by omega))).trans (cpy2_i (by omega))).trans (upd2_i (by omega))).trans (cpy2_i (by omega))).trans (cpy2_i (by omega))).trans (cpy2_i (by omega))).trans (cpy2_i (by omega))).trans (upd2_i (by omega))) ?_
  refine v_put (pc := 122) 9 pd_X2_46 (kdS hb) (ltS hb 0 (by decide)) (tgS hb 9 none rfl) rfl dX2_copyFrom_122 ?_
  refine v_aload_n (pc := 125) rfl dX2_copyFrom_125 ?_
  refine v_aload_n (pc := 126) rfl dX2_copyFrom_126 ?_
  refine v_get (pc := 127) 10 fd_X2_49 (kdS ho) (ltS ho 0 (by decide)) (tgS ho 10 none rfl) rfl dX2_copyFrom_127 ?_
  refine v_top (b := G o 10) ((((((((((upd2_i (by omega)).trans (cpy2_i (by omega))).trans (cpy2_i (by omega))).trans (cpy2_i (by omega))).trans (upd2_i (by omega))).trans (cpy2_i (by omega))).trans (cpy2_i (by omega))).trans (cpy2_i (by omega))).trans (cpy2_i (by omega))).trans (upd2_i (by omega))) ?_
  refine v_put (pc := 130) 10 pd_X2_49 (kdS hb) (ltS hb 0 (by decide)) (tgS hb 10 none rfl) rfl dX2_copyFrom_130 ?_
  refine v_aload_n (pc := 133) rfl dX2_copyFrom_133 ?_
  refine v_aload_n (pc := 134) rfl dX2_copyFrom_134 ?_
  refine v_get (pc := 135) 11 fd_X2_52 (kdS ho) (ltS ho 0 (by decide)) (tgS ho 11 none rfl) rfl dX2_copyFrom_135 ?_
  refine v_top (b := G o 11) (((((((((((upd2_i (by omega)).trans (upd2_i (by omega))).trans (cpy2_i (by omega))).trans (cpy2_i (by omega))).trans (cpy2_i (by omega))).trans (upd2_i (by omega))).trans (cpy2_i (by omega))).trans (cpy2_i (by omega))).trans (cpy2_i (by omega))).trans (cpy2_i (by omega))).trans (upd2_i (by omega))) ?_
  refine v_put (pc := 138) 11 pd_X2_52 (kdS hb) (ltS hb 0 (by decide)) (tgS hb 11 none rfl) rfl dX2_copyFrom_138 ?_
  refine v_aload_n (pc := 141) rfl dX2_copyFrom_141 ?_
  refine v_aload_n (pc := 142) rfl dX2_copyFrom_142 ?_
  refine v_get (pc := 143) 12 fd_X2_55 (kdS ho) (ltS ho 0 (by decide)) (tgS ho 12 none rfl) rfl dX2_copyFrom_143 ?_
  refine v_top (b := G o 12) ((((((((((((upd2_i (by omega)).trans (upd2_i (by omega))).trans (upd2_i (by omega))).trans (cpy2_i (by omega))).trans (cpy2_i (by omega))).trans (cpy2_i (by omega))).trans (upd2_i (by omega))).trans (cpy2_i (by omega))).trans (cpy2_i (by omega))).trans (cpy2_i (by omega))).trans (cpy2_i (by omega))).trans (upd2_i (by omega))) ?_
  refine v_put (pc := 146) 12 pd_X2_55 (kdS hb) (ltS hb 0 (by decide)) (tgS hb 12 none rfl) rfl dX2_copyFrom_146 ?_
  refine v_aload_n (pc := 149) rfl dX2_copyFrom_149 ?_
  refine v_aload_n (pc := 150) rfl dX2_copyFrom_150 ?_
  refine v_get (pc := 151) 13 fd_X2_58 (kdS ho) (ltS ho 0 (by decide)) (tgS ho 13 none rfl) rfl dX2_copyFrom_151 ?_
  refine v_top (b := G o 13) (((((((((((((upd2_i (by omega)).trans (upd2_i (by omega))).trans (upd2_i (by omega))).trans (upd2_i (by omega))).trans (cpy2_i (by omega))).trans (cpy2_i (by omega))).trans (cpy2_i (by omega))).trans (upd2_i (by omega))).trans (cpy2_i (by omega))).trans (cpy2_i (by omega))).trans (cpy2_i (by omega))).trans (cpy2_i (by omega))).trans (upd2_i (by omega))) ?_
  refine v_put (pc := 154) 13 pd_X2_58 (kdS hb) (ltS hb 0 (by decide)) (tgS hb 13 none rfl) rfl dX2_copyFrom_154 ?_
  refine v_aload_n (pc := 157) rfl dX2_copyFrom_157 ?_
  refine v_aload_n (pc := 158) rfl dX2_copyFrom_158 ?_
  refine v_get (pc := 159) 14 fd_X2_61 (kdS ho) (ltS ho 0 (by decide)) (tgS ho 14 none rfl) rfl dX2_copyFrom_159 ?_
  refine v_top (b := G o 14) ((((((((((((((upd2_i (by omega)).trans (upd2_i (by omega))).trans (upd2_i (by omega))).trans (upd2_i (by omega))).trans (upd2_i (by omega))).trans (cpy2_i (by omega))).trans (cpy2_i (by omega))).trans (cpy2_i (by omega))).trans (upd2_i (by omega))).trans (cpy2_i (by omega))).trans (cpy2_i (by omega))).trans (cpy2_i (by omega))).trans (cpy2_i (by omega))).trans (upd2_i (by omega))) ?_
  refine v_put (pc := 162) 14 pd_X2_61 (kdS hb) (ltS hb 0 (by decide)) (tgS hb 14 none rfl) rfl dX2_copyFrom_162 ?_
  refine v_aload_n (pc := 165) rfl dX2_copyFrom_165 ?_
  refine v_aload_n (pc := 166) rfl dX2_copyFrom_166 ?_
  refine v_get (pc := 167) 15 fd_X2_64 (kdS ho) (ltS ho 0 (by decide)) (tgS ho 15 none rfl) rfl dX2_copyFrom_167 ?_
  refine v_top (b := G o 15) (((((((((((((((upd2_i (by omega)).trans (upd2_i (by omega))).trans (upd2_i (by omega))).trans (upd2_i (by omega))).trans (upd2_i (by omega))).trans (upd2_i (by omega))).trans (cpy2_i (by omega))).trans (cpy2_i (by omega))).trans (cpy2_i (by omega))).trans (upd2_i (by omega))).trans (cpy2_i (by omega))).trans (cpy2_i (by omega))).trans (cpy2_i (by omega))).trans (cpy2_i (by omega))).trans (upd2_i (by omega))) ?_
  refine v_put (pc := 170) 15 pd_X2_64 (kdS hb) (ltS hb 0 (by decide)) (tgS hb 15 none rfl) rfl dX2_copyFrom_170 ?_
  exact v_vret (pc := 173) E (⟨rfl, ⟨(by (repeat (first | rw [upd2_s] | rw [cpy2_s (by omega)] | rw [upd2_i (by omega)] | rw [upd2_z (by omega)] | rw [cpy2_i (by omega)]))), (by (repeat (first | rw [upd2_s] | rw [cpy2_s (by omega)] | rw [upd2_i (by omega)] | rw [upd2_z (by omega)] | rw [cpy2_i (by omega)]))), (by (repeat (first | rw [upd2_s] | rw [cpy2_s (by omega)] | rw [upd2_i (by omega)] | rw [upd2_z (by omega)] | rw [cpy2_i (by omega)]))), (by (repeat (first | rw [upd2_s] | rw [cpy2_s (by omega)] | rw [upd2_i (by omega)] | rw [upd2_z (by omega)] | rw [cpy2_i (by omega)]))), (by (repeat (first | rw [upd2_s] | rw [cpy2_s (by omega)] | rw [upd2_i (by omega)] | rw [upd2_z (by omega)] | rw [cpy2_i (by omega)]))), (by (repeat (first | rw [upd2_s] | rw [cpy2_s (by omega)] | rw [upd2_i (by omega)] | rw [upd2_z (by omega)] | rw [cpy2_i (by omega)]))), (by (repeat (first | rw [upd2_s] | rw [cpy2_s (by omega)] | rw [upd2_i (by omega)] | rw [upd2_z (by omega)] | rw [cpy2_i (by omega)]))), (by (repeat (first | rw [upd2_s] | rw [cpy2_s (by omega)] | rw [upd2_i (by omega)] | rw [upd2_z (by omega)] | rw [cpy2_i (by omega)]))), (by (repeat (first | rw [upd2_s] | rw [cpy2_s (by omega)] | rw [upd2_i (by omega)] | rw [upd2_z (by omega)] | rw [cpy2_i (by omega)])))⟩, fun z z0 z1 => ⟨(by (repeat (first | rw [upd2_s] | rw [cpy2_s (by omega)] | rw [upd2_i (by omega)] | rw [upd2_z (by omega)] | rw [cpy2_i (by omega)]))), (by (repeat (first | rw [upd2_s] | rw [cpy2_s (by omega)] | rw [upd2_i (by omega)] | rw [upd2_z (by omega)] | rw [cpy2_i (by omega)]))), (by (repeat (first | rw [upd2_s] | rw [cpy2_s (by omega)] | rw [upd2_i (by omega)] | rw [upd2_z (by omega)] | rw [cpy2_i (by omega)]))), (by (repeat (first | rw [upd2_s] | rw [cpy2_s (by omega)] | rw [upd2_i (by omega)] | rw [upd2_z (by omega)] | rw [cpy2_i (by omega)])))⟩, fun z z0 z1 => ⟨(by (repeat (first | rw [upd2_s] | rw [cpy2_s (by omega)] | rw [upd2_i (by omega)] | rw [upd2_z (by omega)] | rw [cpy2_i (by omega)]))), (by (repeat (first | rw [upd2_s] | rw [cpy2_s (by omega)] | rw [upd2_i (by omega)] | rw [upd2_z (by omega)] | rw [cpy2_i (by omega)]))), (by (repeat (first | rw [upd2_s] | rw [cpy2_s (by omega)] | rw [upd2_i (by omega)] | rw [upd2_z (by omega)] | rw [cpy2_i (by omega)])))⟩, fun i z hi => (by (repeat (first | rw [upd2_s] | rw [cpy2_s (by omega)] | rw [upd2_i (by omega)] | rw [upd2_z (by omega)] | rw [cpy2_i (by omega)])))⟩) (Nat.le_of_ble_eq_true rfl) (Nat.le_of_ble_eq_true rfl) dX2_copyFrom_173
set_option maxHeartbeats 4000000 in
set_option maxRecDepth 100000 in
theorem c_X2_removeCoin {g : GT} {b : Nat} {G : Mem} {c : Int} (hb : isS b) (hc : 1 ≤ G b 5 ∧ G b 5 ≤ 40) (hd : 0 ≤ c ∧ c < 40) : Ctr g yX2_removeCoin cX2_removeCoin 2 (none : Option FieldType) (rmL 0 0 0) [vR g b, vI c] G (VM (rmvC G b c)) NoX := by
  refine ctr_of [some (vR g b), some (vI c)] (by decide) (Nat.le_of_ble_eq_true rfl) rfl (fun γ E => ?_)
  show V γ g cX2_removeCoin 2 RX2 (rmL 0 0 0) G 0 0 0 [some (vR g b), some (vI c)] []
  refine v_aload_n (pc := 0) rfl dX2_removeCoin_0 ?_
  refine v_dup (pc := 1) rfl dX2_removeCoin_1 ?_
  refine v_get (pc := 2) 5 fd_X2_43 (kdS hb) (ltS hb 0 (by decide)) (tgS hb 5 none rfl) rfl dX2_removeCoin_2 ?_
  refine v_iconst (pc := 5) (z := 1) dX2_removeCoin_5 ?_
  refine v_isub (pc := 6) dX2_removeCoin_6 ?_
  refine v_put (pc := 7) 5 pd_X2_43 (kdS hb) (ltS hb 0 (by decide)) (tgS hb 5 none rfl) rfl dX2_removeCoin_7 ?_
  refine v_aload_n (pc := 10) rfl dX2_removeCoin_10 ?_
  refine v_getR (pc := 11) (j := b + 5) fd_X2_24 (kdS hb) (ltS hb 0 (by decide)) (tgS hb 6 _ rfl) dX2_removeCoin_11 ?_
  refine v_iload_n (pc := 14) rfl dX2_removeCoin_14 ?_
  refine v_aload_n (pc := 15) rfl dX2_removeCoin_15 ?_
  refine v_getR (pc := 16) (j := b + 5) fd_X2_24 (kdS hb) (ltS hb 0 (by decide)) (tgS hb 6 _ rfl) dX2_removeCoin_16 ?_
  refine v_aload_n (pc := 19) rfl dX2_removeCoin_19 ?_
  refine v_get (pc := 20) 5 fd_X2_43 (kdS hb) (ltS hb 0 (by decide)) (tgS hb 5 none rfl) rfl dX2_removeCoin_20 ?_
  refine v_top (b := (G b 5) - 1) (upd2_s _ _ _ _) ?_
  refine v_iald (pc := 23) (N := 40) (kdS_i hb 5 (by decide)) (lnS_40 hb 5 (by decide)) (ltS hb 5 (by decide)) (by omega) (by decide) dX2_removeCoin_23 ?_
  refine v_top (b := G (b + 5) ((G b 5) - 1)) (upd2_i (by omega)) ?_
  refine v_iast (pc := 24) (N := 40) (kdS_i hb 5 (by decide)) (lnS_40 hb 5 (by decide)) (ltS hb 5 (by decide)) (by omega) (by decide) dX2_removeCoin_24 ?_
  refine v_aload_n (pc := 25) rfl dX2_removeCoin_25 ?_
  refine v_getR (pc := 26) (j := b + 6) fd_X2_27 (kdS hb) (ltS hb 0 (by decide)) (tgS hb 7 _ rfl) dX2_removeCoin_26 ?_
  refine v_iload_n (pc := 29) rfl dX2_removeCoin_29 ?_
  refine v_aload_n (pc := 30) rfl dX2_removeCoin_30 ?_
  refine v_getR (pc := 31) (j := b + 6) fd_X2_27 (kdS hb) (ltS hb 0 (by decide)) (tgS hb 7 _ rfl) dX2_removeCoin_31 ?_
  refine v_aload_n (pc := 34) rfl dX2_removeCoin_34 ?_
  refine v_get (pc := 35) 5 fd_X2_43 (kdS hb) (ltS hb 0 (by decide)) (tgS hb 5 none rfl) rfl dX2_removeCoin_35 ?_
  refine v_top (b := (G b 5) - 1) ((upd2_i (by omega)).trans (upd2_s _ _ _ _)) ?_
  refine v_iald (pc := 38) (N := 40) (kdS_i hb 6 (by decide)) (lnS_40 hb 6 (by decide)) (ltS hb 6 (by decide)) (by omega) (by decide) dX2_removeCoin_38 ?_
  refine v_top (b := G (b + 6) ((G b 5) - 1)) ((upd2_i (by omega)).trans (upd2_i (by omega))) ?_
  refine v_iast (pc := 39) (N := 40) (kdS_i hb 6 (by decide)) (lnS_40 hb 6 (by decide)) (ltS hb 6 (by decide)) (by omega) (by decide) dX2_removeCoin_39 ?_
  refine v_aload_n (pc := 40) rfl dX2_removeCoin_40 ?_
  refine v_getR (pc := 41) (j := b + 7) fd_X2_30 (kdS hb) (ltS hb 0 (by decide)) (tgS hb 8 _ rfl) dX2_removeCoin_41 ?_
  refine v_iload_n (pc := 44) rfl dX2_removeCoin_44 ?_
  refine v_aload_n (pc := 45) rfl dX2_removeCoin_45 ?_
  refine v_getR (pc := 46) (j := b + 7) fd_X2_30 (kdS hb) (ltS hb 0 (by decide)) (tgS hb 8 _ rfl) dX2_removeCoin_46 ?_
  refine v_aload_n (pc := 49) rfl dX2_removeCoin_49 ?_
  refine v_get (pc := 50) 5 fd_X2_43 (kdS hb) (ltS hb 0 (by decide)) (tgS hb 5 none rfl) rfl dX2_removeCoin_50 ?_
  refine v_top (b := (G b 5) - 1) (((upd2_i (by omega)).trans (upd2_i (by omega))).trans (upd2_s _ _ _ _)) ?_
  refine v_iald (pc := 53) (N := 40) (kdS_i hb 7 (by decide)) (lnS_40 hb 7 (by decide)) (ltS hb 7 (by decide)) (by omega) (by decide) dX2_removeCoin_53 ?_
  refine v_top (b := G (b + 7) ((G b 5) - 1)) (((upd2_i (by omega)).trans (upd2_i (by omega))).trans (upd2_i (by omega))) ?_
  refine v_iast (pc := 54) (N := 40) (kdS_i hb 7 (by decide)) (lnS_40 hb 7 (by decide)) (ltS hb 7 (by decide)) (by omega) (by decide) dX2_removeCoin_54 ?_
  exact v_vret (pc := 55) E (⟨rfl, rfl⟩) (Nat.le_of_ble_eq_true rfl) (Nat.le_of_ble_eq_true rfl) dX2_removeCoin_55
set_option maxHeartbeats 4000000 in
set_option maxRecDepth 100000 in
theorem c_X2_grind {g : GT} {b : Nat} {G : Mem} (hb : isS b) (hI : StI G b) {d : Int} (hd : 0 ≤ d ∧ d < G b 0) : Ctr g yX2_grind cX2_grind 3 (some FieldType.int) (rmL 0 0 0) [vR g b, vI d] G (RM (G (b + 3) d) (upd2 G (b + 3) d 0)) NoX := by
  refine ctr_of [some (vR g b), some (vI d), none] (by decide) (Nat.le_of_ble_eq_true rfl) rfl (fun γ E => ?_)
  show V γ g cX2_grind 3 RX2 (rmL 0 0 0) G 0 0 0 [some (vR g b), some (vI d), none] []
  have hn := StI_n hI
  have hc := StI_c hI
  have hy := StI_y hI
  refine v_aload_n (pc := 0) rfl dX2_grind_0 ?_
  refine v_getR (pc := 1) (j := b + 3) fd_X2_18 (kdS hb) (ltS hb 0 (by decide)) (tgS hb 3 _ rfl) dX2_grind_1 ?_
  refine v_iload_n (pc := 4) rfl dX2_grind_4 ?_
  refine v_iald (pc := 5) (N := 5) (kdS_i hb 3 (by decide)) (lnS_5 hb 3 (by decide)) (ltS hb 3 (by decide)) (by omega) (by decide) dX2_grind_5 ?_
  have r1 := StI_d hI (i := d) (by omega) (by omega)
  refine v_istore_n (pc := 6) (by decide) rfl dX2_grind_6 ?_
  refine v_aload_n (pc := 7) rfl dX2_grind_7 ?_
  refine v_getR (pc := 8) (j := b + 3) fd_X2_18 (kdS hb) (ltS hb 0 (by decide)) (tgS hb 3 _ rfl) dX2_grind_8 ?_
  refine v_iload_n (pc := 11) rfl dX2_grind_11 ?_
  refine v_iconst (pc := 12) (z := 0) dX2_grind_12 ?_
  refine v_iast (pc := 13) (N := 5) (kdS_i hb 3 (by decide)) (lnS_5 hb 3 (by decide)) (ltS hb 3 (by decide)) (by omega) (by decide) dX2_grind_13 ?_
  refine v_iload_n (pc := 14) rfl dX2_grind_14 ?_
  exact v_iret (pc := 15) E (⟨rfl, rfl⟩) (Nat.le_of_ble_eq_true rfl) (Nat.le_of_ble_eq_true rfl) dX2_grind_15
set_option maxHeartbeats 4000000 in
set_option maxRecDepth 100000 in
theorem c_X2_putLeaves {g : GT} {b : Nat} {G : Mem} {z : Int} (hb : isS b) : Ctr g yX2_putLeaves cX2_putLeaves 2 (some FieldType.int) (rmL 0 0 0) [vR g b, vI z] G (RM (G b 9 + z) (ptL G b z)) NoX := by
  refine ctr_of [some (vR g b), some (vI z)] (by decide) (Nat.le_of_ble_eq_true rfl) rfl (fun γ E => ?_)
  show V γ g cX2_putLeaves 2 RX2 (rmL 0 0 0) G 0 0 0 [some (vR g b), some (vI z)] []
  refine v_aload_n (pc := 0) rfl dX2_putLeaves_0 ?_
  refine v_dup (pc := 1) rfl dX2_putLeaves_1 ?_
  refine v_get (pc := 2) 9 fd_X2_46 (kdS hb) (ltS hb 0 (by decide)) (tgS hb 9 none rfl) rfl dX2_putLeaves_2 ?_
  refine v_iload_n (pc := 5) rfl dX2_putLeaves_5 ?_
  refine v_iadd (pc := 6) dX2_putLeaves_6 ?_
  refine v_put (pc := 7) 9 pd_X2_46 (kdS hb) (ltS hb 0 (by decide)) (tgS hb 9 none rfl) rfl dX2_putLeaves_7 ?_
  refine v_aload_n (pc := 10) rfl dX2_putLeaves_10 ?_
  refine v_dup (pc := 11) rfl dX2_putLeaves_11 ?_
  refine v_get (pc := 12) 15 fd_X2_64 (kdS hb) (ltS hb 0 (by decide)) (tgS hb 15 none rfl) rfl dX2_putLeaves_12 ?_
  refine v_top (b := G b 15) (upd2_z (by decide)) ?_
  refine v_iload_n (pc := 15) rfl dX2_putLeaves_15 ?_
  refine v_iadd (pc := 16) dX2_putLeaves_16 ?_
  refine v_put (pc := 17) 15 pd_X2_64 (kdS hb) (ltS hb 0 (by decide)) (tgS hb 15 none rfl) rfl dX2_putLeaves_17 ?_
  refine v_aload_n (pc := 20) rfl dX2_putLeaves_20 ?_
  refine v_get (pc := 21) 9 fd_X2_46 (kdS hb) (ltS hb 0 (by decide)) (tgS hb 9 none rfl) rfl dX2_putLeaves_21 ?_
  refine v_top (b := (G b 9) + z) ((upd2_z (by decide)).trans (upd2_s _ _ _ _)) ?_
  exact v_iret (pc := 24) E (⟨rfl, rfl⟩) (Nat.le_of_ble_eq_true rfl) (Nat.le_of_ble_eq_true rfl) dX2_putLeaves_24
set_option maxHeartbeats 4000000 in
set_option maxRecDepth 100000 in
theorem c_X2_lowerAgedCoins {g : GT} {b : Nat} {G : Mem} (hb : isS b) (hI : StI G b) : Ctr g yX2_lowerAgedCoins cX2_lowerAgedCoins 4 (some FieldType.int) (rmL 0 0 0) [vR g b] G (RP (fun r G' => r = sz (G b 5) (fun k => lwr1 (G b 10) (G (b + 6) k) (G (b + 7) k)) ∧ (∀ k, 0 ≤ k → k < G b 5 → G' (b + 7) k = G (b + 7) k + lwr1 (G b 10) (G (b + 6) k) (G (b + 7) k)) ∧ ∀ i z, i ≠ b + 7 → G' i z = G i z)) NoX := by
  refine ctr_of [some (vR g b), none, none, none] (by decide) (Nat.le_of_ble_eq_true rfl) rfl (fun γ E => ?_)
  show V γ g cX2_lowerAgedCoins 4 RX2 (rmL 0 0 0) G 0 0 0 [some (vR g b), none, none, none] []
  have hn := StI_n hI
  have hc := StI_c hI
  have hy := StI_y hI
  refine v_iconst (pc := 0) (z := 0) dX2_lowerAgedCoins_0 ?_
  refine v_istore_n (pc := 1) (by decide) rfl dX2_lowerAgedCoins_1 ?_
  refine v_iconst (pc := 2) (z := 0) dX2_lowerAgedCoins_2 ?_
  refine v_istore_n (pc := 3) (by decide) rfl dX2_lowerAgedCoins_3 ?_
  have lp4 : ∀ (m : Nat) (i : Int) (c : Int) (G1 : Mem), (0 ≤ i ∧ i ≤ G b 5) → (c = sz i (fun k => lwr1 (G b 10) (G (b + 6) k) (G (b + 7) k))) → (∀ j z, j ≠ b + 7 → G1 j z = G j z) → (∀ k, 0 ≤ k → k < i → G1 (b + 7) k = G (b + 7) k + lwr1 (G b 10) (G (b + 6) k) (G (b + 7) k)) → (∀ k, i ≤ k → G1 (b + 7) k = G (b + 7) k) → ((G b 5 - i).toNat) < m → V γ g cX2_lowerAgedCoins 4 RX2 (rmL 0 0 0) G1 0 0 4 [some (vR g b), some (vI c), some (vI i), none] [] := by
    intro m
    induction m with
    | zero => intro i c G1; intros; omega
    | succ m ih =>
      intro i c G1 h0 hs hG hlo hhi hm
      have e5 := hG b 5 (by omega)
      have e10 := hG b 10 (by omega)
      have e0 := hG b 0 (by omega)
      refine v_iload_n (pc := 4) rfl dX2_lowerAgedCoins_4 ?_
      refine v_aload_n (pc := 5) rfl dX2_lowerAgedCoins_5 ?_
      refine v_get (pc := 6) 5 fd_X2_43 (kdS hb) (ltS hb 0 (by decide)) (tgS hb 5 none rfl) rfl dX2_lowerAgedCoins_6 ?_
      refine v_icmp_ge (pc := 9) (tgt := 64) (by omega) dX2_lowerAgedCoins_9 (by decide) (fun h1 => ?_) (fun h1 => ?_)
      · skip
        refine v_iload_n (pc := 64) rfl dX2_lowerAgedCoins_64 ?_
        exact v_iret (pc := 65) E (⟨c, rfl, by rw [hs, show i = G b 5 by omega], fun k a c => hlo k a (by omega), hG⟩) (Nat.le_of_ble_eq_true rfl) (Nat.le_of_ble_eq_true rfl) dX2_lowerAgedCoins_65
      · skip
        have q1 := StI_k hI (k := i) (by omega) (by omega)
        refine v_aload_n (pc := 12) rfl dX2_lowerAgedCoins_12 ?_
        refine v_get (pc := 13) 10 fd_X2_49 (kdS hb) (ltS hb 0 (by decide)) (tgS hb 10 none rfl) rfl dX2_lowerAgedCoins_13 ?_
        refine v_aload_n (pc := 16) rfl dX2_lowerAgedCoins_16 ?_
        refine v_getR (pc := 17) (j := b + 6) fd_X2_27 (kdS hb) (ltS hb 0 (by decide)) (tgS hb 7 _ rfl) dX2_lowerAgedCoins_17 ?_
        refine v_iload_n (pc := 20) rfl dX2_lowerAgedCoins_20 ?_
        refine v_iald (pc := 21) (N := 40) (kdS_i hb 6 (by decide)) (lnS_40 hb 6 (by decide)) (ltS hb 6 (by decide)) (by omega) (by decide) dX2_lowerAgedCoins_21 ?_
        have r2 := (hG (b + 6) i (by omega))
        refine v_isub (pc := 22) dX2_lowerAgedCoins_22 ?_
        refine v_istore_n (pc := 23) (by decide) rfl dX2_lowerAgedCoins_23 ?_
        refine v_iload_n (pc := 24) rfl dX2_lowerAgedCoins_24 ?_
        refine v_iconst (pc := 25) (z := 5) dX2_lowerAgedCoins_25 ?_
        refine v_icmp_eq (pc := 26) (tgt := 35) (by omega) dX2_lowerAgedCoins_26 (by decide) (fun h3 => ?_) (fun h3 => ?_)
        · skip
          refine v_aload_n (pc := 35) rfl dX2_lowerAgedCoins_35 ?_
          refine v_getR (pc := 36) (j := b + 7) fd_X2_30 (kdS hb) (ltS hb 0 (by decide)) (tgS hb 8 _ rfl) dX2_lowerAgedCoins_36 ?_
          refine v_iload_n (pc := 39) rfl dX2_lowerAgedCoins_39 ?_
          refine v_iald (pc := 40) (N := 40) (kdS_i hb 7 (by decide)) (lnS_40 hb 7 (by decide)) (ltS hb 7 (by decide)) (by omega) (by decide) dX2_lowerAgedCoins_40 ?_
          have r4 := hhi i (by omega)
          refine v_iconst (pc := 41) (z := 2) dX2_lowerAgedCoins_41 ?_
          refine v_icmp_eq (pc := 42) (tgt := 58) (by omega) dX2_lowerAgedCoins_42 (by decide) (fun h5 => ?_) (fun h5 => ?_)
          · skip
            refine v_iinc (pc := 58) (y := 1) rfl (by decide) rfl dX2_lowerAgedCoins_58 ?_
            refine v_goto (pc := 61) (tgt := 4) dX2_lowerAgedCoins_61 (by decide) ?_
            refine v_loc (L' := [some (vR g b), some (vI c), some (vI (i + 1)), none]) (⟨rfl, rfl, rfl, trivial⟩) ?_
            exact ih (i + 1) c G1 (by omega) (by rw [sz_s (by omega)]; unfold lwr1; first | (rw [if_pos (by omega)]; unfold lwr1 at hs; omega) | (rw [if_neg (by omega)]; unfold lwr1 at hs; omega)) hG (fun k a c => (Classical.em (k = i)).elim (fun e => by subst e; rw [hhi _ (by omega)]; unfold lwr1; rw [if_neg (by omega)]; omega) (fun e => (hlo k a (by omega)))) (fun k a => (hhi k (by omega))) (by omega)
          · skip
            refine v_aload_n (pc := 45) rfl dX2_lowerAgedCoins_45 ?_
            refine v_getR (pc := 46) (j := b + 7) fd_X2_30 (kdS hb) (ltS hb 0 (by decide)) (tgS hb 8 _ rfl) dX2_lowerAgedCoins_46 ?_
            refine v_iload_n (pc := 49) rfl dX2_lowerAgedCoins_49 ?_
            refine v_dup2 (pc := 50) rfl rfl dX2_lowerAgedCoins_50 ?_
            refine v_iald (pc := 51) (N := 40) (kdS_i hb 7 (by decide)) (lnS_40 hb 7 (by decide)) (ltS hb 7 (by decide)) (by omega) (by decide) dX2_lowerAgedCoins_51 ?_
            have r6 := hhi i (by omega)
            refine v_iconst (pc := 52) (z := 1) dX2_lowerAgedCoins_52 ?_
            refine v_iadd (pc := 53) dX2_lowerAgedCoins_53 ?_
            refine v_iast (pc := 54) (N := 40) (kdS_i hb 7 (by decide)) (lnS_40 hb 7 (by decide)) (ltS hb 7 (by decide)) (by omega) (by decide) dX2_lowerAgedCoins_54 ?_
            refine v_iinc (pc := 55) (y := 1) rfl (by decide) rfl dX2_lowerAgedCoins_55 ?_
            refine v_iinc (pc := 58) (y := 1) rfl (by decide) rfl dX2_lowerAgedCoins_58 ?_
            refine v_goto (pc := 61) (tgt := 4) dX2_lowerAgedCoins_61 (by decide) ?_
            refine v_loc (L' := [some (vR g b), some (vI (c + 1)), some (vI (i + 1)), none]) (⟨rfl, rfl, rfl, trivial⟩) ?_
            exact ih (i + 1) (c + 1) (upd2 G1 (b + 7) i ((G1 (b + 7) i) + 1)) (by omega) (by rw [sz_s (by omega)]; unfold lwr1; first | (rw [if_pos (by omega)]; unfold lwr1 at hs; omega) | (rw [if_neg (by omega)]; unfold lwr1 at hs; omega)) (fun j z hj => (upd2_i hj).trans (hG j z hj)) (fun k a c => (Classical.em (k = i)).elim (fun e => by subst e; rw [upd2_s, hhi _ (by omega)]; unfold lwr1; rw [if_pos (by omega)]) (fun e => (upd2_z e).trans (hlo k a (by omega)))) (fun k a => (upd2_z (by omega)).trans (hhi k (by omega))) (by omega)
        · skip
          refine v_iload_n (pc := 29) rfl dX2_lowerAgedCoins_29 ?_
          refine v_bipush (pc := 30) (z := 10) rfl dX2_lowerAgedCoins_30 ?_
          refine v_icmp_ne (pc := 32) (tgt := 58) (by omega) dX2_lowerAgedCoins_32 (by decide) (fun h7 => ?_) (fun h7 => ?_)
          · skip
            refine v_iinc (pc := 58) (y := 1) rfl (by decide) rfl dX2_lowerAgedCoins_58 ?_
            refine v_goto (pc := 61) (tgt := 4) dX2_lowerAgedCoins_61 (by decide) ?_
            refine v_loc (L' := [some (vR g b), some (vI c), some (vI (i + 1)), none]) (⟨rfl, rfl, rfl, trivial⟩) ?_
            exact ih (i + 1) c G1 (by omega) (by rw [sz_s (by omega)]; unfold lwr1; first | (rw [if_pos (by omega)]; unfold lwr1 at hs; omega) | (rw [if_neg (by omega)]; unfold lwr1 at hs; omega)) hG (fun k a c => (Classical.em (k = i)).elim (fun e => by subst e; rw [hhi _ (by omega)]; unfold lwr1; rw [if_neg (by omega)]; omega) (fun e => (hlo k a (by omega)))) (fun k a => (hhi k (by omega))) (by omega)
          · skip
            refine v_aload_n (pc := 35) rfl dX2_lowerAgedCoins_35 ?_
            refine v_getR (pc := 36) (j := b + 7) fd_X2_30 (kdS hb) (ltS hb 0 (by decide)) (tgS hb 8 _ rfl) dX2_lowerAgedCoins_36 ?_
            refine v_iload_n (pc := 39) rfl dX2_lowerAgedCoins_39 ?_
            refine v_iald (pc := 40) (N := 40) (kdS_i hb 7 (by decide)) (lnS_40 hb 7 (by decide)) (ltS hb 7 (by decide)) (by omega) (by decide) dX2_lowerAgedCoins_40 ?_
            have r8 := hhi i (by omega)
            refine v_iconst (pc := 41) (z := 2) dX2_lowerAgedCoins_41 ?_
            refine v_icmp_eq (pc := 42) (tgt := 58) (by omega) dX2_lowerAgedCoins_42 (by decide) (fun h9 => ?_) (fun h9 => ?_)
            · skip
              refine v_iinc (pc := 58) (y := 1) rfl (by decide) rfl dX2_lowerAgedCoins_58 ?_
              refine v_goto (pc := 61) (tgt := 4) dX2_lowerAgedCoins_61 (by decide) ?_
              refine v_loc (L' := [some (vR g b), some (vI c), some (vI (i + 1)), none]) (⟨rfl, rfl, rfl, trivial⟩) ?_
              exact ih (i + 1) c G1 (by omega) (by rw [sz_s (by omega)]; unfold lwr1; first | (rw [if_pos (by omega)]; unfold lwr1 at hs; omega) | (rw [if_neg (by omega)]; unfold lwr1 at hs; omega)) hG (fun k a c => (Classical.em (k = i)).elim (fun e => by subst e; rw [hhi _ (by omega)]; unfold lwr1; rw [if_neg (by omega)]; omega) (fun e => (hlo k a (by omega)))) (fun k a => (hhi k (by omega))) (by omega)
            · skip
              refine v_aload_n (pc := 45) rfl dX2_lowerAgedCoins_45 ?_
              refine v_getR (pc := 46) (j := b + 7) fd_X2_30 (kdS hb) (ltS hb 0 (by decide)) (tgS hb 8 _ rfl) dX2_lowerAgedCoins_46 ?_
              refine v_iload_n (pc := 49) rfl dX2_lowerAgedCoins_49 ?_
              refine v_dup2 (pc := 50) rfl rfl dX2_lowerAgedCoins_50 ?_
              refine v_iald (pc := 51) (N := 40) (kdS_i hb 7 (by decide)) (lnS_40 hb 7 (by decide)) (ltS hb 7 (by decide)) (by omega) (by decide) dX2_lowerAgedCoins_51 ?_
              have r10 := hhi i (by omega)
              refine v_iconst (pc := 52) (z := 1) dX2_lowerAgedCoins_52 ?_
              refine v_iadd (pc := 53) dX2_lowerAgedCoins_53 ?_
              refine v_iast (pc := 54) (N := 40) (kdS_i hb 7 (by decide)) (lnS_40 hb 7 (by decide)) (ltS hb 7 (by decide)) (by omega) (by decide) dX2_lowerAgedCoins_54 ?_
              refine v_iinc (pc := 55) (y := 1) rfl (by decide) rfl dX2_lowerAgedCoins_55 ?_
              refine v_iinc (pc := 58) (y := 1) rfl (by decide) rfl dX2_lowerAgedCoins_58 ?_
              refine v_goto (pc := 61) (tgt := 4) dX2_lowerAgedCoins_61 (by decide) ?_
              refine v_loc (L' := [some (vR g b), some (vI (c + 1)), some (vI (i + 1)), none]) (⟨rfl, rfl, rfl, trivial⟩) ?_
              exact ih (i + 1) (c + 1) (upd2 G1 (b + 7) i ((G1 (b + 7) i) + 1)) (by omega) (by rw [sz_s (by omega)]; unfold lwr1; first | (rw [if_pos (by omega)]; unfold lwr1 at hs; omega) | (rw [if_neg (by omega)]; unfold lwr1 at hs; omega)) (fun j z hj => (upd2_i hj).trans (hG j z hj)) (fun k a c => (Classical.em (k = i)).elim (fun e => by subst e; rw [upd2_s, hhi _ (by omega)]; unfold lwr1; rw [if_pos (by omega)]) (fun e => (upd2_z e).trans (hlo k a (by omega)))) (fun k a => (upd2_z (by omega)).trans (hhi k (by omega))) (by omega)
  refine v_loc (L' := [some (vR g b), some (vI 0), some (vI 0), none]) (⟨rfl, rfl, rfl, trivial⟩) ?_
  exact lp4 _ 0 0 G (by omega) rfl (fun _ _ _ => rfl) (fun k a c => absurd c (by omega)) (fun _ _ => rfl) (Nat.lt_succ_self _)
