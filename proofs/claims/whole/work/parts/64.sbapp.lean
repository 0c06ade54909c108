-- the builder: appending, how long it is, its signs
def BTs (t : Tx) (cap : Nat) (cnt : Int) (bf : Nat → Int32) : Prop := cnt = t.1 ∧ (0 ≤ t.1 ∧ t.1 ≤ (cap : Int) ∧ cap ≤ 65536) ∧ sb_Fit bf ∧ ∀ j : Nat, (j : Int) < t.1 → 0 ≤ t.2 j ∧ t.2 j < 256 ∧ bf j = sb_b (t.2 j).toNat
/-- the builder's world holds a text -/
def BT (t : Tx) (B : Bw) : Prop := B.2.2.2.2.2 = [] ∧ BTs t B.2.1 B.2.2.2.1 B.2.2.2.2.1
theorem BTs_c {t : Tx} {cap c9 : Nat} {cnt c : Int} {bf f9 : Nat → Int32} (h : BTs t cap cnt bf) (hc : cnt + 1 ≤ (c9 : Int) ∧ c9 ≤ 65536) (hf : sb_Fit f9) (hk : ∀ j : Nat, j < cap → f9 j = bf j) (h_c : 0 ≤ c ∧ c < 256) : BTs (tc t c) c9 (cnt + 1) (upd f9 cnt.toNat (sb_b c.toNat)) := by
  obtain ⟨e1, e2, e3, e4⟩ := h
  refine ⟨by rw [tc_n, e1], by rw [tc_n]; omega, fit_u hf, fun j hj => ?_⟩
  rw [tc_n] at hj
  show 0 ≤ (if (j : Int) = t.1 then c else t.2 j) ∧ (if (j : Int) = t.1 then c else t.2 j) < 256 ∧ (if j = cnt.toNat then sb_b c.toNat else f9 j) = sb_b (if (j : Int) = t.1 then c else t.2 j).toNat
  by_cases q : (j : Int) = t.1
  · rw [if_pos q, if_pos (by omega)]
    exact ⟨h_c.1, h_c.2, rfl⟩
  · rw [if_neg q, if_neg (by omega), hk j (by omega)]
    exact e4 j (by omega)
theorem BTs_m {t : Tx} {cap c9 : Nat} {cnt : Int} {bf f9 : Nat → Int32} (h : BTs t cap cnt bf) (hc : t.1 ≤ (c9 : Int) ∧ c9 ≤ 65536) (hf : sb_Fit f9) (hk : ∀ j : Nat, (j : Int) < t.1 → f9 j = bf j) : BTs t c9 cnt f9 := by
  obtain ⟨e1, e2, e3, e4⟩ := h
  exact ⟨e1, ⟨e2.1, hc.1, hc.2⟩, hf, fun j hj => by rw [hk j hj]; exact e4 j hj⟩
theorem BTs_0 {c9 : Nat} {f9 : Nat → Int32} (hc : c9 ≤ 65536) (hf : sb_Fit f9) : BTs t0 c9 0 f9 := ⟨rfl, by show (0 : Int) ≤ 0 ∧ (0 : Int) ≤ (c9 : Int) ∧ c9 ≤ 65536; omega, hf, fun j hj => by
  have : (j : Int) < 0 := hj
  omega⟩
theorem upd_cm {f : Nat → Int32} {i j : Nat} {x y : Int32} (h : i ≠ j) : upd (upd f i x) j y = upd (upd f j y) i x := by
  funext k
  show (if k = j then y else if k = i then x else f k) = (if k = i then x else if k = j then y else f k)
  by_cases q : k = i
  · rw [if_neg (by omega), if_pos q, if_pos q]
  · rw [if_neg q, if_neg q]
/-- one number's signs, written from the end on -/
theorem BTs_1 {t : Tx} {cap c9 : Nat} {cnt v p : Int} {bf f9 : Nat → Int32} (h : BTs t cap cnt bf) (hc : cnt + 1 ≤ (c9 : Int) ∧ c9 ≤ 65536) (hf : sb_Fit f9) (hk : ∀ j : Nat, j < cap → f9 j = bf j) (hv : 0 ≤ v ∧ v < 10) (hp : p = cnt) : BTs (tnum t v) c9 (cnt + 1) (upd f9 p.toNat (Int32.ofInt (48 + v % 10))) := by
  subst hp
  unfold tnum
  rw [if_pos hv.2, sb_d (by omega), show v % 10 = v by omega]
  exact BTs_c h hc hf hk (by omega)
theorem BTs_2 {t : Tx} {cap c9 : Nat} {cnt v p r : Int} {bf f9 : Nat → Int32} (h : BTs t cap cnt bf) (hc : cnt + 2 ≤ (c9 : Int) ∧ c9 ≤ 65536) (hf : sb_Fit f9) (hk : ∀ j : Nat, j < cap → f9 j = bf j) (hv : 10 ≤ v ∧ v < 100) (hp : p = cnt) (hr : r = cnt + 1) : BTs (tnum t v) c9 (cnt + 2) (upd (upd f9 r.toNat (Int32.ofInt (48 + v % 10))) p.toNat (Int32.ofInt (48 + v / 10))) := by
  subst hp hr
  have h0 : 0 ≤ p := by rw [h.1]; exact h.2.1.1
  unfold tnum
  rw [if_neg (by omega), sb_d (by omega), sb_d (by omega), upd_cm (by omega), show p + 2 = p + 1 + 1 by omega]
  exact BTs_c (BTs_c h (c9 := c9) (by omega) hf hk (by omega)) (by omega) (fit_u hf) (fun _ _ => rfl) (by omega)
section USI
variable {γ : gT} {g : GT} {A : Nat → Prop} {cc : ByteArray} {nL idx : Nat} {rm : Room} {B : Bw} {k n : Nat} {pc : Nat} {L : List (Option Value)} {st : List Value}
theorem u_si (d : decode cc pc = .ok (.getstatic 1053, 3)) (k0 : UV γ g A cc nL RJ0 rm B k n (pc + 3) L (.null :: st)) (k1 : ∀ t, UV γ g A cc nL RJ0 rm B k n (pc + 3) L (.ref t :: st)) : UV γ g A cc nL RJ0 rm B k n pc L st := by
  obtain ⟨p, l, e, R, s, m, args, below, meth, c0, Q⟩ := γ
  intro C H locs ls hP hS hL
  have hG : Gc g s s.heap := C.2.2.2.2.2.2.1
  have hA := C.2.2.2.2.2.2.2.2.2.2
  rcases hG.2.2.2.2.1.2.2.2.2.2.2.1 with h | ⟨t, h⟩
  · exact va_gets C.1 C.2.1 (h.narrow hA) hS C.2.2.2.1 (C.2.2.2.2.1 _ wF_J0_1053) (fun x h => h) d (k0 C H locs ls hP hS hL)
  · exact va_gets C.1 C.2.1 (h.narrow hA) hS C.2.2.2.1 (C.2.2.2.2.1 _ wF_J0_1053) (fun x h => h) d (k1 t C H locs ls hP hS hL)
end USI

theorem pok_J5_append_3fe6f : POk yJ5_append_3fe6f cJ5_append_3fe6f 2 (some (FieldType.object "java/lang/AbstractStringBuilder")) 1 := ⟨wC_J5_append_3fe6f, rfl, ⟨by decide, by decide +kernel⟩, wI_J5_append_3fe6f, by decide +kernel⟩
theorem pok_J5_append_c97b9 : POk yJ5_append_c97b9 cJ5_append_c97b9 4 (some (FieldType.object "java/lang/AbstractStringBuilder")) 1 := ⟨wC_J5_append_c97b9, rfl, ⟨by decide, by decide +kernel⟩, wI_J5_append_c97b9, by decide +kernel⟩
theorem pok_J5_setLength_d00df : POk yJ5_setLength_d00df cJ5_setLength_d00df 2 (none : Option FieldType) 1 := ⟨wC_J5_setLength_d00df, rfl, ⟨by decide, by decide +kernel⟩, wI_J5_setLength_d00df, by decide +kernel⟩
theorem pok_J5_length_8abf5 : POk yJ5_length_8abf5 cJ5_length_8abf5 1 (some FieldType.int) 0 := ⟨wC_J5_length_8abf5, rfl, ⟨by decide, by decide +kernel⟩, wI_J5_length_8abf5, by decide +kernel⟩
theorem pok_J5_charAt_5068e : POk yJ5_charAt_5068e cJ5_charAt_5068e 5 (some FieldType.char) 1 := ⟨wC_J5_charAt_5068e, rfl, ⟨by decide, by decide +kernel⟩, wI_J5_charAt_5068e, by decide +kernel⟩
set_option maxHeartbeats 4000000 in
set_option maxRecDepth 100000 in
theorem b_J6_stringSize_0f7a4 {g : GT} {A : Nat → Prop} {q cap : Nat} {ml : Int32} {cnt : Int} {bf : Nat → Int32} {v : Int} (h_v : 0 ≤ v ∧ v < 100) : CtrU g A yJ6_stringSize_0f7a4 cJ6_stringSize_0f7a4 4 (some FieldType.int) (rmL 0 0 0) [vI v] (q, cap, ml, cnt, bf, []) (RU (if v < 10 then 1 else 2) (q, cap, ml, cnt, bf, [])) := by
  refine ctrU_of [some (vI v), none, none, none] (by decide) (Nat.le_of_ble_eq_true rfl) rfl (fun γ E => ?_)
  show UV γ g A cJ6_stringSize_0f7a4 4 RJ6 (rmL 0 0 0) (q, cap, ml, cnt, bf, []) 0 0 0 [some (vI v), none, none, none] []
  refine u_iconst (pc := 0) (z := 1) dJ6_stringSize_0f7a4_0 ?_
  refine u_istore_n (pc := 1) (by decide) rfl dJ6_stringSize_0f7a4_1 ?_
  refine u_iload_n (pc := 2) rfl dJ6_stringSize_0f7a4_2 ?_
  refine u_if_lt (pc := 3) (tgt := 11) (by omega) dJ6_stringSize_0f7a4_3 (by decide) (fun bq1 => ?_) (fun bq1 => ?_)
  · skip
    exfalso; omega
  · skip
    refine u_iconst (pc := 6) (z := 0) dJ6_stringSize_0f7a4_6 ?_
    refine u_istore_n (pc := 7) (by decide) rfl dJ6_stringSize_0f7a4_7 ?_
    refine u_iload_n (pc := 8) rfl dJ6_stringSize_0f7a4_8 ?_
    refine u_ineg (pc := 9) dJ6_stringSize_0f7a4_9 ?_
    refine u_istore_n (pc := 10) (by decide) rfl dJ6_stringSize_0f7a4_10 ?_
    refine u_bipush (pc := 11) (z := (-10)) rfl dJ6_stringSize_0f7a4_11 ?_
    refine u_istore_n (pc := 13) (by decide) rfl dJ6_stringSize_0f7a4_13 ?_
    refine u_iconst (pc := 14) (z := 1) dJ6_stringSize_0f7a4_14 ?_
    refine u_istore_n (pc := 15) (by decide) rfl dJ6_stringSize_0f7a4_15 ?_
    refine u_iload_n (pc := 16) rfl dJ6_stringSize_0f7a4_16 ?_
    refine u_bipush (pc := 17) (z := 10) rfl dJ6_stringSize_0f7a4_17 ?_
    refine u_icmp_ge (pc := 19) (tgt := 42) (by omega) dJ6_stringSize_0f7a4_19 (by decide) (fun bq2 => absurd bq2 (by decide)) (fun _ => ?_)
    refine u_iload_n (pc := 22) rfl dJ6_stringSize_0f7a4_22 ?_
    refine u_iload_n (pc := 23) rfl dJ6_stringSize_0f7a4_23 ?_
    refine u_icmp_le (pc := 24) (tgt := 31) (by omega) dJ6_stringSize_0f7a4_24 (by decide) (fun bq3 => ?_) (fun bq3 => ?_)
    · skip
      refine u_bipush (pc := 31) (z := 10) rfl dJ6_stringSize_0f7a4_31 ?_
      refine u_iload_n (pc := 33) rfl dJ6_stringSize_0f7a4_33 ?_
      refine u_imul (pc := 34) dJ6_stringSize_0f7a4_34 ?_
      refine u_istore_n (pc := 35) (by decide) rfl dJ6_stringSize_0f7a4_35 ?_
      refine u_iinc (pc := 36) (y := 1) rfl (by decide) rfl dJ6_stringSize_0f7a4_36 ?_
      refine u_goto (pc := 39) (tgt := 16) dJ6_stringSize_0f7a4_39 (by decide) ?_
      refine u_iload_n (pc := 16) rfl dJ6_stringSize_0f7a4_16 ?_
      refine u_bipush (pc := 17) (z := 10) rfl dJ6_stringSize_0f7a4_17 ?_
      refine u_icmp_ge (pc := 19) (tgt := 42) (by omega) dJ6_stringSize_0f7a4_19 (by decide) (fun bq4 => ?_) (fun bq4 => ?_)
      · skip
        exfalso; omega
      · skip
        refine u_iload_n (pc := 22) rfl dJ6_stringSize_0f7a4_22 ?_
        refine u_iload_n (pc := 23) rfl dJ6_stringSize_0f7a4_23 ?_
        refine u_icmp_le (pc := 24) (tgt := 31) (by omega) dJ6_stringSize_0f7a4_24 (by decide) (fun bq5 => ?_) (fun bq5 => ?_)
        · skip
          exfalso; omega
        · skip
          refine u_iload_n (pc := 27) rfl dJ6_stringSize_0f7a4_27 ?_
          refine u_iload_n (pc := 28) rfl dJ6_stringSize_0f7a4_28 ?_
          refine u_iadd (pc := 29) dJ6_stringSize_0f7a4_29 ?_
          exact u_iret (pc := 30) E (⟨by rw [if_neg (by omega)]; rfl, rfl⟩) (Nat.le_of_ble_eq_true rfl) (Nat.le_of_ble_eq_true rfl) dJ6_stringSize_0f7a4_30
    · skip
      refine u_iload_n (pc := 27) rfl dJ6_stringSize_0f7a4_27 ?_
      refine u_iload_n (pc := 28) rfl dJ6_stringSize_0f7a4_28 ?_
      refine u_iadd (pc := 29) dJ6_stringSize_0f7a4_29 ?_
      exact u_iret (pc := 30) E (⟨by rw [if_pos (by omega)]; rfl, rfl⟩) (Nat.le_of_ble_eq_true rfl) (Nat.le_of_ble_eq_true rfl) dJ6_stringSize_0f7a4_30
set_option maxHeartbeats 4000000 in
set_option maxRecDepth 100000 in
theorem b_J6_getChars_ba4f3 {g : GT} {A : Nat → Prop} {q cap : Nat} {ml : Int32} {cnt : Int} {bf : Nat → Int32} {v p : Int} (h_v : 0 ≤ v ∧ v < 100) (h_p : (if v < 10 then 1 else 2) ≤ p ∧ p ≤ (cap : Int)) (hc : cap ≤ 65536) : CtrU g A yJ6_getChars_ba4f3 cJ6_getChars_ba4f3 7 (some FieldType.int) (rmL 0 0 0) [vI v, vI p, .ref q] (q, cap, ml, cnt, bf, []) (fun v9 B9 => (∃ z9, v9 = some (vI z9)) ∧ ((v < 10 ∧ B9 = (q, cap, ml, cnt, upd bf (p + (-1)).toNat (Int32.ofInt (48 + v % 10)), [])) ∨ (10 ≤ v ∧ B9 = (q, cap, ml, cnt, upd (upd bf (p + (-1)).toNat (Int32.ofInt (48 + v % 10))) (p + (-1) + (-1)).toNat (Int32.ofInt (48 + v / 10)), [])))) := by
  refine ctrU_of [some (vI v), some (vI p), some (.ref q), none, none, none, none] (by decide) (Nat.le_of_ble_eq_true rfl) rfl (fun γ E => ?_)
  show UV γ g A cJ6_getChars_ba4f3 7 RJ6 (rmL 0 0 0) (q, cap, ml, cnt, bf, []) 0 0 0 [some (vI v), some (vI p), some (.ref q), none, none, none, none] []
  have hp1 : 1 ≤ p := by have := h_p.1; split at this <;> omega
  have hp2 : 10 ≤ v → 2 ≤ p := fun z => by have := h_p.1; rw [if_neg (by omega)] at this; exact this
  refine u_iload_n (pc := 0) rfl dJ6_getChars_ba4f3_0 ?_
  refine u_istore (pc := 1) (by decide) rfl dJ6_getChars_ba4f3_1 ?_
  refine u_iload_n (pc := 3) rfl dJ6_getChars_ba4f3_3 ?_
  refine u_if_ge (pc := 4) (tgt := 11) (by omega) dJ6_getChars_ba4f3_4 (by decide) (fun bq1 => ?_) (fun bq1 => ?_)
  · skip
    refine u_iconst (pc := 11) (z := 0) dJ6_getChars_ba4f3_11 ?_
    refine u_istore (pc := 12) (by decide) rfl dJ6_getChars_ba4f3_12 ?_
    refine u_iload (pc := 14) rfl dJ6_getChars_ba4f3_14 ?_
    refine u_if_ne (pc := 16) (tgt := 22) (by omega) dJ6_getChars_ba4f3_16 (by decide) (fun bq2 => absurd bq2 (by decide)) (fun _ => ?_)
    refine u_iload_n (pc := 19) rfl dJ6_getChars_ba4f3_19 ?_
    refine u_ineg (pc := 20) dJ6_getChars_ba4f3_20 ?_
    refine u_istore_n (pc := 21) (by decide) rfl dJ6_getChars_ba4f3_21 ?_
    refine u_iload_n (pc := 22) rfl dJ6_getChars_ba4f3_22 ?_
    refine u_bipush (pc := 23) (z := (-100)) rfl dJ6_getChars_ba4f3_23 ?_
    refine u_icmp_gt (pc := 25) (tgt := 72) (by omega) dJ6_getChars_ba4f3_25 (by decide) (fun bq3 => ?_) (fun bq3 => ?_)
    · skip
      refine u_aload_n (pc := 72) rfl dJ6_getChars_ba4f3_72 ?_
      refine u_iinc (pc := 73) (y := (-1)) rfl (by decide) rfl dJ6_getChars_ba4f3_73 ?_
      refine u_iload (pc := 76) rfl dJ6_getChars_ba4f3_76 ?_
      refine u_ones (pc := 78) (pc2 := 0) (z := v) (by omega) wF_J6_83 dJ6_getChars_ba4f3_78 (fun t9_78 ht9_78 => ?_)
      refine u_iload_n (pc := 81) rfl dJ6_getChars_ba4f3_81 ?_
      refine u_ineg (pc := 82) dJ6_getChars_ba4f3_82 ?_
      refine u_top (b := v) (by omega) ?_
      refine ht9_78 _ _ 83 dJ6_getChars_ba4f3_83 ?_
      refine u_bast (pc := 84) (v := Int32.ofInt (48 + v % 10)) (by dsimp only; omega) (by dsimp only; omega) (nar_b (by omega)) dJ6_getChars_ba4f3_84 ?_
      refine u_B (B1 := (q, cap, ml, cnt, (upd bf (p + (-1)).toNat (Int32.ofInt (48 + v % 10))), [])) rfl ?_
      refine u_iload_n (pc := 85) rfl dJ6_getChars_ba4f3_85 ?_
      refine u_bipush (pc := 86) (z := (-9)) rfl dJ6_getChars_ba4f3_86 ?_
      refine u_icmp_ge (pc := 88) (tgt := 104) (by omega) dJ6_getChars_ba4f3_88 (by decide) (fun bq4 => ?_) (fun bq4 => ?_)
      · skip
        refine u_iload (pc := 104) rfl dJ6_getChars_ba4f3_104 ?_
        refine u_if_eq (pc := 106) (tgt := 118) (by omega) dJ6_getChars_ba4f3_106 (by decide) (fun _ => ?_) (fun bq5 => absurd bq5 (by decide))
        refine u_iload (pc := 118) rfl dJ6_getChars_ba4f3_118 ?_
        exact u_iret (pc := 120) E (⟨⟨_, rfl⟩, Or.inl ⟨by omega, rfl⟩⟩) (Nat.le_of_ble_eq_true rfl) (Nat.le_of_ble_eq_true rfl) dJ6_getChars_ba4f3_120
      · skip
        refine u_aload_n (pc := 91) rfl dJ6_getChars_ba4f3_91 ?_
        refine u_iinc (pc := 92) (y := (-1)) rfl (by decide) rfl dJ6_getChars_ba4f3_92 ?_
        refine u_iload (pc := 95) rfl dJ6_getChars_ba4f3_95 ?_
        refine u_tens (pc := 97) (z := v) (by omega) wF_J6_87 dJ6_getChars_ba4f3_97 (fun t9_97 ht9_97 => ?_)
        refine u_iload_n (pc := 100) rfl dJ6_getChars_ba4f3_100 ?_
        refine u_ineg (pc := 101) dJ6_getChars_ba4f3_101 ?_
        refine u_top (b := v) (by omega) ?_
        refine ht9_97 _ _ 102 dJ6_getChars_ba4f3_102 ?_
        refine u_bast (pc := 103) (v := Int32.ofInt (48 + v / 10)) (by dsimp only; omega) (by dsimp only; omega) (nar_b (by omega)) dJ6_getChars_ba4f3_103 ?_
        refine u_B (B1 := (q, cap, ml, cnt, (upd (upd bf (p + (-1)).toNat (Int32.ofInt (48 + v % 10))) ((p + (-1)) + (-1)).toNat (Int32.ofInt (48 + v / 10))), [])) rfl ?_
        refine u_iload (pc := 104) rfl dJ6_getChars_ba4f3_104 ?_
        refine u_if_eq (pc := 106) (tgt := 118) (by omega) dJ6_getChars_ba4f3_106 (by decide) (fun _ => ?_) (fun bq6 => absurd bq6 (by decide))
        refine u_iload (pc := 118) rfl dJ6_getChars_ba4f3_118 ?_
        exact u_iret (pc := 120) E (⟨⟨_, rfl⟩, Or.inr ⟨by omega, rfl⟩⟩) (Nat.le_of_ble_eq_true rfl) (Nat.le_of_ble_eq_true rfl) dJ6_getChars_ba4f3_120
    · skip
      exfalso; omega
  · skip
    exfalso; omega
set_option maxHeartbeats 4000000 in
set_option maxRecDepth 100000 in
theorem b_J5_append_3fe6f {g : GT} {A : Nat → Prop} {q cap : Nat} {ml : Int32} {cnt : Int} {bf : Nat → Int32} {t : Tx} (h : BTs t cap cnt bf) (h_l : t.1 ≤ 90) {c : Int} (h_c : 0 ≤ c ∧ c < 128) : CtrU g A yJ5_append_3fe6f cJ5_append_3fe6f 2 (some (FieldType.object "java/lang/AbstractStringBuilder")) (rmL 3 1 202) [vR g 121, vI c] (q, cap, ml, cnt, bf, []) (fun v B9 => v = some (vR g 121) ∧ BT (tc t c) B9) := by
  refine ctrU_of [some (vR g 121), some (vI c)] (by decide) (Nat.le_of_ble_eq_true rfl) rfl (fun γ E => ?_)
  show UV γ g A cJ5_append_3fe6f 2 RJ5 (rmL 3 1 202) (q, cap, ml, cnt, bf, []) 0 0 0 [some (vR g 121), some (vI c)] []
  have ht := h
  unfold BTs at ht
  obtain ⟨e1, e2, e3, e4⟩ := ht
  refine u_aload_n (pc := 0) rfl dJ5_append_3fe6f_0 ?_
  refine u_aload_n (pc := 1) rfl dJ5_append_3fe6f_1 ?_
  refine u_get (pc := 2) (f := 3) (v := vI cnt) (by decide) rfl wF_J5_79 dJ5_append_3fe6f_2 ?_
  refine u_iconst (pc := 5) (z := 1) dJ5_append_3fe6f_5 ?_
  refine u_iadd (pc := 6) dJ5_append_3fe6f_6 ?_
  refine u_callU (pc := 7) (rest := []) (b_J5_ensureCapacityInternal_d00df (z := cnt + 1) (by omega) (by omega) e3) uok_J5_ensureCapacityInternal_d00df wM_J5_100 (rmOk (by decide) (by decide)) ⟨Nat.le_of_ble_eq_true rfl, Nat.le_of_ble_eq_true rfl⟩ (Nat.le_of_ble_eq_true rfl) rfl dJ5_append_3fe6f_7 (fun v B9 hq => ?_)
  obtain ⟨rfl, q9, c9, f9, rfl, hc9, hf9, hk9⟩ := hq
  refine u_stk (st' := []) rfl ?_
  refine u_aload_n (pc := 10) rfl dJ5_append_3fe6f_10 ?_
  refine u_callU (pc := 11) (rest := []) (b_J5_isLatin1_aae02) uok_J5_isLatin1_aae02 wM_J5_83 (rmOk (by decide) (by decide)) ⟨Nat.le_of_ble_eq_true rfl, Nat.le_of_ble_eq_true rfl⟩ (Nat.le_of_ble_eq_true rfl) rfl dJ5_append_3fe6f_11 (fun v B9 hq => ?_)
  obtain ⟨rfl, rfl⟩ := hq
  refine u_stk (st' := [vI 1]) rfl ?_
  refine u_if_eq (pc := 14) (tgt := 45) (by omega) dJ5_append_3fe6f_14 (by decide) (fun bq1 => absurd bq1 (by decide)) (fun _ => ?_)
  refine u_iload_n (pc := 17) rfl dJ5_append_3fe6f_17 ?_
  refine u_callS (pc := 18) (rest := []) (b_J1_canEncode_fc78d (c := c) (by omega)) sok_J1_canEncode_fc78d wM_J5_191 (rmOk (by decide) (by decide)) ⟨Nat.le_of_ble_eq_true rfl, Nat.le_of_ble_eq_true rfl⟩ (Nat.le_of_ble_eq_true rfl) rfl dJ5_append_3fe6f_18 (fun v B9 hq => ?_)
  obtain ⟨rfl, rfl⟩ := hq
  refine u_stk (st' := [vI 1]) rfl ?_
  refine u_if_eq (pc := 21) (tgt := 45) (by omega) dJ5_append_3fe6f_21 (by decide) (fun bq2 => absurd bq2 (by decide)) (fun _ => ?_)
  refine u_aload_n (pc := 24) rfl dJ5_append_3fe6f_24 ?_
  refine u_get (pc := 25) (f := 0) (v := .ref q9) (by decide) rfl wF_J5_15 dJ5_append_3fe6f_25 ?_
  refine u_aload_n (pc := 28) rfl dJ5_append_3fe6f_28 ?_
  refine u_dup (pc := 29) rfl dJ5_append_3fe6f_29 ?_
  refine u_get (pc := 30) (f := 3) (v := vI cnt) (by decide) rfl wF_J5_79 dJ5_append_3fe6f_30 ?_
  refine u_dup_x1 (pc := 33) rfl rfl dJ5_append_3fe6f_33 ?_
  refine u_iconst (pc := 34) (z := 1) dJ5_append_3fe6f_34 ?_
  refine u_iadd (pc := 35) dJ5_append_3fe6f_35 ?_
  refine u_putc (pc := 36) wF_J5_79 dJ5_append_3fe6f_36 ?_
  refine u_B (B1 := (q9, c9, ml, (cnt + 1), f9, [])) rfl ?_
  refine u_iload_n (pc := 39) rfl dJ5_append_3fe6f_39 ?_
  refine u_i2b (pc := 40) (v := sb_b (c).toNat) (b_i2b (by omega)) dJ5_append_3fe6f_40 ?_
  refine u_bast (pc := 41) (v := (sb_b (c).toNat)) (by dsimp only; omega) (by dsimp only; omega) (nar_s (by omega)) dJ5_append_3fe6f_41 ?_
  refine u_B (B1 := (q9, c9, ml, (cnt + 1), (upd f9 (cnt).toNat (sb_b (c).toNat)), [])) rfl ?_
  refine u_goto (pc := 42) (tgt := 75) dJ5_append_3fe6f_42 (by decide) ?_
  refine u_aload_n (pc := 75) rfl dJ5_append_3fe6f_75 ?_
  exact u_aret (pc := 76) E (⟨rfl, rfl, BTs_c h hc9 hf9 hk9 (by omega)⟩) (Nat.le_of_ble_eq_true rfl) (Nat.le_of_ble_eq_true rfl) dJ5_append_3fe6f_76
set_option maxHeartbeats 4000000 in
set_option maxRecDepth 100000 in
theorem b_J5_append_c97b9 {g : GT} {A : Nat → Prop} {q cap : Nat} {ml : Int32} {cnt : Int} {bf : Nat → Int32} {t : Tx} (h : BTs t cap cnt bf) (h_l : t.1 ≤ 90) {v : Int} (h_v : 0 ≤ v ∧ v < 100) : CtrU g A yJ5_append_c97b9 cJ5_append_c97b9 4 (some (FieldType.object "java/lang/AbstractStringBuilder")) (rmL 3 1 202) [vR g 121, vI v] (q, cap, ml, cnt, bf, []) (fun v9 B9 => v9 = some (vR g 121) ∧ BT (tnum t v) B9) := by
  refine ctrU_of [some (vR g 121), some (vI v), none, none] (by decide) (Nat.le_of_ble_eq_true rfl) rfl (fun γ E => ?_)
  show UV γ g A cJ5_append_c97b9 4 RJ5 (rmL 3 1 202) (q, cap, ml, cnt, bf, []) 0 0 0 [some (vR g 121), some (vI v), none, none] []
  have ht := h
  unfold BTs at ht
  obtain ⟨e1, e2, e3, e4⟩ := ht
  refine u_aload_n (pc := 0) rfl dJ5_append_c97b9_0 ?_
  refine u_get (pc := 1) (f := 3) (v := vI cnt) (by decide) rfl wF_J5_79 dJ5_append_c97b9_1 ?_
  refine u_istore_n (pc := 4) (by decide) rfl dJ5_append_c97b9_4 ?_
  refine u_iload_n (pc := 5) rfl dJ5_append_c97b9_5 ?_
  refine u_iload_n (pc := 6) rfl dJ5_append_c97b9_6 ?_
  refine u_callS (pc := 7) (rest := [vI cnt]) (b_J6_stringSize_0f7a4 h_v) sok_J6_stringSize_0f7a4 wM_J5_245 (rmOk (by decide) (by decide)) ⟨Nat.le_of_ble_eq_true rfl, Nat.le_of_ble_eq_true rfl⟩ (Nat.le_of_ble_eq_true rfl) rfl dJ5_append_c97b9_7 (fun v B9 hq => ?_)
  obtain ⟨rfl, rfl⟩ := hq
  refine u_stk (st' := [vI (if v < 10 then 1 else 2), vI cnt]) rfl ?_
  obtain ⟨sz, hsz⟩ : ∃ w9 : Int, w9 = (if v < 10 then 1 else 2) := ⟨_, rfl⟩
  have hsr : (v < 10 ∧ sz = 1) ∨ (10 ≤ v ∧ sz = 2) := by rw [hsz]; split <;> omega
  rw [← hsz]
  refine u_iadd (pc := 10) dJ5_append_c97b9_10 ?_
  refine u_istore_n (pc := 11) (by decide) rfl dJ5_append_c97b9_11 ?_
  refine u_aload_n (pc := 12) rfl dJ5_append_c97b9_12 ?_
  refine u_iload_n (pc := 13) rfl dJ5_append_c97b9_13 ?_
  refine u_callU (pc := 14) (rest := []) (b_J5_ensureCapacityInternal_d00df (z := cnt + sz) (by omega) (by omega) e3) uok_J5_ensureCapacityInternal_d00df wM_J5_100 (rmOk (by decide) (by decide)) ⟨Nat.le_of_ble_eq_true rfl, Nat.le_of_ble_eq_true rfl⟩ (Nat.le_of_ble_eq_true rfl) rfl dJ5_append_c97b9_14 (fun v B9 hq => ?_)
  obtain ⟨rfl, q9, c9, f9, rfl, hc9, hf9, hk9⟩ := hq
  refine u_stk (st' := []) rfl ?_
  refine u_aload_n (pc := 17) rfl dJ5_append_c97b9_17 ?_
  refine u_callU (pc := 18) (rest := []) (b_J5_isLatin1_aae02) uok_J5_isLatin1_aae02 wM_J5_83 (rmOk (by decide) (by decide)) ⟨Nat.le_of_ble_eq_true rfl, Nat.le_of_ble_eq_true rfl⟩ (Nat.le_of_ble_eq_true rfl) rfl dJ5_append_c97b9_18 (fun v B9 hq => ?_)
  obtain ⟨rfl, rfl⟩ := hq
  refine u_stk (st' := [vI 1]) rfl ?_
  refine u_if_eq (pc := 21) (tgt := 37) (by omega) dJ5_append_c97b9_21 (by decide) (fun bq1 => absurd bq1 (by decide)) (fun _ => ?_)
  refine u_iload_n (pc := 24) rfl dJ5_append_c97b9_24 ?_
  refine u_iload_n (pc := 25) rfl dJ5_append_c97b9_25 ?_
  refine u_aload_n (pc := 26) rfl dJ5_append_c97b9_26 ?_
  refine u_get (pc := 27) (f := 0) (v := .ref q9) (by decide) rfl wF_J5_15 dJ5_append_c97b9_27 ?_
  refine u_callS (pc := 30) (rest := []) (b_J6_getChars_ba4f3 (v := v) (p := cnt + sz) h_v (by rw [← hsz]; omega) (by omega)) sok_J6_getChars_ba4f3 wM_J5_248 (rmOk (by decide) (by decide)) ⟨Nat.le_of_ble_eq_true rfl, Nat.le_of_ble_eq_true rfl⟩ (Nat.le_of_ble_eq_true rfl) rfl dJ5_append_c97b9_30 (fun v B9 hq => ?_)
  obtain ⟨⟨z9, rfl⟩, hq9⟩ := hq
  have hb9 : ∃ f8, B9 = (q9, c9, ml, cnt, f8, []) ∧ BTs (tnum t v) c9 (cnt + sz) f8 := by
    rcases hq9 with ⟨hv9, rfl⟩ | ⟨hv9, rfl⟩
    · exact ⟨_, rfl, by have hs1 : sz = 1 := by omega
                        subst hs1; exact BTs_1 h (by omega) hf9 hk9 (by omega) (by omega)⟩
    · exact ⟨_, rfl, by have hs1 : sz = 2 := by omega
                        subst hs1; exact BTs_2 h (by omega) hf9 hk9 (by omega) (by omega) (by omega)⟩
  obtain ⟨f8, rfl, hb8⟩ := hb9
  refine u_stk (st' := [vI z9]) rfl ?_
  refine u_pop (pc := 33) rfl dJ5_append_c97b9_33 ?_
  refine u_goto (pc := 34) (tgt := 48) dJ5_append_c97b9_34 (by decide) ?_
  refine u_aload_n (pc := 48) rfl dJ5_append_c97b9_48 ?_
  refine u_iload_n (pc := 49) rfl dJ5_append_c97b9_49 ?_
  refine u_putc (pc := 50) wF_J5_79 dJ5_append_c97b9_50 ?_
  refine u_B (B1 := (q9, c9, ml, (cnt + sz), f8, [])) rfl ?_
  refine u_aload_n (pc := 53) rfl dJ5_append_c97b9_53 ?_
  exact u_aret (pc := 54) E (⟨rfl, rfl, hb8⟩) (Nat.le_of_ble_eq_true rfl) (Nat.le_of_ble_eq_true rfl) dJ5_append_c97b9_54
set_option maxHeartbeats 4000000 in
set_option maxRecDepth 100000 in
theorem b_J5_setLength_d00df {g : GT} {A : Nat → Prop} {q cap : Nat} {ml : Int32} {cnt : Int} {bf : Nat → Int32} {t : Tx} (h : BTs t cap cnt bf) : CtrU g A yJ5_setLength_d00df cJ5_setLength_d00df 2 (none : Option FieldType) (rmL 3 1 202) [vR g 121, vI 0] (q, cap, ml, cnt, bf, []) (fun v B9 => v = none ∧ BT t0 B9) := by
  refine ctrU_of [some (vR g 121), some (vI 0)] (by decide) (Nat.le_of_ble_eq_true rfl) rfl (fun γ E => ?_)
  show UV γ g A cJ5_setLength_d00df 2 RJ5 (rmL 3 1 202) (q, cap, ml, cnt, bf, []) 0 0 0 [some (vR g 121), some (vI 0)] []
  have ht := h
  unfold BTs at ht
  obtain ⟨e1, e2, e3, e4⟩ := ht
  refine u_iload_n (pc := 0) rfl dJ5_setLength_d00df_0 ?_
  refine u_if_ge (pc := 1) (tgt := 13) (by omega) dJ5_setLength_d00df_1 (by decide) (fun _ => ?_) (fun bq1 => absurd bq1 (by decide))
  refine u_aload_n (pc := 13) rfl dJ5_setLength_d00df_13 ?_
  refine u_iload_n (pc := 14) rfl dJ5_setLength_d00df_14 ?_
  refine u_callU (pc := 15) (rest := []) (b_J5_ensureCapacityInternal_d00df (z := 0) (by omega) (by omega) e3) uok_J5_ensureCapacityInternal_d00df wM_J5_100 (rmOk (by decide) (by decide)) ⟨Nat.le_of_ble_eq_true rfl, Nat.le_of_ble_eq_true rfl⟩ (Nat.le_of_ble_eq_true rfl) rfl dJ5_setLength_d00df_15 (fun v B9 hq => ?_)
  obtain ⟨rfl, q9, c9, f9, rfl, hc9, hf9, hk9⟩ := hq
  refine u_stk (st' := []) rfl ?_
  refine u_aload_n (pc := 18) rfl dJ5_setLength_d00df_18 ?_
  refine u_get (pc := 19) (f := 3) (v := vI cnt) (by decide) rfl wF_J5_79 dJ5_setLength_d00df_19 ?_
  refine u_iload_n (pc := 22) rfl dJ5_setLength_d00df_22 ?_
  refine u_icmp_ge (pc := 23) (tgt := 63) (by omega) dJ5_setLength_d00df_23 (by decide) (fun bq2 => ?_) (fun bq2 => ?_)
  · skip
    refine u_aload_n (pc := 63) rfl dJ5_setLength_d00df_63 ?_
    refine u_get (pc := 64) (f := 3) (v := vI cnt) (by decide) rfl wF_J5_79 dJ5_setLength_d00df_64 ?_
    refine u_iload_n (pc := 67) rfl dJ5_setLength_d00df_67 ?_
    refine u_icmp_le (pc := 68) (tgt := 76) (by omega) dJ5_setLength_d00df_68 (by decide) (fun bq3 => ?_) (fun bq3 => ?_)
    · skip
      refine u_aload_n (pc := 76) rfl dJ5_setLength_d00df_76 ?_
      refine u_iload_n (pc := 77) rfl dJ5_setLength_d00df_77 ?_
      refine u_putc (pc := 78) wF_J5_79 dJ5_setLength_d00df_78 ?_
      refine u_B (B1 := (q9, c9, ml, 0, f9, [])) rfl ?_
      exact u_vret (pc := 81) E (⟨rfl, rfl, BTs_0 (by show c9 ≤ 65536; omega) hf9⟩) (Nat.le_of_ble_eq_true rfl) (Nat.le_of_ble_eq_true rfl) dJ5_setLength_d00df_81
    · skip
      refine u_aload_n (pc := 71) rfl dJ5_setLength_d00df_71 ?_
      refine u_iconst (pc := 72) (z := 1) dJ5_setLength_d00df_72 ?_
      refine u_putm (pc := 73) rfl rfl wF_J5_73 dJ5_setLength_d00df_73 ?_
      refine u_B (B1 := (q9, c9, 1, cnt, f9, [])) rfl ?_
      refine u_aload_n (pc := 76) rfl dJ5_setLength_d00df_76 ?_
      refine u_iload_n (pc := 77) rfl dJ5_setLength_d00df_77 ?_
      refine u_putc (pc := 78) wF_J5_79 dJ5_setLength_d00df_78 ?_
      refine u_B (B1 := (q9, c9, 1, 0, f9, [])) rfl ?_
      exact u_vret (pc := 81) E (⟨rfl, rfl, BTs_0 (by show c9 ≤ 65536; omega) hf9⟩) (Nat.le_of_ble_eq_true rfl) (Nat.le_of_ble_eq_true rfl) dJ5_setLength_d00df_81
  · skip
    exfalso; omega
set_option maxHeartbeats 4000000 in
set_option maxRecDepth 100000 in
theorem b_J5_length_8abf5 {g : GT} {A : Nat → Prop} {q cap : Nat} {ml : Int32} {cnt : Int} {bf : Nat → Int32} {t : Tx} (h : BTs t cap cnt bf) : CtrU g A yJ5_length_8abf5 cJ5_length_8abf5 1 (some FieldType.int) (rmL 0 0 0) [vR g 121] (q, cap, ml, cnt, bf, []) (RU t.1 (q, cap, ml, cnt, bf, [])) := by
  refine ctrU_of [some (vR g 121)] (by decide) (Nat.le_of_ble_eq_true rfl) rfl (fun γ E => ?_)
  show UV γ g A cJ5_length_8abf5 1 RJ5 (rmL 0 0 0) (q, cap, ml, cnt, bf, []) 0 0 0 [some (vR g 121)] []
  refine u_aload_n (pc := 0) rfl dJ5_length_8abf5_0 ?_
  refine u_get (pc := 1) (f := 3) (v := vI cnt) (by decide) rfl wF_J5_79 dJ5_length_8abf5_1 ?_
  exact u_iret (pc := 4) E (⟨by rw [h.1], rfl⟩) (Nat.le_of_ble_eq_true rfl) (Nat.le_of_ble_eq_true rfl) dJ5_length_8abf5_4
-- the index is held against the length
set_option maxHeartbeats 4000000 in
set_option maxRecDepth 100000 in
theorem b_J3_checkIndex_n {g : GT} {A : Nat → Prop} {q cap : Nat} {ml : Int32} {cnt : Int} {bf : Nat → Int32} {i n : Int} (h_i : 0 ≤ i ∧ i < n) (h_n : n < 2147483648) : CtrU g A yJ3_checkIndex_8e157 cJ3_checkIndex_8e157 3 (some FieldType.int) (rmL 0 0 0) [vI i, vI n, .null] (q, cap, ml, cnt, bf, []) (RU i (q, cap, ml, cnt, bf, [])) := by
  refine ctrU_of [some (vI i), some (vI n), some (.null)] (by decide) (Nat.le_of_ble_eq_true rfl) rfl (fun γ E => ?_)
  show UV γ g A cJ3_checkIndex_8e157 3 RJ3 (rmL 0 0 0) (q, cap, ml, cnt, bf, []) 0 0 0 [some (vI i), some (vI n), some (.null)] []
  refine u_iload_n (pc := 0) rfl dJ3_checkIndex_8e157_0 ?_
  refine u_if_lt (pc := 1) (tgt := 9) (by omega) dJ3_checkIndex_8e157_1 (by decide) (fun bq1 => ?_) (fun bq1 => ?_)
  · skip
    exfalso; omega
  · skip
    refine u_iload_n (pc := 4) rfl dJ3_checkIndex_8e157_4 ?_
    refine u_iload_n (pc := 5) rfl dJ3_checkIndex_8e157_5 ?_
    refine u_icmp_lt (pc := 6) (tgt := 16) (by omega) dJ3_checkIndex_8e157_6 (by decide) (fun bq2 => ?_) (fun bq2 => ?_)
    · skip
      refine u_iload_n (pc := 16) rfl dJ3_checkIndex_8e157_16 ?_
      exact u_iret (pc := 17) E (⟨rfl, rfl⟩) (Nat.le_of_ble_eq_true rfl) (Nat.le_of_ble_eq_true rfl) dJ3_checkIndex_8e157_17
    · skip
      exfalso; omega
set_option maxHeartbeats 4000000 in
set_option maxRecDepth 100000 in
theorem b_J3_checkIndex_r {g : GT} {A : Nat → Prop} {q cap : Nat} {ml : Int32} {cnt : Int} {bf : Nat → Int32} {i n : Int} {t : Nat} (h_i : 0 ≤ i ∧ i < n) (h_n : n < 2147483648) : CtrU g A yJ3_checkIndex_8e157 cJ3_checkIndex_8e157 3 (some FieldType.int) (rmL 0 0 0) [vI i, vI n, .ref t] (q, cap, ml, cnt, bf, []) (RU i (q, cap, ml, cnt, bf, [])) := by
  refine ctrU_of [some (vI i), some (vI n), some (.ref t)] (by decide) (Nat.le_of_ble_eq_true rfl) rfl (fun γ E => ?_)
  show UV γ g A cJ3_checkIndex_8e157 3 RJ3 (rmL 0 0 0) (q, cap, ml, cnt, bf, []) 0 0 0 [some (vI i), some (vI n), some (.ref t)] []
  refine u_iload_n (pc := 0) rfl dJ3_checkIndex_8e157_0 ?_
  refine u_if_lt (pc := 1) (tgt := 9) (by omega) dJ3_checkIndex_8e157_1 (by decide) (fun bq1 => ?_) (fun bq1 => ?_)
  · skip
    exfalso; omega
  · skip
    refine u_iload_n (pc := 4) rfl dJ3_checkIndex_8e157_4 ?_
    refine u_iload_n (pc := 5) rfl dJ3_checkIndex_8e157_5 ?_
    refine u_icmp_lt (pc := 6) (tgt := 16) (by omega) dJ3_checkIndex_8e157_6 (by decide) (fun bq2 => ?_) (fun bq2 => ?_)
    · skip
      refine u_iload_n (pc := 16) rfl dJ3_checkIndex_8e157_16 ?_
      exact u_iret (pc := 17) E (⟨rfl, rfl⟩) (Nat.le_of_ble_eq_true rfl) (Nat.le_of_ble_eq_true rfl) dJ3_checkIndex_8e157_17
    · skip
      exfalso; omega
set_option maxHeartbeats 4000000 in
set_option maxRecDepth 100000 in
theorem b_J0_checkIndex_df160 {g : GT} {A : Nat → Prop} {q cap : Nat} {ml : Int32} {cnt : Int} {bf : Nat → Int32} {i n : Int} (h_i : 0 ≤ i ∧ i < n) (h_n : n < 2147483648) : CtrU g A yJ0_checkIndex_df160 cJ0_checkIndex_df160 2 (none : Option FieldType) (rmL 1 0 0) [vI i, vI n] (q, cap, ml, cnt, bf, []) (fun v B9 => v = none ∧ B9 = (q, cap, ml, cnt, bf, [])) := by
  refine ctrU_of [some (vI i), some (vI n)] (by decide) (Nat.le_of_ble_eq_true rfl) rfl (fun γ E => ?_)
  show UV γ g A cJ0_checkIndex_df160 2 RJ0 (rmL 1 0 0) (q, cap, ml, cnt, bf, []) 0 0 0 [some (vI i), some (vI n)] []
  refine u_iload_n (pc := 0) rfl dJ0_checkIndex_df160_0 ?_
  refine u_iload_n (pc := 1) rfl dJ0_checkIndex_df160_1 ?_
  refine u_si (pc := 2) dJ0_checkIndex_df160_2 ?_ (fun t => ?_)
  · skip
    refine u_callS (pc := 5) (rest := []) (b_J3_checkIndex_n h_i h_n) sok_J3_checkIndex_8e157 wM_J0_1059 (rmOk (by decide) (by decide)) ⟨Nat.le_of_ble_eq_true rfl, Nat.le_of_ble_eq_true rfl⟩ (Nat.le_of_ble_eq_true rfl) rfl dJ0_checkIndex_df160_5 (fun v B9 hq => ?_)
    obtain ⟨rfl, rfl⟩ := hq
    refine u_stk (st' := [vI i]) rfl ?_
    refine u_pop (pc := 8) rfl dJ0_checkIndex_df160_8 ?_
    exact u_vret (pc := 9) E (⟨rfl, rfl⟩) (Nat.le_of_ble_eq_true rfl) (Nat.le_of_ble_eq_true rfl) dJ0_checkIndex_df160_9
  · skip
    refine u_callS (pc := 5) (rest := []) (b_J3_checkIndex_r h_i h_n) sok_J3_checkIndex_8e157 wM_J0_1059 (rmOk (by decide) (by decide)) ⟨Nat.le_of_ble_eq_true rfl, Nat.le_of_ble_eq_true rfl⟩ (Nat.le_of_ble_eq_true rfl) rfl dJ0_checkIndex_df160_5 (fun v B9 hq => ?_)
    obtain ⟨rfl, rfl⟩ := hq
    refine u_stk (st' := [vI i]) rfl ?_
    refine u_pop (pc := 8) rfl dJ0_checkIndex_df160_8 ?_
    exact u_vret (pc := 9) E (⟨rfl, rfl⟩) (Nat.le_of_ble_eq_true rfl) (Nat.le_of_ble_eq_true rfl) dJ0_checkIndex_df160_9
set_option maxHeartbeats 4000000 in
set_option maxRecDepth 100000 in
theorem b_J5_charAt_5068e {g : GT} {A : Nat → Prop} {q cap : Nat} {ml : Int32} {cnt : Int} {bf : Nat → Int32} {t : Tx} (h : BTs t cap cnt bf) {z : Int} (h_z : 0 ≤ z ∧ z < t.1) : CtrU g A yJ5_charAt_5068e cJ5_charAt_5068e 5 (some FieldType.char) (rmL 2 0 0) [vR g 121, vI z] (q, cap, ml, cnt, bf, []) (RU (t.2 z) (q, cap, ml, cnt, bf, [])) := by
  refine ctrU_of [some (vR g 121), some (vI z), none, none, none] (by decide) (Nat.le_of_ble_eq_true rfl) rfl (fun γ E => ?_)
  show UV γ g A cJ5_charAt_5068e 5 RJ5 (rmL 2 0 0) (q, cap, ml, cnt, bf, []) 0 0 0 [some (vR g 121), some (vI z), none, none, none] []
  have ht := h
  unfold BTs at ht
  obtain ⟨e1, e2, e3, e4⟩ := ht
  have hz4 := e4 z.toNat (by omega)
  rw [Int.toNat_of_nonneg h_z.1] at hz4
  have hmn : mnI cnt (cap : Int) = cnt := by unfold mnI; split <;> omega
  refine u_aload_n (pc := 0) rfl dJ5_charAt_5068e_0 ?_
  refine u_get (pc := 1) (f := 1) (v := vI 0) (by decide) rfl wF_J5_22 dJ5_charAt_5068e_1 ?_
  refine u_istore_n (pc := 4) (by decide) rfl dJ5_charAt_5068e_4 ?_
  refine u_aload_n (pc := 5) rfl dJ5_charAt_5068e_5 ?_
  refine u_get (pc := 6) (f := 0) (v := .ref q) (by decide) rfl wF_J5_15 dJ5_charAt_5068e_6 ?_
  refine u_astore_n (pc := 9) (by decide) rfl dJ5_charAt_5068e_9 ?_
  refine u_aload_n (pc := 10) rfl dJ5_charAt_5068e_10 ?_
  refine u_get (pc := 11) (f := 3) (v := vI cnt) (by decide) rfl wF_J5_79 dJ5_charAt_5068e_11 ?_
  refine u_aload_n (pc := 14) rfl dJ5_charAt_5068e_14 ?_
  refine u_alen (pc := 15) dJ5_charAt_5068e_15 ?_
  refine u_stk (st' := [vI (cap : Int), vI cnt]) rfl ?_
  refine u_iload_n (pc := 16) rfl dJ5_charAt_5068e_16 ?_
  refine u_ishr0 (pc := 17) dJ5_charAt_5068e_17 ?_
  refine u_mmin (pc := 18) (by omega) wM_J5_138 (Nat.le_of_ble_eq_true rfl) (Nat.le_of_ble_eq_true rfl) (Nat.le_of_ble_eq_true rfl) (Nat.le_of_ble_eq_true rfl) (Nat.le_of_ble_eq_true rfl) dJ5_charAt_5068e_18 ?_
  refine u_stk (st' := [vI cnt]) (by rw [hmn]) ?_
  refine u_istore (pc := 21) (by decide) rfl dJ5_charAt_5068e_21 ?_
  refine u_iload_n (pc := 23) rfl dJ5_charAt_5068e_23 ?_
  refine u_iload (pc := 24) rfl dJ5_charAt_5068e_24 ?_
  refine u_callS (pc := 26) (rest := []) (b_J0_checkIndex_df160 (i := z) (n := cnt) (by omega) (by omega)) sok_J0_checkIndex_df160 wM_J5_144 (rmOk (by decide) (by decide)) ⟨Nat.le_of_ble_eq_true rfl, Nat.le_of_ble_eq_true rfl⟩ (Nat.le_of_ble_eq_true rfl) rfl dJ5_charAt_5068e_26 (fun v B9 hq => ?_)
  obtain ⟨rfl, rfl⟩ := hq
  refine u_stk (st' := []) rfl ?_
  refine u_iload_n (pc := 29) rfl dJ5_charAt_5068e_29 ?_
  refine u_if_ne (pc := 30) (tgt := 42) (by omega) dJ5_charAt_5068e_30 (by decide) (fun bq1 => absurd bq1 (by decide)) (fun _ => ?_)
  refine u_aload_n (pc := 33) rfl dJ5_charAt_5068e_33 ?_
  refine u_iload_n (pc := 34) rfl dJ5_charAt_5068e_34 ?_
  refine u_bald (pc := 35) (by dsimp only; omega) (by dsimp only; omega) dJ5_charAt_5068e_35 ?_
  refine u_sipush (pc := 36) (z := 255) rfl dJ5_charAt_5068e_36 ?_
  refine u_iand255 (pc := 39) (a := (t.2 z)) (by omega) (bf ((z).toNat)) (by rw [hz4.2.2]; exact b_and (by omega)) dJ5_charAt_5068e_39 ?_
  refine u_i2c (pc := 40) dJ5_charAt_5068e_40 ?_
  refine u_top (b := t.2 z) (by omega) ?_
  exact u_cret (pc := 41) E (by omega) (⟨rfl, rfl⟩) (Nat.le_of_ble_eq_true rfl) (Nat.le_of_ble_eq_true rfl) dJ5_charAt_5068e_41
