-- the builder's methods in its world
theorem u_B {γ : gT} {g : GT} {A : Nat → Prop} {cc : ByteArray} {nL : Nat} {own : String} {rm : Room} {B B1 : Bw} {k n : Nat} {pc : Nat} {L : List (Option Value)} {st : List Value} (e : B = B1) (kk : UV γ g A cc nL own rm B1 k n pc L st) : UV γ g A cc nL own rm B k n pc L st := by rw [e]; exact kk
theorem nar_b {e : Int} (h : 0 ≤ e ∧ e < 128) : vp_nar .byte (Int32.ofInt e) = Int32.ofInt e := by
  obtain ⟨n, rfl⟩ := Int.eq_ofNat_of_zero_le h.1
  have : ∀ n : Nat, n < 128 → vp_nar .byte (Int32.ofInt (n : Int)) = Int32.ofInt (n : Int) := by decide +kernel
  exact this n (by omega)
theorem sb_d {e : Int} (h : 0 ≤ e ∧ e < 128) : Int32.ofInt e = sb_b e.toNat := by
  obtain ⟨n, rfl⟩ := Int.eq_ofNat_of_zero_le h.1
  have : ∀ n : Nat, n < 128 → Int32.ofInt (n : Int) = sb_b n := by decide +kernel
  rw [Int.toNat_natCast]
  exact this n (by omega)
theorem nar_s {e : Nat} (h : e < 256) : vp_nar .byte (sb_b e) = sb_b e := by
  have : ∀ n : Nat, n < 256 → vp_nar .byte (sb_b n) = sb_b n := by decide +kernel
  exact this e h
theorem b_i2b {e : Int} (h : 0 ≤ e ∧ e < 256) : (Int32.ofInt e).toInt8.toInt32 = sb_b e.toNat := by
  obtain ⟨n, rfl⟩ := Int.eq_ofNat_of_zero_le h.1
  have : ∀ n : Nat, n < 256 → (Int32.ofInt (n : Int)).toInt8.toInt32 = sb_b n := by decide +kernel
  rw [Int.toNat_natCast]
  exact this n (by omega)
theorem b_and {e : Int} (h : 0 ≤ e ∧ e < 256) : sb_b e.toNat &&& Int32.ofInt 255 = Int32.ofInt e := by
  obtain ⟨n, rfl⟩ := Int.eq_ofNat_of_zero_le h.1
  have : ∀ n : Nat, n < 256 → sb_b n &&& Int32.ofInt 255 = Int32.ofInt (n : Int) := by decide +kernel
  rw [Int.toNat_natCast]
  exact this n (by omega)
theorem fit_u {f : Nat → Int32} {j : Nat} {e : Nat} (hf : sb_Fit f) : sb_Fit (upd f j (sb_b e)) := sb_fitU hf (sb_fitB e)
def RU (r : Int) (B1 : Bw) : Option Value → Bw → Prop := fun v B' => v = some (vI r) ∧ B' = B1

theorem sok_J8_newLength_cabcc : SOk yJ8_newLength_cabcc cJ8_newLength_cabcc 4 (some FieldType.int) 3 := ⟨⟨wC_J8_newLength_cabcc, wN_J8, by decide, by decide, by decide +kernel⟩, wT_J8_newLength_cabcc⟩
theorem sok_J7_copyOf_9075b : SOk yJ7_copyOf_9075b cJ7_copyOf_9075b 3 (some (FieldType.array FieldType.byte)) 2 := ⟨⟨wC_J7_copyOf_9075b, wN_J7, by decide, by decide, by decide +kernel⟩, wT_J7_copyOf_9075b⟩
theorem sok_J1_canEncode_fc78d : SOk yJ1_canEncode_fc78d cJ1_canEncode_fc78d 1 (some FieldType.boolean) 1 := ⟨⟨wC_J1_canEncode_fc78d, wN_J1, by decide, by decide, by decide +kernel⟩, wT_J1_canEncode_fc78d⟩
theorem sok_J6_stringSize_0f7a4 : SOk yJ6_stringSize_0f7a4 cJ6_stringSize_0f7a4 4 (some FieldType.int) 1 := ⟨⟨wC_J6_stringSize_0f7a4, wN_J6, by decide, by decide, by decide +kernel⟩, wT_J6_stringSize_0f7a4⟩
theorem sok_J6_getChars_ba4f3 : SOk yJ6_getChars_ba4f3 cJ6_getChars_ba4f3 7 (some FieldType.int) 3 := ⟨⟨wC_J6_getChars_ba4f3, wN_J6, by decide, by decide, by decide +kernel⟩, wT_J6_getChars_ba4f3⟩
theorem uok_J5_isLatin1_aae02 : UOk yJ5_isLatin1_aae02 cJ5_isLatin1_aae02 1 (some FieldType.boolean) 0 := ⟨⟨wC_J5_isLatin1_aae02, rfl, by decide +kernel, wI_J5_isLatin1_aae02, by decide +kernel⟩, wS_J4_J5_isLatin1_aae02_J5_isLatin1_aae02⟩
theorem uok_J5_newCapacity_0f7a4 : UOk yJ5_newCapacity_0f7a4 cJ5_newCapacity_0f7a4 6 (some FieldType.int) 1 := ⟨⟨wC_J5_newCapacity_0f7a4, rfl, by decide +kernel, wI_J5_newCapacity_0f7a4, by decide +kernel⟩, wP_new⟩
theorem uok_J5_ensureCapacityInternal_d00df : UOk yJ5_ensureCapacityInternal_d00df cJ5_ensureCapacityInternal_d00df 3 (none : Option FieldType) 1 := ⟨⟨wC_J5_ensureCapacityInternal_d00df, rfl, by decide +kernel, wI_J5_ensureCapacityInternal_d00df, by decide +kernel⟩, wP_ens⟩
set_option maxHeartbeats 4000000 in
set_option maxRecDepth 100000 in
theorem b_J5_isLatin1_aae02 {g : GT} {A : Nat → Prop} {q cap : Nat} {ml : Int32} {cnt : Int} {bf : Nat → Int32} : CtrU g A yJ5_isLatin1_aae02 cJ5_isLatin1_aae02 1 (some FieldType.boolean) (rmL 0 0 0) [vR g 121] (q, cap, ml, cnt, bf, []) (RU 1 (q, cap, ml, cnt, bf, [])) := by
  refine ctrU_of [some (vR g 121)] (by decide) (Nat.le_of_ble_eq_true rfl) rfl (fun γ E => ?_)
  show UV γ g A cJ5_isLatin1_aae02 1 RJ5 (rmL 0 0 0) (q, cap, ml, cnt, bf, []) 0 0 0 [some (vR g 121)] []
  refine u_cs (pc := 0) wF_J5_18 dJ5_isLatin1_aae02_0 ?_
  refine u_if_eq (pc := 3) (tgt := 17) (by omega) dJ5_isLatin1_aae02_3 (by decide) (fun bq1 => absurd bq1 (by decide)) (fun _ => ?_)
  refine u_aload_n (pc := 6) rfl dJ5_isLatin1_aae02_6 ?_
  refine u_get (pc := 7) (f := 1) (v := vI 0) (by decide) rfl wF_J5_22 dJ5_isLatin1_aae02_7 ?_
  refine u_if_ne (pc := 10) (tgt := 17) (by omega) dJ5_isLatin1_aae02_10 (by decide) (fun bq2 => absurd bq2 (by decide)) (fun _ => ?_)
  refine u_iconst (pc := 13) (z := 1) dJ5_isLatin1_aae02_13 ?_
  refine u_goto (pc := 14) (tgt := 18) dJ5_isLatin1_aae02_14 (by decide) ?_
  exact u_bret (pc := 18) E (by decide) (⟨rfl, rfl⟩) (Nat.le_of_ble_eq_true rfl) (Nat.le_of_ble_eq_true rfl) dJ5_isLatin1_aae02_18
set_option maxHeartbeats 4000000 in
set_option maxRecDepth 100000 in
theorem b_J1_canEncode_fc78d {g : GT} {A : Nat → Prop} {q cap : Nat} {ml : Int32} {cnt : Int} {bf : Nat → Int32} {c : Int} (h_c : 0 ≤ c ∧ c < 256) : CtrU g A yJ1_canEncode_fc78d cJ1_canEncode_fc78d 1 (some FieldType.boolean) (rmL 0 0 0) [vI c] (q, cap, ml, cnt, bf, []) (RU 1 (q, cap, ml, cnt, bf, [])) := by
  refine ctrU_of [some (vI c)] (by decide) (Nat.le_of_ble_eq_true rfl) rfl (fun γ E => ?_)
  show UV γ g A cJ1_canEncode_fc78d 1 RJ1 (rmL 0 0 0) (q, cap, ml, cnt, bf, []) 0 0 0 [some (vI c)] []
  refine u_iload_n (pc := 0) rfl dJ1_canEncode_fc78d_0 ?_
  refine u_sipush (pc := 1) (z := 255) rfl dJ1_canEncode_fc78d_1 ?_
  refine u_icmp_gt (pc := 4) (tgt := 11) (by omega) dJ1_canEncode_fc78d_4 (by decide) (fun bq1 => ?_) (fun bq1 => ?_)
  · skip
    exfalso; omega
  · skip
    refine u_iconst (pc := 7) (z := 1) dJ1_canEncode_fc78d_7 ?_
    refine u_goto (pc := 8) (tgt := 12) dJ1_canEncode_fc78d_8 (by decide) ?_
    exact u_bret (pc := 12) E (by decide) (⟨rfl, rfl⟩) (Nat.le_of_ble_eq_true rfl) (Nat.le_of_ble_eq_true rfl) dJ1_canEncode_fc78d_12
set_option maxHeartbeats 4000000 in
set_option maxRecDepth 100000 in
theorem b_J8_newLength_cabcc {g : GT} {A : Nat → Prop} {q cap : Nat} {ml : Int32} {cnt : Int} {bf : Nat → Int32} {o a b : Int} (h_o : 0 ≤ o ∧ o ≤ 70000) (h_a : 0 < a ∧ a ≤ 70000) (h_b : 0 < b ∧ b ≤ 70010) : CtrU g A yJ8_newLength_cabcc cJ8_newLength_cabcc 4 (some FieldType.int) (rmL 0 0 0) [vI o, vI a, vI b] (q, cap, ml, cnt, bf, []) (RU (o + mxI a b) (q, cap, ml, cnt, bf, [])) := by
  refine ctrU_of [some (vI o), some (vI a), some (vI b), none] (by decide) (Nat.le_of_ble_eq_true rfl) rfl (fun γ E => ?_)
  show UV γ g A cJ8_newLength_cabcc 4 RJ8 (rmL 0 0 0) (q, cap, ml, cnt, bf, []) 0 0 0 [some (vI o), some (vI a), some (vI b), none] []
  have hmx : 0 < mxI a b ∧ mxI a b ≤ 70010 := by unfold mxI; split <;> omega
  refine u_iload_n (pc := 0) rfl dJ8_newLength_cabcc_0 ?_
  refine u_iload_n (pc := 1) rfl dJ8_newLength_cabcc_1 ?_
  refine u_iload_n (pc := 2) rfl dJ8_newLength_cabcc_2 ?_
  refine u_mmax (pc := 3) (by omega) wM_J8_194 (Nat.le_of_ble_eq_true rfl) (Nat.le_of_ble_eq_true rfl) (Nat.le_of_ble_eq_true rfl) (Nat.le_of_ble_eq_true rfl) (Nat.le_of_ble_eq_true rfl) dJ8_newLength_cabcc_3 ?_
  refine u_iadd (pc := 6) dJ8_newLength_cabcc_6 ?_
  refine u_istore_n (pc := 7) (by decide) rfl dJ8_newLength_cabcc_7 ?_
  refine u_iconst (pc := 8) (z := 0) dJ8_newLength_cabcc_8 ?_
  refine u_iload_n (pc := 9) rfl dJ8_newLength_cabcc_9 ?_
  refine u_icmp_ge (pc := 10) (tgt := 21) (by omega) dJ8_newLength_cabcc_10 (by decide) (fun bq1 => ?_) (fun bq1 => ?_)
  · skip
    exfalso; omega
  · skip
    refine u_iload_n (pc := 13) rfl dJ8_newLength_cabcc_13 ?_
    refine u_ldc (pc := 14) (z := 2147483639) wG_J8_200 dJ8_newLength_cabcc_14 ?_
    refine u_icmp_gt (pc := 16) (tgt := 21) (by omega) dJ8_newLength_cabcc_16 (by decide) (fun bq2 => ?_) (fun bq2 => ?_)
    · skip
      exfalso; omega
    · skip
      refine u_iload_n (pc := 19) rfl dJ8_newLength_cabcc_19 ?_
      exact u_iret (pc := 20) E (⟨rfl, rfl⟩) (Nat.le_of_ble_eq_true rfl) (Nat.le_of_ble_eq_true rfl) dJ8_newLength_cabcc_20
set_option maxHeartbeats 4000000 in
set_option maxRecDepth 100000 in
theorem b_J5_newCapacity_0f7a4 {g : GT} {A : Nat → Prop} {q cap : Nat} {ml : Int32} {cnt : Int} {bf : Nat → Int32} {z : Int} (h_z : (cap : Int) < z ∧ z ≤ 60000) : CtrU g A yJ5_newCapacity_0f7a4 cJ5_newCapacity_0f7a4 6 (some FieldType.int) (rmL 1 0 0) [vR g 121, vI z] (q, cap, ml, cnt, bf, []) (RU ((cap : Int) + mxI (z - (cap : Int)) ((cap : Int) + 2)) (q, cap, ml, cnt, bf, [])) := by
  refine ctrU_of [some (vR g 121), some (vI z), none, none, none, none] (by decide) (Nat.le_of_ble_eq_true rfl) rfl (fun γ E => ?_)
  show UV γ g A cJ5_newCapacity_0f7a4 6 RJ5 (rmL 1 0 0) (q, cap, ml, cnt, bf, []) 0 0 0 [some (vR g 121), some (vI z), none, none, none, none] []
  have hmx : 0 < mxI (z - (cap : Int)) ((cap : Int) + 2) ∧ mxI (z - (cap : Int)) ((cap : Int) + 2) ≤ 70010 := by unfold mxI; split <;> omega
  refine u_aload_n (pc := 0) rfl dJ5_newCapacity_0f7a4_0 ?_
  refine u_get (pc := 1) (f := 0) (v := .ref q) (by decide) rfl wF_J5_15 dJ5_newCapacity_0f7a4_1 ?_
  refine u_alen (pc := 4) dJ5_newCapacity_0f7a4_4 ?_
  refine u_stk (st' := [vI (cap : Int)]) rfl ?_
  refine u_istore_n (pc := 5) (by decide) rfl dJ5_newCapacity_0f7a4_5 ?_
  refine u_iload_n (pc := 6) rfl dJ5_newCapacity_0f7a4_6 ?_
  refine u_aload_n (pc := 7) rfl dJ5_newCapacity_0f7a4_7 ?_
  refine u_get (pc := 8) (f := 1) (v := vI 0) (by decide) rfl wF_J5_22 dJ5_newCapacity_0f7a4_8 ?_
  refine u_ishl0 (pc := 11) dJ5_newCapacity_0f7a4_11 ?_
  refine u_istore_n (pc := 12) (by decide) rfl dJ5_newCapacity_0f7a4_12 ?_
  refine u_iload_n (pc := 13) rfl dJ5_newCapacity_0f7a4_13 ?_
  refine u_iload_n (pc := 14) rfl dJ5_newCapacity_0f7a4_14 ?_
  refine u_isub (pc := 15) dJ5_newCapacity_0f7a4_15 ?_
  refine u_istore (pc := 16) (by decide) rfl dJ5_newCapacity_0f7a4_16 ?_
  refine u_iload_n (pc := 18) rfl dJ5_newCapacity_0f7a4_18 ?_
  refine u_iload (pc := 19) rfl dJ5_newCapacity_0f7a4_19 ?_
  refine u_iload_n (pc := 21) rfl dJ5_newCapacity_0f7a4_21 ?_
  refine u_iconst (pc := 22) (z := 2) dJ5_newCapacity_0f7a4_22 ?_
  refine u_aload_n (pc := 23) rfl dJ5_newCapacity_0f7a4_23 ?_
  refine u_get (pc := 24) (f := 1) (v := vI 0) (by decide) rfl wF_J5_22 dJ5_newCapacity_0f7a4_24 ?_
  refine u_ishl0 (pc := 27) dJ5_newCapacity_0f7a4_27 ?_
  refine u_iadd (pc := 28) dJ5_newCapacity_0f7a4_28 ?_
  refine u_callS (pc := 29) (rest := []) (b_J8_newLength_cabcc (by omega) (by omega) (by omega)) sok_J8_newLength_cabcc wM_J5_114 (rmOk (by decide) (by decide)) ⟨Nat.le_of_ble_eq_true rfl, Nat.le_of_ble_eq_true rfl⟩ (Nat.le_of_ble_eq_true rfl) rfl dJ5_newCapacity_0f7a4_29 (fun v B9 hq => ?_)
  obtain ⟨rfl, rfl⟩ := hq
  refine u_stk (st' := [vI ((cap : Int) + mxI (z - (cap : Int)) ((cap : Int) + 2))]) rfl ?_
  refine u_istore (pc := 32) (by decide) rfl dJ5_newCapacity_0f7a4_32 ?_
  refine u_iload (pc := 34) rfl dJ5_newCapacity_0f7a4_34 ?_
  refine u_ldc (pc := 36) (z := 2147483647) wG_J5_39 dJ5_newCapacity_0f7a4_36 ?_
  refine u_icmp_ne (pc := 38) (tgt := 51) (by omega) dJ5_newCapacity_0f7a4_38 (by decide) (fun bq1 => ?_) (fun bq1 => ?_)
  · skip
    refine u_iload (pc := 51) rfl dJ5_newCapacity_0f7a4_51 ?_
    refine u_aload_n (pc := 53) rfl dJ5_newCapacity_0f7a4_53 ?_
    refine u_get (pc := 54) (f := 1) (v := vI 0) (by decide) rfl wF_J5_22 dJ5_newCapacity_0f7a4_54 ?_
    refine u_ishr0 (pc := 57) dJ5_newCapacity_0f7a4_57 ?_
    exact u_iret (pc := 58) E (⟨rfl, rfl⟩) (Nat.le_of_ble_eq_true rfl) (Nat.le_of_ble_eq_true rfl) dJ5_newCapacity_0f7a4_58
  · skip
    exfalso; omega
set_option maxHeartbeats 4000000 in
set_option maxRecDepth 100000 in
theorem b_J7_copyOf_9075b {g : GT} {A : Nat → Prop} {q cap : Nat} {ml : Int32} {cnt : Int} {bf : Nat → Int32} {z : Int} (h_z : (cap : Int) < z ∧ z ≤ 202) (hf : sb_Fit bf) : CtrU g A yJ7_copyOf_9075b cJ7_copyOf_9075b 3 (some (FieldType.array FieldType.byte)) (rmL 1 1 202) [.ref q, vI z] (q, cap, ml, cnt, bf, []) (fun v B9 => ∃ q9 f9, v = some (.ref q9) ∧ B9 = (q, cap, ml, cnt, bf, [(q9, .inl (gC g 6, z.toNat, .inl f9))]) ∧ sb_Fit f9 ∧ ∀ j : Nat, j < cap → f9 j = bf j) := by
  refine ctrU_of [some (.ref q), some (vI z), none] (by decide) (Nat.le_of_ble_eq_true rfl) rfl (fun γ E => ?_)
  show UV γ g A cJ7_copyOf_9075b 3 RJ7 (rmL 1 1 202) (q, cap, ml, cnt, bf, []) 0 0 0 [some (.ref q), some (vI z), none] []
  refine u_iload_n (pc := 0) rfl dJ7_copyOf_9075b_0 ?_
  refine u_aload_n (pc := 1) rfl dJ7_copyOf_9075b_1 ?_
  refine u_alen (pc := 2) dJ7_copyOf_9075b_2 ?_
  refine u_stk (st' := [vI (cap : Int), vI z]) rfl ?_
  refine u_icmp_ne (pc := 3) (tgt := 14) (by omega) dJ7_copyOf_9075b_3 (by decide) (fun bq1 => ?_) (fun bq1 => ?_)
  · skip
    refine u_iload_n (pc := 14) rfl dJ7_copyOf_9075b_14 ?_
    refine u_newa (pc := 15) (m := z) (by omega) rfl (Nat.le_of_ble_eq_true rfl) (by show 0 + z.toNat ≤ 202; omega) (by decide +kernel) dJ7_copyOf_9075b_15 (fun q9 => ?_)
    refine u_B (B1 := (q, cap, ml, cnt, bf, [(q9, .inl (gC g 6, (z).toNat, .inl fun _ => 0))])) rfl ?_
    refine u_astore_n (pc := 17) (by decide) rfl dJ7_copyOf_9075b_17 ?_
    refine u_aload_n (pc := 18) rfl dJ7_copyOf_9075b_18 ?_
    refine u_iconst (pc := 19) (z := 0) dJ7_copyOf_9075b_19 ?_
    refine u_aload_n (pc := 20) rfl dJ7_copyOf_9075b_20 ?_
    refine u_iconst (pc := 21) (z := 0) dJ7_copyOf_9075b_21 ?_
    refine u_aload_n (pc := 22) rfl dJ7_copyOf_9075b_22 ?_
    refine u_alen (pc := 23) dJ7_copyOf_9075b_23 ?_
    refine u_stk (st' := [vI (cap : Int), vI 0, .ref q9, vI 0, .ref q]) rfl ?_
    refine u_iload_n (pc := 24) rfl dJ7_copyOf_9075b_24 ?_
    refine u_mmin (pc := 25) (by omega) wM_J7_304 (Nat.le_of_ble_eq_true rfl) (Nat.le_of_ble_eq_true rfl) (Nat.le_of_ble_eq_true rfl) (Nat.le_of_ble_eq_true rfl) (by show 0 + z.toNat ≤ 202; omega) dJ7_copyOf_9075b_25 ?_
    have hmn : mnI (cap : Int) z = (cap : Int) := by unfold mnI; rw [if_neg (by omega)]
    refine u_stk (st' := [vI (cap : Int), vI 0, .ref q9, vI 0, .ref q]) (by rw [hmn]) ?_
    refine u_copy (pc := 28) (q := q9) (N := z.toNat) (f := fun _ => 0) (m := (cap : Int)) rfl (by dsimp only; omega) (by dsimp only; omega) hf wM_J7_150 (Nat.le_of_ble_eq_true rfl) (by decide +kernel) dJ7_copyOf_9075b_28 ?_
    refine u_B (B1 := (q, cap, ml, cnt, bf, [(q9, .inl (gC g 6, z.toNat, .inl (va_cpy bf (fun _ => 0) 0 0 cap)))])) rfl ?_
    refine u_aload_n (pc := 31) rfl dJ7_copyOf_9075b_31 ?_
    exact u_aretA (pc := 32) E (⟨q9, _, rfl, rfl, sb_fitC hf sb_fit0, fun j hj => sb_cpy0 hj⟩) (Nat.le_of_ble_eq_true rfl) (by show 0 + z.toNat ≤ 202; omega) dJ7_copyOf_9075b_32
  · skip
    exfalso; omega
set_option maxHeartbeats 4000000 in
set_option maxRecDepth 100000 in
theorem b_J5_ensureCapacityInternal_d00df {g : GT} {A : Nat → Prop} {q cap : Nat} {ml : Int32} {cnt : Int} {bf : Nat → Int32} {z : Int} (h_z : 0 ≤ z ∧ z ≤ 100) (hc : cap ≤ 65536) (hf : sb_Fit bf) : CtrU g A yJ5_ensureCapacityInternal_d00df cJ5_ensureCapacityInternal_d00df 3 (none : Option FieldType) (rmL 2 1 202) [vR g 121, vI z] (q, cap, ml, cnt, bf, []) (fun v B9 => v = none ∧ ∃ q9 c9 f9, B9 = (q9, c9, ml, cnt, f9, []) ∧ (z ≤ (c9 : Int) ∧ c9 ≤ 65536) ∧ sb_Fit f9 ∧ ∀ j : Nat, j < cap → f9 j = bf j) := by
  refine ctrU_of [some (vR g 121), some (vI z), none] (by decide) (Nat.le_of_ble_eq_true rfl) rfl (fun γ E => ?_)
  show UV γ g A cJ5_ensureCapacityInternal_d00df 3 RJ5 (rmL 2 1 202) (q, cap, ml, cnt, bf, []) 0 0 0 [some (vR g 121), some (vI z), none] []
  refine u_aload_n (pc := 0) rfl dJ5_ensureCapacityInternal_d00df_0 ?_
  refine u_get (pc := 1) (f := 0) (v := .ref q) (by decide) rfl wF_J5_15 dJ5_ensureCapacityInternal_d00df_1 ?_
  refine u_alen (pc := 4) dJ5_ensureCapacityInternal_d00df_4 ?_
  refine u_stk (st' := [vI (cap : Int)]) rfl ?_
  refine u_aload_n (pc := 5) rfl dJ5_ensureCapacityInternal_d00df_5 ?_
  refine u_get (pc := 6) (f := 1) (v := vI 0) (by decide) rfl wF_J5_22 dJ5_ensureCapacityInternal_d00df_6 ?_
  refine u_ishr0 (pc := 9) dJ5_ensureCapacityInternal_d00df_9 ?_
  refine u_istore_n (pc := 10) (by decide) rfl dJ5_ensureCapacityInternal_d00df_10 ?_
  refine u_iload_n (pc := 11) rfl dJ5_ensureCapacityInternal_d00df_11 ?_
  refine u_iload_n (pc := 12) rfl dJ5_ensureCapacityInternal_d00df_12 ?_
  refine u_isub (pc := 13) dJ5_ensureCapacityInternal_d00df_13 ?_
  refine u_if_le (pc := 14) (tgt := 38) (by omega) dJ5_ensureCapacityInternal_d00df_14 (by decide) (fun bq1 => ?_) (fun bq1 => ?_)
  · skip
    exact u_vret (pc := 38) E (⟨rfl, q, cap, bf, rfl, by omega, hf, fun _ _ => rfl⟩) (Nat.le_of_ble_eq_true rfl) (Nat.le_of_ble_eq_true rfl) dJ5_ensureCapacityInternal_d00df_38
  · skip
    refine u_aload_n (pc := 17) rfl dJ5_ensureCapacityInternal_d00df_17 ?_
    refine u_aload_n (pc := 18) rfl dJ5_ensureCapacityInternal_d00df_18 ?_
    refine u_get (pc := 19) (f := 0) (v := .ref q) (by decide) rfl wF_J5_15 dJ5_ensureCapacityInternal_d00df_19 ?_
    refine u_aload_n (pc := 22) rfl dJ5_ensureCapacityInternal_d00df_22 ?_
    refine u_iload_n (pc := 23) rfl dJ5_ensureCapacityInternal_d00df_23 ?_
    refine u_callU (pc := 24) (rest := [.ref q, vR g 121]) (b_J5_newCapacity_0f7a4 (z := z) (by omega)) uok_J5_newCapacity_0f7a4 wM_J5_104 (rmOk (by decide) (by decide)) ⟨Nat.le_of_ble_eq_true rfl, Nat.le_of_ble_eq_true rfl⟩ (Nat.le_of_ble_eq_true rfl) rfl dJ5_ensureCapacityInternal_d00df_24 (fun v B9 hq => ?_)
    obtain ⟨rfl, rfl⟩ := hq
    obtain ⟨nz, hnz⟩ : ∃ w9, w9 = (cap : Int) + mxI (z - (cap : Int)) ((cap : Int) + 2) := ⟨_, rfl⟩
    have hnr : (cap : Int) < nz ∧ nz ≤ 202 ∧ z ≤ nz := by rw [hnz]; unfold mxI; split <;> omega
    refine u_stk (st' := [vI nz, .ref q, vR g 121]) (by rw [hnz]; rfl) ?_
    refine u_aload_n (pc := 27) rfl dJ5_ensureCapacityInternal_d00df_27 ?_
    refine u_get (pc := 28) (f := 1) (v := vI 0) (by decide) rfl wF_J5_22 dJ5_ensureCapacityInternal_d00df_28 ?_
    refine u_ishl0 (pc := 31) dJ5_ensureCapacityInternal_d00df_31 ?_
    refine u_callS (pc := 32) (rest := [vR g 121]) (b_J7_copyOf_9075b (z := nz) (by omega) hf) sok_J7_copyOf_9075b wM_J5_108 (rmOk (by decide) (by decide)) ⟨Nat.le_of_ble_eq_true rfl, Nat.le_of_ble_eq_true rfl⟩ (Nat.le_of_ble_eq_true rfl) rfl dJ5_ensureCapacityInternal_d00df_32 (fun v B9 hq => ?_)
    obtain ⟨q9, f9, rfl, rfl, hf9, hb9⟩ := hq
    refine u_stk (st' := [.ref q9, vR g 121]) rfl ?_
    refine u_putv (pc := 35) (q := q9) (m := nz.toNat) (f := f9) rfl wF_J5_15 dJ5_ensureCapacityInternal_d00df_35 ?_
    refine u_B (B1 := (q9, nz.toNat, ml, cnt, f9, [])) rfl ?_
    exact u_vret (pc := 38) E (⟨rfl, q9, nz.toNat, f9, rfl, by omega, hf9, hb9⟩) (Nat.le_of_ble_eq_true rfl) (Nat.le_of_ble_eq_true rfl) dJ5_ensureCapacityInternal_d00df_38
